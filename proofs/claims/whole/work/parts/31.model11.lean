/-! the reference: costs of an issue, what is available; its making -/
noncomputable def coW (S : ST) (m : Int) : Int := cI (0 ≤ m ∧ m < S 232 0) (cI (S 320 m = 1) (cI (S 480 m = 0) 0 2) 2) 1
theorem coW_0 {S : ST} {m : Int} (h : coW S m = 0) : (0 ≤ m ∧ m < S 232 0) ∧ S 320 m = 1 ∧ S 480 m = 0 := by
  unfold coW cI at h
  split at h
  · split at h
    · split at h
      · exact ⟨by assumption, by assumption, by assumption⟩
      · omega
    · omega
  · omega
theorem mn_t {a b : Int} (h : a < b) : mn a b = a := by unfold mn; rw [if_pos h]
theorem mn_f {a b : Int} (h : ¬ a < b) : mn a b = b := by unfold mn; rw [if_neg h]
set_option maxRecDepth 20000 in
theorem cM_costOf {G : GT} {l : Launch} (hfl : l.stackTraces = false) {S : ST} {A : AB} {m y : Int} (M0 : RM S A) (hR : RG (rwM S)) (hV : ∀ i, 0 ≤ i → i ≤ 5 → RV (rwM S) i) (hm : rI m) (hy : rI y) : CT G l yX8_costOf cX8_costOf 3 (some .long) (rmk 4 0 0 98) S A [vR A 7 0, vI m, vI y] (oJ fun z S' A' => A = A' ∧ ((¬ coW S m = 0 ∧ z = 0 ∧ S' = upS S 249 0 (coW S m)) ∨ (coW S m = 0 ∧ z = (WKr (rwM S) (S 384 m) 365 (S 928)).ic (2 * m + cI (y = 0) 0 1) ∧ S' 249 0 = 0 ∧ Fr [237, 238, 239, 244, 832, 864, 896, 928, 992, 1024, 1056, 672, 236, 249] S S'))) (noX) := by
  have M := M0
  have hn : 0 ≤ S 232 0 ∧ S 232 0 ≤ 60 := hR.1
  refine ct_ofN (own := RX8) (mn := "costOf") rfl rfl (by decide) hfl (lv0 := [some (vR A 7 0), some (vI m), some (vI y)]) (ent_1 (cat_R _ _ _) (ent_1 rfl (ent_1 rfl ent_0))) rfl ?_
  intro J X C F FX FT FU hW hA
  refine r_aload_n C dX8_costOf_0 lg_0 ?_
  refine r_aload_n C dX8_costOf_1 lg_0 ?_
  refine r_iload_n C dX8_costOf_2 lg_1 ?_
  refine q_V1Z C (cM_isMovement hfl (by assumption) (by omega) (by omega) (by omega)) dX8_costOf_3 lk_X8_155 M.1 ⟨Nat.le_of_ble_eq_true rfl, Nat.le_of_ble_eq_true rfl⟩ (catLe (Nat.le_of_ble_eq_true rfl)) ⟨rfl, rfl⟩ rfl (Nat.le_of_ble_eq_true rfl) (Nat.le_of_ble_eq_true rfl) (fun z3 S3 A3 i3 p3 => ?_)
  obtain ⟨rfl, rfl, rfl⟩ := p3
  refine rb_ifne C (tgt := 13) dX8_costOf_6 (by decide) (fun c6 => ?_) (fun c6 => ?_)
  · refine r_aload_n C dX8_costOf_13 lg_0 ?_
    refine r_getA C 224 10 dX8_costOf_14 fg_X8_7_7 rfl rfl M.1 (fun g14 => ?_)
    refine r_iload_n C dX8_costOf_17 lg_1 ?_
    refine r_iald C (N := 60) 320 dX8_costOf_18 (by decide) rfl rfl (M.g (j := 0) (by decide)) (by omega) (by omega) (by omega) (fun g18 => ?_)
    refine r_iconst C dX8_costOf_19 ?_
    refine r_icne C (tgt := 32) dX8_costOf_20 (by decide) (by omega) (by omega) (fun c20 => ?_) (fun c20 => ?_)
    · refine r_iconst C dX8_costOf_32 ?_
      refine r_goto C (tgt := 37) dX8_costOf_33 (by decide) ?_
      refine q_V1Z C (cM_goes hfl (by assumption) (by omega)) dX8_costOf_37 lk_X8_112 M.1 ⟨Nat.le_of_ble_eq_true rfl, Nat.le_of_ble_eq_true rfl⟩ (catLe (Nat.le_of_ble_eq_true rfl)) ⟨rfl, rfl⟩ rfl (Nat.le_of_ble_eq_true rfl) (Nat.le_of_ble_eq_true rfl) (fun z37 S37 A37 i37 p37 => ?_)
      obtain ⟨rfl, rfl, rfl⟩ := p37
      refine r_gS (fun S9 hS9 => ?_)
      have M : RM S9 A := by rw [hS9]; exact M0.up (by decide)
      have hF9 : Fr [237, 238, 239, 244, 832, 864, 896, 928, 992, 1024, 1056, 672, 236, 249] S S9 := by rw [hS9]; exact Fr.up (by decide)
      have er := rwM_fr hF9
      have x249 := (congrFun (congrFun hS9 249) 0).trans (upS_self _ _ _ _)
      have e384 := hF9 384 m (by decide)
      refine rb_ifne C (tgt := 45) dX8_costOf_40 (by decide) (fun c40 => ?_) (fun c40 => ?_)
      · have e9 : coW S m = 0 := by
          unfold coW cI
          repeat' split
          all_goals omega
        have hc9 := coW_0 e9
        have hrow := (hR.2 m hc9.1.1 hc9.1.2).1
        have hrow2 := (hrow.2.2.1 (show ¬ S 320 m = 3 by omega)).1
        have hi9 : 0 ≤ S 384 m ∧ S 384 m ≤ 5 := hrow2
        refine r_aload_n C dX8_costOf_45 lg_0 ?_
        refine r_aload_n C dX8_costOf_46 lg_0 ?_
        refine r_getA C 226 12 dX8_costOf_47 fg_X8_16_7 rfl rfl M.1 (fun g47 => ?_)
        refine r_iload_n C dX8_costOf_50 lg_1 ?_
        refine r_iald C (N := 60) 384 dX8_costOf_51 (by decide) rfl rfl (M.g (j := 2) (by decide)) (by omega) (by omega) (by omega) (fun g51 => ?_)
        rw [e384]
        refine r_sipush C dX8_costOf_52 (by decide) ?_
        refine q_V2V C (cM_walks hfl M (er ▸ hR) (by omega) (by omega) (er ▸ hV _ hi9.1 hi9.2)) dX8_costOf_55 lk_X8_196 M.1 ⟨Nat.le_of_ble_eq_true rfl, Nat.le_of_ble_eq_true rfl⟩ (catLe (Nat.le_of_ble_eq_true rfl)) ⟨rfl, rfl⟩ rfl (Nat.le_of_ble_eq_true rfl) (Nat.le_of_ble_eq_true rfl) (fun S55 A55 p55 => ?_)
        obtain ⟨rfl, hF55, hw55⟩ := p55
        have e928 : S9 928 = S 928 := by rw [hS9]; exact upS_fn _ _ _ (by decide)
        have hw9 : WD S55 (WKr (rwM S9) (S 384 m) 365 (S9 928)) := hw55
        rw [er, e928] at hw9
        have hic := hw9.2.2.2.2.2.2.2.2.2.2
        have M : RM S55 A := M.of hF55 (by decide)
        refine r_aload_n C dX8_costOf_58 lg_0 ?_
        refine r_getA C 243 29 dX8_costOf_59 fg_X8_55_7 rfl rfl M.1 (fun g59 => ?_)
        refine r_iconst C dX8_costOf_62 ?_
        refine r_iload_n C dX8_costOf_63 lg_1 ?_
        refine r_imul C dX8_costOf_64 ?_
        refine r_iload_n C dX8_costOf_65 lg_2 ?_
        refine r_ifeq C (tgt := 73) dX8_costOf_66 (by decide) (by omega) (fun c66 => ?_) (fun c66 => ?_)
        · refine r_iconst C dX8_costOf_73 ?_
          refine r_iadd C dX8_costOf_74 ?_
          refine r_lald C (N := 120) 928 dX8_costOf_75 (by decide) rfl rfl (M.g (j := 19) (by decide)) (by omega) (by omega) (by omega) (fun g75 => ?_)
          exact f_J F dX8_costOf_76 g75 (by first | exact ⟨rfl, Or.inr ⟨e9, by rw [cI_t c66]; exact hic _, (hF55 249 0 (by decide)).trans (by omega), hF9.tr (hF55.sub (by decide))⟩⟩ | exact ⟨rfl, Or.inr ⟨e9, by rw [cI_f c66]; exact hic _, (hF55 249 0 (by decide)).trans (by omega), hF9.tr (hF55.sub (by decide))⟩⟩) (Nat.le_of_ble_eq_true rfl) (Nat.le_of_ble_eq_true rfl)
        · refine r_iconst C dX8_costOf_69 ?_
          refine r_goto C (tgt := 74) dX8_costOf_70 (by decide) ?_
          refine r_iadd C dX8_costOf_74 ?_
          refine r_lald C (N := 120) 928 dX8_costOf_75 (by decide) rfl rfl (M.g (j := 19) (by decide)) (by omega) (by omega) (by omega) (fun g75 => ?_)
          exact f_J F dX8_costOf_76 g75 (by first | exact ⟨rfl, Or.inr ⟨e9, by rw [cI_t c66]; exact hic _, (hF55 249 0 (by decide)).trans (by omega), hF9.tr (hF55.sub (by decide))⟩⟩ | exact ⟨rfl, Or.inr ⟨e9, by rw [cI_f c66]; exact hic _, (hF55 249 0 (by decide)).trans (by omega), hF9.tr (hF55.sub (by decide))⟩⟩) (Nat.le_of_ble_eq_true rfl) (Nat.le_of_ble_eq_true rfl)
      · refine r_lconst C dX8_costOf_43 0 rfl ?_
        exact f_J F dX8_costOf_44 (by omega) (by
          first
          | (exfalso; omega)
          | (have e9 : coW S m = 1 := by
               unfold coW cI
               repeat' split
               all_goals (first | omega | contradiction)
             exact ⟨rfl, Or.inl ⟨by omega, rfl, by rw [hS9, e9]⟩⟩)
          | (have e9 : coW S m = 2 := by
               unfold coW cI
               repeat' split
               all_goals (first | omega | contradiction)
             exact ⟨rfl, Or.inl ⟨by omega, rfl, by rw [hS9, e9]⟩⟩)) (Nat.le_of_ble_eq_true rfl) (Nat.le_of_ble_eq_true rfl)
    · refine r_aload_n C dX8_costOf_23 lg_0 ?_
      refine r_getA C 229 15 dX8_costOf_24 fg_X8_25_7 rfl rfl M.1 (fun g24 => ?_)
      refine r_iload_n C dX8_costOf_27 lg_1 ?_
      refine r_zald C (N := 60) 480 dX8_costOf_28 (by decide) rfl rfl (M.g (j := 5) (by decide)) (by omega) (by omega) (by omega) (fun g28 => ?_)
      refine r_ifeq C (tgt := 36) dX8_costOf_29 (by decide) (by omega) (fun c29 => ?_) (fun c29 => ?_)
      · refine r_iconst C dX8_costOf_36 ?_
        refine q_V1Z C (cM_goes hfl (by assumption) (by omega)) dX8_costOf_37 lk_X8_112 M.1 ⟨Nat.le_of_ble_eq_true rfl, Nat.le_of_ble_eq_true rfl⟩ (catLe (Nat.le_of_ble_eq_true rfl)) ⟨rfl, rfl⟩ rfl (Nat.le_of_ble_eq_true rfl) (Nat.le_of_ble_eq_true rfl) (fun z37 S37 A37 i37 p37 => ?_)
        obtain ⟨rfl, rfl, rfl⟩ := p37
        refine r_gS (fun S9 hS9 => ?_)
        have M : RM S9 A := by rw [hS9]; exact M0.up (by decide)
        have hF9 : Fr [237, 238, 239, 244, 832, 864, 896, 928, 992, 1024, 1056, 672, 236, 249] S S9 := by rw [hS9]; exact Fr.up (by decide)
        have er := rwM_fr hF9
        have x249 := (congrFun (congrFun hS9 249) 0).trans (upS_self _ _ _ _)
        have e384 := hF9 384 m (by decide)
        refine rb_ifne C (tgt := 45) dX8_costOf_40 (by decide) (fun c40 => ?_) (fun c40 => ?_)
        · have e9 : coW S m = 0 := by
            unfold coW cI
            repeat' split
            all_goals omega
          have hc9 := coW_0 e9
          have hrow := (hR.2 m hc9.1.1 hc9.1.2).1
          have hrow2 := (hrow.2.2.1 (show ¬ S 320 m = 3 by omega)).1
          have hi9 : 0 ≤ S 384 m ∧ S 384 m ≤ 5 := hrow2
          refine r_aload_n C dX8_costOf_45 lg_0 ?_
          refine r_aload_n C dX8_costOf_46 lg_0 ?_
          refine r_getA C 226 12 dX8_costOf_47 fg_X8_16_7 rfl rfl M.1 (fun g47 => ?_)
          refine r_iload_n C dX8_costOf_50 lg_1 ?_
          refine r_iald C (N := 60) 384 dX8_costOf_51 (by decide) rfl rfl (M.g (j := 2) (by decide)) (by omega) (by omega) (by omega) (fun g51 => ?_)
          rw [e384]
          refine r_sipush C dX8_costOf_52 (by decide) ?_
          refine q_V2V C (cM_walks hfl M (er ▸ hR) (by omega) (by omega) (er ▸ hV _ hi9.1 hi9.2)) dX8_costOf_55 lk_X8_196 M.1 ⟨Nat.le_of_ble_eq_true rfl, Nat.le_of_ble_eq_true rfl⟩ (catLe (Nat.le_of_ble_eq_true rfl)) ⟨rfl, rfl⟩ rfl (Nat.le_of_ble_eq_true rfl) (Nat.le_of_ble_eq_true rfl) (fun S55 A55 p55 => ?_)
          obtain ⟨rfl, hF55, hw55⟩ := p55
          have e928 : S9 928 = S 928 := by rw [hS9]; exact upS_fn _ _ _ (by decide)
          have hw9 : WD S55 (WKr (rwM S9) (S 384 m) 365 (S9 928)) := hw55
          rw [er, e928] at hw9
          have hic := hw9.2.2.2.2.2.2.2.2.2.2
          have M : RM S55 A := M.of hF55 (by decide)
          refine r_aload_n C dX8_costOf_58 lg_0 ?_
          refine r_getA C 243 29 dX8_costOf_59 fg_X8_55_7 rfl rfl M.1 (fun g59 => ?_)
          refine r_iconst C dX8_costOf_62 ?_
          refine r_iload_n C dX8_costOf_63 lg_1 ?_
          refine r_imul C dX8_costOf_64 ?_
          refine r_iload_n C dX8_costOf_65 lg_2 ?_
          refine r_ifeq C (tgt := 73) dX8_costOf_66 (by decide) (by omega) (fun c66 => ?_) (fun c66 => ?_)
          · refine r_iconst C dX8_costOf_73 ?_
            refine r_iadd C dX8_costOf_74 ?_
            refine r_lald C (N := 120) 928 dX8_costOf_75 (by decide) rfl rfl (M.g (j := 19) (by decide)) (by omega) (by omega) (by omega) (fun g75 => ?_)
            exact f_J F dX8_costOf_76 g75 (by first | exact ⟨rfl, Or.inr ⟨e9, by rw [cI_t c66]; exact hic _, (hF55 249 0 (by decide)).trans (by omega), hF9.tr (hF55.sub (by decide))⟩⟩ | exact ⟨rfl, Or.inr ⟨e9, by rw [cI_f c66]; exact hic _, (hF55 249 0 (by decide)).trans (by omega), hF9.tr (hF55.sub (by decide))⟩⟩) (Nat.le_of_ble_eq_true rfl) (Nat.le_of_ble_eq_true rfl)
          · refine r_iconst C dX8_costOf_69 ?_
            refine r_goto C (tgt := 74) dX8_costOf_70 (by decide) ?_
            refine r_iadd C dX8_costOf_74 ?_
            refine r_lald C (N := 120) 928 dX8_costOf_75 (by decide) rfl rfl (M.g (j := 19) (by decide)) (by omega) (by omega) (by omega) (fun g75 => ?_)
            exact f_J F dX8_costOf_76 g75 (by first | exact ⟨rfl, Or.inr ⟨e9, by rw [cI_t c66]; exact hic _, (hF55 249 0 (by decide)).trans (by omega), hF9.tr (hF55.sub (by decide))⟩⟩ | exact ⟨rfl, Or.inr ⟨e9, by rw [cI_f c66]; exact hic _, (hF55 249 0 (by decide)).trans (by omega), hF9.tr (hF55.sub (by decide))⟩⟩) (Nat.le_of_ble_eq_true rfl) (Nat.le_of_ble_eq_true rfl)
        · refine r_lconst C dX8_costOf_43 0 rfl ?_
          exact f_J F dX8_costOf_44 (by omega) (by
            first
            | (exfalso; omega)
            | (have e9 : coW S m = 1 := by
                 unfold coW cI
                 repeat' split
                 all_goals (first | omega | contradiction)
               exact ⟨rfl, Or.inl ⟨by omega, rfl, by rw [hS9, e9]⟩⟩)
            | (have e9 : coW S m = 2 := by
                 unfold coW cI
                 repeat' split
                 all_goals (first | omega | contradiction)
               exact ⟨rfl, Or.inl ⟨by omega, rfl, by rw [hS9, e9]⟩⟩)) (Nat.le_of_ble_eq_true rfl) (Nat.le_of_ble_eq_true rfl)
      · refine r_iconst C dX8_costOf_32 ?_
        refine r_goto C (tgt := 37) dX8_costOf_33 (by decide) ?_
        refine q_V1Z C (cM_goes hfl (by assumption) (by omega)) dX8_costOf_37 lk_X8_112 M.1 ⟨Nat.le_of_ble_eq_true rfl, Nat.le_of_ble_eq_true rfl⟩ (catLe (Nat.le_of_ble_eq_true rfl)) ⟨rfl, rfl⟩ rfl (Nat.le_of_ble_eq_true rfl) (Nat.le_of_ble_eq_true rfl) (fun z37 S37 A37 i37 p37 => ?_)
        obtain ⟨rfl, rfl, rfl⟩ := p37
        refine r_gS (fun S9 hS9 => ?_)
        have M : RM S9 A := by rw [hS9]; exact M0.up (by decide)
        have hF9 : Fr [237, 238, 239, 244, 832, 864, 896, 928, 992, 1024, 1056, 672, 236, 249] S S9 := by rw [hS9]; exact Fr.up (by decide)
        have er := rwM_fr hF9
        have x249 := (congrFun (congrFun hS9 249) 0).trans (upS_self _ _ _ _)
        have e384 := hF9 384 m (by decide)
        refine rb_ifne C (tgt := 45) dX8_costOf_40 (by decide) (fun c40 => ?_) (fun c40 => ?_)
        · have e9 : coW S m = 0 := by
            unfold coW cI
            repeat' split
            all_goals omega
          have hc9 := coW_0 e9
          have hrow := (hR.2 m hc9.1.1 hc9.1.2).1
          have hrow2 := (hrow.2.2.1 (show ¬ S 320 m = 3 by omega)).1
          have hi9 : 0 ≤ S 384 m ∧ S 384 m ≤ 5 := hrow2
          refine r_aload_n C dX8_costOf_45 lg_0 ?_
          refine r_aload_n C dX8_costOf_46 lg_0 ?_
          refine r_getA C 226 12 dX8_costOf_47 fg_X8_16_7 rfl rfl M.1 (fun g47 => ?_)
          refine r_iload_n C dX8_costOf_50 lg_1 ?_
          refine r_iald C (N := 60) 384 dX8_costOf_51 (by decide) rfl rfl (M.g (j := 2) (by decide)) (by omega) (by omega) (by omega) (fun g51 => ?_)
          rw [e384]
          refine r_sipush C dX8_costOf_52 (by decide) ?_
          refine q_V2V C (cM_walks hfl M (er ▸ hR) (by omega) (by omega) (er ▸ hV _ hi9.1 hi9.2)) dX8_costOf_55 lk_X8_196 M.1 ⟨Nat.le_of_ble_eq_true rfl, Nat.le_of_ble_eq_true rfl⟩ (catLe (Nat.le_of_ble_eq_true rfl)) ⟨rfl, rfl⟩ rfl (Nat.le_of_ble_eq_true rfl) (Nat.le_of_ble_eq_true rfl) (fun S55 A55 p55 => ?_)
          obtain ⟨rfl, hF55, hw55⟩ := p55
          have e928 : S9 928 = S 928 := by rw [hS9]; exact upS_fn _ _ _ (by decide)
          have hw9 : WD S55 (WKr (rwM S9) (S 384 m) 365 (S9 928)) := hw55
          rw [er, e928] at hw9
          have hic := hw9.2.2.2.2.2.2.2.2.2.2
          have M : RM S55 A := M.of hF55 (by decide)
          refine r_aload_n C dX8_costOf_58 lg_0 ?_
          refine r_getA C 243 29 dX8_costOf_59 fg_X8_55_7 rfl rfl M.1 (fun g59 => ?_)
          refine r_iconst C dX8_costOf_62 ?_
          refine r_iload_n C dX8_costOf_63 lg_1 ?_
          refine r_imul C dX8_costOf_64 ?_
          refine r_iload_n C dX8_costOf_65 lg_2 ?_
          refine r_ifeq C (tgt := 73) dX8_costOf_66 (by decide) (by omega) (fun c66 => ?_) (fun c66 => ?_)
          · refine r_iconst C dX8_costOf_73 ?_
            refine r_iadd C dX8_costOf_74 ?_
            refine r_lald C (N := 120) 928 dX8_costOf_75 (by decide) rfl rfl (M.g (j := 19) (by decide)) (by omega) (by omega) (by omega) (fun g75 => ?_)
            exact f_J F dX8_costOf_76 g75 (by first | exact ⟨rfl, Or.inr ⟨e9, by rw [cI_t c66]; exact hic _, (hF55 249 0 (by decide)).trans (by omega), hF9.tr (hF55.sub (by decide))⟩⟩ | exact ⟨rfl, Or.inr ⟨e9, by rw [cI_f c66]; exact hic _, (hF55 249 0 (by decide)).trans (by omega), hF9.tr (hF55.sub (by decide))⟩⟩) (Nat.le_of_ble_eq_true rfl) (Nat.le_of_ble_eq_true rfl)
          · refine r_iconst C dX8_costOf_69 ?_
            refine r_goto C (tgt := 74) dX8_costOf_70 (by decide) ?_
            refine r_iadd C dX8_costOf_74 ?_
            refine r_lald C (N := 120) 928 dX8_costOf_75 (by decide) rfl rfl (M.g (j := 19) (by decide)) (by omega) (by omega) (by omega) (fun g75 => ?_)
            exact f_J F dX8_costOf_76 g75 (by first | exact ⟨rfl, Or.inr ⟨e9, by rw [cI_t c66]; exact hic _, (hF55 249 0 (by decide)).trans (by omega), hF9.tr (hF55.sub (by decide))⟩⟩ | exact ⟨rfl, Or.inr ⟨e9, by rw [cI_f c66]; exact hic _, (hF55 249 0 (by decide)).trans (by omega), hF9.tr (hF55.sub (by decide))⟩⟩) (Nat.le_of_ble_eq_true rfl) (Nat.le_of_ble_eq_true rfl)
        · refine r_lconst C dX8_costOf_43 0 rfl ?_
          exact f_J F dX8_costOf_44 (by omega) (by
            first
            | (exfalso; omega)
            | (have e9 : coW S m = 1 := by
                 unfold coW cI
                 repeat' split
                 all_goals (first | omega | contradiction)
               exact ⟨rfl, Or.inl ⟨by omega, rfl, by rw [hS9, e9]⟩⟩)
            | (have e9 : coW S m = 2 := by
                 unfold coW cI
                 repeat' split
                 all_goals (first | omega | contradiction)
               exact ⟨rfl, Or.inl ⟨by omega, rfl, by rw [hS9, e9]⟩⟩)) (Nat.le_of_ble_eq_true rfl) (Nat.le_of_ble_eq_true rfl)
  · refine r_iconst C dX8_costOf_9 ?_
    refine r_goto C (tgt := 37) dX8_costOf_10 (by decide) ?_
    refine q_V1Z C (cM_goes hfl (by assumption) (by omega)) dX8_costOf_37 lk_X8_112 M.1 ⟨Nat.le_of_ble_eq_true rfl, Nat.le_of_ble_eq_true rfl⟩ (catLe (Nat.le_of_ble_eq_true rfl)) ⟨rfl, rfl⟩ rfl (Nat.le_of_ble_eq_true rfl) (Nat.le_of_ble_eq_true rfl) (fun z37 S37 A37 i37 p37 => ?_)
    obtain ⟨rfl, rfl, rfl⟩ := p37
    refine r_gS (fun S9 hS9 => ?_)
    have M : RM S9 A := by rw [hS9]; exact M0.up (by decide)
    have hF9 : Fr [237, 238, 239, 244, 832, 864, 896, 928, 992, 1024, 1056, 672, 236, 249] S S9 := by rw [hS9]; exact Fr.up (by decide)
    have er := rwM_fr hF9
    have x249 := (congrFun (congrFun hS9 249) 0).trans (upS_self _ _ _ _)
    have e384 := hF9 384 m (by decide)
    refine rb_ifne C (tgt := 45) dX8_costOf_40 (by decide) (fun c40 => ?_) (fun c40 => ?_)
    · have e9 : coW S m = 0 := by
        unfold coW cI
        repeat' split
        all_goals omega
      have hc9 := coW_0 e9
      have hrow := (hR.2 m hc9.1.1 hc9.1.2).1
      have hrow2 := (hrow.2.2.1 (show ¬ S 320 m = 3 by omega)).1
      have hi9 : 0 ≤ S 384 m ∧ S 384 m ≤ 5 := hrow2
      refine r_aload_n C dX8_costOf_45 lg_0 ?_
      refine r_aload_n C dX8_costOf_46 lg_0 ?_
      refine r_getA C 226 12 dX8_costOf_47 fg_X8_16_7 rfl rfl M.1 (fun g47 => ?_)
      refine r_iload_n C dX8_costOf_50 lg_1 ?_
      refine r_iald C (N := 60) 384 dX8_costOf_51 (by decide) rfl rfl (M.g (j := 2) (by decide)) (by omega) (by omega) (by omega) (fun g51 => ?_)
      rw [e384]
      refine r_sipush C dX8_costOf_52 (by decide) ?_
      refine q_V2V C (cM_walks hfl M (er ▸ hR) (by omega) (by omega) (er ▸ hV _ hi9.1 hi9.2)) dX8_costOf_55 lk_X8_196 M.1 ⟨Nat.le_of_ble_eq_true rfl, Nat.le_of_ble_eq_true rfl⟩ (catLe (Nat.le_of_ble_eq_true rfl)) ⟨rfl, rfl⟩ rfl (Nat.le_of_ble_eq_true rfl) (Nat.le_of_ble_eq_true rfl) (fun S55 A55 p55 => ?_)
      obtain ⟨rfl, hF55, hw55⟩ := p55
      have e928 : S9 928 = S 928 := by rw [hS9]; exact upS_fn _ _ _ (by decide)
      have hw9 : WD S55 (WKr (rwM S9) (S 384 m) 365 (S9 928)) := hw55
      rw [er, e928] at hw9
      have hic := hw9.2.2.2.2.2.2.2.2.2.2
      have M : RM S55 A := M.of hF55 (by decide)
      refine r_aload_n C dX8_costOf_58 lg_0 ?_
      refine r_getA C 243 29 dX8_costOf_59 fg_X8_55_7 rfl rfl M.1 (fun g59 => ?_)
      refine r_iconst C dX8_costOf_62 ?_
      refine r_iload_n C dX8_costOf_63 lg_1 ?_
      refine r_imul C dX8_costOf_64 ?_
      refine r_iload_n C dX8_costOf_65 lg_2 ?_
      refine r_ifeq C (tgt := 73) dX8_costOf_66 (by decide) (by omega) (fun c66 => ?_) (fun c66 => ?_)
      · refine r_iconst C dX8_costOf_73 ?_
        refine r_iadd C dX8_costOf_74 ?_
        refine r_lald C (N := 120) 928 dX8_costOf_75 (by decide) rfl rfl (M.g (j := 19) (by decide)) (by omega) (by omega) (by omega) (fun g75 => ?_)
        exact f_J F dX8_costOf_76 g75 (by first | exact ⟨rfl, Or.inr ⟨e9, by rw [cI_t c66]; exact hic _, (hF55 249 0 (by decide)).trans (by omega), hF9.tr (hF55.sub (by decide))⟩⟩ | exact ⟨rfl, Or.inr ⟨e9, by rw [cI_f c66]; exact hic _, (hF55 249 0 (by decide)).trans (by omega), hF9.tr (hF55.sub (by decide))⟩⟩) (Nat.le_of_ble_eq_true rfl) (Nat.le_of_ble_eq_true rfl)
      · refine r_iconst C dX8_costOf_69 ?_
        refine r_goto C (tgt := 74) dX8_costOf_70 (by decide) ?_
        refine r_iadd C dX8_costOf_74 ?_
        refine r_lald C (N := 120) 928 dX8_costOf_75 (by decide) rfl rfl (M.g (j := 19) (by decide)) (by omega) (by omega) (by omega) (fun g75 => ?_)
        exact f_J F dX8_costOf_76 g75 (by first | exact ⟨rfl, Or.inr ⟨e9, by rw [cI_t c66]; exact hic _, (hF55 249 0 (by decide)).trans (by omega), hF9.tr (hF55.sub (by decide))⟩⟩ | exact ⟨rfl, Or.inr ⟨e9, by rw [cI_f c66]; exact hic _, (hF55 249 0 (by decide)).trans (by omega), hF9.tr (hF55.sub (by decide))⟩⟩) (Nat.le_of_ble_eq_true rfl) (Nat.le_of_ble_eq_true rfl)
    · refine r_lconst C dX8_costOf_43 0 rfl ?_
      exact f_J F dX8_costOf_44 (by omega) (by
        first
        | (exfalso; omega)
        | (have e9 : coW S m = 1 := by
             unfold coW cI
             repeat' split
             all_goals (first | omega | contradiction)
           exact ⟨rfl, Or.inl ⟨by omega, rfl, by rw [hS9, e9]⟩⟩)
        | (have e9 : coW S m = 2 := by
             unfold coW cI
             repeat' split
             all_goals (first | omega | contradiction)
           exact ⟨rfl, Or.inl ⟨by omega, rfl, by rw [hS9, e9]⟩⟩)) (Nat.le_of_ble_eq_true rfl) (Nat.le_of_ble_eq_true rfl)
def hAt (dy f : Int → Int) (day : Int) : List Int → Int → Int
  | [], u => u
  | m :: t, u => if dy m ≤ day then hAt dy f day t (u + f m) else u
noncomputable def avL (dy f q : Int → Int) (tk : Int → Prop) (day : Int) : List Int → Int → Int → Int
  | [], u, l => mn u l
  | m :: t, u, l => avL dy f q tk day t (u + f m) (cI (day < dy m ∧ tk m ∧ u - q m < l) (u - q m) l)
set_option maxRecDepth 20000 in
theorem cM_handAt {G : GT} {l : Launch} (hfl : l.stackTraces = false) {S : ST} {A : AB} {item day : Int} {L : List Int} (M : RM S A) (hi : rI item) (hd : rI day) (hL : LD S L) (hlen : L.length ≤ 60) (hmem : ∀ x ∈ L, 0 ≤ x ∧ x < 60 ∧ 0 ≤ S 416 x ∧ S 416 x ≤ 1000) : CT G l yX8_handAt cX8_handAt 5 (some .int) (rmk 1 0 0 22) S A [vR A 7 0, vI item, vI day] (oI fun z S' A' => mn (hAt (S 352) (chg (S 320) (S 384) (S 416) item) day L 0) 1000 = z ∧ S = S' ∧ A = A') (noX) := by
  refine ct_ofN (own := RX8) (mn := "handAt") rfl rfl (by decide) hfl (lv0 := [some (vR A 7 0), some (vI item), some (vI day), none, none]) (ent_1 (cat_R _ _ _) (ent_1 rfl (ent_1 rfl (ent_n (ent_n ent_0))))) rfl ?_
  intro J X C F FX FT FU hW hA
  have lp : ∀ (b a : List Int) (u : Int) (hab : L = a ++ b) (hu : -(1000 * (a.length : Int)) ≤ u ∧ u ≤ 1000 * a.length) (hG : hAt (S 352) (chg (S 320) (S 384) (S 416) item) day b u = hAt (S 352) (chg (S 320) (S 384) (S 416) item) day L 0), J 5 [some (vR A 7 0), some (vI item), some (vI day), some (vI u), some (vI (a.length : Int))] [] S A 0 0 := by
    intro b
    have h236 := hL.1
    induction b with
    | nil =>
      intro a u hab hu hG
      rw [List.append_nil] at hab
      rw [hab] at h236 hlen
      refine r_iload C dX8_handAt_5 lg_4 ?_
      refine r_aload_n C dX8_handAt_7 lg_0 ?_
      refine r_getI C 236 dX8_handAt_8 fg_X8_80_7 rfl rfl M.1 (fun g8 => ?_)
      refine r_icge C (tgt := 51) dX8_handAt_11 (by decide) (by omega) (by omega) (fun c11 => ?_) (fun c11 => ?_)
      · refine r_iload_n C dX8_handAt_51 lg_3 ?_
        refine r_sipush C dX8_handAt_52 (by decide) ?_
        refine r_icge C (tgt := 62) dX8_handAt_55 (by decide) (by omega) (by omega) (fun c55 => ?_) (fun c55 => ?_)
        · refine r_sipush C dX8_handAt_62 (by decide) ?_
          exact f_I F dX8_handAt_65 (by omega) ⟨by rw [← hG]; show mn u 1000 = _; unfold mn; first | (rw [if_pos (by omega)]; done) | (rw [if_neg (by omega)]; done), rfl, rfl⟩ (Nat.le_of_ble_eq_true rfl) (Nat.le_of_ble_eq_true rfl)
        · refine r_iload_n C dX8_handAt_58 lg_3 ?_
          refine r_goto C (tgt := 65) dX8_handAt_59 (by decide) ?_
          exact f_I F dX8_handAt_65 (by omega) ⟨by rw [← hG]; show mn u 1000 = _; unfold mn; first | (rw [if_pos (by omega)]; done) | (rw [if_neg (by omega)]; done), rfl, rfl⟩ (Nat.le_of_ble_eq_true rfl) (Nat.le_of_ble_eq_true rfl)
      · exfalso; omega
    | cons m t ih =>
      intro a u hab hu hG
      have hlab : a.length + (t.length + 1) ≤ 60 := by rw [hab, List.length_append, List.length_cons] at hlen; omega
      have hm := hmem m (by rw [hab]; simp)
      have ex : S 672 (a.length : Int) = m := (hab ▸ hL : LD S (a ++ m :: t)).at
      rw [hab, List.length_append, List.length_cons] at h236
      have hch := chg_b (kd := S 320) (it := S 384) (qt := S 416) (i := item) (m := m) hm.2.2
      refine r_iload C dX8_handAt_5 lg_4 ?_
      refine r_aload_n C dX8_handAt_7 lg_0 ?_
      refine r_getI C 236 dX8_handAt_8 fg_X8_80_7 rfl rfl M.1 (fun g8 => ?_)
      refine r_icge C (tgt := 51) dX8_handAt_11 (by decide) (by omega) (by omega) (fun c11 => ?_) (fun c11 => ?_)
      · exfalso; omega
      · refine r_aload_n C dX8_handAt_14 lg_0 ?_
        refine r_getA C 225 11 dX8_handAt_15 fg_X8_13_7 rfl rfl M.1 (fun g15 => ?_)
        refine r_aload_n C dX8_handAt_18 lg_0 ?_
        refine r_getA C 235 21 dX8_handAt_19 fg_X8_43_7 rfl rfl M.1 (fun g19 => ?_)
        refine r_iload C dX8_handAt_22 lg_4 ?_
        refine r_iald C (N := 60) 672 dX8_handAt_24 (by decide) rfl rfl (M.g (j := 11) (by decide)) (by omega) (by omega) (by omega) (fun g24 => ?_)
        rw [ex]
        refine r_iald C (N := 60) 352 dX8_handAt_25 (by decide) rfl rfl (M.g (j := 1) (by decide)) (by omega) (by omega) (by omega) (fun g25 => ?_)
        refine r_iload_n C dX8_handAt_26 lg_2 ?_
        refine r_icgt C (tgt := 51) dX8_handAt_27 (by decide) (by omega) (by omega) (fun c27 => ?_) (fun c27 => ?_)
        · refine r_iload_n C dX8_handAt_51 lg_3 ?_
          refine r_sipush C dX8_handAt_52 (by decide) ?_
          refine r_icge C (tgt := 62) dX8_handAt_55 (by decide) (by omega) (by omega) (fun c55 => ?_) (fun c55 => ?_)
          · refine r_sipush C dX8_handAt_62 (by decide) ?_
            exact f_I F dX8_handAt_65 (by omega) ⟨by rw [← hG]; show mn (if S 352 m ≤ day then _ else u) 1000 = _; rw [if_neg (show ¬ S 352 m ≤ day by omega)]; unfold mn; first | (rw [if_pos (by omega)]; done) | (rw [if_neg (by omega)]; done), rfl, rfl⟩ (Nat.le_of_ble_eq_true rfl) (Nat.le_of_ble_eq_true rfl)
          · refine r_iload_n C dX8_handAt_58 lg_3 ?_
            refine r_goto C (tgt := 65) dX8_handAt_59 (by decide) ?_
            exact f_I F dX8_handAt_65 (by omega) ⟨by rw [← hG]; show mn (if S 352 m ≤ day then _ else u) 1000 = _; rw [if_neg (show ¬ S 352 m ≤ day by omega)]; unfold mn; first | (rw [if_pos (by omega)]; done) | (rw [if_neg (by omega)]; done), rfl, rfl⟩ (Nat.le_of_ble_eq_true rfl) (Nat.le_of_ble_eq_true rfl)
        · refine r_iload_n C dX8_handAt_30 lg_3 ?_
          refine r_aload_n C dX8_handAt_31 lg_0 ?_
          refine r_aload_n C dX8_handAt_32 lg_0 ?_
          refine r_getA C 235 21 dX8_handAt_33 fg_X8_43_7 rfl rfl M.1 (fun g33 => ?_)
          refine r_iload C dX8_handAt_36 lg_4 ?_
          refine r_iald C (N := 60) 672 dX8_handAt_38 (by decide) rfl rfl (M.g (j := 11) (by decide)) (by omega) (by omega) (by omega) (fun g38 => ?_)
          rw [ex]
          refine r_iload_n C dX8_handAt_39 lg_1 ?_
          refine q_V2I C (cM_change hfl (by assumption) (by omega) (by omega) (by omega) (by omega)) dX8_handAt_40 lk_X8_90 M.1 ⟨Nat.le_of_ble_eq_true rfl, Nat.le_of_ble_eq_true rfl⟩ (catLe (Nat.le_of_ble_eq_true rfl)) ⟨rfl, rfl⟩ rfl (Nat.le_of_ble_eq_true rfl) (Nat.le_of_ble_eq_true rfl) (fun z40 S40 A40 i40 p40 => ?_)
          obtain ⟨rfl, rfl, rfl⟩ := p40
          refine r_iadd C dX8_handAt_43 ?_
          refine r_istore_n C dX8_handAt_44 (ls1_3 rfl rfl) ?_
          refine r_iinc C dX8_handAt_45 lg_4 (ls1_4 rfl rfl) ?_
          refine r_goto C (tgt := 5) dX8_handAt_48 (by decide) ?_
          have h9 := ih (a ++ [m]) (u + chg (S 320) (S 384) (S 416) item m) (by rw [hab]; simp) (by rw [List.length_append, List.length_singleton]; omega) (by rw [← hG]; show _ = (if S 352 m ≤ day then hAt (S 352) (chg (S 320) (S 384) (S 416) item) day t (u + chg (S 320) (S 384) (S 416) item m) else u); rw [if_pos (by omega)])
          rw [List.length_append, List.length_singleton] at h9
          exact h9
  refine r_iconst C dX8_handAt_0 ?_
  refine r_istore_n C dX8_handAt_1 (ls1_3 rfl rfl) ?_
  refine r_iconst C dX8_handAt_2 ?_
  refine r_istore C dX8_handAt_3 (ls1_4 rfl rfl) ?_
  exact lp L [] 0 rfl (by simp) rfl
set_option maxRecDepth 20000 in
theorem cM_available {G : GT} {l : Launch} (hfl : l.stackTraces = false) {S : ST} {A : AB} {item day : Int} (M0 : RM S A) (hR : RG (rwM S)) (hi : rI item) (hdy : rI day) : CT G l yX8_available cX8_available 9 (some .int) (rmk 2 0 0 46) S A [vR A 7 0, vI item, vI day] (oI fun z S' A' => A = A' ∧ ((¬ akOk item day ∧ z = 0 ∧ S' = upS S 249 0 1) ∨ (akOk item day ∧ z = mn (avL (S 352) (chg (S 320) (S 384) (S 416) item) (S 416) (tks (S 320) (S 384) item) day (led (S 352) (S 480) (S 232 0).toNat) 0 1000) (mn (hAt (S 352) (chg (S 320) (S 384) (S 416) item) day (led (S 352) (S 480) (S 232 0).toNat) 0) 1000) ∧ S' 249 0 = 0 ∧ Fr [249, 672, 236] S S'))) (noX) := by
  refine ct_ofN (own := RX8) (mn := "available") rfl rfl (by decide) hfl (lv0 := [some (vR A 7 0), some (vI item), some (vI day), none, none, none, none, none, none]) (ent_1 (cat_R _ _ _) (ent_1 rfl (ent_1 rfl (ent_n (ent_n (ent_n (ent_n (ent_n (ent_n ent_0))))))))) rfl ?_
  intro J X C F FX FT FU hW hA
  have lpE : ∀ (S1 : ST) (hF : Fr [249, 672, 236] S S1) (h249 : S1 249 0 = 0) (hok : akOk item day) (hL : LD S1 (led (S 352) (S 480) (S 232 0).toNat)) (u l : Int) (hl : -61000 ≤ l ∧ l ≤ 1000) (hG : l = avL (S 352) (chg (S 320) (S 384) (S 416) item) (S 416) (tks (S 320) (S 384) item) day (led (S 352) (S 480) (S 232 0).toNat) 0 1000), J 42 [some (vR A 7 0), some (vI item), some (vI day), some (vI u), some (vI l), some (vI (((led (S 352) (S 480) (S 232 0).toNat).length : Int) + 1)), none, none, none] [] S1 A 0 0 := by
    intro S1 hF h249 hok hL u l hl hG
    have M : RM S1 A := M0.of hF (by decide)
    have h236 := hL.1
    have hlen := led_len (S 352) (S 480) (S 232 0).toNat
    have hn : 0 ≤ S 232 0 ∧ S 232 0 ≤ 60 := hR.1
    have hmem : ∀ x ∈ (led (S 352) (S 480) (S 232 0).toNat), 0 ≤ x ∧ x < 60 ∧ 0 ≤ S1 416 x ∧ S1 416 x ≤ 1000 := fun x hx => by
      have h9 := (led_mem (S 352) (S 480) (S 232 0).toNat).mp hx
      have h8 := (hR.2 x h9.1.1 (by show x < S 232 0; omega)).1.2.2.2.1
      have h7 : 0 ≤ S 416 x ∧ S 416 x ≤ 1000 := h8
      rw [hF 416 x (by decide)]
      omega
    have z320 := hF.fn (c := 320) (by decide)
    have z352 := hF.fn (c := 352) (by decide)
    have z384 := hF.fn (c := 384) (by decide)
    have z416 := hF.fn (c := 416) (by decide)
    refine r_iload C dX8_available_42 lg_5 ?_
    refine r_aload_n C dX8_available_44 lg_0 ?_
    refine r_getI C 236 dX8_available_45 fg_X8_80_7 rfl rfl M.1 (fun g45 => ?_)
    refine r_icgt C (tgt := 180) dX8_available_48 (by decide) (by omega) (by omega) (fun c48 => ?_) (fun c48 => ?_)
    · refine r_iload C dX8_available_180 lg_4 ?_
      refine r_aload_n C dX8_available_182 lg_0 ?_
      refine r_iload_n C dX8_available_183 lg_1 ?_
      refine r_iload_n C dX8_available_184 lg_2 ?_
      refine q_V2I C (cM_handAt hfl M hi hdy hL (by omega) hmem) dX8_available_185 lk_X8_202 M.1 ⟨Nat.le_of_ble_eq_true rfl, Nat.le_of_ble_eq_true rfl⟩ (catLe (Nat.le_of_ble_eq_true rfl)) ⟨rfl, rfl⟩ rfl (Nat.le_of_ble_eq_true rfl) (Nat.le_of_ble_eq_true rfl) (fun z185 S185 A185 i185 p185 => ?_)
      obtain ⟨rfl, rfl, rfl⟩ := p185
      rw [z320, z352, z384, z416] at i185 ⊢
      refine r_icge C (tgt := 196) dX8_available_188 (by decide) (by omega) (by omega) (fun c188 => ?_) (fun c188 => ?_)
      · refine r_aload_n C dX8_available_196 lg_0 ?_
        refine r_iload_n C dX8_available_197 lg_1 ?_
        refine r_iload_n C dX8_available_198 lg_2 ?_
        refine q_V2I C (cM_handAt hfl M hi hdy hL (by omega) hmem) dX8_available_199 lk_X8_202 M.1 ⟨Nat.le_of_ble_eq_true rfl, Nat.le_of_ble_eq_true rfl⟩ (catLe (Nat.le_of_ble_eq_true rfl)) ⟨rfl, rfl⟩ rfl (Nat.le_of_ble_eq_true rfl) (Nat.le_of_ble_eq_true rfl) (fun z199 S199 A199 i199 p199 => ?_)
        obtain ⟨rfl, rfl, rfl⟩ := p199
        rw [z320, z352, z384, z416] at i199 ⊢
        exact f_I F dX8_available_202 (by first | omega | exact i199) ⟨rfl, Or.inr ⟨hok, by rw [← hG]; first | exact (mn_t (by omega)).symm | exact (mn_f (by omega)).symm, h249, hF⟩⟩ (Nat.le_of_ble_eq_true rfl) (Nat.le_of_ble_eq_true rfl)
      · refine r_iload C dX8_available_191 lg_4 ?_
        refine r_goto C (tgt := 202) dX8_available_193 (by decide) ?_
        exact f_I F dX8_available_202 (by first | omega | exact i199) ⟨rfl, Or.inr ⟨hok, by rw [← hG]; first | exact (mn_t (by omega)).symm | exact (mn_f (by omega)).symm, h249, hF⟩⟩ (Nat.le_of_ble_eq_true rfl) (Nat.le_of_ble_eq_true rfl)
    · exfalso; omega
  have lp : ∀ (S1 : ST) (hF : Fr [249, 672, 236] S S1) (h249 : S1 249 0 = 0) (hok : akOk item day) (hL : LD S1 (led (S 352) (S 480) (S 232 0).toNat)) (b a : List Int) (u l : Int) (hab : (led (S 352) (S 480) (S 232 0).toNat) = a ++ b) (hu : -(1000 * (a.length : Int)) ≤ u ∧ u ≤ 1000 * a.length) (hl : -61000 ≤ l ∧ l ≤ 1000) (hG : avL (S 352) (chg (S 320) (S 384) (S 416) item) (S 416) (tks (S 320) (S 384) item) day b u l = avL (S 352) (chg (S 320) (S 384) (S 416) item) (S 416) (tks (S 320) (S 384) item) day (led (S 352) (S 480) (S 232 0).toNat) 0 1000), J 42 [some (vR A 7 0), some (vI item), some (vI day), some (vI u), some (vI l), some (vI (a.length : Int)), none, none, none] [] S1 A 0 0 := by
    intro S1 hF h249 hok hL b
    have M : RM S1 A := M0.of hF (by decide)
    have h236 := hL.1
    have hlen := led_len (S 352) (S 480) (S 232 0).toNat
    have hn : 0 ≤ S 232 0 ∧ S 232 0 ≤ 60 := hR.1
    have hmem : ∀ x ∈ (led (S 352) (S 480) (S 232 0).toNat), 0 ≤ x ∧ x < 60 ∧ 0 ≤ S1 416 x ∧ S1 416 x ≤ 1000 := fun x hx => by
      have h9 := (led_mem (S 352) (S 480) (S 232 0).toNat).mp hx
      have h8 := (hR.2 x h9.1.1 (by show x < S 232 0; omega)).1.2.2.2.1
      have h7 : 0 ≤ S 416 x ∧ S 416 x ≤ 1000 := h8
      rw [hF 416 x (by decide)]
      omega
    have z320 := hF.fn (c := 320) (by decide)
    have z352 := hF.fn (c := 352) (by decide)
    have z384 := hF.fn (c := 384) (by decide)
    have z416 := hF.fn (c := 416) (by decide)
    induction b with
    | nil =>
      intro a u l hab hu hl hG
      rw [List.append_nil] at hab
      have hla : (led (S 352) (S 480) (S 232 0).toNat).length = a.length := by rw [hab]
      have hG' : mn u l = avL (S 352) (chg (S 320) (S 384) (S 416) item) (S 416) (tks (S 320) (S 384) item) day (led (S 352) (S 480) (S 232 0).toNat) 0 1000 := hG
      refine r_iload C dX8_available_42 lg_5 ?_
      refine r_aload_n C dX8_available_44 lg_0 ?_
      refine r_getI C 236 dX8_available_45 fg_X8_80_7 rfl rfl M.1 (fun g45 => ?_)
      refine r_icgt C (tgt := 180) dX8_available_48 (by decide) (by omega) (by omega) (fun c48 => ?_) (fun c48 => ?_)
      · exfalso; omega
      · refine r_iload C dX8_available_51 lg_5 ?_
        refine r_aload_n C dX8_available_53 lg_0 ?_
        refine r_getI C 236 dX8_available_54 fg_X8_80_7 rfl rfl M.1 (fun g54 => ?_)
        refine r_icge C (tgt := 70) dX8_available_57 (by decide) (by omega) (by omega) (fun c57 => ?_) (fun c57 => ?_)
        · refine r_iconst C dX8_available_70 ?_
          refine r_istore C dX8_available_71 (ls1_6 rfl rfl) ?_
          refine r_iload C dX8_available_73 lg_6 ?_
          refine r_iconst C dX8_available_75 ?_
          refine r_iceq C (tgt := 90) dX8_available_76 (by decide) (by omega) (by omega) (fun c76 => ?_) (fun c76 => ?_)
          · refine r_iconst C dX8_available_90 ?_
            refine r_goto C (tgt := 95) dX8_available_91 (by decide) ?_
            refine r_istore C dX8_available_95 (ls1_7 rfl rfl) ?_
            refine r_iload C dX8_available_97 lg_6 ?_
            refine r_iconst C dX8_available_99 ?_
            refine r_icne C (tgt := 107) dX8_available_100 (by decide) (by omega) (by omega) (fun c100 => ?_) (fun c100 => ?_)
            · exact absurd rfl c100
            · refine r_iload_n C dX8_available_103 lg_3 ?_
              refine r_goto C (tgt := 131) dX8_available_104 (by decide) ?_
              refine r_istore C dX8_available_131 (ls1_8 rfl rfl) ?_
              refine r_iload C dX8_available_133 lg_7 ?_
              refine r_ifeq C (tgt := 150) dX8_available_135 (by decide) (by omega) (fun c135 => ?_) (fun c135 => ?_)
              · refine r_iload C dX8_available_150 lg_4 ?_
                refine r_istore C dX8_available_152 (ls1_4 rfl rfl) ?_
                refine r_iload_n C dX8_available_154 lg_3 ?_
                refine r_iload C dX8_available_155 lg_6 ?_
                refine r_iconst C dX8_available_157 ?_
                refine r_icne C (tgt := 165) dX8_available_158 (by decide) (by omega) (by omega) (fun c158 => ?_) (fun c158 => ?_)
                · exact absurd rfl c158
                · refine r_iconst C dX8_available_161 ?_
                  refine r_goto C (tgt := 172) dX8_available_162 (by decide) ?_
                  refine r_iadd C dX8_available_172 ?_
                  refine r_istore_n C dX8_available_173 (ls1_3 rfl rfl) ?_
                  refine r_iinc C dX8_available_174 lg_5 (ls1_5 rfl rfl) ?_
                  refine r_goto C (tgt := 42) dX8_available_177 (by decide) ?_
                  refine r_le C (lle_k (lle_k (lle_k (lle_k (lle_k (lle_k (lle_f (lle_f (lle_f lle_0))))))))) ?_
                  first
                  | (exfalso; omega)
                  | (rw [← hla]; first
                     | exact lpE S1 hF h249 hok hL _ _ (by omega) (by rw [← hG']; unfold mn; rw [if_pos (by omega)])
                     | exact lpE S1 hF h249 hok hL _ _ (by omega) (by rw [← hG']; unfold mn; rw [if_neg (by omega)]))
              · refine r_iload C dX8_available_138 lg_8 ?_
                refine r_iload C dX8_available_140 lg_4 ?_
                refine r_icge C (tgt := 150) dX8_available_142 (by decide) (by omega) (by omega) (fun c142 => ?_) (fun c142 => ?_)
                · refine r_iload C dX8_available_150 lg_4 ?_
                  refine r_istore C dX8_available_152 (ls1_4 rfl rfl) ?_
                  refine r_iload_n C dX8_available_154 lg_3 ?_
                  refine r_iload C dX8_available_155 lg_6 ?_
                  refine r_iconst C dX8_available_157 ?_
                  refine r_icne C (tgt := 165) dX8_available_158 (by decide) (by omega) (by omega) (fun c158 => ?_) (fun c158 => ?_)
                  · exact absurd rfl c158
                  · refine r_iconst C dX8_available_161 ?_
                    refine r_goto C (tgt := 172) dX8_available_162 (by decide) ?_
                    refine r_iadd C dX8_available_172 ?_
                    refine r_istore_n C dX8_available_173 (ls1_3 rfl rfl) ?_
                    refine r_iinc C dX8_available_174 lg_5 (ls1_5 rfl rfl) ?_
                    refine r_goto C (tgt := 42) dX8_available_177 (by decide) ?_
                    refine r_le C (lle_k (lle_k (lle_k (lle_k (lle_k (lle_k (lle_f (lle_f (lle_f lle_0))))))))) ?_
                    first
                    | (exfalso; omega)
                    | (rw [← hla]; first
                       | exact lpE S1 hF h249 hok hL _ _ (by omega) (by rw [← hG']; unfold mn; rw [if_pos (by omega)])
                       | exact lpE S1 hF h249 hok hL _ _ (by omega) (by rw [← hG']; unfold mn; rw [if_neg (by omega)]))
                · refine r_iload C dX8_available_145 lg_8 ?_
                  refine r_goto C (tgt := 152) dX8_available_147 (by decide) ?_
                  refine r_istore C dX8_available_152 (ls1_4 rfl rfl) ?_
                  refine r_iload_n C dX8_available_154 lg_3 ?_
                  refine r_iload C dX8_available_155 lg_6 ?_
                  refine r_iconst C dX8_available_157 ?_
                  refine r_icne C (tgt := 165) dX8_available_158 (by decide) (by omega) (by omega) (fun c158 => ?_) (fun c158 => ?_)
                  · exact absurd rfl c158
                  · refine r_iconst C dX8_available_161 ?_
                    refine r_goto C (tgt := 172) dX8_available_162 (by decide) ?_
                    refine r_iadd C dX8_available_172 ?_
                    refine r_istore_n C dX8_available_173 (ls1_3 rfl rfl) ?_
                    refine r_iinc C dX8_available_174 lg_5 (ls1_5 rfl rfl) ?_
                    refine r_goto C (tgt := 42) dX8_available_177 (by decide) ?_
                    refine r_le C (lle_k (lle_k (lle_k (lle_k (lle_k (lle_k (lle_f (lle_f (lle_f lle_0))))))))) ?_
                    first
                    | (exfalso; omega)
                    | (rw [← hla]; first
                       | exact lpE S1 hF h249 hok hL _ _ (by omega) (by rw [← hG']; unfold mn; rw [if_pos (by omega)])
                       | exact lpE S1 hF h249 hok hL _ _ (by omega) (by rw [← hG']; unfold mn; rw [if_neg (by omega)]))
          · exact absurd rfl c76
        · exfalso; omega
    | cons m t ih =>
      intro a u l hab hu hl hG
      have hlab : a.length + (t.length + 1) ≤ 60 := by rw [hab, List.length_append, List.length_cons] at hlen; omega
      have hm := hmem m (by rw [hab]; simp)
      have hm9 : 0 ≤ S 416 m ∧ S 416 m ≤ 1000 := by rw [← z416]; exact hm.2.2
      have ex : S1 672 (a.length : Int) = m := (hab ▸ hL : LD S1 (a ++ m :: t)).at
      rw [hab, List.length_append, List.length_cons] at h236
      have hch := chg_b (kd := S 320) (it := S 384) (qt := S 416) (i := item) (m := m) hm9
      have key := fun (l' : Int) (e : l' = cI (day < S 352 m ∧ tks (S 320) (S 384) item m ∧ u - S 416 m < l) (u - S 416 m) l) (hl' : -61000 ≤ l' ∧ l' ≤ 1000) => ih (a ++ [m]) (u + chg (S 320) (S 384) (S 416) item m) l' (by rw [hab]; simp) (by rw [List.length_append, List.length_singleton]; omega) hl' (by rw [e]; exact hG)
      rw [List.length_append, List.length_singleton] at key
      refine r_iload C dX8_available_42 lg_5 ?_
      refine r_aload_n C dX8_available_44 lg_0 ?_
      refine r_getI C 236 dX8_available_45 fg_X8_80_7 rfl rfl M.1 (fun g45 => ?_)
      refine r_icgt C (tgt := 180) dX8_available_48 (by decide) (by omega) (by omega) (fun c48 => ?_) (fun c48 => ?_)
      · exfalso; omega
      · refine r_iload C dX8_available_51 lg_5 ?_
        refine r_aload_n C dX8_available_53 lg_0 ?_
        refine r_getI C 236 dX8_available_54 fg_X8_80_7 rfl rfl M.1 (fun g54 => ?_)
        refine r_icge C (tgt := 70) dX8_available_57 (by decide) (by omega) (by omega) (fun c57 => ?_) (fun c57 => ?_)
        · exfalso; omega
        · refine r_aload_n C dX8_available_60 lg_0 ?_
          refine r_getA C 235 21 dX8_available_61 fg_X8_43_7 rfl rfl M.1 (fun g61 => ?_)
          refine r_iload C dX8_available_64 lg_5 ?_
          refine r_iald C (N := 60) 672 dX8_available_66 (by decide) rfl rfl (M.g (j := 11) (by decide)) (by omega) (by omega) (by omega) (fun g66 => ?_)
          rw [ex]
          refine r_goto C (tgt := 71) dX8_available_67 (by decide) ?_
          refine r_istore C dX8_available_71 (ls1_6 rfl rfl) ?_
          refine r_iload C dX8_available_73 lg_6 ?_
          refine r_iconst C dX8_available_75 ?_
          refine r_iceq C (tgt := 90) dX8_available_76 (by decide) (by omega) (by omega) (fun c76 => ?_) (fun c76 => ?_)
          · exfalso; omega
          · refine r_aload_n C dX8_available_79 lg_0 ?_
            refine r_getA C 225 11 dX8_available_80 fg_X8_13_7 rfl rfl M.1 (fun g80 => ?_)
            refine r_iload C dX8_available_83 lg_6 ?_
            refine r_iald C (N := 60) 352 dX8_available_85 (by decide) rfl rfl (M.g (j := 1) (by decide)) (by omega) (by omega) (by omega) (fun g85 => ?_)
            rw [z352] at g85 ⊢
            refine r_iload_n C dX8_available_86 lg_2 ?_
            refine r_icle C (tgt := 94) dX8_available_87 (by decide) (by omega) (by omega) (fun c87 => ?_) (fun c87 => ?_)
            · refine r_iconst C dX8_available_94 ?_
              refine r_istore C dX8_available_95 (ls1_7 rfl rfl) ?_
              refine r_iload C dX8_available_97 lg_6 ?_
              refine r_iconst C dX8_available_99 ?_
              refine r_icne C (tgt := 107) dX8_available_100 (by decide) (by omega) (by omega) (fun c100 => ?_) (fun c100 => ?_)
              · refine r_aload_n C dX8_available_107 lg_0 ?_
                refine r_iload C dX8_available_108 lg_6 ?_
                refine r_iload_n C dX8_available_110 lg_1 ?_
                refine q_V2Z C (cM_takesUnits hfl M (by omega) (by omega) (by omega)) dX8_available_111 lk_X8_86 M.1 ⟨Nat.le_of_ble_eq_true rfl, Nat.le_of_ble_eq_true rfl⟩ (catLe (Nat.le_of_ble_eq_true rfl)) ⟨rfl, rfl⟩ rfl (Nat.le_of_ble_eq_true rfl) (Nat.le_of_ble_eq_true rfl) (fun z111 S111 A111 i111 p111 => ?_)
                obtain ⟨rfl, rfl, rfl⟩ := p111
                rw [z320, z384]
                refine rb_ifeq C (tgt := 129) dX8_available_114 (by decide) (fun c114 => ?_) (fun c114 => ?_)
                · refine r_iload C dX8_available_129 lg_4 ?_
                  refine r_istore C dX8_available_131 (ls1_8 rfl rfl) ?_
                  refine r_iload C dX8_available_133 lg_7 ?_
                  refine r_ifeq C (tgt := 150) dX8_available_135 (by decide) (by omega) (fun c135 => ?_) (fun c135 => ?_)
                  · refine r_iload C dX8_available_150 lg_4 ?_
                    refine r_istore C dX8_available_152 (ls1_4 rfl rfl) ?_
                    refine r_iload_n C dX8_available_154 lg_3 ?_
                    refine r_iload C dX8_available_155 lg_6 ?_
                    refine r_iconst C dX8_available_157 ?_
                    refine r_icne C (tgt := 165) dX8_available_158 (by decide) (by omega) (by omega) (fun c158 => ?_) (fun c158 => ?_)
                    · refine r_aload_n C dX8_available_165 lg_0 ?_
                      refine r_iload C dX8_available_166 lg_6 ?_
                      refine r_iload_n C dX8_available_168 lg_1 ?_
                      refine q_V2I C (cM_change hfl M (by omega) (by omega) (by omega) (by omega)) dX8_available_169 lk_X8_90 M.1 ⟨Nat.le_of_ble_eq_true rfl, Nat.le_of_ble_eq_true rfl⟩ (catLe (Nat.le_of_ble_eq_true rfl)) ⟨rfl, rfl⟩ rfl (Nat.le_of_ble_eq_true rfl) (Nat.le_of_ble_eq_true rfl) (fun z169 S169 A169 i169 p169 => ?_)
                      obtain ⟨rfl, rfl, rfl⟩ := p169
                      rw [z320, z384, z416]
                      refine r_iadd C dX8_available_172 ?_
                      refine r_istore_n C dX8_available_173 (ls1_3 rfl rfl) ?_
                      refine r_iinc C dX8_available_174 lg_5 (ls1_5 rfl rfl) ?_
                      refine r_goto C (tgt := 42) dX8_available_177 (by decide) ?_
                      refine r_le C (lle_k (lle_k (lle_k (lle_k (lle_k (lle_k (lle_f (lle_f (lle_f lle_0))))))))) ?_
                      first
                      | (exfalso; omega)
                      | exact key _ (cI_f (fun q => by omega)).symm (by omega)
                      | exact key _ (cI_f (fun q => c114 q.2.1)).symm (by omega)
                      | exact key _ (cI_t ⟨by omega, c114, by omega⟩).symm (by omega)
                    · exfalso; omega
                  · refine r_iload C dX8_available_138 lg_8 ?_
                    refine r_iload C dX8_available_140 lg_4 ?_
                    refine r_icge C (tgt := 150) dX8_available_142 (by decide) (by omega) (by omega) (fun c142 => ?_) (fun c142 => ?_)
                    · refine r_iload C dX8_available_150 lg_4 ?_
                      refine r_istore C dX8_available_152 (ls1_4 rfl rfl) ?_
                      refine r_iload_n C dX8_available_154 lg_3 ?_
                      refine r_iload C dX8_available_155 lg_6 ?_
                      refine r_iconst C dX8_available_157 ?_
                      refine r_icne C (tgt := 165) dX8_available_158 (by decide) (by omega) (by omega) (fun c158 => ?_) (fun c158 => ?_)
                      · refine r_aload_n C dX8_available_165 lg_0 ?_
                        refine r_iload C dX8_available_166 lg_6 ?_
                        refine r_iload_n C dX8_available_168 lg_1 ?_
                        refine q_V2I C (cM_change hfl M (by omega) (by omega) (by omega) (by omega)) dX8_available_169 lk_X8_90 M.1 ⟨Nat.le_of_ble_eq_true rfl, Nat.le_of_ble_eq_true rfl⟩ (catLe (Nat.le_of_ble_eq_true rfl)) ⟨rfl, rfl⟩ rfl (Nat.le_of_ble_eq_true rfl) (Nat.le_of_ble_eq_true rfl) (fun z169 S169 A169 i169 p169 => ?_)
                        obtain ⟨rfl, rfl, rfl⟩ := p169
                        rw [z320, z384, z416]
                        refine r_iadd C dX8_available_172 ?_
                        refine r_istore_n C dX8_available_173 (ls1_3 rfl rfl) ?_
                        refine r_iinc C dX8_available_174 lg_5 (ls1_5 rfl rfl) ?_
                        refine r_goto C (tgt := 42) dX8_available_177 (by decide) ?_
                        refine r_le C (lle_k (lle_k (lle_k (lle_k (lle_k (lle_k (lle_f (lle_f (lle_f lle_0))))))))) ?_
                        first
                        | (exfalso; omega)
                        | exact key _ (cI_f (fun q => by omega)).symm (by omega)
                        | exact key _ (cI_f (fun q => c114 q.2.1)).symm (by omega)
                        | exact key _ (cI_t ⟨by omega, c114, by omega⟩).symm (by omega)
                      · exfalso; omega
                    · refine r_iload C dX8_available_145 lg_8 ?_
                      refine r_goto C (tgt := 152) dX8_available_147 (by decide) ?_
                      refine r_istore C dX8_available_152 (ls1_4 rfl rfl) ?_
                      refine r_iload_n C dX8_available_154 lg_3 ?_
                      refine r_iload C dX8_available_155 lg_6 ?_
                      refine r_iconst C dX8_available_157 ?_
                      refine r_icne C (tgt := 165) dX8_available_158 (by decide) (by omega) (by omega) (fun c158 => ?_) (fun c158 => ?_)
                      · refine r_aload_n C dX8_available_165 lg_0 ?_
                        refine r_iload C dX8_available_166 lg_6 ?_
                        refine r_iload_n C dX8_available_168 lg_1 ?_
                        refine q_V2I C (cM_change hfl M (by omega) (by omega) (by omega) (by omega)) dX8_available_169 lk_X8_90 M.1 ⟨Nat.le_of_ble_eq_true rfl, Nat.le_of_ble_eq_true rfl⟩ (catLe (Nat.le_of_ble_eq_true rfl)) ⟨rfl, rfl⟩ rfl (Nat.le_of_ble_eq_true rfl) (Nat.le_of_ble_eq_true rfl) (fun z169 S169 A169 i169 p169 => ?_)
                        obtain ⟨rfl, rfl, rfl⟩ := p169
                        rw [z320, z384, z416]
                        refine r_iadd C dX8_available_172 ?_
                        refine r_istore_n C dX8_available_173 (ls1_3 rfl rfl) ?_
                        refine r_iinc C dX8_available_174 lg_5 (ls1_5 rfl rfl) ?_
                        refine r_goto C (tgt := 42) dX8_available_177 (by decide) ?_
                        refine r_le C (lle_k (lle_k (lle_k (lle_k (lle_k (lle_k (lle_f (lle_f (lle_f lle_0))))))))) ?_
                        first
                        | (exfalso; omega)
                        | exact key _ (cI_f (fun q => by omega)).symm (by omega)
                        | exact key _ (cI_f (fun q => c114 q.2.1)).symm (by omega)
                        | exact key _ (cI_t ⟨by omega, c114, by omega⟩).symm (by omega)
                      · exfalso; omega
                · refine r_iload_n C dX8_available_117 lg_3 ?_
                  refine r_aload_n C dX8_available_118 lg_0 ?_
                  refine r_getA C 227 13 dX8_available_119 fg_X8_19_7 rfl rfl M.1 (fun g119 => ?_)
                  refine r_iload C dX8_available_122 lg_6 ?_
                  refine r_iald C (N := 60) 416 dX8_available_124 (by decide) rfl rfl (M.g (j := 3) (by decide)) (by omega) (by omega) (by omega) (fun g124 => ?_)
                  rw [z416]
                  refine r_isub C dX8_available_125 ?_
                  refine r_goto C (tgt := 131) dX8_available_126 (by decide) ?_
                  refine r_istore C dX8_available_131 (ls1_8 rfl rfl) ?_
                  refine r_iload C dX8_available_133 lg_7 ?_
                  refine r_ifeq C (tgt := 150) dX8_available_135 (by decide) (by omega) (fun c135 => ?_) (fun c135 => ?_)
                  · refine r_iload C dX8_available_150 lg_4 ?_
                    refine r_istore C dX8_available_152 (ls1_4 rfl rfl) ?_
                    refine r_iload_n C dX8_available_154 lg_3 ?_
                    refine r_iload C dX8_available_155 lg_6 ?_
                    refine r_iconst C dX8_available_157 ?_
                    refine r_icne C (tgt := 165) dX8_available_158 (by decide) (by omega) (by omega) (fun c158 => ?_) (fun c158 => ?_)
                    · refine r_aload_n C dX8_available_165 lg_0 ?_
                      refine r_iload C dX8_available_166 lg_6 ?_
                      refine r_iload_n C dX8_available_168 lg_1 ?_
                      refine q_V2I C (cM_change hfl M (by omega) (by omega) (by omega) (by omega)) dX8_available_169 lk_X8_90 M.1 ⟨Nat.le_of_ble_eq_true rfl, Nat.le_of_ble_eq_true rfl⟩ (catLe (Nat.le_of_ble_eq_true rfl)) ⟨rfl, rfl⟩ rfl (Nat.le_of_ble_eq_true rfl) (Nat.le_of_ble_eq_true rfl) (fun z169 S169 A169 i169 p169 => ?_)
                      obtain ⟨rfl, rfl, rfl⟩ := p169
                      rw [z320, z384, z416]
                      refine r_iadd C dX8_available_172 ?_
                      refine r_istore_n C dX8_available_173 (ls1_3 rfl rfl) ?_
                      refine r_iinc C dX8_available_174 lg_5 (ls1_5 rfl rfl) ?_
                      refine r_goto C (tgt := 42) dX8_available_177 (by decide) ?_
                      refine r_le C (lle_k (lle_k (lle_k (lle_k (lle_k (lle_k (lle_f (lle_f (lle_f lle_0))))))))) ?_
                      first
                      | (exfalso; omega)
                      | exact key _ (cI_f (fun q => by omega)).symm (by omega)
                      | exact key _ (cI_f (fun q => c114 q.2.1)).symm (by omega)
                      | exact key _ (cI_t ⟨by omega, c114, by omega⟩).symm (by omega)
                    · exfalso; omega
                  · refine r_iload C dX8_available_138 lg_8 ?_
                    refine r_iload C dX8_available_140 lg_4 ?_
                    refine r_icge C (tgt := 150) dX8_available_142 (by decide) (by omega) (by omega) (fun c142 => ?_) (fun c142 => ?_)
                    · refine r_iload C dX8_available_150 lg_4 ?_
                      refine r_istore C dX8_available_152 (ls1_4 rfl rfl) ?_
                      refine r_iload_n C dX8_available_154 lg_3 ?_
                      refine r_iload C dX8_available_155 lg_6 ?_
                      refine r_iconst C dX8_available_157 ?_
                      refine r_icne C (tgt := 165) dX8_available_158 (by decide) (by omega) (by omega) (fun c158 => ?_) (fun c158 => ?_)
                      · refine r_aload_n C dX8_available_165 lg_0 ?_
                        refine r_iload C dX8_available_166 lg_6 ?_
                        refine r_iload_n C dX8_available_168 lg_1 ?_
                        refine q_V2I C (cM_change hfl M (by omega) (by omega) (by omega) (by omega)) dX8_available_169 lk_X8_90 M.1 ⟨Nat.le_of_ble_eq_true rfl, Nat.le_of_ble_eq_true rfl⟩ (catLe (Nat.le_of_ble_eq_true rfl)) ⟨rfl, rfl⟩ rfl (Nat.le_of_ble_eq_true rfl) (Nat.le_of_ble_eq_true rfl) (fun z169 S169 A169 i169 p169 => ?_)
                        obtain ⟨rfl, rfl, rfl⟩ := p169
                        rw [z320, z384, z416]
                        refine r_iadd C dX8_available_172 ?_
                        refine r_istore_n C dX8_available_173 (ls1_3 rfl rfl) ?_
                        refine r_iinc C dX8_available_174 lg_5 (ls1_5 rfl rfl) ?_
                        refine r_goto C (tgt := 42) dX8_available_177 (by decide) ?_
                        refine r_le C (lle_k (lle_k (lle_k (lle_k (lle_k (lle_k (lle_f (lle_f (lle_f lle_0))))))))) ?_
                        first
                        | (exfalso; omega)
                        | exact key _ (cI_f (fun q => by omega)).symm (by omega)
                        | exact key _ (cI_f (fun q => c114 q.2.1)).symm (by omega)
                        | exact key _ (cI_t ⟨by omega, c114, by omega⟩).symm (by omega)
                      · exfalso; omega
                    · refine r_iload C dX8_available_145 lg_8 ?_
                      refine r_goto C (tgt := 152) dX8_available_147 (by decide) ?_
                      refine r_istore C dX8_available_152 (ls1_4 rfl rfl) ?_
                      refine r_iload_n C dX8_available_154 lg_3 ?_
                      refine r_iload C dX8_available_155 lg_6 ?_
                      refine r_iconst C dX8_available_157 ?_
                      refine r_icne C (tgt := 165) dX8_available_158 (by decide) (by omega) (by omega) (fun c158 => ?_) (fun c158 => ?_)
                      · refine r_aload_n C dX8_available_165 lg_0 ?_
                        refine r_iload C dX8_available_166 lg_6 ?_
                        refine r_iload_n C dX8_available_168 lg_1 ?_
                        refine q_V2I C (cM_change hfl M (by omega) (by omega) (by omega) (by omega)) dX8_available_169 lk_X8_90 M.1 ⟨Nat.le_of_ble_eq_true rfl, Nat.le_of_ble_eq_true rfl⟩ (catLe (Nat.le_of_ble_eq_true rfl)) ⟨rfl, rfl⟩ rfl (Nat.le_of_ble_eq_true rfl) (Nat.le_of_ble_eq_true rfl) (fun z169 S169 A169 i169 p169 => ?_)
                        obtain ⟨rfl, rfl, rfl⟩ := p169
                        rw [z320, z384, z416]
                        refine r_iadd C dX8_available_172 ?_
                        refine r_istore_n C dX8_available_173 (ls1_3 rfl rfl) ?_
                        refine r_iinc C dX8_available_174 lg_5 (ls1_5 rfl rfl) ?_
                        refine r_goto C (tgt := 42) dX8_available_177 (by decide) ?_
                        refine r_le C (lle_k (lle_k (lle_k (lle_k (lle_k (lle_k (lle_f (lle_f (lle_f lle_0))))))))) ?_
                        first
                        | (exfalso; omega)
                        | exact key _ (cI_f (fun q => by omega)).symm (by omega)
                        | exact key _ (cI_f (fun q => c114 q.2.1)).symm (by omega)
                        | exact key _ (cI_t ⟨by omega, c114, by omega⟩).symm (by omega)
                      · exfalso; omega
              · exfalso; omega
            · refine r_iconst C dX8_available_90 ?_
              refine r_goto C (tgt := 95) dX8_available_91 (by decide) ?_
              refine r_istore C dX8_available_95 (ls1_7 rfl rfl) ?_
              refine r_iload C dX8_available_97 lg_6 ?_
              refine r_iconst C dX8_available_99 ?_
              refine r_icne C (tgt := 107) dX8_available_100 (by decide) (by omega) (by omega) (fun c100 => ?_) (fun c100 => ?_)
              · refine r_aload_n C dX8_available_107 lg_0 ?_
                refine r_iload C dX8_available_108 lg_6 ?_
                refine r_iload_n C dX8_available_110 lg_1 ?_
                refine q_V2Z C (cM_takesUnits hfl M (by omega) (by omega) (by omega)) dX8_available_111 lk_X8_86 M.1 ⟨Nat.le_of_ble_eq_true rfl, Nat.le_of_ble_eq_true rfl⟩ (catLe (Nat.le_of_ble_eq_true rfl)) ⟨rfl, rfl⟩ rfl (Nat.le_of_ble_eq_true rfl) (Nat.le_of_ble_eq_true rfl) (fun z111 S111 A111 i111 p111 => ?_)
                obtain ⟨rfl, rfl, rfl⟩ := p111
                rw [z320, z384]
                refine rb_ifeq C (tgt := 129) dX8_available_114 (by decide) (fun c114 => ?_) (fun c114 => ?_)
                · refine r_iload C dX8_available_129 lg_4 ?_
                  refine r_istore C dX8_available_131 (ls1_8 rfl rfl) ?_
                  refine r_iload C dX8_available_133 lg_7 ?_
                  refine r_ifeq C (tgt := 150) dX8_available_135 (by decide) (by omega) (fun c135 => ?_) (fun c135 => ?_)
                  · refine r_iload C dX8_available_150 lg_4 ?_
                    refine r_istore C dX8_available_152 (ls1_4 rfl rfl) ?_
                    refine r_iload_n C dX8_available_154 lg_3 ?_
                    refine r_iload C dX8_available_155 lg_6 ?_
                    refine r_iconst C dX8_available_157 ?_
                    refine r_icne C (tgt := 165) dX8_available_158 (by decide) (by omega) (by omega) (fun c158 => ?_) (fun c158 => ?_)
                    · refine r_aload_n C dX8_available_165 lg_0 ?_
                      refine r_iload C dX8_available_166 lg_6 ?_
                      refine r_iload_n C dX8_available_168 lg_1 ?_
                      refine q_V2I C (cM_change hfl M (by omega) (by omega) (by omega) (by omega)) dX8_available_169 lk_X8_90 M.1 ⟨Nat.le_of_ble_eq_true rfl, Nat.le_of_ble_eq_true rfl⟩ (catLe (Nat.le_of_ble_eq_true rfl)) ⟨rfl, rfl⟩ rfl (Nat.le_of_ble_eq_true rfl) (Nat.le_of_ble_eq_true rfl) (fun z169 S169 A169 i169 p169 => ?_)
                      obtain ⟨rfl, rfl, rfl⟩ := p169
                      rw [z320, z384, z416]
                      refine r_iadd C dX8_available_172 ?_
                      refine r_istore_n C dX8_available_173 (ls1_3 rfl rfl) ?_
                      refine r_iinc C dX8_available_174 lg_5 (ls1_5 rfl rfl) ?_
                      refine r_goto C (tgt := 42) dX8_available_177 (by decide) ?_
                      refine r_le C (lle_k (lle_k (lle_k (lle_k (lle_k (lle_k (lle_f (lle_f (lle_f lle_0))))))))) ?_
                      first
                      | (exfalso; omega)
                      | exact key _ (cI_f (fun q => by omega)).symm (by omega)
                      | exact key _ (cI_f (fun q => c114 q.2.1)).symm (by omega)
                      | exact key _ (cI_t ⟨by omega, c114, by omega⟩).symm (by omega)
                    · exfalso; omega
                  · refine r_iload C dX8_available_138 lg_8 ?_
                    refine r_iload C dX8_available_140 lg_4 ?_
                    refine r_icge C (tgt := 150) dX8_available_142 (by decide) (by omega) (by omega) (fun c142 => ?_) (fun c142 => ?_)
                    · refine r_iload C dX8_available_150 lg_4 ?_
                      refine r_istore C dX8_available_152 (ls1_4 rfl rfl) ?_
                      refine r_iload_n C dX8_available_154 lg_3 ?_
                      refine r_iload C dX8_available_155 lg_6 ?_
                      refine r_iconst C dX8_available_157 ?_
                      refine r_icne C (tgt := 165) dX8_available_158 (by decide) (by omega) (by omega) (fun c158 => ?_) (fun c158 => ?_)
                      · refine r_aload_n C dX8_available_165 lg_0 ?_
                        refine r_iload C dX8_available_166 lg_6 ?_
                        refine r_iload_n C dX8_available_168 lg_1 ?_
                        refine q_V2I C (cM_change hfl M (by omega) (by omega) (by omega) (by omega)) dX8_available_169 lk_X8_90 M.1 ⟨Nat.le_of_ble_eq_true rfl, Nat.le_of_ble_eq_true rfl⟩ (catLe (Nat.le_of_ble_eq_true rfl)) ⟨rfl, rfl⟩ rfl (Nat.le_of_ble_eq_true rfl) (Nat.le_of_ble_eq_true rfl) (fun z169 S169 A169 i169 p169 => ?_)
                        obtain ⟨rfl, rfl, rfl⟩ := p169
                        rw [z320, z384, z416]
                        refine r_iadd C dX8_available_172 ?_
                        refine r_istore_n C dX8_available_173 (ls1_3 rfl rfl) ?_
                        refine r_iinc C dX8_available_174 lg_5 (ls1_5 rfl rfl) ?_
                        refine r_goto C (tgt := 42) dX8_available_177 (by decide) ?_
                        refine r_le C (lle_k (lle_k (lle_k (lle_k (lle_k (lle_k (lle_f (lle_f (lle_f lle_0))))))))) ?_
                        first
                        | (exfalso; omega)
                        | exact key _ (cI_f (fun q => by omega)).symm (by omega)
                        | exact key _ (cI_f (fun q => c114 q.2.1)).symm (by omega)
                        | exact key _ (cI_t ⟨by omega, c114, by omega⟩).symm (by omega)
                      · exfalso; omega
                    · refine r_iload C dX8_available_145 lg_8 ?_
                      refine r_goto C (tgt := 152) dX8_available_147 (by decide) ?_
                      refine r_istore C dX8_available_152 (ls1_4 rfl rfl) ?_
                      refine r_iload_n C dX8_available_154 lg_3 ?_
                      refine r_iload C dX8_available_155 lg_6 ?_
                      refine r_iconst C dX8_available_157 ?_
                      refine r_icne C (tgt := 165) dX8_available_158 (by decide) (by omega) (by omega) (fun c158 => ?_) (fun c158 => ?_)
                      · refine r_aload_n C dX8_available_165 lg_0 ?_
                        refine r_iload C dX8_available_166 lg_6 ?_
                        refine r_iload_n C dX8_available_168 lg_1 ?_
                        refine q_V2I C (cM_change hfl M (by omega) (by omega) (by omega) (by omega)) dX8_available_169 lk_X8_90 M.1 ⟨Nat.le_of_ble_eq_true rfl, Nat.le_of_ble_eq_true rfl⟩ (catLe (Nat.le_of_ble_eq_true rfl)) ⟨rfl, rfl⟩ rfl (Nat.le_of_ble_eq_true rfl) (Nat.le_of_ble_eq_true rfl) (fun z169 S169 A169 i169 p169 => ?_)
                        obtain ⟨rfl, rfl, rfl⟩ := p169
                        rw [z320, z384, z416]
                        refine r_iadd C dX8_available_172 ?_
                        refine r_istore_n C dX8_available_173 (ls1_3 rfl rfl) ?_
                        refine r_iinc C dX8_available_174 lg_5 (ls1_5 rfl rfl) ?_
                        refine r_goto C (tgt := 42) dX8_available_177 (by decide) ?_
                        refine r_le C (lle_k (lle_k (lle_k (lle_k (lle_k (lle_k (lle_f (lle_f (lle_f lle_0))))))))) ?_
                        first
                        | (exfalso; omega)
                        | exact key _ (cI_f (fun q => by omega)).symm (by omega)
                        | exact key _ (cI_f (fun q => c114 q.2.1)).symm (by omega)
                        | exact key _ (cI_t ⟨by omega, c114, by omega⟩).symm (by omega)
                      · exfalso; omega
                · refine r_iload_n C dX8_available_117 lg_3 ?_
                  refine r_aload_n C dX8_available_118 lg_0 ?_
                  refine r_getA C 227 13 dX8_available_119 fg_X8_19_7 rfl rfl M.1 (fun g119 => ?_)
                  refine r_iload C dX8_available_122 lg_6 ?_
                  refine r_iald C (N := 60) 416 dX8_available_124 (by decide) rfl rfl (M.g (j := 3) (by decide)) (by omega) (by omega) (by omega) (fun g124 => ?_)
                  rw [z416]
                  refine r_isub C dX8_available_125 ?_
                  refine r_goto C (tgt := 131) dX8_available_126 (by decide) ?_
                  refine r_istore C dX8_available_131 (ls1_8 rfl rfl) ?_
                  refine r_iload C dX8_available_133 lg_7 ?_
                  refine r_ifeq C (tgt := 150) dX8_available_135 (by decide) (by omega) (fun c135 => ?_) (fun c135 => ?_)
                  · refine r_iload C dX8_available_150 lg_4 ?_
                    refine r_istore C dX8_available_152 (ls1_4 rfl rfl) ?_
                    refine r_iload_n C dX8_available_154 lg_3 ?_
                    refine r_iload C dX8_available_155 lg_6 ?_
                    refine r_iconst C dX8_available_157 ?_
                    refine r_icne C (tgt := 165) dX8_available_158 (by decide) (by omega) (by omega) (fun c158 => ?_) (fun c158 => ?_)
                    · refine r_aload_n C dX8_available_165 lg_0 ?_
                      refine r_iload C dX8_available_166 lg_6 ?_
                      refine r_iload_n C dX8_available_168 lg_1 ?_
                      refine q_V2I C (cM_change hfl M (by omega) (by omega) (by omega) (by omega)) dX8_available_169 lk_X8_90 M.1 ⟨Nat.le_of_ble_eq_true rfl, Nat.le_of_ble_eq_true rfl⟩ (catLe (Nat.le_of_ble_eq_true rfl)) ⟨rfl, rfl⟩ rfl (Nat.le_of_ble_eq_true rfl) (Nat.le_of_ble_eq_true rfl) (fun z169 S169 A169 i169 p169 => ?_)
                      obtain ⟨rfl, rfl, rfl⟩ := p169
                      rw [z320, z384, z416]
                      refine r_iadd C dX8_available_172 ?_
                      refine r_istore_n C dX8_available_173 (ls1_3 rfl rfl) ?_
                      refine r_iinc C dX8_available_174 lg_5 (ls1_5 rfl rfl) ?_
                      refine r_goto C (tgt := 42) dX8_available_177 (by decide) ?_
                      refine r_le C (lle_k (lle_k (lle_k (lle_k (lle_k (lle_k (lle_f (lle_f (lle_f lle_0))))))))) ?_
                      first
                      | (exfalso; omega)
                      | exact key _ (cI_f (fun q => by omega)).symm (by omega)
                      | exact key _ (cI_f (fun q => c114 q.2.1)).symm (by omega)
                      | exact key _ (cI_t ⟨by omega, c114, by omega⟩).symm (by omega)
                    · exfalso; omega
                  · refine r_iload C dX8_available_138 lg_8 ?_
                    refine r_iload C dX8_available_140 lg_4 ?_
                    refine r_icge C (tgt := 150) dX8_available_142 (by decide) (by omega) (by omega) (fun c142 => ?_) (fun c142 => ?_)
                    · refine r_iload C dX8_available_150 lg_4 ?_
                      refine r_istore C dX8_available_152 (ls1_4 rfl rfl) ?_
                      refine r_iload_n C dX8_available_154 lg_3 ?_
                      refine r_iload C dX8_available_155 lg_6 ?_
                      refine r_iconst C dX8_available_157 ?_
                      refine r_icne C (tgt := 165) dX8_available_158 (by decide) (by omega) (by omega) (fun c158 => ?_) (fun c158 => ?_)
                      · refine r_aload_n C dX8_available_165 lg_0 ?_
                        refine r_iload C dX8_available_166 lg_6 ?_
                        refine r_iload_n C dX8_available_168 lg_1 ?_
                        refine q_V2I C (cM_change hfl M (by omega) (by omega) (by omega) (by omega)) dX8_available_169 lk_X8_90 M.1 ⟨Nat.le_of_ble_eq_true rfl, Nat.le_of_ble_eq_true rfl⟩ (catLe (Nat.le_of_ble_eq_true rfl)) ⟨rfl, rfl⟩ rfl (Nat.le_of_ble_eq_true rfl) (Nat.le_of_ble_eq_true rfl) (fun z169 S169 A169 i169 p169 => ?_)
                        obtain ⟨rfl, rfl, rfl⟩ := p169
                        rw [z320, z384, z416]
                        refine r_iadd C dX8_available_172 ?_
                        refine r_istore_n C dX8_available_173 (ls1_3 rfl rfl) ?_
                        refine r_iinc C dX8_available_174 lg_5 (ls1_5 rfl rfl) ?_
                        refine r_goto C (tgt := 42) dX8_available_177 (by decide) ?_
                        refine r_le C (lle_k (lle_k (lle_k (lle_k (lle_k (lle_k (lle_f (lle_f (lle_f lle_0))))))))) ?_
                        first
                        | (exfalso; omega)
                        | exact key _ (cI_f (fun q => by omega)).symm (by omega)
                        | exact key _ (cI_f (fun q => c114 q.2.1)).symm (by omega)
                        | exact key _ (cI_t ⟨by omega, c114, by omega⟩).symm (by omega)
                      · exfalso; omega
                    · refine r_iload C dX8_available_145 lg_8 ?_
                      refine r_goto C (tgt := 152) dX8_available_147 (by decide) ?_
                      refine r_istore C dX8_available_152 (ls1_4 rfl rfl) ?_
                      refine r_iload_n C dX8_available_154 lg_3 ?_
                      refine r_iload C dX8_available_155 lg_6 ?_
                      refine r_iconst C dX8_available_157 ?_
                      refine r_icne C (tgt := 165) dX8_available_158 (by decide) (by omega) (by omega) (fun c158 => ?_) (fun c158 => ?_)
                      · refine r_aload_n C dX8_available_165 lg_0 ?_
                        refine r_iload C dX8_available_166 lg_6 ?_
                        refine r_iload_n C dX8_available_168 lg_1 ?_
                        refine q_V2I C (cM_change hfl M (by omega) (by omega) (by omega) (by omega)) dX8_available_169 lk_X8_90 M.1 ⟨Nat.le_of_ble_eq_true rfl, Nat.le_of_ble_eq_true rfl⟩ (catLe (Nat.le_of_ble_eq_true rfl)) ⟨rfl, rfl⟩ rfl (Nat.le_of_ble_eq_true rfl) (Nat.le_of_ble_eq_true rfl) (fun z169 S169 A169 i169 p169 => ?_)
                        obtain ⟨rfl, rfl, rfl⟩ := p169
                        rw [z320, z384, z416]
                        refine r_iadd C dX8_available_172 ?_
                        refine r_istore_n C dX8_available_173 (ls1_3 rfl rfl) ?_
                        refine r_iinc C dX8_available_174 lg_5 (ls1_5 rfl rfl) ?_
                        refine r_goto C (tgt := 42) dX8_available_177 (by decide) ?_
                        refine r_le C (lle_k (lle_k (lle_k (lle_k (lle_k (lle_k (lle_f (lle_f (lle_f lle_0))))))))) ?_
                        first
                        | (exfalso; omega)
                        | exact key _ (cI_f (fun q => by omega)).symm (by omega)
                        | exact key _ (cI_f (fun q => c114 q.2.1)).symm (by omega)
                        | exact key _ (cI_t ⟨by omega, c114, by omega⟩).symm (by omega)
                      · exfalso; omega
              · exfalso; omega
  have M := M0
  refine r_aload_n C dX8_available_0 lg_0 ?_
  refine r_iload_n C dX8_available_1 lg_1 ?_
  refine q_S1Z C (cM_isItem hfl (by omega)) dX8_available_2 lk_X8_101 ⟨Nat.le_of_ble_eq_true rfl, Nat.le_of_ble_eq_true rfl⟩ (catLe (Nat.le_of_ble_eq_true rfl)) ⟨rfl, rfl⟩ rfl (Nat.le_of_ble_eq_true rfl) (Nat.le_of_ble_eq_true rfl) (fun z2 S2 A2 i2 p2 => ?_)
  obtain ⟨rfl, rfl, rfl⟩ := p2
  refine rb_ifeq C (tgt := 19) dX8_available_5 (by decide) (fun c5 => ?_) (fun c5 => ?_)
  · refine r_iconst C dX8_available_19 ?_
    refine q_V1Z C (cM_goes hfl (by assumption) (by omega)) dX8_available_20 lk_X8_112 M.1 ⟨Nat.le_of_ble_eq_true rfl, Nat.le_of_ble_eq_true rfl⟩ (catLe (Nat.le_of_ble_eq_true rfl)) ⟨rfl, rfl⟩ rfl (Nat.le_of_ble_eq_true rfl) (Nat.le_of_ble_eq_true rfl) (fun z20 S20 A20 i20 p20 => ?_)
    obtain ⟨rfl, rfl, rfl⟩ := p20
    refine r_gS (fun S9 hS9 => ?_)
    have M : RM S9 A := by rw [hS9]; exact M0.up (by decide)
    have hF9 : Fr [249, 672, 236] S S9 := by rw [hS9]; exact Fr.up (by decide)
    have x249 := (congrFun (congrFun hS9 249) 0).trans (upS_self _ _ _ _)
    have e232 := hF9 232 0 (by decide)
    have hn : 0 ≤ S 232 0 ∧ S 232 0 ≤ 60 := hR.1
    refine rb_ifne C (tgt := 28) dX8_available_23 (by decide) (fun c23 => ?_) (fun c23 => ?_)
    · refine r_iconst C dX8_available_28 ?_
      refine r_istore_n C dX8_available_29 (ls1_3 rfl rfl) ?_
      refine r_sipush C dX8_available_30 (by decide) ?_
      refine r_istore C dX8_available_33 (ls1_4 rfl rfl) ?_
      refine r_aload_n C dX8_available_35 lg_0 ?_
      refine q_V0V C (cM_orders hfl M (by omega) (by omega)) dX8_available_36 lk_X8_83 M.1 ⟨Nat.le_of_ble_eq_true rfl, Nat.le_of_ble_eq_true rfl⟩ (catLe (Nat.le_of_ble_eq_true rfl)) ⟨rfl, rfl⟩ rfl (Nat.le_of_ble_eq_true rfl) (Nat.le_of_ble_eq_true rfl) (fun S36 A36 p36 => ?_)
      obtain ⟨rfl, hF36, hL36⟩ := p36
      refine r_iconst C dX8_available_39 ?_
      refine r_istore C dX8_available_40 (ls1_5 rfl rfl) ?_
      have hL : LD S36 (led (S 352) (S 480) (S 232 0).toNat) := by
        rw [hF9.fn (c := 352) (by decide), hF9.fn (c := 480) (by decide), e232] at hL36
        exact hL36
      exact lp S36 (hF9.tr (hF36.sub (by decide))) ((hF36 249 0 (by decide)).trans (by omega)) ⟨by omega, by omega⟩ hL (led (S 352) (S 480) (S 232 0).toNat) [] 0 1000 rfl (by simp) (by omega) rfl
    · refine r_iconst C dX8_available_26 ?_
      exact f_I F dX8_available_27 (by omega) (by first | (exfalso; omega) | exact ⟨rfl, Or.inl ⟨fun h => by unfold akOk at h; omega, rfl, hS9⟩⟩) (Nat.le_of_ble_eq_true rfl) (Nat.le_of_ble_eq_true rfl)
  · refine r_iload_n C dX8_available_8 lg_2 ?_
    refine q_S1Z C (cM_isDay hfl (by omega)) dX8_available_9 lk_X8_98 ⟨Nat.le_of_ble_eq_true rfl, Nat.le_of_ble_eq_true rfl⟩ (catLe (Nat.le_of_ble_eq_true rfl)) ⟨rfl, rfl⟩ rfl (Nat.le_of_ble_eq_true rfl) (Nat.le_of_ble_eq_true rfl) (fun z9 S9 A9 i9 p9 => ?_)
    obtain ⟨rfl, rfl, rfl⟩ := p9
    refine rb_ifeq C (tgt := 19) dX8_available_12 (by decide) (fun c12 => ?_) (fun c12 => ?_)
    · refine r_iconst C dX8_available_19 ?_
      refine q_V1Z C (cM_goes hfl (by assumption) (by omega)) dX8_available_20 lk_X8_112 M.1 ⟨Nat.le_of_ble_eq_true rfl, Nat.le_of_ble_eq_true rfl⟩ (catLe (Nat.le_of_ble_eq_true rfl)) ⟨rfl, rfl⟩ rfl (Nat.le_of_ble_eq_true rfl) (Nat.le_of_ble_eq_true rfl) (fun z20 S20 A20 i20 p20 => ?_)
      obtain ⟨rfl, rfl, rfl⟩ := p20
      refine r_gS (fun S9 hS9 => ?_)
      have M : RM S9 A := by rw [hS9]; exact M0.up (by decide)
      have hF9 : Fr [249, 672, 236] S S9 := by rw [hS9]; exact Fr.up (by decide)
      have x249 := (congrFun (congrFun hS9 249) 0).trans (upS_self _ _ _ _)
      have e232 := hF9 232 0 (by decide)
      have hn : 0 ≤ S 232 0 ∧ S 232 0 ≤ 60 := hR.1
      refine rb_ifne C (tgt := 28) dX8_available_23 (by decide) (fun c23 => ?_) (fun c23 => ?_)
      · refine r_iconst C dX8_available_28 ?_
        refine r_istore_n C dX8_available_29 (ls1_3 rfl rfl) ?_
        refine r_sipush C dX8_available_30 (by decide) ?_
        refine r_istore C dX8_available_33 (ls1_4 rfl rfl) ?_
        refine r_aload_n C dX8_available_35 lg_0 ?_
        refine q_V0V C (cM_orders hfl M (by omega) (by omega)) dX8_available_36 lk_X8_83 M.1 ⟨Nat.le_of_ble_eq_true rfl, Nat.le_of_ble_eq_true rfl⟩ (catLe (Nat.le_of_ble_eq_true rfl)) ⟨rfl, rfl⟩ rfl (Nat.le_of_ble_eq_true rfl) (Nat.le_of_ble_eq_true rfl) (fun S36 A36 p36 => ?_)
        obtain ⟨rfl, hF36, hL36⟩ := p36
        refine r_iconst C dX8_available_39 ?_
        refine r_istore C dX8_available_40 (ls1_5 rfl rfl) ?_
        have hL : LD S36 (led (S 352) (S 480) (S 232 0).toNat) := by
          rw [hF9.fn (c := 352) (by decide), hF9.fn (c := 480) (by decide), e232] at hL36
          exact hL36
        exact lp S36 (hF9.tr (hF36.sub (by decide))) ((hF36 249 0 (by decide)).trans (by omega)) ⟨by omega, by omega⟩ hL (led (S 352) (S 480) (S 232 0).toNat) [] 0 1000 rfl (by simp) (by omega) rfl
      · refine r_iconst C dX8_available_26 ?_
        exact f_I F dX8_available_27 (by omega) (by first | (exfalso; omega) | exact ⟨rfl, Or.inl ⟨fun h => by unfold akOk at h; omega, rfl, hS9⟩⟩) (Nat.le_of_ble_eq_true rfl) (Nat.le_of_ble_eq_true rfl)
    · refine r_iconst C dX8_available_15 ?_
      refine r_goto C (tgt := 20) dX8_available_16 (by decide) ?_
      refine q_V1Z C (cM_goes hfl (by assumption) (by omega)) dX8_available_20 lk_X8_112 M.1 ⟨Nat.le_of_ble_eq_true rfl, Nat.le_of_ble_eq_true rfl⟩ (catLe (Nat.le_of_ble_eq_true rfl)) ⟨rfl, rfl⟩ rfl (Nat.le_of_ble_eq_true rfl) (Nat.le_of_ble_eq_true rfl) (fun z20 S20 A20 i20 p20 => ?_)
      obtain ⟨rfl, rfl, rfl⟩ := p20
      refine r_gS (fun S9 hS9 => ?_)
      have M : RM S9 A := by rw [hS9]; exact M0.up (by decide)
      have hF9 : Fr [249, 672, 236] S S9 := by rw [hS9]; exact Fr.up (by decide)
      have x249 := (congrFun (congrFun hS9 249) 0).trans (upS_self _ _ _ _)
      have e232 := hF9 232 0 (by decide)
      have hn : 0 ≤ S 232 0 ∧ S 232 0 ≤ 60 := hR.1
      refine rb_ifne C (tgt := 28) dX8_available_23 (by decide) (fun c23 => ?_) (fun c23 => ?_)
      · refine r_iconst C dX8_available_28 ?_
        refine r_istore_n C dX8_available_29 (ls1_3 rfl rfl) ?_
        refine r_sipush C dX8_available_30 (by decide) ?_
        refine r_istore C dX8_available_33 (ls1_4 rfl rfl) ?_
        refine r_aload_n C dX8_available_35 lg_0 ?_
        refine q_V0V C (cM_orders hfl M (by omega) (by omega)) dX8_available_36 lk_X8_83 M.1 ⟨Nat.le_of_ble_eq_true rfl, Nat.le_of_ble_eq_true rfl⟩ (catLe (Nat.le_of_ble_eq_true rfl)) ⟨rfl, rfl⟩ rfl (Nat.le_of_ble_eq_true rfl) (Nat.le_of_ble_eq_true rfl) (fun S36 A36 p36 => ?_)
        obtain ⟨rfl, hF36, hL36⟩ := p36
        refine r_iconst C dX8_available_39 ?_
        refine r_istore C dX8_available_40 (ls1_5 rfl rfl) ?_
        have hL : LD S36 (led (S 352) (S 480) (S 232 0).toNat) := by
          rw [hF9.fn (c := 352) (by decide), hF9.fn (c := 480) (by decide), e232] at hL36
          exact hL36
        exact lp S36 (hF9.tr (hF36.sub (by decide))) ((hF36 249 0 (by decide)).trans (by omega)) ⟨by omega, by omega⟩ hL (led (S 352) (S 480) (S 232 0).toNat) [] 0 1000 rfl (by simp) (by omega) rfl
      · refine r_iconst C dX8_available_26 ?_
        exact f_I F dX8_available_27 (by omega) (by first | (exfalso; omega) | exact ⟨rfl, Or.inl ⟨fun h => by unfold akOk at h; omega, rfl, hS9⟩⟩) (Nat.le_of_ble_eq_true rfl) (Nat.le_of_ble_eq_true rfl)
