/-! the reference: cancelling, spreading, landed costs -/
noncomputable def cnW (S : ST) (m : Int) : Int := cI (0 ≤ m ∧ m < S 232 0) (cI (S 480 m = 0) (cI (S 352 m ≤ S 233 0) 2 (cI (exR 0 (S 232 0) (fun x => S 320 x = 3 ∧ S 480 x = 0 ∧ hasB (S 512 x) m)) 2 0)) 2) 1
def cOk (S : ST) (m : Int) : Prop := vld (chg (S 320) (S 384) (S 416) (S 384 m)) (S 416) (tks (S 320) (S 384) (S 384 m)) 0 (led (S 352) (fu (S 480) m 1) (S 232 0).toNat)
def CST (S : ST) (m z : Int) (S' : ST) : Prop :=
  (¬ cnW S m = 0 ∧ z = 0 ∧ S' = upS S 249 0 (cnW S m)) ∨
  (cnW S m = 0 ∧ cOk S m ∧ z = (led (S 352) (fu (S 480) m 1) (S 232 0).toNat).length ∧ S' 249 0 = 0 ∧ S' 480 = fu (S 480) m 1 ∧ Fr [249, 480, 672, 236] S S') ∨
  (cnW S m = 0 ∧ ¬ cOk S m ∧ z = 0 ∧ S' 249 0 = 2 ∧ S' 480 = S 480 ∧ Fr [249, 480, 672, 236] S S')
theorem fu_fu (f : Int → Int) (n a b : Int) : fu (fu f n a) n b = fu f n b := by
  funext m
  unfold fu
  split <;> rfl
theorem fu_id {f : Int → Int} {n b : Int} (h : f n = b) : fu f n b = f := by
  funext m
  by_cases e : m = n
  · rw [e, fu_self, h]
  · rw [fu_ne _ _ e]
set_option maxRecDepth 20000 in
theorem cM_cancel {G : GT} {l : Launch} (hfl : l.stackTraces = false) {S : ST} {A : AB} {m : Int} (M0 : RM S A) (hm : rI m) (hcl : rI (S 233 0)) (hm0 : 0 ≤ S 232 0) (hm1 : S 232 0 ≤ 60) (hqt : ∀ m, 0 ≤ m → m < S 232 0 → 0 ≤ S 416 m ∧ S 416 m ≤ 1000) : CT G l yX8_cancel cX8_cancel 2 (some .int) (rmk 3 0 0 67) S A [vR A 7 0, vI m] (oI fun z S' A' => A = A' ∧ CST S m z S') (noX) := by
  have M := M0
  refine ct_ofN (own := RX8) (mn := "cancel") rfl rfl (by decide) hfl (lv0 := [some (vR A 7 0), some (vI m)]) (ent_1 (cat_R _ _ _) (ent_1 rfl ent_0)) rfl ?_
  intro J X C F FX FT FU hW hA
  refine r_aload_n C dX8_cancel_0 lg_0 ?_
  refine r_aload_n C dX8_cancel_1 lg_0 ?_
  refine r_iload_n C dX8_cancel_2 lg_1 ?_
  refine q_V1Z C (cM_isMovement hfl (by assumption) (by omega) (by omega) (by omega)) dX8_cancel_3 lk_X8_155 M.1 ⟨Nat.le_of_ble_eq_true rfl, Nat.le_of_ble_eq_true rfl⟩ (catLe (Nat.le_of_ble_eq_true rfl)) ⟨rfl, rfl⟩ rfl (Nat.le_of_ble_eq_true rfl) (Nat.le_of_ble_eq_true rfl) (fun z3 S3 A3 i3 p3 => ?_)
  obtain ⟨rfl, rfl, rfl⟩ := p3
  refine rb_ifne C (tgt := 13) dX8_cancel_6 (by decide) (fun c6 => ?_) (fun c6 => ?_)
  · refine r_aload_n C dX8_cancel_13 lg_0 ?_
    refine r_getA C 229 15 dX8_cancel_14 fg_X8_25_7 rfl rfl M.1 (fun g14 => ?_)
    refine r_iload_n C dX8_cancel_17 lg_1 ?_
    refine r_zald C (N := 60) 480 dX8_cancel_18 (by decide) rfl rfl (M.g (j := 5) (by decide)) (by omega) (by omega) (by omega) (fun g18 => ?_)
    refine r_ifne C (tgt := 43) dX8_cancel_19 (by decide) (by omega) (fun c19 => ?_) (fun c19 => ?_)
    · refine r_iconst C dX8_cancel_43 ?_
      refine r_goto C (tgt := 48) dX8_cancel_44 (by decide) ?_
      refine q_V1Z C (cM_goes hfl (by assumption) (by omega)) dX8_cancel_48 lk_X8_112 M.1 ⟨Nat.le_of_ble_eq_true rfl, Nat.le_of_ble_eq_true rfl⟩ (catLe (Nat.le_of_ble_eq_true rfl)) ⟨rfl, rfl⟩ rfl (Nat.le_of_ble_eq_true rfl) (Nat.le_of_ble_eq_true rfl) (fun z48 S48 A48 i48 p48 => ?_)
      obtain ⟨rfl, rfl, rfl⟩ := p48
      refine r_gS (fun S1 hS1 => ?_)
      have M : RM S1 A := by rw [hS1]; exact M0.up (by decide)
      refine rb_ifne C (tgt := 56) dX8_cancel_51 (by decide) (fun c51 => ?_) (fun c51 => ?_)
      · have e9 : cnW S m = 0 := by
          unfold cnW cI
          repeat' split
          all_goals (first | omega | contradiction)
        have q1 : ∀ c, c ≠ 249 → S1 c = S c := fun c h => by rw [hS1]; exact upS_fn _ _ _ h
        refine r_aload_n C dX8_cancel_56 lg_0 ?_
        refine r_getA C 229 15 dX8_cancel_57 fg_X8_25_7 rfl rfl M.1 (fun g57 => ?_)
        refine r_iload_n C dX8_cancel_60 lg_1 ?_
        refine r_iconst C dX8_cancel_61 ?_
        refine r_zast C (N := 60) 480 dX8_cancel_62 (by decide) rfl rfl (M.g (j := 5) (by decide)) (by omega) (by omega) (by omega) (by omega) ?_
        refine r_gS (fun S2 hS2 => ?_)
        have M : RM S2 A := by rw [hS2]; exact M.up (by decide)
        have q2 : ∀ c, c ≠ 249 → c ≠ 480 → S2 c = S c := fun c h h' => by rw [hS2, upS_fn _ _ _ h']; exact q1 c h
        have n320 := q2 320 (by decide) (by decide)
        have n384 := q2 384 (by decide) (by decide)
        have n416 := q2 416 (by decide) (by decide)
        have n352 := q2 352 (by decide) (by decide)
        have n232 : S2 232 0 = S 232 0 := by rw [q2 232 (by decide) (by decide)]
        have n480 : S2 480 = fu (S 480) m 1 := by rw [hS2, upS_fu, q1 480 (by decide)]
        have g480 : S 480 m = 0 := by omega
        refine r_aload_n C dX8_cancel_63 lg_0 ?_
        refine r_aload_n C dX8_cancel_64 lg_0 ?_
        refine r_aload_n C dX8_cancel_65 lg_0 ?_
        refine r_getA C 226 12 dX8_cancel_66 fg_X8_16_7 rfl rfl M.1 (fun g66 => ?_)
        refine r_iload_n C dX8_cancel_69 lg_1 ?_
        refine r_iald C (N := 60) 384 dX8_cancel_70 (by decide) rfl rfl (M.g (j := 2) (by decide)) (by omega) (by omega) (by omega) (fun g70 => ?_)
        refine q_V1Z C (cM_isValid hfl M g70 (by omega) (by omega) (fun x x0 x1 => by rw [n416]; exact hqt x x0 (by omega))) dX8_cancel_71 lk_X8_94 M.1 ⟨Nat.le_of_ble_eq_true rfl, Nat.le_of_ble_eq_true rfl⟩ (catLe (Nat.le_of_ble_eq_true rfl)) ⟨rfl, rfl⟩ rfl (Nat.le_of_ble_eq_true rfl) (Nat.le_of_ble_eq_true rfl) (fun z71 S71 A71 i71 p71 => ?_)
        obtain ⟨rfl, rfl, hF71, hL71⟩ := p71
        have M : RM S71 A := M.of hF71 (by decide)
        refine rb_ifeq C (tgt := 81) dX8_cancel_74 (by decide) (fun c74 => ?_) (fun c74 => ?_)
        · refine r_iconst C dX8_cancel_81 ?_
          refine q_V1Z C (cM_goes hfl (by assumption) (by omega)) dX8_cancel_82 lk_X8_112 M.1 ⟨Nat.le_of_ble_eq_true rfl, Nat.le_of_ble_eq_true rfl⟩ (catLe (Nat.le_of_ble_eq_true rfl)) ⟨rfl, rfl⟩ rfl (Nat.le_of_ble_eq_true rfl) (Nat.le_of_ble_eq_true rfl) (fun z82 S82 A82 i82 p82 => ?_)
          obtain ⟨rfl, rfl, rfl⟩ := p82
          refine r_gS (fun S3 hS3 => ?_)
          have M : RM S3 A := by rw [hS3]; exact M.up (by decide)
          have n3 : S3 249 0 = S3 249 0 := rfl
          have hF3 : Fr [249, 480, 672, 236] S S3 := by rw [hS3]; exact ((((hS1 ▸ Fr.up (by decide) : Fr [249, 480, 672, 236] S S1).tr (hS2 ▸ Fr.up (by decide)))).tr (hF71.sub (by decide))).tr (Fr.up (by decide))
          have e480 : S3 480 = fu (S 480) m 1 := by rw [hS3, upS_fn _ _ _ (by decide), hF71.fn (by decide), n480]
          have e236 : S3 236 0 = (led (S 352) (fu (S 480) m 1) (S 232 0).toNat).length := by rw [hS3, upS_c _ _ (by decide), hL71.1, n352, n480, n232]
          have hlen := led_len (S 352) (fu (S 480) m 1) (S 232 0).toNat
          refine rb_ifne C (tgt := 97) dX8_cancel_85 (by decide) (fun c85 => ?_) (fun c85 => ?_)
          · refine r_aload_n C dX8_cancel_97 lg_0 ?_
            refine r_getI C 236 dX8_cancel_98 fg_X8_80_7 rfl rfl M.1 (fun g98 => ?_)
            exact f_I F dX8_cancel_101 (by omega) (by first | (exfalso; omega) | exact ⟨rfl, Or.inr (Or.inl ⟨e9, by unfold cOk; rw [n320, n384, n416, n352, n480, n232] at c74; exact c74, e236, by rw [hS3, upS_self], e480, hF3⟩)⟩) (Nat.le_of_ble_eq_true rfl) (Nat.le_of_ble_eq_true rfl)
          · refine r_aload_n C dX8_cancel_88 lg_0 ?_
            refine r_getA C 229 15 dX8_cancel_89 fg_X8_25_7 rfl rfl M.1 (fun g89 => ?_)
            refine r_iload_n C dX8_cancel_92 lg_1 ?_
            refine r_iconst C dX8_cancel_93 ?_
            refine r_zast C (N := 60) 480 dX8_cancel_94 (by decide) rfl rfl (M.g (j := 5) (by decide)) (by omega) (by omega) (by omega) (by omega) ?_
            refine r_gS (fun S4 hS4 => ?_)
            refine r_iconst C dX8_cancel_95 ?_
            exact f_I F dX8_cancel_96 (by omega) (by first | (exfalso; omega) | exact ⟨rfl, Or.inr (Or.inr ⟨e9, fun h => c74 (by unfold cOk at h; rw [n320, n384, n416, n352, n480, n232]; exact h), rfl, by rw [hS4, upS_c _ _ (by decide), hS3, upS_self], by rw [hS4, upS_fu, e480, fu_fu, fu_id g480], by rw [hS4]; exact hF3.tr (Fr.up (by decide))⟩)⟩) (Nat.le_of_ble_eq_true rfl) (Nat.le_of_ble_eq_true rfl)
        · refine r_iconst C dX8_cancel_77 ?_
          refine r_goto C (tgt := 82) dX8_cancel_78 (by decide) ?_
          refine q_V1Z C (cM_goes hfl (by assumption) (by omega)) dX8_cancel_82 lk_X8_112 M.1 ⟨Nat.le_of_ble_eq_true rfl, Nat.le_of_ble_eq_true rfl⟩ (catLe (Nat.le_of_ble_eq_true rfl)) ⟨rfl, rfl⟩ rfl (Nat.le_of_ble_eq_true rfl) (Nat.le_of_ble_eq_true rfl) (fun z82 S82 A82 i82 p82 => ?_)
          obtain ⟨rfl, rfl, rfl⟩ := p82
          refine r_gS (fun S3 hS3 => ?_)
          have M : RM S3 A := by rw [hS3]; exact M.up (by decide)
          have n3 : S3 249 0 = S3 249 0 := rfl
          have hF3 : Fr [249, 480, 672, 236] S S3 := by rw [hS3]; exact ((((hS1 ▸ Fr.up (by decide) : Fr [249, 480, 672, 236] S S1).tr (hS2 ▸ Fr.up (by decide)))).tr (hF71.sub (by decide))).tr (Fr.up (by decide))
          have e480 : S3 480 = fu (S 480) m 1 := by rw [hS3, upS_fn _ _ _ (by decide), hF71.fn (by decide), n480]
          have e236 : S3 236 0 = (led (S 352) (fu (S 480) m 1) (S 232 0).toNat).length := by rw [hS3, upS_c _ _ (by decide), hL71.1, n352, n480, n232]
          have hlen := led_len (S 352) (fu (S 480) m 1) (S 232 0).toNat
          refine rb_ifne C (tgt := 97) dX8_cancel_85 (by decide) (fun c85 => ?_) (fun c85 => ?_)
          · refine r_aload_n C dX8_cancel_97 lg_0 ?_
            refine r_getI C 236 dX8_cancel_98 fg_X8_80_7 rfl rfl M.1 (fun g98 => ?_)
            exact f_I F dX8_cancel_101 (by omega) (by first | (exfalso; omega) | exact ⟨rfl, Or.inr (Or.inl ⟨e9, by unfold cOk; rw [n320, n384, n416, n352, n480, n232] at c74; exact c74, e236, by rw [hS3, upS_self], e480, hF3⟩)⟩) (Nat.le_of_ble_eq_true rfl) (Nat.le_of_ble_eq_true rfl)
          · refine r_aload_n C dX8_cancel_88 lg_0 ?_
            refine r_getA C 229 15 dX8_cancel_89 fg_X8_25_7 rfl rfl M.1 (fun g89 => ?_)
            refine r_iload_n C dX8_cancel_92 lg_1 ?_
            refine r_iconst C dX8_cancel_93 ?_
            refine r_zast C (N := 60) 480 dX8_cancel_94 (by decide) rfl rfl (M.g (j := 5) (by decide)) (by omega) (by omega) (by omega) (by omega) ?_
            refine r_gS (fun S4 hS4 => ?_)
            refine r_iconst C dX8_cancel_95 ?_
            exact f_I F dX8_cancel_96 (by omega) (by first | (exfalso; omega) | exact ⟨rfl, Or.inr (Or.inr ⟨e9, fun h => c74 (by unfold cOk at h; rw [n320, n384, n416, n352, n480, n232]; exact h), rfl, by rw [hS4, upS_c _ _ (by decide), hS3, upS_self], by rw [hS4, upS_fu, e480, fu_fu, fu_id g480], by rw [hS4]; exact hF3.tr (Fr.up (by decide))⟩)⟩) (Nat.le_of_ble_eq_true rfl) (Nat.le_of_ble_eq_true rfl)
      · refine r_iconst C dX8_cancel_54 ?_
        exact f_I F dX8_cancel_55 (by omega) (by
          first
          | (exfalso; omega)
          | (have e9 : cnW S m = 1 := by
               unfold cnW cI
               repeat' split
               all_goals (first | omega | contradiction)
             exact ⟨rfl, Or.inl ⟨by omega, rfl, by rw [hS1, e9]⟩⟩)
          | (have e9 : cnW S m = 2 := by
               unfold cnW cI
               repeat' split
               all_goals (first | omega | contradiction)
             exact ⟨rfl, Or.inl ⟨by omega, rfl, by rw [hS1, e9]⟩⟩)) (Nat.le_of_ble_eq_true rfl) (Nat.le_of_ble_eq_true rfl)
    · refine r_aload_n C dX8_cancel_22 lg_0 ?_
      refine r_getA C 225 11 dX8_cancel_23 fg_X8_13_7 rfl rfl M.1 (fun g23 => ?_)
      refine r_iload_n C dX8_cancel_26 lg_1 ?_
      refine r_iald C (N := 60) 352 dX8_cancel_27 (by decide) rfl rfl (M.g (j := 1) (by decide)) (by omega) (by omega) (by omega) (fun g27 => ?_)
      refine r_aload_n C dX8_cancel_28 lg_0 ?_
      refine r_getI C 233 dX8_cancel_29 fg_X8_36_7 rfl rfl M.1 (fun g29 => ?_)
      refine r_icle C (tgt := 43) dX8_cancel_32 (by decide) (by omega) (by omega) (fun c32 => ?_) (fun c32 => ?_)
      · refine r_iconst C dX8_cancel_43 ?_
        refine r_goto C (tgt := 48) dX8_cancel_44 (by decide) ?_
        refine q_V1Z C (cM_goes hfl (by assumption) (by omega)) dX8_cancel_48 lk_X8_112 M.1 ⟨Nat.le_of_ble_eq_true rfl, Nat.le_of_ble_eq_true rfl⟩ (catLe (Nat.le_of_ble_eq_true rfl)) ⟨rfl, rfl⟩ rfl (Nat.le_of_ble_eq_true rfl) (Nat.le_of_ble_eq_true rfl) (fun z48 S48 A48 i48 p48 => ?_)
        obtain ⟨rfl, rfl, rfl⟩ := p48
        refine r_gS (fun S1 hS1 => ?_)
        have M : RM S1 A := by rw [hS1]; exact M0.up (by decide)
        refine rb_ifne C (tgt := 56) dX8_cancel_51 (by decide) (fun c51 => ?_) (fun c51 => ?_)
        · have e9 : cnW S m = 0 := by
            unfold cnW cI
            repeat' split
            all_goals (first | omega | contradiction)
          have q1 : ∀ c, c ≠ 249 → S1 c = S c := fun c h => by rw [hS1]; exact upS_fn _ _ _ h
          refine r_aload_n C dX8_cancel_56 lg_0 ?_
          refine r_getA C 229 15 dX8_cancel_57 fg_X8_25_7 rfl rfl M.1 (fun g57 => ?_)
          refine r_iload_n C dX8_cancel_60 lg_1 ?_
          refine r_iconst C dX8_cancel_61 ?_
          refine r_zast C (N := 60) 480 dX8_cancel_62 (by decide) rfl rfl (M.g (j := 5) (by decide)) (by omega) (by omega) (by omega) (by omega) ?_
          refine r_gS (fun S2 hS2 => ?_)
          have M : RM S2 A := by rw [hS2]; exact M.up (by decide)
          have q2 : ∀ c, c ≠ 249 → c ≠ 480 → S2 c = S c := fun c h h' => by rw [hS2, upS_fn _ _ _ h']; exact q1 c h
          have n320 := q2 320 (by decide) (by decide)
          have n384 := q2 384 (by decide) (by decide)
          have n416 := q2 416 (by decide) (by decide)
          have n352 := q2 352 (by decide) (by decide)
          have n232 : S2 232 0 = S 232 0 := by rw [q2 232 (by decide) (by decide)]
          have n480 : S2 480 = fu (S 480) m 1 := by rw [hS2, upS_fu, q1 480 (by decide)]
          have g480 : S 480 m = 0 := by omega
          refine r_aload_n C dX8_cancel_63 lg_0 ?_
          refine r_aload_n C dX8_cancel_64 lg_0 ?_
          refine r_aload_n C dX8_cancel_65 lg_0 ?_
          refine r_getA C 226 12 dX8_cancel_66 fg_X8_16_7 rfl rfl M.1 (fun g66 => ?_)
          refine r_iload_n C dX8_cancel_69 lg_1 ?_
          refine r_iald C (N := 60) 384 dX8_cancel_70 (by decide) rfl rfl (M.g (j := 2) (by decide)) (by omega) (by omega) (by omega) (fun g70 => ?_)
          refine q_V1Z C (cM_isValid hfl M g70 (by omega) (by omega) (fun x x0 x1 => by rw [n416]; exact hqt x x0 (by omega))) dX8_cancel_71 lk_X8_94 M.1 ⟨Nat.le_of_ble_eq_true rfl, Nat.le_of_ble_eq_true rfl⟩ (catLe (Nat.le_of_ble_eq_true rfl)) ⟨rfl, rfl⟩ rfl (Nat.le_of_ble_eq_true rfl) (Nat.le_of_ble_eq_true rfl) (fun z71 S71 A71 i71 p71 => ?_)
          obtain ⟨rfl, rfl, hF71, hL71⟩ := p71
          have M : RM S71 A := M.of hF71 (by decide)
          refine rb_ifeq C (tgt := 81) dX8_cancel_74 (by decide) (fun c74 => ?_) (fun c74 => ?_)
          · refine r_iconst C dX8_cancel_81 ?_
            refine q_V1Z C (cM_goes hfl (by assumption) (by omega)) dX8_cancel_82 lk_X8_112 M.1 ⟨Nat.le_of_ble_eq_true rfl, Nat.le_of_ble_eq_true rfl⟩ (catLe (Nat.le_of_ble_eq_true rfl)) ⟨rfl, rfl⟩ rfl (Nat.le_of_ble_eq_true rfl) (Nat.le_of_ble_eq_true rfl) (fun z82 S82 A82 i82 p82 => ?_)
            obtain ⟨rfl, rfl, rfl⟩ := p82
            refine r_gS (fun S3 hS3 => ?_)
            have M : RM S3 A := by rw [hS3]; exact M.up (by decide)
            have n3 : S3 249 0 = S3 249 0 := rfl
            have hF3 : Fr [249, 480, 672, 236] S S3 := by rw [hS3]; exact ((((hS1 ▸ Fr.up (by decide) : Fr [249, 480, 672, 236] S S1).tr (hS2 ▸ Fr.up (by decide)))).tr (hF71.sub (by decide))).tr (Fr.up (by decide))
            have e480 : S3 480 = fu (S 480) m 1 := by rw [hS3, upS_fn _ _ _ (by decide), hF71.fn (by decide), n480]
            have e236 : S3 236 0 = (led (S 352) (fu (S 480) m 1) (S 232 0).toNat).length := by rw [hS3, upS_c _ _ (by decide), hL71.1, n352, n480, n232]
            have hlen := led_len (S 352) (fu (S 480) m 1) (S 232 0).toNat
            refine rb_ifne C (tgt := 97) dX8_cancel_85 (by decide) (fun c85 => ?_) (fun c85 => ?_)
            · refine r_aload_n C dX8_cancel_97 lg_0 ?_
              refine r_getI C 236 dX8_cancel_98 fg_X8_80_7 rfl rfl M.1 (fun g98 => ?_)
              exact f_I F dX8_cancel_101 (by omega) (by first | (exfalso; omega) | exact ⟨rfl, Or.inr (Or.inl ⟨e9, by unfold cOk; rw [n320, n384, n416, n352, n480, n232] at c74; exact c74, e236, by rw [hS3, upS_self], e480, hF3⟩)⟩) (Nat.le_of_ble_eq_true rfl) (Nat.le_of_ble_eq_true rfl)
            · refine r_aload_n C dX8_cancel_88 lg_0 ?_
              refine r_getA C 229 15 dX8_cancel_89 fg_X8_25_7 rfl rfl M.1 (fun g89 => ?_)
              refine r_iload_n C dX8_cancel_92 lg_1 ?_
              refine r_iconst C dX8_cancel_93 ?_
              refine r_zast C (N := 60) 480 dX8_cancel_94 (by decide) rfl rfl (M.g (j := 5) (by decide)) (by omega) (by omega) (by omega) (by omega) ?_
              refine r_gS (fun S4 hS4 => ?_)
              refine r_iconst C dX8_cancel_95 ?_
              exact f_I F dX8_cancel_96 (by omega) (by first | (exfalso; omega) | exact ⟨rfl, Or.inr (Or.inr ⟨e9, fun h => c74 (by unfold cOk at h; rw [n320, n384, n416, n352, n480, n232]; exact h), rfl, by rw [hS4, upS_c _ _ (by decide), hS3, upS_self], by rw [hS4, upS_fu, e480, fu_fu, fu_id g480], by rw [hS4]; exact hF3.tr (Fr.up (by decide))⟩)⟩) (Nat.le_of_ble_eq_true rfl) (Nat.le_of_ble_eq_true rfl)
          · refine r_iconst C dX8_cancel_77 ?_
            refine r_goto C (tgt := 82) dX8_cancel_78 (by decide) ?_
            refine q_V1Z C (cM_goes hfl (by assumption) (by omega)) dX8_cancel_82 lk_X8_112 M.1 ⟨Nat.le_of_ble_eq_true rfl, Nat.le_of_ble_eq_true rfl⟩ (catLe (Nat.le_of_ble_eq_true rfl)) ⟨rfl, rfl⟩ rfl (Nat.le_of_ble_eq_true rfl) (Nat.le_of_ble_eq_true rfl) (fun z82 S82 A82 i82 p82 => ?_)
            obtain ⟨rfl, rfl, rfl⟩ := p82
            refine r_gS (fun S3 hS3 => ?_)
            have M : RM S3 A := by rw [hS3]; exact M.up (by decide)
            have n3 : S3 249 0 = S3 249 0 := rfl
            have hF3 : Fr [249, 480, 672, 236] S S3 := by rw [hS3]; exact ((((hS1 ▸ Fr.up (by decide) : Fr [249, 480, 672, 236] S S1).tr (hS2 ▸ Fr.up (by decide)))).tr (hF71.sub (by decide))).tr (Fr.up (by decide))
            have e480 : S3 480 = fu (S 480) m 1 := by rw [hS3, upS_fn _ _ _ (by decide), hF71.fn (by decide), n480]
            have e236 : S3 236 0 = (led (S 352) (fu (S 480) m 1) (S 232 0).toNat).length := by rw [hS3, upS_c _ _ (by decide), hL71.1, n352, n480, n232]
            have hlen := led_len (S 352) (fu (S 480) m 1) (S 232 0).toNat
            refine rb_ifne C (tgt := 97) dX8_cancel_85 (by decide) (fun c85 => ?_) (fun c85 => ?_)
            · refine r_aload_n C dX8_cancel_97 lg_0 ?_
              refine r_getI C 236 dX8_cancel_98 fg_X8_80_7 rfl rfl M.1 (fun g98 => ?_)
              exact f_I F dX8_cancel_101 (by omega) (by first | (exfalso; omega) | exact ⟨rfl, Or.inr (Or.inl ⟨e9, by unfold cOk; rw [n320, n384, n416, n352, n480, n232] at c74; exact c74, e236, by rw [hS3, upS_self], e480, hF3⟩)⟩) (Nat.le_of_ble_eq_true rfl) (Nat.le_of_ble_eq_true rfl)
            · refine r_aload_n C dX8_cancel_88 lg_0 ?_
              refine r_getA C 229 15 dX8_cancel_89 fg_X8_25_7 rfl rfl M.1 (fun g89 => ?_)
              refine r_iload_n C dX8_cancel_92 lg_1 ?_
              refine r_iconst C dX8_cancel_93 ?_
              refine r_zast C (N := 60) 480 dX8_cancel_94 (by decide) rfl rfl (M.g (j := 5) (by decide)) (by omega) (by omega) (by omega) (by omega) ?_
              refine r_gS (fun S4 hS4 => ?_)
              refine r_iconst C dX8_cancel_95 ?_
              exact f_I F dX8_cancel_96 (by omega) (by first | (exfalso; omega) | exact ⟨rfl, Or.inr (Or.inr ⟨e9, fun h => c74 (by unfold cOk at h; rw [n320, n384, n416, n352, n480, n232]; exact h), rfl, by rw [hS4, upS_c _ _ (by decide), hS3, upS_self], by rw [hS4, upS_fu, e480, fu_fu, fu_id g480], by rw [hS4]; exact hF3.tr (Fr.up (by decide))⟩)⟩) (Nat.le_of_ble_eq_true rfl) (Nat.le_of_ble_eq_true rfl)
        · refine r_iconst C dX8_cancel_54 ?_
          exact f_I F dX8_cancel_55 (by omega) (by
            first
            | (exfalso; omega)
            | (have e9 : cnW S m = 1 := by
                 unfold cnW cI
                 repeat' split
                 all_goals (first | omega | contradiction)
               exact ⟨rfl, Or.inl ⟨by omega, rfl, by rw [hS1, e9]⟩⟩)
            | (have e9 : cnW S m = 2 := by
                 unfold cnW cI
                 repeat' split
                 all_goals (first | omega | contradiction)
               exact ⟨rfl, Or.inl ⟨by omega, rfl, by rw [hS1, e9]⟩⟩)) (Nat.le_of_ble_eq_true rfl) (Nat.le_of_ble_eq_true rfl)
      · refine r_aload_n C dX8_cancel_35 lg_0 ?_
        refine r_iload_n C dX8_cancel_36 lg_1 ?_
        refine q_V1Z C (cM_isLanded hfl (by assumption) (by omega) (by omega) (by omega)) dX8_cancel_37 lk_X8_158 M.1 ⟨Nat.le_of_ble_eq_true rfl, Nat.le_of_ble_eq_true rfl⟩ (catLe (Nat.le_of_ble_eq_true rfl)) ⟨rfl, rfl⟩ rfl (Nat.le_of_ble_eq_true rfl) (Nat.le_of_ble_eq_true rfl) (fun z37 S37 A37 i37 p37 => ?_)
        obtain ⟨rfl, rfl, rfl⟩ := p37
        refine rb_ifeq C (tgt := 47) dX8_cancel_40 (by decide) (fun c40 => ?_) (fun c40 => ?_)
        · refine r_iconst C dX8_cancel_47 ?_
          refine q_V1Z C (cM_goes hfl (by assumption) (by omega)) dX8_cancel_48 lk_X8_112 M.1 ⟨Nat.le_of_ble_eq_true rfl, Nat.le_of_ble_eq_true rfl⟩ (catLe (Nat.le_of_ble_eq_true rfl)) ⟨rfl, rfl⟩ rfl (Nat.le_of_ble_eq_true rfl) (Nat.le_of_ble_eq_true rfl) (fun z48 S48 A48 i48 p48 => ?_)
          obtain ⟨rfl, rfl, rfl⟩ := p48
          refine r_gS (fun S1 hS1 => ?_)
          have M : RM S1 A := by rw [hS1]; exact M0.up (by decide)
          refine rb_ifne C (tgt := 56) dX8_cancel_51 (by decide) (fun c51 => ?_) (fun c51 => ?_)
          · have e9 : cnW S m = 0 := by
              unfold cnW cI
              repeat' split
              all_goals (first | omega | contradiction)
            have q1 : ∀ c, c ≠ 249 → S1 c = S c := fun c h => by rw [hS1]; exact upS_fn _ _ _ h
            refine r_aload_n C dX8_cancel_56 lg_0 ?_
            refine r_getA C 229 15 dX8_cancel_57 fg_X8_25_7 rfl rfl M.1 (fun g57 => ?_)
            refine r_iload_n C dX8_cancel_60 lg_1 ?_
            refine r_iconst C dX8_cancel_61 ?_
            refine r_zast C (N := 60) 480 dX8_cancel_62 (by decide) rfl rfl (M.g (j := 5) (by decide)) (by omega) (by omega) (by omega) (by omega) ?_
            refine r_gS (fun S2 hS2 => ?_)
            have M : RM S2 A := by rw [hS2]; exact M.up (by decide)
            have q2 : ∀ c, c ≠ 249 → c ≠ 480 → S2 c = S c := fun c h h' => by rw [hS2, upS_fn _ _ _ h']; exact q1 c h
            have n320 := q2 320 (by decide) (by decide)
            have n384 := q2 384 (by decide) (by decide)
            have n416 := q2 416 (by decide) (by decide)
            have n352 := q2 352 (by decide) (by decide)
            have n232 : S2 232 0 = S 232 0 := by rw [q2 232 (by decide) (by decide)]
            have n480 : S2 480 = fu (S 480) m 1 := by rw [hS2, upS_fu, q1 480 (by decide)]
            have g480 : S 480 m = 0 := by omega
            refine r_aload_n C dX8_cancel_63 lg_0 ?_
            refine r_aload_n C dX8_cancel_64 lg_0 ?_
            refine r_aload_n C dX8_cancel_65 lg_0 ?_
            refine r_getA C 226 12 dX8_cancel_66 fg_X8_16_7 rfl rfl M.1 (fun g66 => ?_)
            refine r_iload_n C dX8_cancel_69 lg_1 ?_
            refine r_iald C (N := 60) 384 dX8_cancel_70 (by decide) rfl rfl (M.g (j := 2) (by decide)) (by omega) (by omega) (by omega) (fun g70 => ?_)
            refine q_V1Z C (cM_isValid hfl M g70 (by omega) (by omega) (fun x x0 x1 => by rw [n416]; exact hqt x x0 (by omega))) dX8_cancel_71 lk_X8_94 M.1 ⟨Nat.le_of_ble_eq_true rfl, Nat.le_of_ble_eq_true rfl⟩ (catLe (Nat.le_of_ble_eq_true rfl)) ⟨rfl, rfl⟩ rfl (Nat.le_of_ble_eq_true rfl) (Nat.le_of_ble_eq_true rfl) (fun z71 S71 A71 i71 p71 => ?_)
            obtain ⟨rfl, rfl, hF71, hL71⟩ := p71
            have M : RM S71 A := M.of hF71 (by decide)
            refine rb_ifeq C (tgt := 81) dX8_cancel_74 (by decide) (fun c74 => ?_) (fun c74 => ?_)
            · refine r_iconst C dX8_cancel_81 ?_
              refine q_V1Z C (cM_goes hfl (by assumption) (by omega)) dX8_cancel_82 lk_X8_112 M.1 ⟨Nat.le_of_ble_eq_true rfl, Nat.le_of_ble_eq_true rfl⟩ (catLe (Nat.le_of_ble_eq_true rfl)) ⟨rfl, rfl⟩ rfl (Nat.le_of_ble_eq_true rfl) (Nat.le_of_ble_eq_true rfl) (fun z82 S82 A82 i82 p82 => ?_)
              obtain ⟨rfl, rfl, rfl⟩ := p82
              refine r_gS (fun S3 hS3 => ?_)
              have M : RM S3 A := by rw [hS3]; exact M.up (by decide)
              have n3 : S3 249 0 = S3 249 0 := rfl
              have hF3 : Fr [249, 480, 672, 236] S S3 := by rw [hS3]; exact ((((hS1 ▸ Fr.up (by decide) : Fr [249, 480, 672, 236] S S1).tr (hS2 ▸ Fr.up (by decide)))).tr (hF71.sub (by decide))).tr (Fr.up (by decide))
              have e480 : S3 480 = fu (S 480) m 1 := by rw [hS3, upS_fn _ _ _ (by decide), hF71.fn (by decide), n480]
              have e236 : S3 236 0 = (led (S 352) (fu (S 480) m 1) (S 232 0).toNat).length := by rw [hS3, upS_c _ _ (by decide), hL71.1, n352, n480, n232]
              have hlen := led_len (S 352) (fu (S 480) m 1) (S 232 0).toNat
              refine rb_ifne C (tgt := 97) dX8_cancel_85 (by decide) (fun c85 => ?_) (fun c85 => ?_)
              · refine r_aload_n C dX8_cancel_97 lg_0 ?_
                refine r_getI C 236 dX8_cancel_98 fg_X8_80_7 rfl rfl M.1 (fun g98 => ?_)
                exact f_I F dX8_cancel_101 (by omega) (by first | (exfalso; omega) | exact ⟨rfl, Or.inr (Or.inl ⟨e9, by unfold cOk; rw [n320, n384, n416, n352, n480, n232] at c74; exact c74, e236, by rw [hS3, upS_self], e480, hF3⟩)⟩) (Nat.le_of_ble_eq_true rfl) (Nat.le_of_ble_eq_true rfl)
              · refine r_aload_n C dX8_cancel_88 lg_0 ?_
                refine r_getA C 229 15 dX8_cancel_89 fg_X8_25_7 rfl rfl M.1 (fun g89 => ?_)
                refine r_iload_n C dX8_cancel_92 lg_1 ?_
                refine r_iconst C dX8_cancel_93 ?_
                refine r_zast C (N := 60) 480 dX8_cancel_94 (by decide) rfl rfl (M.g (j := 5) (by decide)) (by omega) (by omega) (by omega) (by omega) ?_
                refine r_gS (fun S4 hS4 => ?_)
                refine r_iconst C dX8_cancel_95 ?_
                exact f_I F dX8_cancel_96 (by omega) (by first | (exfalso; omega) | exact ⟨rfl, Or.inr (Or.inr ⟨e9, fun h => c74 (by unfold cOk at h; rw [n320, n384, n416, n352, n480, n232]; exact h), rfl, by rw [hS4, upS_c _ _ (by decide), hS3, upS_self], by rw [hS4, upS_fu, e480, fu_fu, fu_id g480], by rw [hS4]; exact hF3.tr (Fr.up (by decide))⟩)⟩) (Nat.le_of_ble_eq_true rfl) (Nat.le_of_ble_eq_true rfl)
            · refine r_iconst C dX8_cancel_77 ?_
              refine r_goto C (tgt := 82) dX8_cancel_78 (by decide) ?_
              refine q_V1Z C (cM_goes hfl (by assumption) (by omega)) dX8_cancel_82 lk_X8_112 M.1 ⟨Nat.le_of_ble_eq_true rfl, Nat.le_of_ble_eq_true rfl⟩ (catLe (Nat.le_of_ble_eq_true rfl)) ⟨rfl, rfl⟩ rfl (Nat.le_of_ble_eq_true rfl) (Nat.le_of_ble_eq_true rfl) (fun z82 S82 A82 i82 p82 => ?_)
              obtain ⟨rfl, rfl, rfl⟩ := p82
              refine r_gS (fun S3 hS3 => ?_)
              have M : RM S3 A := by rw [hS3]; exact M.up (by decide)
              have n3 : S3 249 0 = S3 249 0 := rfl
              have hF3 : Fr [249, 480, 672, 236] S S3 := by rw [hS3]; exact ((((hS1 ▸ Fr.up (by decide) : Fr [249, 480, 672, 236] S S1).tr (hS2 ▸ Fr.up (by decide)))).tr (hF71.sub (by decide))).tr (Fr.up (by decide))
              have e480 : S3 480 = fu (S 480) m 1 := by rw [hS3, upS_fn _ _ _ (by decide), hF71.fn (by decide), n480]
              have e236 : S3 236 0 = (led (S 352) (fu (S 480) m 1) (S 232 0).toNat).length := by rw [hS3, upS_c _ _ (by decide), hL71.1, n352, n480, n232]
              have hlen := led_len (S 352) (fu (S 480) m 1) (S 232 0).toNat
              refine rb_ifne C (tgt := 97) dX8_cancel_85 (by decide) (fun c85 => ?_) (fun c85 => ?_)
              · refine r_aload_n C dX8_cancel_97 lg_0 ?_
                refine r_getI C 236 dX8_cancel_98 fg_X8_80_7 rfl rfl M.1 (fun g98 => ?_)
                exact f_I F dX8_cancel_101 (by omega) (by first | (exfalso; omega) | exact ⟨rfl, Or.inr (Or.inl ⟨e9, by unfold cOk; rw [n320, n384, n416, n352, n480, n232] at c74; exact c74, e236, by rw [hS3, upS_self], e480, hF3⟩)⟩) (Nat.le_of_ble_eq_true rfl) (Nat.le_of_ble_eq_true rfl)
              · refine r_aload_n C dX8_cancel_88 lg_0 ?_
                refine r_getA C 229 15 dX8_cancel_89 fg_X8_25_7 rfl rfl M.1 (fun g89 => ?_)
                refine r_iload_n C dX8_cancel_92 lg_1 ?_
                refine r_iconst C dX8_cancel_93 ?_
                refine r_zast C (N := 60) 480 dX8_cancel_94 (by decide) rfl rfl (M.g (j := 5) (by decide)) (by omega) (by omega) (by omega) (by omega) ?_
                refine r_gS (fun S4 hS4 => ?_)
                refine r_iconst C dX8_cancel_95 ?_
                exact f_I F dX8_cancel_96 (by omega) (by first | (exfalso; omega) | exact ⟨rfl, Or.inr (Or.inr ⟨e9, fun h => c74 (by unfold cOk at h; rw [n320, n384, n416, n352, n480, n232]; exact h), rfl, by rw [hS4, upS_c _ _ (by decide), hS3, upS_self], by rw [hS4, upS_fu, e480, fu_fu, fu_id g480], by rw [hS4]; exact hF3.tr (Fr.up (by decide))⟩)⟩) (Nat.le_of_ble_eq_true rfl) (Nat.le_of_ble_eq_true rfl)
          · refine r_iconst C dX8_cancel_54 ?_
            exact f_I F dX8_cancel_55 (by omega) (by
              first
              | (exfalso; omega)
              | (have e9 : cnW S m = 1 := by
                   unfold cnW cI
                   repeat' split
                   all_goals (first | omega | contradiction)
                 exact ⟨rfl, Or.inl ⟨by omega, rfl, by rw [hS1, e9]⟩⟩)
              | (have e9 : cnW S m = 2 := by
                   unfold cnW cI
                   repeat' split
                   all_goals (first | omega | contradiction)
                 exact ⟨rfl, Or.inl ⟨by omega, rfl, by rw [hS1, e9]⟩⟩)) (Nat.le_of_ble_eq_true rfl) (Nat.le_of_ble_eq_true rfl)
        · refine r_iconst C dX8_cancel_43 ?_
          refine r_goto C (tgt := 48) dX8_cancel_44 (by decide) ?_
          refine q_V1Z C (cM_goes hfl (by assumption) (by omega)) dX8_cancel_48 lk_X8_112 M.1 ⟨Nat.le_of_ble_eq_true rfl, Nat.le_of_ble_eq_true rfl⟩ (catLe (Nat.le_of_ble_eq_true rfl)) ⟨rfl, rfl⟩ rfl (Nat.le_of_ble_eq_true rfl) (Nat.le_of_ble_eq_true rfl) (fun z48 S48 A48 i48 p48 => ?_)
          obtain ⟨rfl, rfl, rfl⟩ := p48
          refine r_gS (fun S1 hS1 => ?_)
          have M : RM S1 A := by rw [hS1]; exact M0.up (by decide)
          refine rb_ifne C (tgt := 56) dX8_cancel_51 (by decide) (fun c51 => ?_) (fun c51 => ?_)
          · have e9 : cnW S m = 0 := by
              unfold cnW cI
              repeat' split
              all_goals (first | omega | contradiction)
            have q1 : ∀ c, c ≠ 249 → S1 c = S c := fun c h => by rw [hS1]; exact upS_fn _ _ _ h
            refine r_aload_n C dX8_cancel_56 lg_0 ?_
            refine r_getA C 229 15 dX8_cancel_57 fg_X8_25_7 rfl rfl M.1 (fun g57 => ?_)
            refine r_iload_n C dX8_cancel_60 lg_1 ?_
            refine r_iconst C dX8_cancel_61 ?_
            refine r_zast C (N := 60) 480 dX8_cancel_62 (by decide) rfl rfl (M.g (j := 5) (by decide)) (by omega) (by omega) (by omega) (by omega) ?_
            refine r_gS (fun S2 hS2 => ?_)
            have M : RM S2 A := by rw [hS2]; exact M.up (by decide)
            have q2 : ∀ c, c ≠ 249 → c ≠ 480 → S2 c = S c := fun c h h' => by rw [hS2, upS_fn _ _ _ h']; exact q1 c h
            have n320 := q2 320 (by decide) (by decide)
            have n384 := q2 384 (by decide) (by decide)
            have n416 := q2 416 (by decide) (by decide)
            have n352 := q2 352 (by decide) (by decide)
            have n232 : S2 232 0 = S 232 0 := by rw [q2 232 (by decide) (by decide)]
            have n480 : S2 480 = fu (S 480) m 1 := by rw [hS2, upS_fu, q1 480 (by decide)]
            have g480 : S 480 m = 0 := by omega
            refine r_aload_n C dX8_cancel_63 lg_0 ?_
            refine r_aload_n C dX8_cancel_64 lg_0 ?_
            refine r_aload_n C dX8_cancel_65 lg_0 ?_
            refine r_getA C 226 12 dX8_cancel_66 fg_X8_16_7 rfl rfl M.1 (fun g66 => ?_)
            refine r_iload_n C dX8_cancel_69 lg_1 ?_
            refine r_iald C (N := 60) 384 dX8_cancel_70 (by decide) rfl rfl (M.g (j := 2) (by decide)) (by omega) (by omega) (by omega) (fun g70 => ?_)
            refine q_V1Z C (cM_isValid hfl M g70 (by omega) (by omega) (fun x x0 x1 => by rw [n416]; exact hqt x x0 (by omega))) dX8_cancel_71 lk_X8_94 M.1 ⟨Nat.le_of_ble_eq_true rfl, Nat.le_of_ble_eq_true rfl⟩ (catLe (Nat.le_of_ble_eq_true rfl)) ⟨rfl, rfl⟩ rfl (Nat.le_of_ble_eq_true rfl) (Nat.le_of_ble_eq_true rfl) (fun z71 S71 A71 i71 p71 => ?_)
            obtain ⟨rfl, rfl, hF71, hL71⟩ := p71
            have M : RM S71 A := M.of hF71 (by decide)
            refine rb_ifeq C (tgt := 81) dX8_cancel_74 (by decide) (fun c74 => ?_) (fun c74 => ?_)
            · refine r_iconst C dX8_cancel_81 ?_
              refine q_V1Z C (cM_goes hfl (by assumption) (by omega)) dX8_cancel_82 lk_X8_112 M.1 ⟨Nat.le_of_ble_eq_true rfl, Nat.le_of_ble_eq_true rfl⟩ (catLe (Nat.le_of_ble_eq_true rfl)) ⟨rfl, rfl⟩ rfl (Nat.le_of_ble_eq_true rfl) (Nat.le_of_ble_eq_true rfl) (fun z82 S82 A82 i82 p82 => ?_)
              obtain ⟨rfl, rfl, rfl⟩ := p82
              refine r_gS (fun S3 hS3 => ?_)
              have M : RM S3 A := by rw [hS3]; exact M.up (by decide)
              have n3 : S3 249 0 = S3 249 0 := rfl
              have hF3 : Fr [249, 480, 672, 236] S S3 := by rw [hS3]; exact ((((hS1 ▸ Fr.up (by decide) : Fr [249, 480, 672, 236] S S1).tr (hS2 ▸ Fr.up (by decide)))).tr (hF71.sub (by decide))).tr (Fr.up (by decide))
              have e480 : S3 480 = fu (S 480) m 1 := by rw [hS3, upS_fn _ _ _ (by decide), hF71.fn (by decide), n480]
              have e236 : S3 236 0 = (led (S 352) (fu (S 480) m 1) (S 232 0).toNat).length := by rw [hS3, upS_c _ _ (by decide), hL71.1, n352, n480, n232]
              have hlen := led_len (S 352) (fu (S 480) m 1) (S 232 0).toNat
              refine rb_ifne C (tgt := 97) dX8_cancel_85 (by decide) (fun c85 => ?_) (fun c85 => ?_)
              · refine r_aload_n C dX8_cancel_97 lg_0 ?_
                refine r_getI C 236 dX8_cancel_98 fg_X8_80_7 rfl rfl M.1 (fun g98 => ?_)
                exact f_I F dX8_cancel_101 (by omega) (by first | (exfalso; omega) | exact ⟨rfl, Or.inr (Or.inl ⟨e9, by unfold cOk; rw [n320, n384, n416, n352, n480, n232] at c74; exact c74, e236, by rw [hS3, upS_self], e480, hF3⟩)⟩) (Nat.le_of_ble_eq_true rfl) (Nat.le_of_ble_eq_true rfl)
              · refine r_aload_n C dX8_cancel_88 lg_0 ?_
                refine r_getA C 229 15 dX8_cancel_89 fg_X8_25_7 rfl rfl M.1 (fun g89 => ?_)
                refine r_iload_n C dX8_cancel_92 lg_1 ?_
                refine r_iconst C dX8_cancel_93 ?_
                refine r_zast C (N := 60) 480 dX8_cancel_94 (by decide) rfl rfl (M.g (j := 5) (by decide)) (by omega) (by omega) (by omega) (by omega) ?_
                refine r_gS (fun S4 hS4 => ?_)
                refine r_iconst C dX8_cancel_95 ?_
                exact f_I F dX8_cancel_96 (by omega) (by first | (exfalso; omega) | exact ⟨rfl, Or.inr (Or.inr ⟨e9, fun h => c74 (by unfold cOk at h; rw [n320, n384, n416, n352, n480, n232]; exact h), rfl, by rw [hS4, upS_c _ _ (by decide), hS3, upS_self], by rw [hS4, upS_fu, e480, fu_fu, fu_id g480], by rw [hS4]; exact hF3.tr (Fr.up (by decide))⟩)⟩) (Nat.le_of_ble_eq_true rfl) (Nat.le_of_ble_eq_true rfl)
            · refine r_iconst C dX8_cancel_77 ?_
              refine r_goto C (tgt := 82) dX8_cancel_78 (by decide) ?_
              refine q_V1Z C (cM_goes hfl (by assumption) (by omega)) dX8_cancel_82 lk_X8_112 M.1 ⟨Nat.le_of_ble_eq_true rfl, Nat.le_of_ble_eq_true rfl⟩ (catLe (Nat.le_of_ble_eq_true rfl)) ⟨rfl, rfl⟩ rfl (Nat.le_of_ble_eq_true rfl) (Nat.le_of_ble_eq_true rfl) (fun z82 S82 A82 i82 p82 => ?_)
              obtain ⟨rfl, rfl, rfl⟩ := p82
              refine r_gS (fun S3 hS3 => ?_)
              have M : RM S3 A := by rw [hS3]; exact M.up (by decide)
              have n3 : S3 249 0 = S3 249 0 := rfl
              have hF3 : Fr [249, 480, 672, 236] S S3 := by rw [hS3]; exact ((((hS1 ▸ Fr.up (by decide) : Fr [249, 480, 672, 236] S S1).tr (hS2 ▸ Fr.up (by decide)))).tr (hF71.sub (by decide))).tr (Fr.up (by decide))
              have e480 : S3 480 = fu (S 480) m 1 := by rw [hS3, upS_fn _ _ _ (by decide), hF71.fn (by decide), n480]
              have e236 : S3 236 0 = (led (S 352) (fu (S 480) m 1) (S 232 0).toNat).length := by rw [hS3, upS_c _ _ (by decide), hL71.1, n352, n480, n232]
              have hlen := led_len (S 352) (fu (S 480) m 1) (S 232 0).toNat
              refine rb_ifne C (tgt := 97) dX8_cancel_85 (by decide) (fun c85 => ?_) (fun c85 => ?_)
              · refine r_aload_n C dX8_cancel_97 lg_0 ?_
                refine r_getI C 236 dX8_cancel_98 fg_X8_80_7 rfl rfl M.1 (fun g98 => ?_)
                exact f_I F dX8_cancel_101 (by omega) (by first | (exfalso; omega) | exact ⟨rfl, Or.inr (Or.inl ⟨e9, by unfold cOk; rw [n320, n384, n416, n352, n480, n232] at c74; exact c74, e236, by rw [hS3, upS_self], e480, hF3⟩)⟩) (Nat.le_of_ble_eq_true rfl) (Nat.le_of_ble_eq_true rfl)
              · refine r_aload_n C dX8_cancel_88 lg_0 ?_
                refine r_getA C 229 15 dX8_cancel_89 fg_X8_25_7 rfl rfl M.1 (fun g89 => ?_)
                refine r_iload_n C dX8_cancel_92 lg_1 ?_
                refine r_iconst C dX8_cancel_93 ?_
                refine r_zast C (N := 60) 480 dX8_cancel_94 (by decide) rfl rfl (M.g (j := 5) (by decide)) (by omega) (by omega) (by omega) (by omega) ?_
                refine r_gS (fun S4 hS4 => ?_)
                refine r_iconst C dX8_cancel_95 ?_
                exact f_I F dX8_cancel_96 (by omega) (by first | (exfalso; omega) | exact ⟨rfl, Or.inr (Or.inr ⟨e9, fun h => c74 (by unfold cOk at h; rw [n320, n384, n416, n352, n480, n232]; exact h), rfl, by rw [hS4, upS_c _ _ (by decide), hS3, upS_self], by rw [hS4, upS_fu, e480, fu_fu, fu_id g480], by rw [hS4]; exact hF3.tr (Fr.up (by decide))⟩)⟩) (Nat.le_of_ble_eq_true rfl) (Nat.le_of_ble_eq_true rfl)
          · refine r_iconst C dX8_cancel_54 ?_
            exact f_I F dX8_cancel_55 (by omega) (by
              first
              | (exfalso; omega)
              | (have e9 : cnW S m = 1 := by
                   unfold cnW cI
                   repeat' split
                   all_goals (first | omega | contradiction)
                 exact ⟨rfl, Or.inl ⟨by omega, rfl, by rw [hS1, e9]⟩⟩)
              | (have e9 : cnW S m = 2 := by
                   unfold cnW cI
                   repeat' split
                   all_goals (first | omega | contradiction)
                 exact ⟨rfl, Or.inl ⟨by omega, rfl, by rw [hS1, e9]⟩⟩)) (Nat.le_of_ble_eq_true rfl) (Nat.le_of_ble_eq_true rfl)
  · refine r_iconst C dX8_cancel_9 ?_
    refine r_goto C (tgt := 48) dX8_cancel_10 (by decide) ?_
    refine q_V1Z C (cM_goes hfl (by assumption) (by omega)) dX8_cancel_48 lk_X8_112 M.1 ⟨Nat.le_of_ble_eq_true rfl, Nat.le_of_ble_eq_true rfl⟩ (catLe (Nat.le_of_ble_eq_true rfl)) ⟨rfl, rfl⟩ rfl (Nat.le_of_ble_eq_true rfl) (Nat.le_of_ble_eq_true rfl) (fun z48 S48 A48 i48 p48 => ?_)
    obtain ⟨rfl, rfl, rfl⟩ := p48
    refine r_gS (fun S1 hS1 => ?_)
    have M : RM S1 A := by rw [hS1]; exact M0.up (by decide)
    refine rb_ifne C (tgt := 56) dX8_cancel_51 (by decide) (fun c51 => ?_) (fun c51 => ?_)
    · have e9 : cnW S m = 0 := by
        unfold cnW cI
        repeat' split
        all_goals (first | omega | contradiction)
      have q1 : ∀ c, c ≠ 249 → S1 c = S c := fun c h => by rw [hS1]; exact upS_fn _ _ _ h
      refine r_aload_n C dX8_cancel_56 lg_0 ?_
      refine r_getA C 229 15 dX8_cancel_57 fg_X8_25_7 rfl rfl M.1 (fun g57 => ?_)
      refine r_iload_n C dX8_cancel_60 lg_1 ?_
      refine r_iconst C dX8_cancel_61 ?_
      refine r_zast C (N := 60) 480 dX8_cancel_62 (by decide) rfl rfl (M.g (j := 5) (by decide)) (by omega) (by omega) (by omega) (by omega) ?_
      refine r_gS (fun S2 hS2 => ?_)
      have M : RM S2 A := by rw [hS2]; exact M.up (by decide)
      have q2 : ∀ c, c ≠ 249 → c ≠ 480 → S2 c = S c := fun c h h' => by rw [hS2, upS_fn _ _ _ h']; exact q1 c h
      have n320 := q2 320 (by decide) (by decide)
      have n384 := q2 384 (by decide) (by decide)
      have n416 := q2 416 (by decide) (by decide)
      have n352 := q2 352 (by decide) (by decide)
      have n232 : S2 232 0 = S 232 0 := by rw [q2 232 (by decide) (by decide)]
      have n480 : S2 480 = fu (S 480) m 1 := by rw [hS2, upS_fu, q1 480 (by decide)]
      have g480 : S 480 m = 0 := by omega
      refine r_aload_n C dX8_cancel_63 lg_0 ?_
      refine r_aload_n C dX8_cancel_64 lg_0 ?_
      refine r_aload_n C dX8_cancel_65 lg_0 ?_
      refine r_getA C 226 12 dX8_cancel_66 fg_X8_16_7 rfl rfl M.1 (fun g66 => ?_)
      refine r_iload_n C dX8_cancel_69 lg_1 ?_
      refine r_iald C (N := 60) 384 dX8_cancel_70 (by decide) rfl rfl (M.g (j := 2) (by decide)) (by omega) (by omega) (by omega) (fun g70 => ?_)
      refine q_V1Z C (cM_isValid hfl M g70 (by omega) (by omega) (fun x x0 x1 => by rw [n416]; exact hqt x x0 (by omega))) dX8_cancel_71 lk_X8_94 M.1 ⟨Nat.le_of_ble_eq_true rfl, Nat.le_of_ble_eq_true rfl⟩ (catLe (Nat.le_of_ble_eq_true rfl)) ⟨rfl, rfl⟩ rfl (Nat.le_of_ble_eq_true rfl) (Nat.le_of_ble_eq_true rfl) (fun z71 S71 A71 i71 p71 => ?_)
      obtain ⟨rfl, rfl, hF71, hL71⟩ := p71
      have M : RM S71 A := M.of hF71 (by decide)
      refine rb_ifeq C (tgt := 81) dX8_cancel_74 (by decide) (fun c74 => ?_) (fun c74 => ?_)
      · refine r_iconst C dX8_cancel_81 ?_
        refine q_V1Z C (cM_goes hfl (by assumption) (by omega)) dX8_cancel_82 lk_X8_112 M.1 ⟨Nat.le_of_ble_eq_true rfl, Nat.le_of_ble_eq_true rfl⟩ (catLe (Nat.le_of_ble_eq_true rfl)) ⟨rfl, rfl⟩ rfl (Nat.le_of_ble_eq_true rfl) (Nat.le_of_ble_eq_true rfl) (fun z82 S82 A82 i82 p82 => ?_)
        obtain ⟨rfl, rfl, rfl⟩ := p82
        refine r_gS (fun S3 hS3 => ?_)
        have M : RM S3 A := by rw [hS3]; exact M.up (by decide)
        have n3 : S3 249 0 = S3 249 0 := rfl
        have hF3 : Fr [249, 480, 672, 236] S S3 := by rw [hS3]; exact ((((hS1 ▸ Fr.up (by decide) : Fr [249, 480, 672, 236] S S1).tr (hS2 ▸ Fr.up (by decide)))).tr (hF71.sub (by decide))).tr (Fr.up (by decide))
        have e480 : S3 480 = fu (S 480) m 1 := by rw [hS3, upS_fn _ _ _ (by decide), hF71.fn (by decide), n480]
        have e236 : S3 236 0 = (led (S 352) (fu (S 480) m 1) (S 232 0).toNat).length := by rw [hS3, upS_c _ _ (by decide), hL71.1, n352, n480, n232]
        have hlen := led_len (S 352) (fu (S 480) m 1) (S 232 0).toNat
        refine rb_ifne C (tgt := 97) dX8_cancel_85 (by decide) (fun c85 => ?_) (fun c85 => ?_)
        · refine r_aload_n C dX8_cancel_97 lg_0 ?_
          refine r_getI C 236 dX8_cancel_98 fg_X8_80_7 rfl rfl M.1 (fun g98 => ?_)
          exact f_I F dX8_cancel_101 (by omega) (by first | (exfalso; omega) | exact ⟨rfl, Or.inr (Or.inl ⟨e9, by unfold cOk; rw [n320, n384, n416, n352, n480, n232] at c74; exact c74, e236, by rw [hS3, upS_self], e480, hF3⟩)⟩) (Nat.le_of_ble_eq_true rfl) (Nat.le_of_ble_eq_true rfl)
        · refine r_aload_n C dX8_cancel_88 lg_0 ?_
          refine r_getA C 229 15 dX8_cancel_89 fg_X8_25_7 rfl rfl M.1 (fun g89 => ?_)
          refine r_iload_n C dX8_cancel_92 lg_1 ?_
          refine r_iconst C dX8_cancel_93 ?_
          refine r_zast C (N := 60) 480 dX8_cancel_94 (by decide) rfl rfl (M.g (j := 5) (by decide)) (by omega) (by omega) (by omega) (by omega) ?_
          refine r_gS (fun S4 hS4 => ?_)
          refine r_iconst C dX8_cancel_95 ?_
          exact f_I F dX8_cancel_96 (by omega) (by first | (exfalso; omega) | exact ⟨rfl, Or.inr (Or.inr ⟨e9, fun h => c74 (by unfold cOk at h; rw [n320, n384, n416, n352, n480, n232]; exact h), rfl, by rw [hS4, upS_c _ _ (by decide), hS3, upS_self], by rw [hS4, upS_fu, e480, fu_fu, fu_id g480], by rw [hS4]; exact hF3.tr (Fr.up (by decide))⟩)⟩) (Nat.le_of_ble_eq_true rfl) (Nat.le_of_ble_eq_true rfl)
      · refine r_iconst C dX8_cancel_77 ?_
        refine r_goto C (tgt := 82) dX8_cancel_78 (by decide) ?_
        refine q_V1Z C (cM_goes hfl (by assumption) (by omega)) dX8_cancel_82 lk_X8_112 M.1 ⟨Nat.le_of_ble_eq_true rfl, Nat.le_of_ble_eq_true rfl⟩ (catLe (Nat.le_of_ble_eq_true rfl)) ⟨rfl, rfl⟩ rfl (Nat.le_of_ble_eq_true rfl) (Nat.le_of_ble_eq_true rfl) (fun z82 S82 A82 i82 p82 => ?_)
        obtain ⟨rfl, rfl, rfl⟩ := p82
        refine r_gS (fun S3 hS3 => ?_)
        have M : RM S3 A := by rw [hS3]; exact M.up (by decide)
        have n3 : S3 249 0 = S3 249 0 := rfl
        have hF3 : Fr [249, 480, 672, 236] S S3 := by rw [hS3]; exact ((((hS1 ▸ Fr.up (by decide) : Fr [249, 480, 672, 236] S S1).tr (hS2 ▸ Fr.up (by decide)))).tr (hF71.sub (by decide))).tr (Fr.up (by decide))
        have e480 : S3 480 = fu (S 480) m 1 := by rw [hS3, upS_fn _ _ _ (by decide), hF71.fn (by decide), n480]
        have e236 : S3 236 0 = (led (S 352) (fu (S 480) m 1) (S 232 0).toNat).length := by rw [hS3, upS_c _ _ (by decide), hL71.1, n352, n480, n232]
        have hlen := led_len (S 352) (fu (S 480) m 1) (S 232 0).toNat
        refine rb_ifne C (tgt := 97) dX8_cancel_85 (by decide) (fun c85 => ?_) (fun c85 => ?_)
        · refine r_aload_n C dX8_cancel_97 lg_0 ?_
          refine r_getI C 236 dX8_cancel_98 fg_X8_80_7 rfl rfl M.1 (fun g98 => ?_)
          exact f_I F dX8_cancel_101 (by omega) (by first | (exfalso; omega) | exact ⟨rfl, Or.inr (Or.inl ⟨e9, by unfold cOk; rw [n320, n384, n416, n352, n480, n232] at c74; exact c74, e236, by rw [hS3, upS_self], e480, hF3⟩)⟩) (Nat.le_of_ble_eq_true rfl) (Nat.le_of_ble_eq_true rfl)
        · refine r_aload_n C dX8_cancel_88 lg_0 ?_
          refine r_getA C 229 15 dX8_cancel_89 fg_X8_25_7 rfl rfl M.1 (fun g89 => ?_)
          refine r_iload_n C dX8_cancel_92 lg_1 ?_
          refine r_iconst C dX8_cancel_93 ?_
          refine r_zast C (N := 60) 480 dX8_cancel_94 (by decide) rfl rfl (M.g (j := 5) (by decide)) (by omega) (by omega) (by omega) (by omega) ?_
          refine r_gS (fun S4 hS4 => ?_)
          refine r_iconst C dX8_cancel_95 ?_
          exact f_I F dX8_cancel_96 (by omega) (by first | (exfalso; omega) | exact ⟨rfl, Or.inr (Or.inr ⟨e9, fun h => c74 (by unfold cOk at h; rw [n320, n384, n416, n352, n480, n232]; exact h), rfl, by rw [hS4, upS_c _ _ (by decide), hS3, upS_self], by rw [hS4, upS_fu, e480, fu_fu, fu_id g480], by rw [hS4]; exact hF3.tr (Fr.up (by decide))⟩)⟩) (Nat.le_of_ble_eq_true rfl) (Nat.le_of_ble_eq_true rfl)
    · refine r_iconst C dX8_cancel_54 ?_
      exact f_I F dX8_cancel_55 (by omega) (by
        first
        | (exfalso; omega)
        | (have e9 : cnW S m = 1 := by
             unfold cnW cI
             repeat' split
             all_goals (first | omega | contradiction)
           exact ⟨rfl, Or.inl ⟨by omega, rfl, by rw [hS1, e9]⟩⟩)
        | (have e9 : cnW S m = 2 := by
             unfold cnW cI
             repeat' split
             all_goals (first | omega | contradiction)
           exact ⟨rfl, Or.inl ⟨by omega, rfl, by rw [hS1, e9]⟩⟩)) (Nat.le_of_ble_eq_true rfl) (Nat.le_of_ble_eq_true rfl)
theorem gmx_c {f g : Int → Int} : ∀ {k : Nat}, (∀ i : Int, 0 ≤ i → i ≤ k → f i = g i) → gmx f k = gmx g k
  | 0, _ => rfl
  | k + 1, h => by
    have e := gmx_c (k := k) (fun i h0 h1 => h i h0 (by omega))
    have b := gmx_b g k
    show (if f (gmx f k) < f (k + 1 : Nat) then ((k + 1 : Nat) : Int) else gmx f k) = (if g (gmx g k) < g (k + 1 : Nat) then ((k + 1 : Nat) : Int) else gmx g k)
    rw [e, h _ b.1 (by omega), h ((k + 1 : Nat) : Int) (by omega) (Int.le_refl _)]
/-- the parts when so many cents are given -/
def giv (n1 : Nat) : Nat → (Int → Int) → (Int → Int) → Int → Int
  | 0, _, p => p
  | k + 1, f, p => giv n1 k (fu f (gmx f n1) (-1)) (fu p (gmx f n1) (p (gmx f n1) + 1))
noncomputable def smB (S : ST) (b s : Int) : Int := sumI (fun m => cI (hasB s m) (basM S b m) 0) (S 232 0)
noncomputable def shr (S : ST) (a b s : Int) (r : Int) : Int := cI (hasB s r) (a * basM S b r / smB S b s) 0
noncomputable def rmn (S : ST) (a b s : Int) (r : Int) : Int := cI (hasB s r) (a * basM S b r % smB S b s) (-1)
noncomputable def lft (S : ST) (a b s : Int) : Int := a - sumI (shr S a b s) (S 232 0)
noncomputable def spP (S : ST) (a b s : Int) : Int → Int := giv (S 232 0 - 1).toNat (lft S a b s).toNat (rmn S a b s) (shr S a b s)
theorem basM_c {S S' : ST} {b m : Int} (h1 : S' 416 = S 416) (h2 : S' 448 = S 448) (h3 : S' 384 = S 384) (h4 : S' 640 = S 640) : basM S' b m = basM S b m := by
  unfold basM
  rw [h1, h2, h3, h4]
theorem sum_lb {f : Int → Int} {B : Int} : ∀ n : Nat, (∀ m : Int, 0 ≤ m → m < n → 0 ≤ f m ∧ f m ≤ B) → 0 ≤ sumN f n ∧ sumN f n ≤ n * B
  | 0, _ => ⟨Int.le_refl _, by simp [sumN]⟩
  | n + 1, h => by
    obtain ⟨h1, h2⟩ := sum_lb n (fun m m0 m1 => h m m0 (by omega))
    obtain ⟨h3, h4⟩ := h n (by omega) (by omega)
    refine ⟨by show 0 ≤ sumN f n + f n; omega, ?_⟩
    show sumN f n + f n ≤ ((n + 1 : Nat) : Int) * B
    have : ((n + 1 : Nat) : Int) * B = (n : Int) * B + B := by rw [Int.natCast_add, Int.add_mul]; simp
    omega
theorem sum_nn {f : Int → Int} : ∀ n : Nat, (∀ m : Int, 0 ≤ m → m < n → 0 ≤ f m) → 0 ≤ sumN f n
  | 0, _ => Int.le_refl _
  | n + 1, h => by
    have h1 := sum_nn n (fun m m0 m1 => h m m0 (by omega))
    have h2 := h n (by omega) (by omega)
    show 0 ≤ sumN f n + f n
    omega
theorem sum_ge {f : Int → Int} : ∀ (n : Nat), (∀ m : Int, 0 ≤ m → m < n → 0 ≤ f m) → ∀ i : Int, 0 ≤ i → i < n → f i ≤ sumN f n
  | 0, _, i, h0, h1 => by omega
  | n + 1, h, i, h0, h1 => by
    show f i ≤ sumN f n + f n
    by_cases e : i = n
    · have := sum_nn n (fun m m0 m1 => h m m0 (by omega))
      rw [e]; omega
    · have := sum_ge n (fun m m0 m1 => h m m0 (by omega)) i h0 (by omega)
      have := h n (by omega) (by omega)
      omega
theorem quo_b {a b s : Int} (ha : 0 ≤ a) (hb : 0 ≤ b) (hs : 0 < s) (h : b ≤ s) : 0 ≤ a * b / s ∧ a * b / s ≤ a := by
  refine ⟨Int.ediv_nonneg (Int.mul_nonneg ha hb) (by omega), ?_⟩
  have h1 : a * b ≤ a * s := Int.mul_le_mul_of_nonneg_left h ha
  have h2 := Int.ediv_le_ediv hs h1
  rw [Int.mul_ediv_cancel _ (by omega)] at h2
  exact h2
theorem sp_facts {S : ST} {a b s : Int} (hm0 : 1 ≤ S 232 0) (hm1 : S 232 0 ≤ 60) (hbas : ∀ m, 0 ≤ m → m < S 232 0 → hasB s m → 0 ≤ basM S b m ∧ basM S b m ≤ 1000000) (ha0 : 1 ≤ a) (ha1 : a ≤ 1000000) (hsum : 0 < smB S b s) : (∀ m, 0 ≤ m → m < S 232 0 → hasB s m → basM S b m ≤ smB S b s) ∧ (∀ m, 0 ≤ m → m < S 232 0 → 0 ≤ shr S a b s m ∧ shr S a b s m ≤ 1000000) ∧ (∀ i, 0 ≤ i → i ≤ S 232 0 → 0 ≤ sumI (shr S a b s) i ∧ sumI (shr S a b s) i ≤ 60000000) ∧ smB S b s ≤ 60000000 := by
  have h1 : ∀ m, 0 ≤ m → m < S 232 0 → hasB s m → basM S b m ≤ smB S b s := fun m m0 m1 mb => by
    have h9 := sum_ge (f := fun m => cI (hasB s m) (basM S b m) 0) (S 232 0).toNat (fun x x0 x1 => by
      by_cases q : hasB s x
      · show 0 ≤ cI _ _ _; rw [cI_t q]; exact (hbas x x0 (by omega) q).1
      · show 0 ≤ cI _ _ _; rw [cI_f q]; omega) m m0 (by omega)
    rw [cI_t mb] at h9
    exact h9
  have h2 : ∀ m, 0 ≤ m → m < S 232 0 → 0 ≤ shr S a b s m ∧ shr S a b s m ≤ 1000000 := fun m m0 m1 => by
    unfold shr
    by_cases q : hasB s m
    · rw [cI_t q]
      have := quo_b (a := a) (by omega) (hbas m m0 m1 q).1 hsum (h1 m m0 m1 q)
      omega
    · rw [cI_f q]; omega
  refine ⟨h1, h2, fun i i0 i1 => ?_, ?_⟩
  rotate_left
  · have h3 := sum_lb (f := fun m => cI (hasB s m) (basM S b m) 0) (B := 1000000) (S 232 0).toNat (fun x x0 x1 => by
      by_cases q : hasB s x
      · show 0 ≤ cI _ _ _ ∧ cI _ _ _ ≤ _; rw [cI_t q]; exact hbas x x0 (by omega) q
      · show 0 ≤ cI _ _ _ ∧ cI _ _ _ ≤ _; rw [cI_f q]; omega)
    have h4 : smB S b s ≤ ((S 232 0).toNat : Int) * 1000000 := h3.2
    omega
  have h3 := sum_lb (f := shr S a b s) (B := 1000000) i.toNat (fun x x0 x1 => h2 x x0 (by omega))
  unfold sumI
  omega
set_option maxRecDepth 20000 in
theorem cM_spreads {G : GT} {l : Launch} (hfl : l.stackTraces = false) {S : ST} {A : AB} {lw a b s : Int} (M0 : RM S A) (hl0 : 0 ≤ lw) (hl1 : lw < 60) (ha0 : 1 ≤ a) (ha1 : a ≤ 1000000) (hb : rI b) (hs : rL s) (hm0 : 1 ≤ S 232 0) (hm1 : S 232 0 ≤ 60) (hqt : ∀ m, 0 ≤ m → m < S 232 0 → 0 ≤ S 416 m ∧ S 416 m ≤ 1000) (hct : ∀ m, 0 ≤ m → m < S 232 0 → 0 ≤ S 448 m ∧ S 448 m ≤ 1000000) (hit : ∀ m, 0 ≤ m → m < S 232 0 → hasB s m → (0 ≤ S 384 m ∧ S 384 m ≤ 5) ∧ True) (hwt : ∀ i, 0 ≤ i → i ≤ 5 → 0 ≤ S 640 i ∧ S 640 i ≤ 100) (hsum : 0 < smB S b s) (hp0 : ∀ r, 0 ≤ r → r < 60 → S 544 (60 * lw + r) = 0) (hbit : ∀ r, S 232 0 ≤ r → r < 60 → ¬ hasB s r) : CT G l yX8_spreads cX8_spreads 12 none (rmk 2 0 0 48) S A [vR A 7 0, vI lw, vI a, vI b, vL s] (oV fun S' A' => A = A' ∧ Fr [544, 1088] S S' ∧ (∀ r, 0 ≤ r → r < 60 → S' 544 (60 * lw + r) = spP S a b s r) ∧ (∀ j, ¬ (60 * lw ≤ j ∧ j < 60 * lw + 60) → S' 544 j = S 544 j)) (noX) := by
  refine ct_ofN (own := RX8) (mn := "spreads") rfl rfl (by decide) hfl (lv0 := [some (vR A 7 0), some (vI lw), some (vI a), some (vI b), some (vL s), none, none, none, none, none, none, none]) (ent_1 (cat_R _ _ _) (ent_1 rfl (ent_1 rfl (ent_1 rfl (ent_2 rfl (ent_n (ent_n (ent_n (ent_n (ent_n (ent_n ent_0))))))))))) rfl ?_
  intro J X C F FX FT FU hW hA
  have hbas : ∀ m, 0 ≤ m → m < S 232 0 → hasB s m → 0 ≤ basM S b m ∧ basM S b m ≤ 1000000 := by
    intro m g0 g1 g2
    have e1 := hqt m g0 g1
    have e2 := hct m g0 g1
    have e3 := (hit m g0 g1 g2).1
    have e4 := hwt _ e3.1 e3.2
    have e5 := mul_b e1.1 e1.2 e4.1 e4.2
    unfold basM
    split
    · omega
    · split <;> omega
  obtain ⟨hbs, hsh, hsi, hsm⟩ := sp_facts hm0 hm1 hbas ha0 ha1 hsum
  have hlf : -60000000 ≤ lft S a b s ∧ lft S a b s ≤ 1000000 := by have := hsi (S 232 0) (by omega) (Int.le_refl _); unfold lft; omega
  have hend : ∀ (i : Int) (S1 : ST) (f p : Int → Int), 0 ≤ i → Fr [544, 1088] S S1 → (∀ r, 0 ≤ r → r < 60 → S1 544 (60 * lw + r) = p r) → (∀ j, ¬ (60 * lw ≤ j ∧ j < 60 * lw + 60) → S1 544 j = S 544 j) → giv (S 232 0 - 1).toNat (lft S a b s - i).toNat f p = spP S a b s → lft S a b s ≤ i → A = A ∧ Fr [544, 1088] S S1 ∧ (∀ r, 0 ≤ r → r < 60 → S1 544 (60 * lw + r) = spP S a b s r) ∧ (∀ j, ¬ (60 * lw ≤ j ∧ j < 60 * lw + 60) → S1 544 j = S 544 j) := by
    intro i S1 f p h1 hF hp hpo hG hle
    rw [show (lft S a b s - i).toNat = 0 by omega] at hG
    have hG' : p = spP S a b s := hG
    exact ⟨rfl, hF, fun r r0 r1 => by rw [hp r r0 r1, hG'], hpo⟩
  have lp2 : ∀ (N : Nat) (i : Int) (S1 : ST) (f p : Int → Int) (h1 : 0 ≤ i) (h2 : i ≤ lft S a b s ∨ i = 0) (hF : Fr [544, 1088] S S1) (hf : ∀ r, 0 ≤ r → r < S 232 0 → S1 1088 r = f r) (hp : ∀ r, 0 ≤ r → r < 60 → S1 544 (60 * lw + r) = p r) (hpo : ∀ j, ¬ (60 * lw ≤ j ∧ j < 60 * lw + 60) → S1 544 j = S 544 j) (hpb : ∀ r, 0 ≤ r → r < 60 → 0 ≤ p r ∧ p r ≤ 1000000 + i) (hG : giv (S 232 0 - 1).toNat (lft S a b s - i).toNat f p = spP S a b s) (hN : (lft S a b s - i).toNat < N), J 106 [some (vR A 7 0), some (vI lw), some (vI a), some (vI b), some (vL s), none, some (vL (smB S b s)), none, some (vI (lft S a b s)), some (vI i), none, none] [] S1 A 0 0 := by
    intro N
    induction N with
    | zero => intro i S1 f p h1 h2 hF hf hp hpo hpb hG hN; omega
    | succ N ih =>
      intro i S1 f p h1 h2 hF hf hp hpo hpb hG hN
      have M := M0.of hF (by decide)
      have M1 := M
      have e232 := hF 232 0 (by decide)
      have hgb := gmx_b f (S 232 0 - 1).toNat
      have egm : gmx (S1 1088) (S1 232 0 - 1).toNat = gmx f (S 232 0 - 1).toNat := by rw [e232]; exact gmx_c (fun r r0 r1 => hf r r0 (by omega))
      refine r_iload C dX8_spreads_106 lg_9 ?_
      refine r_iload C dX8_spreads_108 lg_8 ?_
      refine r_icge C (tgt := 137) dX8_spreads_110 (by decide) (by omega) (by omega) (fun c110 => ?_) (fun c110 => ?_)
      · exact f_V F dX8_spreads_137 (hend i S1 f p h1 hF hp hpo hG (by omega)) (Nat.le_of_ble_eq_true rfl) (Nat.le_of_ble_eq_true rfl)
      · skip
        refine r_aload_n C dX8_spreads_113 lg_0 ?_
        refine r_getA C 231 17 dX8_spreads_114 fg_X8_33_7 rfl rfl M.1 (fun g114 => ?_)
        refine r_bipush C dX8_spreads_117 (by decide) ?_
        refine r_iload_n C dX8_spreads_119 lg_1 ?_
        refine r_imul C dX8_spreads_120 ?_
        refine r_aload_n C dX8_spreads_121 lg_0 ?_
        refine q_V0I C (cM_next hfl M (by omega) (by omega)) dX8_spreads_122 lk_X8_137 M.1 ⟨Nat.le_of_ble_eq_true rfl, Nat.le_of_ble_eq_true rfl⟩ (catLe (Nat.le_of_ble_eq_true rfl)) ⟨rfl, rfl⟩ rfl (Nat.le_of_ble_eq_true rfl) (Nat.le_of_ble_eq_true rfl) (fun z122 S122 A122 i122 p122 => ?_)
        obtain ⟨rfl, rfl, rfl⟩ := p122
        rw [egm]
        refine r_gS (fun S2 hS2 => ?_)
        have M : RM S2 A := by rw [hS2]; exact M.up (by decide)
        have x544 : S2 544 = S1 544 := by rw [hS2]; exact upS_fn _ _ _ (by decide)
        generalize hg9 : gmx f (S 232 0 - 1).toNat = g at *
        have hpg := hp g (by omega) (by omega)
        have hbg := hpb g (by omega) (by omega)
        refine r_iadd C dX8_spreads_125 ?_
        refine r_dup2 C dX8_spreads_126 rfl (cat_R _ _ _) ?_
        refine r_iald C (N := 3600) 544 dX8_spreads_127 (by decide) rfl rfl (M1.g (j := 7) (by decide)) (by omega) (by omega) (by omega) (fun g127 => ?_)
        rw [x544, hpg]
        refine r_iconst C dX8_spreads_128 ?_
        refine r_iadd C dX8_spreads_129 ?_
        refine r_iast C (N := 3600) 544 dX8_spreads_130 (by decide) rfl rfl (M1.g (j := 7) (by decide)) (by omega) (by omega) (by omega) (by omega) ?_
        refine r_iinc C dX8_spreads_131 lg_9 (ls1_9 rfl rfl) ?_
        refine r_goto C (tgt := 106) dX8_spreads_134 (by decide) ?_
        refine ih (i + 1) _ (fu f g (-1)) (fu p g (p g + 1)) (by omega) (by omega) (hF.tr ((hS2 ▸ Fr.up (by decide) : Fr [544, 1088] S1 S2).tr (Fr.up (by decide)))) (fun r r0 r1 => ?_) (fun r r0 r1 => ?_) (fun j hj => ?_) (fun r r0 r1 => ?_) ?_ (by omega)
        · rw [upS_c _ _ (by decide), hS2]
          by_cases e : r = g
          · rw [e, upS_self, fu_self]
          · rw [upS_z _ _ e, fu_ne _ _ e]; exact hf r r0 r1
        · by_cases e : r = g
          · rw [e, upS_self, fu_self]
          · rw [upS_z _ _ (by omega), fu_ne _ _ e, x544]; exact hp r r0 r1
        · rw [upS_z _ _ (by omega), x544]; exact hpo j hj
        · by_cases e : r = g
          · rw [e, fu_self]; omega
          · rw [fu_ne _ _ e]; have := hpb r r0 r1; omega
        · rw [← hG, show (lft S a b s - i).toNat = (lft S a b s - (i + 1)).toNat + 1 by omega]
          show _ = giv (S 232 0 - 1).toNat (lft S a b s - (i + 1)).toNat (fu f (gmx f (S 232 0 - 1).toNat) (-1)) (fu p (gmx f (S 232 0 - 1).toNat) (p (gmx f (S 232 0 - 1).toNat) + 1))
          rw [hg9]
  have lp : ∀ (N : Nat) (i : Int) (S1 : ST) (h1 : 0 ≤ i) (h2 : i ≤ S 232 0) (hF : Fr [544, 1088] S S1) (hr : ∀ r, 0 ≤ r → r < i → S1 1088 r = rmn S a b s r) (hp : ∀ j, S1 544 j = if 60 * lw ≤ j ∧ j < 60 * lw + i then shr S a b s (j - 60 * lw) else S 544 j) (hN : S 232 0 - i < N), J 15 [some (vR A 7 0), some (vI lw), some (vI a), some (vI b), some (vL s), none, some (vL (smB S b s)), none, some (vI (a - sumI (shr S a b s) i)), some (vI i), none, none] [] S1 A 0 0 := by
    intro N
    induction N with
    | zero => intro i S1 h1 h2 hF hr hp hN; omega
    | succ N ih =>
      intro i S1 h1 h2 hF hr hp hN
      have M := M0.of hF (by decide)
      have e232 := hF 232 0 (by decide)
      have hsb := hsi i h1 h2
      refine r_iload C dX8_spreads_15 lg_9 ?_
      refine r_aload_n C dX8_spreads_17 lg_0 ?_
      refine r_getI C 232 dX8_spreads_18 fg_X8_77_7 rfl rfl M.1 (fun g18 => ?_)
      refine r_icge C (tgt := 103) dX8_spreads_21 (by decide) (by omega) (by omega) (fun c21 => ?_) (fun c21 => ?_)
      · refine r_iconst C dX8_spreads_103 ?_
        refine r_istore C dX8_spreads_104 (ls1_9 rfl rfl) ?_
        rw [show i = S 232 0 by omega] at hr hp ⊢
        refine lp2 ((lft S a b s - 0).toNat + 1) 0 S1 (rmn S a b s) (shr S a b s) (by omega) (Or.inr rfl) hF hr (fun r r0 r1 => ?_) (fun j hj => ?_) (fun r r0 r1 => ?_) (by rw [Int.sub_zero]; rfl) (by omega)
        · rw [hp]
          by_cases e : r < S 232 0
          · rw [if_pos (by omega), show 60 * lw + r - 60 * lw = r by omega]
          · rw [if_neg (by omega), hp0 r r0 r1]; exact (cI_f (hbit r (by omega) r1)).symm
        · rw [hp, if_neg (by omega)]
        · by_cases e : r < S 232 0
          · have := hsh r r0 e; omega
          · rw [show shr S a b s r = 0 from cI_f (hbit r (by omega) r1)]; omega
      · refine r_aload_n C dX8_spreads_24 lg_0 ?_
        refine r_getA C 248 34 dX8_spreads_25 fg_X8_67_7 rfl rfl M.1 (fun g25 => ?_)
        refine r_iload C dX8_spreads_28 lg_9 ?_
        refine r_ldc2 C dX8_spreads_30 cs_X8_131 (-1) (by decide) ?_
        refine r_last C (N := 60) 1088 dX8_spreads_33 (by decide) rfl rfl (M.g (j := 24) (by decide)) (by omega) (by omega) (by omega) (by omega) ?_
        refine r_gS (fun S33 hS33 => ?_)
        have M : RM S33 A := by rw [hS33]; exact M.up (by decide)
        have hFs : Fr [544, 1088] S S33 := hF.tr (hS33 ▸ Fr.up (by decide))
        have z416 := hFs.fn (c := 416) (by decide)
        have z448 := hFs.fn (c := 448) (by decide)
        have z384 := hFs.fn (c := 384) (by decide)
        have z640 := hFs.fn (c := 640) (by decide)
        refine r_lload C dX8_spreads_34 lg_4 ?_
        refine r_iload C dX8_spreads_36 lg_9 ?_
        refine q_S2Z C (cM_has hfl (by omega)) dX8_spreads_38 lk_X8_123 ⟨Nat.le_of_ble_eq_true rfl, Nat.le_of_ble_eq_true rfl⟩ (catLe (Nat.le_of_ble_eq_true rfl)) ⟨rfl, rfl⟩ rfl (Nat.le_of_ble_eq_true rfl) (Nat.le_of_ble_eq_true rfl) (fun z38 S38 A38 i38 p38 => ?_)
        obtain ⟨rfl, rfl, rfl⟩ := p38
        refine rb_ifeq C (tgt := 97) dX8_spreads_41 (by decide) (fun c41 => ?_) (fun c41 => ?_)
        · refine r_iinc C dX8_spreads_97 lg_9 (ls1_9 rfl rfl) ?_
          refine r_goto C (tgt := 15) dX8_spreads_100 (by decide) ?_
          first
          | (exact absurd c41 c41)
          | (rw [show a - sumI (shr S a b s) i - a * basM S b i / smB S b s = a - sumI (shr S a b s) (i + 1) by rw [sumI_s _ h1, show shr S a b s i = a * basM S b i / smB S b s from cI_t c41]; omega]
             refine ih (i + 1) _ (by omega) (by omega) (hF.tr (((hS33 ▸ Fr.up (by decide) : Fr [544, 1088] S1 S33).tr (Fr.up (by decide))).tr (Fr.up (by decide)))) (fun r r0 r1 => ?_) (fun j => ?_) (by omega)
             · by_cases e : r = i
               · rw [e]; rw [upS_self, show rmn S a b s i = a * basM S b i % smB S b s from cI_t c41]
               · rw [upS_z _ _ e, upS_c _ _ (by decide), hS33, upS_z _ _ e]; exact hr r r0 (by omega)
             · by_cases e : j = 60 * lw + i
               · rw [e, if_pos (by omega), show 60 * lw + i - 60 * lw = i by omega]; rw [upS_c _ _ (by decide), upS_self, show shr S a b s i = a * basM S b i / smB S b s from cI_t c41]
               · rw [upS_c _ _ (by decide), upS_z _ _ e, hS33, upS_c _ _ (by decide)]
                 rw [hp]
                 by_cases hk : 60 * lw ≤ j ∧ j < 60 * lw + i
                 · rw [if_pos hk, if_pos (by omega)]
                 · rw [if_neg hk, if_neg (by omega)])
          | (rw [show a - sumI (shr S a b s) i = a - sumI (shr S a b s) (i + 1) by rw [sumI_s _ h1, show shr S a b s i = 0 from cI_f c41]; omega]
             refine ih (i + 1) _ (by omega) (by omega) (hF.tr (hS33 ▸ Fr.up (by decide))) (fun r r0 r1 => ?_) (fun j => ?_) (by omega)
             · by_cases e : r = i
               · rw [e]; rw [hS33, upS_self, show rmn S a b s i = -1 from cI_f c41]
               · rw [hS33, upS_z _ _ e]; exact hr r r0 (by omega)
             · by_cases e : j = 60 * lw + i
               · rw [e, if_pos (by omega), show 60 * lw + i - 60 * lw = i by omega]; rw [hS33, upS_c _ _ (by decide), hp, if_neg (by omega), hp0 i h1 (by omega), show shr S a b s i = 0 from cI_f c41]
               · rw [hS33, upS_c _ _ (by decide)]
                 rw [hp]
                 by_cases hk : 60 * lw ≤ j ∧ j < 60 * lw + i
                 · rw [if_pos hk, if_pos (by omega)]
                 · rw [if_neg hk, if_neg (by omega)])
        · refine r_iload_n C dX8_spreads_44 lg_2 ?_
          refine r_i2l C dX8_spreads_45 (by omega) ?_
          refine r_aload_n C dX8_spreads_46 lg_0 ?_
          refine r_iload C dX8_spreads_47 lg_9 ?_
          refine r_iload_n C dX8_spreads_49 lg_3 ?_
          refine q_V2J C (cM_basisOf hfl M (by omega) (by omega) (by omega) (by rw [z416]; exact hqt i h1 (by omega)) (by rw [z384]; exact (hit i h1 (by omega) c41).1) (by rw [z640, z384]; exact hwt _ (hit i h1 (by omega) c41).1.1 (hit i h1 (by omega) c41).1.2)) dX8_spreads_50 lk_X8_127 M.1 ⟨Nat.le_of_ble_eq_true rfl, Nat.le_of_ble_eq_true rfl⟩ (catLe (Nat.le_of_ble_eq_true rfl)) ⟨rfl, rfl⟩ rfl (Nat.le_of_ble_eq_true rfl) (Nat.le_of_ble_eq_true rfl) (fun z50 S50 A50 i50 p50 => ?_)
          obtain ⟨rfl, rfl, rfl⟩ := p50
          rw [basM_c z416 z448 z384 z640]
          have hbb := hbas i h1 (by omega) c41
          have hle := hbs i h1 (by omega) c41
          have hqq := quo_b (a := a) (by omega) hbb.1 hsum hle
          have hpr := mul_b (a := a) (by omega) ha1 hbb.1 hbb.2
          have hmo := Int.emod_nonneg (a * basM S b i) (show smB S b s ≠ 0 by omega)
          have hm2 := Int.emod_lt_of_pos (a * basM S b i) hsum
          refine r_lmul C dX8_spreads_53 ?_
          refine r_lstore C dX8_spreads_54 (ls2_10 rfl rfl) ?_
          refine r_aload_n C dX8_spreads_56 lg_0 ?_
          refine r_getA C 231 17 dX8_spreads_57 fg_X8_33_7 rfl rfl M.1 (fun g57 => ?_)
          refine r_bipush C dX8_spreads_60 (by decide) ?_
          refine r_iload_n C dX8_spreads_62 lg_1 ?_
          refine r_imul C dX8_spreads_63 ?_
          refine r_iload C dX8_spreads_64 lg_9 ?_
          refine r_iadd C dX8_spreads_66 ?_
          refine r_lload C dX8_spreads_67 lg_10 ?_
          refine r_lload C dX8_spreads_69 lg_6 ?_
          refine r_ldiv C dX8_spreads_71 (by omega) (by omega) (by omega) (by omega) ?_
          refine r_l2i C dX8_spreads_72 ?_
          refine r_iast C (N := 3600) 544 dX8_spreads_73 (by decide) rfl rfl (M.g (j := 7) (by decide)) (by omega) (by omega) (by omega) (by omega) ?_
          have M := M.up (c := 544) (z := 60 * lw + i) (v := a * basM S b i / smB S b s) (by decide)
          refine r_aload_n C dX8_spreads_74 lg_0 ?_
          refine r_getA C 248 34 dX8_spreads_75 fg_X8_67_7 rfl rfl M.1 (fun g75 => ?_)
          refine r_iload C dX8_spreads_78 lg_9 ?_
          refine r_lload C dX8_spreads_80 lg_10 ?_
          refine r_lload C dX8_spreads_82 lg_6 ?_
          refine r_lrem C dX8_spreads_84 (by omega) (by omega) (by omega) (by omega) ?_
          refine r_last C (N := 60) 1088 dX8_spreads_85 (by decide) rfl rfl (M.g (j := 24) (by decide)) (by omega) (by omega) (by omega) (by omega) ?_
          refine r_iload C dX8_spreads_86 lg_8 ?_
          refine r_lload C dX8_spreads_88 lg_10 ?_
          refine r_lload C dX8_spreads_90 lg_6 ?_
          refine r_ldiv C dX8_spreads_92 (by omega) (by omega) (by omega) (by omega) ?_
          refine r_l2i C dX8_spreads_93 ?_
          refine r_isub C dX8_spreads_94 ?_
          refine r_istore C dX8_spreads_95 (ls1_8 rfl trivial) ?_
          refine r_iinc C dX8_spreads_97 lg_9 (ls1_9 rfl rfl) ?_
          refine r_goto C (tgt := 15) dX8_spreads_100 (by decide) ?_
          refine r_le C (lle_k (lle_k (lle_k (lle_k (lle_k (lle_k (lle_k (lle_k (lle_k (lle_k (lle_f (lle_k lle_0)))))))))))) ?_
          first
          | (exact absurd c41 c41)
          | (rw [show a - sumI (shr S a b s) i - a * basM S b i / smB S b s = a - sumI (shr S a b s) (i + 1) by rw [sumI_s _ h1, show shr S a b s i = a * basM S b i / smB S b s from cI_t c41]; omega]
             refine ih (i + 1) _ (by omega) (by omega) (hF.tr (((hS33 ▸ Fr.up (by decide) : Fr [544, 1088] S1 S33).tr (Fr.up (by decide))).tr (Fr.up (by decide)))) (fun r r0 r1 => ?_) (fun j => ?_) (by omega)
             · by_cases e : r = i
               · rw [e]; rw [upS_self, show rmn S a b s i = a * basM S b i % smB S b s from cI_t c41]
               · rw [upS_z _ _ e, upS_c _ _ (by decide), hS33, upS_z _ _ e]; exact hr r r0 (by omega)
             · by_cases e : j = 60 * lw + i
               · rw [e, if_pos (by omega), show 60 * lw + i - 60 * lw = i by omega]; rw [upS_c _ _ (by decide), upS_self, show shr S a b s i = a * basM S b i / smB S b s from cI_t c41]
               · rw [upS_c _ _ (by decide), upS_z _ _ e, hS33, upS_c _ _ (by decide)]
                 rw [hp]
                 by_cases hk : 60 * lw ≤ j ∧ j < 60 * lw + i
                 · rw [if_pos hk, if_pos (by omega)]
                 · rw [if_neg hk, if_neg (by omega)])
          | (rw [show a - sumI (shr S a b s) i = a - sumI (shr S a b s) (i + 1) by rw [sumI_s _ h1, show shr S a b s i = 0 from cI_f c41]; omega]
             refine ih (i + 1) _ (by omega) (by omega) (hF.tr (hS33 ▸ Fr.up (by decide))) (fun r r0 r1 => ?_) (fun j => ?_) (by omega)
             · by_cases e : r = i
               · rw [e]; rw [hS33, upS_self, show rmn S a b s i = -1 from cI_f c41]
               · rw [hS33, upS_z _ _ e]; exact hr r r0 (by omega)
             · by_cases e : j = 60 * lw + i
               · rw [e, if_pos (by omega), show 60 * lw + i - 60 * lw = i by omega]; rw [hS33, upS_c _ _ (by decide), hp, if_neg (by omega), hp0 i h1 (by omega), show shr S a b s i = 0 from cI_f c41]
               · rw [hS33, upS_c _ _ (by decide)]
                 rw [hp]
                 by_cases hk : 60 * lw ≤ j ∧ j < 60 * lw + i
                 · rw [if_pos hk, if_pos (by omega)]
                 · rw [if_neg hk, if_neg (by omega)])
  refine r_aload_n C dX8_spreads_0 lg_0 ?_
  refine r_lload C dX8_spreads_1 lg_4 ?_
  refine r_iload_n C dX8_spreads_3 lg_3 ?_
  refine q_V2J C (cM_sumOf hfl M0 hs hb (by omega) hm1 hqt hct hit hwt) dX8_spreads_4 lk_X8_133 M0.1 ⟨Nat.le_of_ble_eq_true rfl, Nat.le_of_ble_eq_true rfl⟩ (catLe (Nat.le_of_ble_eq_true rfl)) ⟨rfl, rfl⟩ rfl (Nat.le_of_ble_eq_true rfl) (Nat.le_of_ble_eq_true rfl) (fun z4 S4 A4 i4 p4 => ?_)
  obtain ⟨rfl, rfl, rfl⟩ := p4
  refine r_lstore C dX8_spreads_7 (ls2_6 rfl trivial) ?_
  refine r_iload_n C dX8_spreads_9 lg_2 ?_
  refine r_istore C dX8_spreads_10 (ls1_8 rfl trivial) ?_
  refine r_iconst C dX8_spreads_12 ?_
  refine r_istore C dX8_spreads_13 (ls1_9 rfl rfl) ?_
  have h9 := lp (S 232 0 + 1).toNat 0 S (by omega) (by omega) Fr.rf (fun r r0 r1 => by omega) (fun j => by rw [if_neg (by omega)]) (by omega)
  rw [sumI_0, Int.sub_zero] at h9
  exact h9
noncomputable def lnW (S : ST) (d a b s : Int) : Int := cI ((0 ≤ d ∧ d ≤ 364) ∧ (1 ≤ a ∧ a ≤ 1000000) ∧ (0 ≤ b ∧ b ≤ 2) ∧ ¬ s = 0) (cI (allR (S 232 0) 64 (fun m => ¬ hasB s m)) (cI (d ≤ S 233 0 ∨ S 232 0 = 60) 3 (cI (allR 0 (S 232 0) (fun m => hasB s m → S 480 m = 0 ∧ S 320 m = 0 ∧ S 352 m ≤ d)) (cI (smB S b s = 0) 3 0) 3)) 2) 1
theorem lnW_0 {S : ST} {d a b s : Int} (h : lnW S d a b s = 0) : ((0 ≤ d ∧ d ≤ 364) ∧ (1 ≤ a ∧ a ≤ 1000000) ∧ (0 ≤ b ∧ b ≤ 2) ∧ ¬ s = 0) ∧ allR (S 232 0) 64 (fun m => ¬ hasB s m) ∧ (¬ d ≤ S 233 0 ∧ ¬ S 232 0 = 60) ∧ allR 0 (S 232 0) (fun m => hasB s m → S 480 m = 0 ∧ S 320 m = 0 ∧ S 352 m ≤ d) ∧ ¬ smB S b s = 0 := by
  unfold lnW cI at h
  split at h
  · split at h
    · split at h
      · omega
      · split at h
        · split at h
          · omega
          · refine ⟨by assumption, by assumption, by omega, by assumption, by assumption⟩
        · omega
    · omega
  · omega
theorem sumN_c {f g : Int → Int} : ∀ n : Nat, (∀ m : Int, 0 ≤ m → m < n → f m = g m) → sumN f n = sumN g n
  | 0, _ => rfl
  | n + 1, h => by
    show sumN f n + f n = sumN g n + g n
    rw [sumN_c n (fun m m0 m1 => h m m0 (by omega)), h n (by omega) (by omega)]
theorem smB_c {S T : ST} {b s : Int} (h0 : 0 ≤ S 232 0) (hn : T 232 0 = S 232 0 + 1) (hb : ¬ hasB s (S 232 0)) (h : ∀ m, 0 ≤ m → m < S 232 0 → basM T b m = basM S b m) : smB T b s = smB S b s := by
  unfold smB
  rw [hn, sumI_s _ h0, cI_f hb]
  unfold sumI
  rw [sumN_c (S 232 0).toNat (fun m m0 m1 => congrArg (fun z => cI (hasB s m) z 0) (h m m0 (by omega)) : ∀ m : Int, 0 ≤ m → m < (S 232 0).toNat → (fun m => cI (hasB s m) (basM T b m) 0) m = (fun m => cI (hasB s m) (basM S b m) 0) m)]
  omega
theorem spP_c {S T : ST} {a b s : Int} (h1 : T 416 = S 416) (h2 : T 448 = S 448) (h3 : T 384 = S 384) (h4 : T 640 = S 640) (h5 : T 232 0 = S 232 0) : spP T a b s = spP S a b s := by
  have hb : ∀ m, basM T b m = basM S b m := fun m => basM_c h1 h2 h3 h4
  have hs : smB T b s = smB S b s := by unfold smB; rw [h5]; simp only [hb]
  have e1 : shr T a b s = shr S a b s := by funext r; unfold shr; rw [hb, hs]
  have e2 : rmn T a b s = rmn S a b s := by funext r; unfold rmn; rw [hb, hs]
  have e3 : lft T a b s = lft S a b s := by unfold lft; rw [e1, h5]
  unfold spP
  rw [e1, e2, e3, h5]
def LST (S : ST) (d a b s z : Int) (S' : ST) : Prop :=
  (¬ lnW S d a b s = 0 ∧ z = 0 ∧ S' = upS S 249 0 (lnW S d a b s)) ∨
  (lnW S d a b s = 0 ∧ z = S 232 0 ∧ S' 249 0 = 0 ∧ S' 232 0 = S 232 0 + 1 ∧ (S' 320 = fu (S 320) (S 232 0) 3 ∧ S' 352 = fu (S 352) (S 232 0) d ∧ S' 384 = fu (S 384) (S 232 0) (-1) ∧ S' 416 = fu (S 416) (S 232 0) 0 ∧ S' 448 = fu (S 448) (S 232 0) a ∧ S' 480 = fu (S 480) (S 232 0) 0 ∧ S' 512 = fu (S 512) (S 232 0) s) ∧ (∀ r, 0 ≤ r → r < 60 → S' 544 (60 * S 232 0 + r) = spP S' a b s r) ∧ (∀ j, ¬ (60 * S 232 0 ≤ j ∧ j < 60 * S 232 0 + 60) → S' 544 j = S 544 j) ∧ Fr [320, 352, 384, 416, 448, 480, 544, 512, 232, 672, 236, 249, 1088] S S')
set_option maxRecDepth 20000 in
theorem cM_land {G : GT} {l : Launch} (hfl : l.stackTraces = false) {S : ST} {A : AB} {d a b s : Int} (M0 : RM S A) (hd : rI d) (ha : rI a) (hb : rI b) (hs : rL s) (hm0 : 0 ≤ S 232 0) (hm1 : S 232 0 ≤ 60) (hqt : ∀ m, 0 ≤ m → m < S 232 0 → 0 ≤ S 416 m ∧ S 416 m ≤ 1000) (hct : ∀ m, 0 ≤ m → m < S 232 0 → 0 ≤ S 448 m ∧ S 448 m ≤ 1000000) (hki : ∀ m, 0 ≤ m → m < S 232 0 → S 320 m = 0 → 0 ≤ S 384 m ∧ S 384 m ≤ 5) (hwt : ∀ i, 0 ≤ i → i ≤ 5 → 0 ≤ S 640 i ∧ S 640 i ≤ 100) : CT G l yX8_land cX8_land 8 (some .int) (rmk 3 0 0 79) S A [vR A 7 0, vI d, vI a, vI b, vL s] (oI fun z S' A' => A = A' ∧ LST S d a b s z S') (noX) := by
  have M := M0
  refine ct_ofN (own := RX8) (mn := "land") rfl rfl (by decide) hfl (lv0 := [some (vR A 7 0), some (vI d), some (vI a), some (vI b), some (vL s), none, none, none]) (ent_1 (cat_R _ _ _) (ent_1 rfl (ent_1 rfl (ent_1 rfl (ent_2 rfl (ent_n (ent_n ent_0))))))) rfl ?_
  intro J X C F FX FT FU hW hA
  refine r_iload_n C dX8_land_0 lg_1 ?_
  refine q_S1Z C (cM_isDay hfl (by omega)) dX8_land_1 lk_X8_98 ⟨Nat.le_of_ble_eq_true rfl, Nat.le_of_ble_eq_true rfl⟩ (catLe (Nat.le_of_ble_eq_true rfl)) ⟨rfl, rfl⟩ rfl (Nat.le_of_ble_eq_true rfl) (Nat.le_of_ble_eq_true rfl) (fun z1 S1 A1 i1 p1 => ?_)
  obtain ⟨rfl, rfl, rfl⟩ := p1
  refine rb_ifeq C (tgt := 33) dX8_land_4 (by decide) (fun c4 => ?_) (fun c4 => ?_)
  · refine r_iconst C dX8_land_33 ?_
    refine r_goto C (tgt := 85) dX8_land_34 (by decide) ?_
    refine r_istore C dX8_land_85 (ls1_6 rfl trivial) ?_
    refine r_aload_n C dX8_land_87 lg_0 ?_
    refine r_iload C dX8_land_88 lg_6 ?_
    refine q_V1Z C (cM_goes hfl (by assumption) (by omega)) dX8_land_90 lk_X8_112 M.1 ⟨Nat.le_of_ble_eq_true rfl, Nat.le_of_ble_eq_true rfl⟩ (catLe (Nat.le_of_ble_eq_true rfl)) ⟨rfl, rfl⟩ rfl (Nat.le_of_ble_eq_true rfl) (Nat.le_of_ble_eq_true rfl) (fun z90 S90 A90 i90 p90 => ?_)
    obtain ⟨rfl, rfl, rfl⟩ := p90
    refine r_gS (fun S1 hS1 => ?_)
    have M : RM S1 A := by rw [hS1]; exact M0.up (by decide)
    refine rb_ifne C (tgt := 98) dX8_land_93 (by decide) (fun c93 => ?_) (fun c93 => ?_)
    · have e9 : lnW S d a b s = 0 := by
        unfold lnW cI
        repeat' split
        all_goals (first | omega | contradiction)
      have q1 : ∀ c, c ≠ 249 → S1 c = S c := fun c h => by rw [hS1]; exact upS_fn _ _ _ h
      have k232 : S1 232 0 = S 232 0 := by rw [q1 232 (by decide)]
      have k320 := q1 320 (by decide)
      have k352 := q1 352 (by decide)
      have k384 := q1 384 (by decide)
      have k416 := q1 416 (by decide)
      have k448 := q1 448 (by decide)
      have k480 := q1 480 (by decide)
      have k512 := q1 512 (by decide)
      have k544 := q1 544 (by decide)
      have k640 := q1 640 (by decide)
      obtain ⟨g1, g2, g3, g4, g5⟩ := lnW_0 e9
      refine r_aload_n C dX8_land_98 lg_0 ?_
      refine r_iconst C dX8_land_99 ?_
      refine r_iload_n C dX8_land_100 lg_1 ?_
      refine r_iconst C dX8_land_101 ?_
      refine r_iconst C dX8_land_102 ?_
      refine r_iload_n C dX8_land_103 lg_2 ?_
      refine q_V5Z C (cM_posts hfl M (by omega) (by omega) (by omega) (by omega) (by omega) (by omega) (by omega) (fun m m0 m1 => by rw [k416]; exact hqt m m0 (by omega))) dX8_land_104 lk_X8_115 M.1 ⟨Nat.le_of_ble_eq_true rfl, Nat.le_of_ble_eq_true rfl⟩ (catLe (Nat.le_of_ble_eq_true rfl)) ⟨rfl, rfl⟩ rfl (Nat.le_of_ble_eq_true rfl) (Nat.le_of_ble_eq_true rfl) (fun z104 S104 A104 i104 p104 => ?_)
      obtain ⟨rfl, rfl, hF104, he104, w1104, w2104, w3104, w4104, w5104, w6104, w7104⟩ := p104
      have M : RM S104 A := M.of hF104 (by decide)
      rw [b2i_t (Or.inl rfl)] at he104
      have en : S104 232 0 - 1 = S 232 0 := by omega
      refine r_istore C dX8_land_107 (ls1_7 rfl rfl) ?_
      refine r_aload_n C dX8_land_109 lg_0 ?_
      refine r_getA C 230 16 dX8_land_110 fg_X8_29_7 rfl rfl M.1 (fun g110 => ?_)
      refine r_aload_n C dX8_land_113 lg_0 ?_
      refine r_getI C 232 dX8_land_114 fg_X8_77_7 rfl rfl M.1 (fun g114 => ?_)
      refine r_iconst C dX8_land_117 ?_
      refine r_isub C dX8_land_118 ?_
      rw [en]
      refine r_lload C dX8_land_119 lg_4 ?_
      refine r_last C (N := 60) 512 dX8_land_121 (by decide) rfl rfl (M.g (j := 6) (by decide)) (by omega) (by omega) (by omega) (by omega) ?_
      refine r_gS (fun S2 hS2 => ?_)
      have M : RM S2 A := by rw [hS2]; exact M.up (by decide)
      have n232 : S2 232 0 = S 232 0 + 1 := by rw [hS2, upS_c _ _ (by decide)]; omega
      have en2 : S2 232 0 - 1 = S 232 0 := by omega
      have n384 : S2 384 = fu (S 384) (S 232 0) (-1) := by rw [hS2, upS_fn _ _ _ (by decide), w3104, k384, k232]
      have n416 : S2 416 = fu (S 416) (S 232 0) 0 := by rw [hS2, upS_fn _ _ _ (by decide), w4104, k416, k232]
      have n448 : S2 448 = fu (S 448) (S 232 0) a := by rw [hS2, upS_fn _ _ _ (by decide), w5104, k448, k232]
      have n640 : S2 640 = S 640 := by rw [hS2, upS_fn _ _ _ (by decide), hF104.fn (by decide), k640]
      have hqt2 : ∀ m, 0 ≤ m → m < S2 232 0 → 0 ≤ S2 416 m ∧ S2 416 m ≤ 1000 := fun m m0 m1 => by
        rw [n416]
        by_cases e : m = S 232 0
        · rw [e, fu_self]; omega
        · rw [fu_ne _ _ e]; exact hqt m m0 (by omega)
      have hct2 : ∀ m, 0 ≤ m → m < S2 232 0 → 0 ≤ S2 448 m ∧ S2 448 m ≤ 1000000 := fun m m0 m1 => by
        rw [n448]
        by_cases e : m = S 232 0
        · rw [e, fu_self]; omega
        · rw [fu_ne _ _ e]; exact hct m m0 (by omega)
      have hnb : ¬ hasB s (S 232 0) := g2 _ (Int.le_refl _) (by omega)
      have hit2 : ∀ m, 0 ≤ m → m < S2 232 0 → hasB s m → (0 ≤ S2 384 m ∧ S2 384 m ≤ 5) ∧ True := fun m m0 m1 mb => by
        have e : ¬ m = S 232 0 := fun e => hnb (e ▸ mb)
        rw [n384, fu_ne _ _ e]
        exact ⟨hki m m0 (by omega) (g4 m m0 (by omega) mb).2.1, trivial⟩
      have hwt2 : ∀ i, 0 ≤ i → i ≤ 5 → 0 ≤ S2 640 i ∧ S2 640 i ≤ 100 := by rw [n640]; exact hwt
      have hsm2 : smB S2 b s = smB S b s := smB_c hm0 n232 hnb (fun m m0 m1 => by
        unfold basM
        rw [n384, n416, n448, n640, fu_ne _ _ (by omega), fu_ne _ _ (by omega), fu_ne _ _ (by omega)])
      have hsn : 0 ≤ smB S b s := by
        unfold smB sumI
        refine sum_nn _ (fun m m0 m1 => ?_)
        by_cases q : hasB s m
        · show 0 ≤ cI _ _ _
          rw [cI_t q]
          have e1 := hqt m m0 (by omega)
          have e2 := hct m m0 (by omega)
          have e3 := hki m m0 (by omega) (g4 m m0 (by omega) q).2.1
          have e4 := hwt _ e3.1 e3.2
          have e5 := mul_b e1.1 e1.2 e4.1 e4.2
          unfold basM
          split
          · omega
          · split <;> omega
        · show 0 ≤ cI _ _ _
          rw [cI_f q]; omega
      have hp2 : ∀ r, 0 ≤ r → r < 60 → S2 544 (60 * S 232 0 + r) = 0 := fun r r0 r1 => by
        rw [hS2, upS_c _ _ (by decide), w7104, k232, if_pos (by omega)]
      refine r_aload_n C dX8_land_122 lg_0 ?_
      refine r_aload_n C dX8_land_123 lg_0 ?_
      refine r_getI C 232 dX8_land_124 fg_X8_77_7 rfl rfl M.1 (fun g124 => ?_)
      refine r_iconst C dX8_land_127 ?_
      refine r_isub C dX8_land_128 ?_
      rw [en2]
      refine r_iload_n C dX8_land_129 lg_2 ?_
      refine r_iload_n C dX8_land_130 lg_3 ?_
      refine r_lload C dX8_land_131 lg_4 ?_
      refine q_V4V C (cM_spreads hfl M (by omega) (by omega) (by omega) (by omega) (by omega) hs (by omega) (by omega) hqt2 hct2 hit2 hwt2 (by rw [hsm2]; omega) hp2 (fun r r0 r1 => g2 r (by omega) (by omega))) dX8_land_133 lk_X8_148 M.1 ⟨Nat.le_of_ble_eq_true rfl, Nat.le_of_ble_eq_true rfl⟩ (catLe (Nat.le_of_ble_eq_true rfl)) ⟨rfl, rfl⟩ rfl (Nat.le_of_ble_eq_true rfl) (Nat.le_of_ble_eq_true rfl) (fun S133 A133 p133 => ?_)
      obtain ⟨rfl, hF133, hp133, ho133⟩ := p133
      have M : RM S133 A := M.of hF133 (by decide)
      have en3 : S133 232 0 - 1 = S 232 0 := by rw [hF133 232 0 (by decide)]; omega
      refine r_aload_n C dX8_land_136 lg_0 ?_
      refine r_getI C 232 dX8_land_137 fg_X8_77_7 rfl rfl M.1 (fun g137 => ?_)
      refine r_iconst C dX8_land_140 ?_
      refine r_isub C dX8_land_141 ?_
      rw [en3]
      exact f_I F dX8_land_142 (by omega) (by
        have z5 := hF133
        have ez : ∀ c, c ∉ [544, 1088] → S133 c = S2 c := fun c h => hF133.fn h
        have eS : Fr [320, 352, 384, 416, 448, 480, 544, 512, 232, 672, 236, 249, 1088] S S2 := ((hS1 ▸ Fr.up (by decide) : Fr [320, 352, 384, 416, 448, 480, 544, 512, 232, 672, 236, 249, 1088] S S1).tr (hF104.sub (by decide))).tr (hS2 ▸ Fr.up (by decide))
        refine ⟨rfl, Or.inr ⟨e9, rfl, ?_, ?_, ⟨?_, ?_, ?_, ?_, ?_, ?_, ?_⟩, fun r r0 r1 => ?_, fun j hj => ?_, eS.tr (hF133.sub (by decide))⟩⟩
        · rw [hF133 249 0 (by decide), hS2, upS_c _ _ (by decide), hF104 249 0 (by decide), hS1, upS_self] <;> omega
        · rw [hF133 232 0 (by decide), n232]
        · rw [ez 320 (by decide), hS2, upS_fn _ _ _ (by decide), w1104, k320, k232]
        · rw [ez 352 (by decide), hS2, upS_fn _ _ _ (by decide), w2104, k352, k232]
        · rw [ez 384 (by decide), n384]
        · rw [ez 416 (by decide), n416]
        · rw [ez 448 (by decide), n448]
        · rw [ez 480 (by decide), hS2, upS_fn _ _ _ (by decide), w6104, k480, k232]
        · rw [ez 512 (by decide), hS2, upS_fu, hF104.fn (by decide), k512]
        · rw [hp133 r r0 r1, spP_c (hF133.fn (by decide)) (hF133.fn (by decide)) (hF133.fn (by decide)) (hF133.fn (by decide)) (hF133 232 0 (by decide))]
        · rw [ho133 j hj, hS2, upS_c _ _ (by decide), w7104 j, k232, if_neg hj, k544]) (Nat.le_of_ble_eq_true rfl) (Nat.le_of_ble_eq_true rfl)
    · refine r_iconst C dX8_land_96 ?_
      exact f_I F dX8_land_97 (by omega) (by
        first
        | (exfalso; omega)
        | (have e9 : lnW S d a b s = 1 := by
             unfold lnW cI
             repeat' split
             all_goals (first | omega | contradiction)
           exact ⟨rfl, Or.inl ⟨by omega, rfl, by rw [hS1, e9]⟩⟩)
        | (have e9 : lnW S d a b s = 2 := by
             unfold lnW cI
             repeat' split
             all_goals (first | omega | contradiction)
           exact ⟨rfl, Or.inl ⟨by omega, rfl, by rw [hS1, e9]⟩⟩)
        | (have e9 : lnW S d a b s = 3 := by
             unfold lnW cI
             repeat' split
             all_goals (first | omega | contradiction)
           exact ⟨rfl, Or.inl ⟨by omega, rfl, by rw [hS1, e9]⟩⟩)) (Nat.le_of_ble_eq_true rfl) (Nat.le_of_ble_eq_true rfl)
  · refine r_iload_n C dX8_land_7 lg_2 ?_
    refine r_iconst C dX8_land_8 ?_
    refine r_ldc C dX8_land_9 cs_X8_104 1000000 (by decide) ?_
    refine q_S3Z C (cM_isIn hfl (by omega) (by omega) (by omega)) dX8_land_11 lk_X8_73 ⟨Nat.le_of_ble_eq_true rfl, Nat.le_of_ble_eq_true rfl⟩ (catLe (Nat.le_of_ble_eq_true rfl)) ⟨rfl, rfl⟩ rfl (Nat.le_of_ble_eq_true rfl) (Nat.le_of_ble_eq_true rfl) (fun z11 S11 A11 i11 p11 => ?_)
    obtain ⟨rfl, rfl, rfl⟩ := p11
    refine rb_ifeq C (tgt := 33) dX8_land_14 (by decide) (fun c14 => ?_) (fun c14 => ?_)
    · refine r_iconst C dX8_land_33 ?_
      refine r_goto C (tgt := 85) dX8_land_34 (by decide) ?_
      refine r_istore C dX8_land_85 (ls1_6 rfl trivial) ?_
      refine r_aload_n C dX8_land_87 lg_0 ?_
      refine r_iload C dX8_land_88 lg_6 ?_
      refine q_V1Z C (cM_goes hfl (by assumption) (by omega)) dX8_land_90 lk_X8_112 M.1 ⟨Nat.le_of_ble_eq_true rfl, Nat.le_of_ble_eq_true rfl⟩ (catLe (Nat.le_of_ble_eq_true rfl)) ⟨rfl, rfl⟩ rfl (Nat.le_of_ble_eq_true rfl) (Nat.le_of_ble_eq_true rfl) (fun z90 S90 A90 i90 p90 => ?_)
      obtain ⟨rfl, rfl, rfl⟩ := p90
      refine r_gS (fun S1 hS1 => ?_)
      have M : RM S1 A := by rw [hS1]; exact M0.up (by decide)
      refine rb_ifne C (tgt := 98) dX8_land_93 (by decide) (fun c93 => ?_) (fun c93 => ?_)
      · have e9 : lnW S d a b s = 0 := by
          unfold lnW cI
          repeat' split
          all_goals (first | omega | contradiction)
        have q1 : ∀ c, c ≠ 249 → S1 c = S c := fun c h => by rw [hS1]; exact upS_fn _ _ _ h
        have k232 : S1 232 0 = S 232 0 := by rw [q1 232 (by decide)]
        have k320 := q1 320 (by decide)
        have k352 := q1 352 (by decide)
        have k384 := q1 384 (by decide)
        have k416 := q1 416 (by decide)
        have k448 := q1 448 (by decide)
        have k480 := q1 480 (by decide)
        have k512 := q1 512 (by decide)
        have k544 := q1 544 (by decide)
        have k640 := q1 640 (by decide)
        obtain ⟨g1, g2, g3, g4, g5⟩ := lnW_0 e9
        refine r_aload_n C dX8_land_98 lg_0 ?_
        refine r_iconst C dX8_land_99 ?_
        refine r_iload_n C dX8_land_100 lg_1 ?_
        refine r_iconst C dX8_land_101 ?_
        refine r_iconst C dX8_land_102 ?_
        refine r_iload_n C dX8_land_103 lg_2 ?_
        refine q_V5Z C (cM_posts hfl M (by omega) (by omega) (by omega) (by omega) (by omega) (by omega) (by omega) (fun m m0 m1 => by rw [k416]; exact hqt m m0 (by omega))) dX8_land_104 lk_X8_115 M.1 ⟨Nat.le_of_ble_eq_true rfl, Nat.le_of_ble_eq_true rfl⟩ (catLe (Nat.le_of_ble_eq_true rfl)) ⟨rfl, rfl⟩ rfl (Nat.le_of_ble_eq_true rfl) (Nat.le_of_ble_eq_true rfl) (fun z104 S104 A104 i104 p104 => ?_)
        obtain ⟨rfl, rfl, hF104, he104, w1104, w2104, w3104, w4104, w5104, w6104, w7104⟩ := p104
        have M : RM S104 A := M.of hF104 (by decide)
        rw [b2i_t (Or.inl rfl)] at he104
        have en : S104 232 0 - 1 = S 232 0 := by omega
        refine r_istore C dX8_land_107 (ls1_7 rfl rfl) ?_
        refine r_aload_n C dX8_land_109 lg_0 ?_
        refine r_getA C 230 16 dX8_land_110 fg_X8_29_7 rfl rfl M.1 (fun g110 => ?_)
        refine r_aload_n C dX8_land_113 lg_0 ?_
        refine r_getI C 232 dX8_land_114 fg_X8_77_7 rfl rfl M.1 (fun g114 => ?_)
        refine r_iconst C dX8_land_117 ?_
        refine r_isub C dX8_land_118 ?_
        rw [en]
        refine r_lload C dX8_land_119 lg_4 ?_
        refine r_last C (N := 60) 512 dX8_land_121 (by decide) rfl rfl (M.g (j := 6) (by decide)) (by omega) (by omega) (by omega) (by omega) ?_
        refine r_gS (fun S2 hS2 => ?_)
        have M : RM S2 A := by rw [hS2]; exact M.up (by decide)
        have n232 : S2 232 0 = S 232 0 + 1 := by rw [hS2, upS_c _ _ (by decide)]; omega
        have en2 : S2 232 0 - 1 = S 232 0 := by omega
        have n384 : S2 384 = fu (S 384) (S 232 0) (-1) := by rw [hS2, upS_fn _ _ _ (by decide), w3104, k384, k232]
        have n416 : S2 416 = fu (S 416) (S 232 0) 0 := by rw [hS2, upS_fn _ _ _ (by decide), w4104, k416, k232]
        have n448 : S2 448 = fu (S 448) (S 232 0) a := by rw [hS2, upS_fn _ _ _ (by decide), w5104, k448, k232]
        have n640 : S2 640 = S 640 := by rw [hS2, upS_fn _ _ _ (by decide), hF104.fn (by decide), k640]
        have hqt2 : ∀ m, 0 ≤ m → m < S2 232 0 → 0 ≤ S2 416 m ∧ S2 416 m ≤ 1000 := fun m m0 m1 => by
          rw [n416]
          by_cases e : m = S 232 0
          · rw [e, fu_self]; omega
          · rw [fu_ne _ _ e]; exact hqt m m0 (by omega)
        have hct2 : ∀ m, 0 ≤ m → m < S2 232 0 → 0 ≤ S2 448 m ∧ S2 448 m ≤ 1000000 := fun m m0 m1 => by
          rw [n448]
          by_cases e : m = S 232 0
          · rw [e, fu_self]; omega
          · rw [fu_ne _ _ e]; exact hct m m0 (by omega)
        have hnb : ¬ hasB s (S 232 0) := g2 _ (Int.le_refl _) (by omega)
        have hit2 : ∀ m, 0 ≤ m → m < S2 232 0 → hasB s m → (0 ≤ S2 384 m ∧ S2 384 m ≤ 5) ∧ True := fun m m0 m1 mb => by
          have e : ¬ m = S 232 0 := fun e => hnb (e ▸ mb)
          rw [n384, fu_ne _ _ e]
          exact ⟨hki m m0 (by omega) (g4 m m0 (by omega) mb).2.1, trivial⟩
        have hwt2 : ∀ i, 0 ≤ i → i ≤ 5 → 0 ≤ S2 640 i ∧ S2 640 i ≤ 100 := by rw [n640]; exact hwt
        have hsm2 : smB S2 b s = smB S b s := smB_c hm0 n232 hnb (fun m m0 m1 => by
          unfold basM
          rw [n384, n416, n448, n640, fu_ne _ _ (by omega), fu_ne _ _ (by omega), fu_ne _ _ (by omega)])
        have hsn : 0 ≤ smB S b s := by
          unfold smB sumI
          refine sum_nn _ (fun m m0 m1 => ?_)
          by_cases q : hasB s m
          · show 0 ≤ cI _ _ _
            rw [cI_t q]
            have e1 := hqt m m0 (by omega)
            have e2 := hct m m0 (by omega)
            have e3 := hki m m0 (by omega) (g4 m m0 (by omega) q).2.1
            have e4 := hwt _ e3.1 e3.2
            have e5 := mul_b e1.1 e1.2 e4.1 e4.2
            unfold basM
            split
            · omega
            · split <;> omega
          · show 0 ≤ cI _ _ _
            rw [cI_f q]; omega
        have hp2 : ∀ r, 0 ≤ r → r < 60 → S2 544 (60 * S 232 0 + r) = 0 := fun r r0 r1 => by
          rw [hS2, upS_c _ _ (by decide), w7104, k232, if_pos (by omega)]
        refine r_aload_n C dX8_land_122 lg_0 ?_
        refine r_aload_n C dX8_land_123 lg_0 ?_
        refine r_getI C 232 dX8_land_124 fg_X8_77_7 rfl rfl M.1 (fun g124 => ?_)
        refine r_iconst C dX8_land_127 ?_
        refine r_isub C dX8_land_128 ?_
        rw [en2]
        refine r_iload_n C dX8_land_129 lg_2 ?_
        refine r_iload_n C dX8_land_130 lg_3 ?_
        refine r_lload C dX8_land_131 lg_4 ?_
        refine q_V4V C (cM_spreads hfl M (by omega) (by omega) (by omega) (by omega) (by omega) hs (by omega) (by omega) hqt2 hct2 hit2 hwt2 (by rw [hsm2]; omega) hp2 (fun r r0 r1 => g2 r (by omega) (by omega))) dX8_land_133 lk_X8_148 M.1 ⟨Nat.le_of_ble_eq_true rfl, Nat.le_of_ble_eq_true rfl⟩ (catLe (Nat.le_of_ble_eq_true rfl)) ⟨rfl, rfl⟩ rfl (Nat.le_of_ble_eq_true rfl) (Nat.le_of_ble_eq_true rfl) (fun S133 A133 p133 => ?_)
        obtain ⟨rfl, hF133, hp133, ho133⟩ := p133
        have M : RM S133 A := M.of hF133 (by decide)
        have en3 : S133 232 0 - 1 = S 232 0 := by rw [hF133 232 0 (by decide)]; omega
        refine r_aload_n C dX8_land_136 lg_0 ?_
        refine r_getI C 232 dX8_land_137 fg_X8_77_7 rfl rfl M.1 (fun g137 => ?_)
        refine r_iconst C dX8_land_140 ?_
        refine r_isub C dX8_land_141 ?_
        rw [en3]
        exact f_I F dX8_land_142 (by omega) (by
          have z5 := hF133
          have ez : ∀ c, c ∉ [544, 1088] → S133 c = S2 c := fun c h => hF133.fn h
          have eS : Fr [320, 352, 384, 416, 448, 480, 544, 512, 232, 672, 236, 249, 1088] S S2 := ((hS1 ▸ Fr.up (by decide) : Fr [320, 352, 384, 416, 448, 480, 544, 512, 232, 672, 236, 249, 1088] S S1).tr (hF104.sub (by decide))).tr (hS2 ▸ Fr.up (by decide))
          refine ⟨rfl, Or.inr ⟨e9, rfl, ?_, ?_, ⟨?_, ?_, ?_, ?_, ?_, ?_, ?_⟩, fun r r0 r1 => ?_, fun j hj => ?_, eS.tr (hF133.sub (by decide))⟩⟩
          · rw [hF133 249 0 (by decide), hS2, upS_c _ _ (by decide), hF104 249 0 (by decide), hS1, upS_self] <;> omega
          · rw [hF133 232 0 (by decide), n232]
          · rw [ez 320 (by decide), hS2, upS_fn _ _ _ (by decide), w1104, k320, k232]
          · rw [ez 352 (by decide), hS2, upS_fn _ _ _ (by decide), w2104, k352, k232]
          · rw [ez 384 (by decide), n384]
          · rw [ez 416 (by decide), n416]
          · rw [ez 448 (by decide), n448]
          · rw [ez 480 (by decide), hS2, upS_fn _ _ _ (by decide), w6104, k480, k232]
          · rw [ez 512 (by decide), hS2, upS_fu, hF104.fn (by decide), k512]
          · rw [hp133 r r0 r1, spP_c (hF133.fn (by decide)) (hF133.fn (by decide)) (hF133.fn (by decide)) (hF133.fn (by decide)) (hF133 232 0 (by decide))]
          · rw [ho133 j hj, hS2, upS_c _ _ (by decide), w7104 j, k232, if_neg hj, k544]) (Nat.le_of_ble_eq_true rfl) (Nat.le_of_ble_eq_true rfl)
      · refine r_iconst C dX8_land_96 ?_
        exact f_I F dX8_land_97 (by omega) (by
          first
          | (exfalso; omega)
          | (have e9 : lnW S d a b s = 1 := by
               unfold lnW cI
               repeat' split
               all_goals (first | omega | contradiction)
             exact ⟨rfl, Or.inl ⟨by omega, rfl, by rw [hS1, e9]⟩⟩)
          | (have e9 : lnW S d a b s = 2 := by
               unfold lnW cI
               repeat' split
               all_goals (first | omega | contradiction)
             exact ⟨rfl, Or.inl ⟨by omega, rfl, by rw [hS1, e9]⟩⟩)
          | (have e9 : lnW S d a b s = 3 := by
               unfold lnW cI
               repeat' split
               all_goals (first | omega | contradiction)
             exact ⟨rfl, Or.inl ⟨by omega, rfl, by rw [hS1, e9]⟩⟩)) (Nat.le_of_ble_eq_true rfl) (Nat.le_of_ble_eq_true rfl)
    · refine r_iload_n C dX8_land_17 lg_3 ?_
      refine r_iconst C dX8_land_18 ?_
      refine r_iconst C dX8_land_19 ?_
      refine q_S3Z C (cM_isIn hfl (by omega) (by omega) (by omega)) dX8_land_20 lk_X8_73 ⟨Nat.le_of_ble_eq_true rfl, Nat.le_of_ble_eq_true rfl⟩ (catLe (Nat.le_of_ble_eq_true rfl)) ⟨rfl, rfl⟩ rfl (Nat.le_of_ble_eq_true rfl) (Nat.le_of_ble_eq_true rfl) (fun z20 S20 A20 i20 p20 => ?_)
      obtain ⟨rfl, rfl, rfl⟩ := p20
      refine rb_ifeq C (tgt := 33) dX8_land_23 (by decide) (fun c23 => ?_) (fun c23 => ?_)
      · refine r_iconst C dX8_land_33 ?_
        refine r_goto C (tgt := 85) dX8_land_34 (by decide) ?_
        refine r_istore C dX8_land_85 (ls1_6 rfl trivial) ?_
        refine r_aload_n C dX8_land_87 lg_0 ?_
        refine r_iload C dX8_land_88 lg_6 ?_
        refine q_V1Z C (cM_goes hfl (by assumption) (by omega)) dX8_land_90 lk_X8_112 M.1 ⟨Nat.le_of_ble_eq_true rfl, Nat.le_of_ble_eq_true rfl⟩ (catLe (Nat.le_of_ble_eq_true rfl)) ⟨rfl, rfl⟩ rfl (Nat.le_of_ble_eq_true rfl) (Nat.le_of_ble_eq_true rfl) (fun z90 S90 A90 i90 p90 => ?_)
        obtain ⟨rfl, rfl, rfl⟩ := p90
        refine r_gS (fun S1 hS1 => ?_)
        have M : RM S1 A := by rw [hS1]; exact M0.up (by decide)
        refine rb_ifne C (tgt := 98) dX8_land_93 (by decide) (fun c93 => ?_) (fun c93 => ?_)
        · have e9 : lnW S d a b s = 0 := by
            unfold lnW cI
            repeat' split
            all_goals (first | omega | contradiction)
          have q1 : ∀ c, c ≠ 249 → S1 c = S c := fun c h => by rw [hS1]; exact upS_fn _ _ _ h
          have k232 : S1 232 0 = S 232 0 := by rw [q1 232 (by decide)]
          have k320 := q1 320 (by decide)
          have k352 := q1 352 (by decide)
          have k384 := q1 384 (by decide)
          have k416 := q1 416 (by decide)
          have k448 := q1 448 (by decide)
          have k480 := q1 480 (by decide)
          have k512 := q1 512 (by decide)
          have k544 := q1 544 (by decide)
          have k640 := q1 640 (by decide)
          obtain ⟨g1, g2, g3, g4, g5⟩ := lnW_0 e9
          refine r_aload_n C dX8_land_98 lg_0 ?_
          refine r_iconst C dX8_land_99 ?_
          refine r_iload_n C dX8_land_100 lg_1 ?_
          refine r_iconst C dX8_land_101 ?_
          refine r_iconst C dX8_land_102 ?_
          refine r_iload_n C dX8_land_103 lg_2 ?_
          refine q_V5Z C (cM_posts hfl M (by omega) (by omega) (by omega) (by omega) (by omega) (by omega) (by omega) (fun m m0 m1 => by rw [k416]; exact hqt m m0 (by omega))) dX8_land_104 lk_X8_115 M.1 ⟨Nat.le_of_ble_eq_true rfl, Nat.le_of_ble_eq_true rfl⟩ (catLe (Nat.le_of_ble_eq_true rfl)) ⟨rfl, rfl⟩ rfl (Nat.le_of_ble_eq_true rfl) (Nat.le_of_ble_eq_true rfl) (fun z104 S104 A104 i104 p104 => ?_)
          obtain ⟨rfl, rfl, hF104, he104, w1104, w2104, w3104, w4104, w5104, w6104, w7104⟩ := p104
          have M : RM S104 A := M.of hF104 (by decide)
          rw [b2i_t (Or.inl rfl)] at he104
          have en : S104 232 0 - 1 = S 232 0 := by omega
          refine r_istore C dX8_land_107 (ls1_7 rfl rfl) ?_
          refine r_aload_n C dX8_land_109 lg_0 ?_
          refine r_getA C 230 16 dX8_land_110 fg_X8_29_7 rfl rfl M.1 (fun g110 => ?_)
          refine r_aload_n C dX8_land_113 lg_0 ?_
          refine r_getI C 232 dX8_land_114 fg_X8_77_7 rfl rfl M.1 (fun g114 => ?_)
          refine r_iconst C dX8_land_117 ?_
          refine r_isub C dX8_land_118 ?_
          rw [en]
          refine r_lload C dX8_land_119 lg_4 ?_
          refine r_last C (N := 60) 512 dX8_land_121 (by decide) rfl rfl (M.g (j := 6) (by decide)) (by omega) (by omega) (by omega) (by omega) ?_
          refine r_gS (fun S2 hS2 => ?_)
          have M : RM S2 A := by rw [hS2]; exact M.up (by decide)
          have n232 : S2 232 0 = S 232 0 + 1 := by rw [hS2, upS_c _ _ (by decide)]; omega
          have en2 : S2 232 0 - 1 = S 232 0 := by omega
          have n384 : S2 384 = fu (S 384) (S 232 0) (-1) := by rw [hS2, upS_fn _ _ _ (by decide), w3104, k384, k232]
          have n416 : S2 416 = fu (S 416) (S 232 0) 0 := by rw [hS2, upS_fn _ _ _ (by decide), w4104, k416, k232]
          have n448 : S2 448 = fu (S 448) (S 232 0) a := by rw [hS2, upS_fn _ _ _ (by decide), w5104, k448, k232]
          have n640 : S2 640 = S 640 := by rw [hS2, upS_fn _ _ _ (by decide), hF104.fn (by decide), k640]
          have hqt2 : ∀ m, 0 ≤ m → m < S2 232 0 → 0 ≤ S2 416 m ∧ S2 416 m ≤ 1000 := fun m m0 m1 => by
            rw [n416]
            by_cases e : m = S 232 0
            · rw [e, fu_self]; omega
            · rw [fu_ne _ _ e]; exact hqt m m0 (by omega)
          have hct2 : ∀ m, 0 ≤ m → m < S2 232 0 → 0 ≤ S2 448 m ∧ S2 448 m ≤ 1000000 := fun m m0 m1 => by
            rw [n448]
            by_cases e : m = S 232 0
            · rw [e, fu_self]; omega
            · rw [fu_ne _ _ e]; exact hct m m0 (by omega)
          have hnb : ¬ hasB s (S 232 0) := g2 _ (Int.le_refl _) (by omega)
          have hit2 : ∀ m, 0 ≤ m → m < S2 232 0 → hasB s m → (0 ≤ S2 384 m ∧ S2 384 m ≤ 5) ∧ True := fun m m0 m1 mb => by
            have e : ¬ m = S 232 0 := fun e => hnb (e ▸ mb)
            rw [n384, fu_ne _ _ e]
            exact ⟨hki m m0 (by omega) (g4 m m0 (by omega) mb).2.1, trivial⟩
          have hwt2 : ∀ i, 0 ≤ i → i ≤ 5 → 0 ≤ S2 640 i ∧ S2 640 i ≤ 100 := by rw [n640]; exact hwt
          have hsm2 : smB S2 b s = smB S b s := smB_c hm0 n232 hnb (fun m m0 m1 => by
            unfold basM
            rw [n384, n416, n448, n640, fu_ne _ _ (by omega), fu_ne _ _ (by omega), fu_ne _ _ (by omega)])
          have hsn : 0 ≤ smB S b s := by
            unfold smB sumI
            refine sum_nn _ (fun m m0 m1 => ?_)
            by_cases q : hasB s m
            · show 0 ≤ cI _ _ _
              rw [cI_t q]
              have e1 := hqt m m0 (by omega)
              have e2 := hct m m0 (by omega)
              have e3 := hki m m0 (by omega) (g4 m m0 (by omega) q).2.1
              have e4 := hwt _ e3.1 e3.2
              have e5 := mul_b e1.1 e1.2 e4.1 e4.2
              unfold basM
              split
              · omega
              · split <;> omega
            · show 0 ≤ cI _ _ _
              rw [cI_f q]; omega
          have hp2 : ∀ r, 0 ≤ r → r < 60 → S2 544 (60 * S 232 0 + r) = 0 := fun r r0 r1 => by
            rw [hS2, upS_c _ _ (by decide), w7104, k232, if_pos (by omega)]
          refine r_aload_n C dX8_land_122 lg_0 ?_
          refine r_aload_n C dX8_land_123 lg_0 ?_
          refine r_getI C 232 dX8_land_124 fg_X8_77_7 rfl rfl M.1 (fun g124 => ?_)
          refine r_iconst C dX8_land_127 ?_
          refine r_isub C dX8_land_128 ?_
          rw [en2]
          refine r_iload_n C dX8_land_129 lg_2 ?_
          refine r_iload_n C dX8_land_130 lg_3 ?_
          refine r_lload C dX8_land_131 lg_4 ?_
          refine q_V4V C (cM_spreads hfl M (by omega) (by omega) (by omega) (by omega) (by omega) hs (by omega) (by omega) hqt2 hct2 hit2 hwt2 (by rw [hsm2]; omega) hp2 (fun r r0 r1 => g2 r (by omega) (by omega))) dX8_land_133 lk_X8_148 M.1 ⟨Nat.le_of_ble_eq_true rfl, Nat.le_of_ble_eq_true rfl⟩ (catLe (Nat.le_of_ble_eq_true rfl)) ⟨rfl, rfl⟩ rfl (Nat.le_of_ble_eq_true rfl) (Nat.le_of_ble_eq_true rfl) (fun S133 A133 p133 => ?_)
          obtain ⟨rfl, hF133, hp133, ho133⟩ := p133
          have M : RM S133 A := M.of hF133 (by decide)
          have en3 : S133 232 0 - 1 = S 232 0 := by rw [hF133 232 0 (by decide)]; omega
          refine r_aload_n C dX8_land_136 lg_0 ?_
          refine r_getI C 232 dX8_land_137 fg_X8_77_7 rfl rfl M.1 (fun g137 => ?_)
          refine r_iconst C dX8_land_140 ?_
          refine r_isub C dX8_land_141 ?_
          rw [en3]
          exact f_I F dX8_land_142 (by omega) (by
            have z5 := hF133
            have ez : ∀ c, c ∉ [544, 1088] → S133 c = S2 c := fun c h => hF133.fn h
            have eS : Fr [320, 352, 384, 416, 448, 480, 544, 512, 232, 672, 236, 249, 1088] S S2 := ((hS1 ▸ Fr.up (by decide) : Fr [320, 352, 384, 416, 448, 480, 544, 512, 232, 672, 236, 249, 1088] S S1).tr (hF104.sub (by decide))).tr (hS2 ▸ Fr.up (by decide))
            refine ⟨rfl, Or.inr ⟨e9, rfl, ?_, ?_, ⟨?_, ?_, ?_, ?_, ?_, ?_, ?_⟩, fun r r0 r1 => ?_, fun j hj => ?_, eS.tr (hF133.sub (by decide))⟩⟩
            · rw [hF133 249 0 (by decide), hS2, upS_c _ _ (by decide), hF104 249 0 (by decide), hS1, upS_self] <;> omega
            · rw [hF133 232 0 (by decide), n232]
            · rw [ez 320 (by decide), hS2, upS_fn _ _ _ (by decide), w1104, k320, k232]
            · rw [ez 352 (by decide), hS2, upS_fn _ _ _ (by decide), w2104, k352, k232]
            · rw [ez 384 (by decide), n384]
            · rw [ez 416 (by decide), n416]
            · rw [ez 448 (by decide), n448]
            · rw [ez 480 (by decide), hS2, upS_fn _ _ _ (by decide), w6104, k480, k232]
            · rw [ez 512 (by decide), hS2, upS_fu, hF104.fn (by decide), k512]
            · rw [hp133 r r0 r1, spP_c (hF133.fn (by decide)) (hF133.fn (by decide)) (hF133.fn (by decide)) (hF133.fn (by decide)) (hF133 232 0 (by decide))]
            · rw [ho133 j hj, hS2, upS_c _ _ (by decide), w7104 j, k232, if_neg hj, k544]) (Nat.le_of_ble_eq_true rfl) (Nat.le_of_ble_eq_true rfl)
        · refine r_iconst C dX8_land_96 ?_
          exact f_I F dX8_land_97 (by omega) (by
            first
            | (exfalso; omega)
            | (have e9 : lnW S d a b s = 1 := by
                 unfold lnW cI
                 repeat' split
                 all_goals (first | omega | contradiction)
               exact ⟨rfl, Or.inl ⟨by omega, rfl, by rw [hS1, e9]⟩⟩)
            | (have e9 : lnW S d a b s = 2 := by
                 unfold lnW cI
                 repeat' split
                 all_goals (first | omega | contradiction)
               exact ⟨rfl, Or.inl ⟨by omega, rfl, by rw [hS1, e9]⟩⟩)
            | (have e9 : lnW S d a b s = 3 := by
                 unfold lnW cI
                 repeat' split
                 all_goals (first | omega | contradiction)
               exact ⟨rfl, Or.inl ⟨by omega, rfl, by rw [hS1, e9]⟩⟩)) (Nat.le_of_ble_eq_true rfl) (Nat.le_of_ble_eq_true rfl)
      · refine r_lload C dX8_land_26 lg_4 ?_
        refine r_lconst C dX8_land_28 0 rfl ?_
        refine r_lcne C (tgt := 37) dX8_land_29 dX8_land_30 (by decide) (by omega) (by omega) (fun c29 => ?_) (fun c29 => ?_)
        · refine r_aload_n C dX8_land_37 lg_0 ?_
          refine r_lload C dX8_land_38 lg_4 ?_
          refine q_V1Z C (cM_areMovements hfl M0 hs hm0 hm1) dX8_land_40 lk_X8_141 M.1 ⟨Nat.le_of_ble_eq_true rfl, Nat.le_of_ble_eq_true rfl⟩ (catLe (Nat.le_of_ble_eq_true rfl)) ⟨rfl, rfl⟩ rfl (Nat.le_of_ble_eq_true rfl) (Nat.le_of_ble_eq_true rfl) (fun z40 S40 A40 i40 p40 => ?_)
          obtain ⟨rfl, rfl, rfl⟩ := p40
          refine rb_ifne C (tgt := 50) dX8_land_43 (by decide) (fun c43 => ?_) (fun c43 => ?_)
          · refine r_aload_n C dX8_land_50 lg_0 ?_
            refine r_iload_n C dX8_land_51 lg_1 ?_
            refine q_V1Z C (cM_isShut hfl (by assumption) (by omega)) dX8_land_52 lk_X8_105 M.1 ⟨Nat.le_of_ble_eq_true rfl, Nat.le_of_ble_eq_true rfl⟩ (catLe (Nat.le_of_ble_eq_true rfl)) ⟨rfl, rfl⟩ rfl (Nat.le_of_ble_eq_true rfl) (Nat.le_of_ble_eq_true rfl) (fun z52 S52 A52 i52 p52 => ?_)
            obtain ⟨rfl, rfl, rfl⟩ := p52
            refine rb_ifne C (tgt := 80) dX8_land_55 (by decide) (fun c55 => ?_) (fun c55 => ?_)
            · refine r_iconst C dX8_land_80 ?_
              refine r_goto C (tgt := 85) dX8_land_81 (by decide) ?_
              refine r_istore C dX8_land_85 (ls1_6 rfl trivial) ?_
              refine r_aload_n C dX8_land_87 lg_0 ?_
              refine r_iload C dX8_land_88 lg_6 ?_
              refine q_V1Z C (cM_goes hfl (by assumption) (by omega)) dX8_land_90 lk_X8_112 M.1 ⟨Nat.le_of_ble_eq_true rfl, Nat.le_of_ble_eq_true rfl⟩ (catLe (Nat.le_of_ble_eq_true rfl)) ⟨rfl, rfl⟩ rfl (Nat.le_of_ble_eq_true rfl) (Nat.le_of_ble_eq_true rfl) (fun z90 S90 A90 i90 p90 => ?_)
              obtain ⟨rfl, rfl, rfl⟩ := p90
              refine r_gS (fun S1 hS1 => ?_)
              have M : RM S1 A := by rw [hS1]; exact M0.up (by decide)
              refine rb_ifne C (tgt := 98) dX8_land_93 (by decide) (fun c93 => ?_) (fun c93 => ?_)
              · have e9 : lnW S d a b s = 0 := by
                  unfold lnW cI
                  repeat' split
                  all_goals (first | omega | contradiction)
                have q1 : ∀ c, c ≠ 249 → S1 c = S c := fun c h => by rw [hS1]; exact upS_fn _ _ _ h
                have k232 : S1 232 0 = S 232 0 := by rw [q1 232 (by decide)]
                have k320 := q1 320 (by decide)
                have k352 := q1 352 (by decide)
                have k384 := q1 384 (by decide)
                have k416 := q1 416 (by decide)
                have k448 := q1 448 (by decide)
                have k480 := q1 480 (by decide)
                have k512 := q1 512 (by decide)
                have k544 := q1 544 (by decide)
                have k640 := q1 640 (by decide)
                obtain ⟨g1, g2, g3, g4, g5⟩ := lnW_0 e9
                refine r_aload_n C dX8_land_98 lg_0 ?_
                refine r_iconst C dX8_land_99 ?_
                refine r_iload_n C dX8_land_100 lg_1 ?_
                refine r_iconst C dX8_land_101 ?_
                refine r_iconst C dX8_land_102 ?_
                refine r_iload_n C dX8_land_103 lg_2 ?_
                refine q_V5Z C (cM_posts hfl M (by omega) (by omega) (by omega) (by omega) (by omega) (by omega) (by omega) (fun m m0 m1 => by rw [k416]; exact hqt m m0 (by omega))) dX8_land_104 lk_X8_115 M.1 ⟨Nat.le_of_ble_eq_true rfl, Nat.le_of_ble_eq_true rfl⟩ (catLe (Nat.le_of_ble_eq_true rfl)) ⟨rfl, rfl⟩ rfl (Nat.le_of_ble_eq_true rfl) (Nat.le_of_ble_eq_true rfl) (fun z104 S104 A104 i104 p104 => ?_)
                obtain ⟨rfl, rfl, hF104, he104, w1104, w2104, w3104, w4104, w5104, w6104, w7104⟩ := p104
                have M : RM S104 A := M.of hF104 (by decide)
                rw [b2i_t (Or.inl rfl)] at he104
                have en : S104 232 0 - 1 = S 232 0 := by omega
                refine r_istore C dX8_land_107 (ls1_7 rfl rfl) ?_
                refine r_aload_n C dX8_land_109 lg_0 ?_
                refine r_getA C 230 16 dX8_land_110 fg_X8_29_7 rfl rfl M.1 (fun g110 => ?_)
                refine r_aload_n C dX8_land_113 lg_0 ?_
                refine r_getI C 232 dX8_land_114 fg_X8_77_7 rfl rfl M.1 (fun g114 => ?_)
                refine r_iconst C dX8_land_117 ?_
                refine r_isub C dX8_land_118 ?_
                rw [en]
                refine r_lload C dX8_land_119 lg_4 ?_
                refine r_last C (N := 60) 512 dX8_land_121 (by decide) rfl rfl (M.g (j := 6) (by decide)) (by omega) (by omega) (by omega) (by omega) ?_
                refine r_gS (fun S2 hS2 => ?_)
                have M : RM S2 A := by rw [hS2]; exact M.up (by decide)
                have n232 : S2 232 0 = S 232 0 + 1 := by rw [hS2, upS_c _ _ (by decide)]; omega
                have en2 : S2 232 0 - 1 = S 232 0 := by omega
                have n384 : S2 384 = fu (S 384) (S 232 0) (-1) := by rw [hS2, upS_fn _ _ _ (by decide), w3104, k384, k232]
                have n416 : S2 416 = fu (S 416) (S 232 0) 0 := by rw [hS2, upS_fn _ _ _ (by decide), w4104, k416, k232]
                have n448 : S2 448 = fu (S 448) (S 232 0) a := by rw [hS2, upS_fn _ _ _ (by decide), w5104, k448, k232]
                have n640 : S2 640 = S 640 := by rw [hS2, upS_fn _ _ _ (by decide), hF104.fn (by decide), k640]
                have hqt2 : ∀ m, 0 ≤ m → m < S2 232 0 → 0 ≤ S2 416 m ∧ S2 416 m ≤ 1000 := fun m m0 m1 => by
                  rw [n416]
                  by_cases e : m = S 232 0
                  · rw [e, fu_self]; omega
                  · rw [fu_ne _ _ e]; exact hqt m m0 (by omega)
                have hct2 : ∀ m, 0 ≤ m → m < S2 232 0 → 0 ≤ S2 448 m ∧ S2 448 m ≤ 1000000 := fun m m0 m1 => by
                  rw [n448]
                  by_cases e : m = S 232 0
                  · rw [e, fu_self]; omega
                  · rw [fu_ne _ _ e]; exact hct m m0 (by omega)
                have hnb : ¬ hasB s (S 232 0) := g2 _ (Int.le_refl _) (by omega)
                have hit2 : ∀ m, 0 ≤ m → m < S2 232 0 → hasB s m → (0 ≤ S2 384 m ∧ S2 384 m ≤ 5) ∧ True := fun m m0 m1 mb => by
                  have e : ¬ m = S 232 0 := fun e => hnb (e ▸ mb)
                  rw [n384, fu_ne _ _ e]
                  exact ⟨hki m m0 (by omega) (g4 m m0 (by omega) mb).2.1, trivial⟩
                have hwt2 : ∀ i, 0 ≤ i → i ≤ 5 → 0 ≤ S2 640 i ∧ S2 640 i ≤ 100 := by rw [n640]; exact hwt
                have hsm2 : smB S2 b s = smB S b s := smB_c hm0 n232 hnb (fun m m0 m1 => by
                  unfold basM
                  rw [n384, n416, n448, n640, fu_ne _ _ (by omega), fu_ne _ _ (by omega), fu_ne _ _ (by omega)])
                have hsn : 0 ≤ smB S b s := by
                  unfold smB sumI
                  refine sum_nn _ (fun m m0 m1 => ?_)
                  by_cases q : hasB s m
                  · show 0 ≤ cI _ _ _
                    rw [cI_t q]
                    have e1 := hqt m m0 (by omega)
                    have e2 := hct m m0 (by omega)
                    have e3 := hki m m0 (by omega) (g4 m m0 (by omega) q).2.1
                    have e4 := hwt _ e3.1 e3.2
                    have e5 := mul_b e1.1 e1.2 e4.1 e4.2
                    unfold basM
                    split
                    · omega
                    · split <;> omega
                  · show 0 ≤ cI _ _ _
                    rw [cI_f q]; omega
                have hp2 : ∀ r, 0 ≤ r → r < 60 → S2 544 (60 * S 232 0 + r) = 0 := fun r r0 r1 => by
                  rw [hS2, upS_c _ _ (by decide), w7104, k232, if_pos (by omega)]
                refine r_aload_n C dX8_land_122 lg_0 ?_
                refine r_aload_n C dX8_land_123 lg_0 ?_
                refine r_getI C 232 dX8_land_124 fg_X8_77_7 rfl rfl M.1 (fun g124 => ?_)
                refine r_iconst C dX8_land_127 ?_
                refine r_isub C dX8_land_128 ?_
                rw [en2]
                refine r_iload_n C dX8_land_129 lg_2 ?_
                refine r_iload_n C dX8_land_130 lg_3 ?_
                refine r_lload C dX8_land_131 lg_4 ?_
                refine q_V4V C (cM_spreads hfl M (by omega) (by omega) (by omega) (by omega) (by omega) hs (by omega) (by omega) hqt2 hct2 hit2 hwt2 (by rw [hsm2]; omega) hp2 (fun r r0 r1 => g2 r (by omega) (by omega))) dX8_land_133 lk_X8_148 M.1 ⟨Nat.le_of_ble_eq_true rfl, Nat.le_of_ble_eq_true rfl⟩ (catLe (Nat.le_of_ble_eq_true rfl)) ⟨rfl, rfl⟩ rfl (Nat.le_of_ble_eq_true rfl) (Nat.le_of_ble_eq_true rfl) (fun S133 A133 p133 => ?_)
                obtain ⟨rfl, hF133, hp133, ho133⟩ := p133
                have M : RM S133 A := M.of hF133 (by decide)
                have en3 : S133 232 0 - 1 = S 232 0 := by rw [hF133 232 0 (by decide)]; omega
                refine r_aload_n C dX8_land_136 lg_0 ?_
                refine r_getI C 232 dX8_land_137 fg_X8_77_7 rfl rfl M.1 (fun g137 => ?_)
                refine r_iconst C dX8_land_140 ?_
                refine r_isub C dX8_land_141 ?_
                rw [en3]
                exact f_I F dX8_land_142 (by omega) (by
                  have z5 := hF133
                  have ez : ∀ c, c ∉ [544, 1088] → S133 c = S2 c := fun c h => hF133.fn h
                  have eS : Fr [320, 352, 384, 416, 448, 480, 544, 512, 232, 672, 236, 249, 1088] S S2 := ((hS1 ▸ Fr.up (by decide) : Fr [320, 352, 384, 416, 448, 480, 544, 512, 232, 672, 236, 249, 1088] S S1).tr (hF104.sub (by decide))).tr (hS2 ▸ Fr.up (by decide))
                  refine ⟨rfl, Or.inr ⟨e9, rfl, ?_, ?_, ⟨?_, ?_, ?_, ?_, ?_, ?_, ?_⟩, fun r r0 r1 => ?_, fun j hj => ?_, eS.tr (hF133.sub (by decide))⟩⟩
                  · rw [hF133 249 0 (by decide), hS2, upS_c _ _ (by decide), hF104 249 0 (by decide), hS1, upS_self] <;> omega
                  · rw [hF133 232 0 (by decide), n232]
                  · rw [ez 320 (by decide), hS2, upS_fn _ _ _ (by decide), w1104, k320, k232]
                  · rw [ez 352 (by decide), hS2, upS_fn _ _ _ (by decide), w2104, k352, k232]
                  · rw [ez 384 (by decide), n384]
                  · rw [ez 416 (by decide), n416]
                  · rw [ez 448 (by decide), n448]
                  · rw [ez 480 (by decide), hS2, upS_fn _ _ _ (by decide), w6104, k480, k232]
                  · rw [ez 512 (by decide), hS2, upS_fu, hF104.fn (by decide), k512]
                  · rw [hp133 r r0 r1, spP_c (hF133.fn (by decide)) (hF133.fn (by decide)) (hF133.fn (by decide)) (hF133.fn (by decide)) (hF133 232 0 (by decide))]
                  · rw [ho133 j hj, hS2, upS_c _ _ (by decide), w7104 j, k232, if_neg hj, k544]) (Nat.le_of_ble_eq_true rfl) (Nat.le_of_ble_eq_true rfl)
              · refine r_iconst C dX8_land_96 ?_
                exact f_I F dX8_land_97 (by omega) (by
                  first
                  | (exfalso; omega)
                  | (have e9 : lnW S d a b s = 1 := by
                       unfold lnW cI
                       repeat' split
                       all_goals (first | omega | contradiction)
                     exact ⟨rfl, Or.inl ⟨by omega, rfl, by rw [hS1, e9]⟩⟩)
                  | (have e9 : lnW S d a b s = 2 := by
                       unfold lnW cI
                       repeat' split
                       all_goals (first | omega | contradiction)
                     exact ⟨rfl, Or.inl ⟨by omega, rfl, by rw [hS1, e9]⟩⟩)
                  | (have e9 : lnW S d a b s = 3 := by
                       unfold lnW cI
                       repeat' split
                       all_goals (first | omega | contradiction)
                     exact ⟨rfl, Or.inl ⟨by omega, rfl, by rw [hS1, e9]⟩⟩)) (Nat.le_of_ble_eq_true rfl) (Nat.le_of_ble_eq_true rfl)
            · refine r_aload_n C dX8_land_58 lg_0 ?_
              refine r_lload C dX8_land_59 lg_4 ?_
              refine r_iload_n C dX8_land_61 lg_1 ?_
              refine q_V2Z C (cM_areReceipts hfl M0 hs (by omega) hm0 hm1) dX8_land_62 lk_X8_145 M.1 ⟨Nat.le_of_ble_eq_true rfl, Nat.le_of_ble_eq_true rfl⟩ (catLe (Nat.le_of_ble_eq_true rfl)) ⟨rfl, rfl⟩ rfl (Nat.le_of_ble_eq_true rfl) (Nat.le_of_ble_eq_true rfl) (fun z62 S62 A62 i62 p62 => ?_)
              obtain ⟨rfl, rfl, rfl⟩ := p62
              refine rb_ifeq C (tgt := 80) dX8_land_65 (by decide) (fun c65 => ?_) (fun c65 => ?_)
              · refine r_iconst C dX8_land_80 ?_
                refine r_goto C (tgt := 85) dX8_land_81 (by decide) ?_
                refine r_istore C dX8_land_85 (ls1_6 rfl trivial) ?_
                refine r_aload_n C dX8_land_87 lg_0 ?_
                refine r_iload C dX8_land_88 lg_6 ?_
                refine q_V1Z C (cM_goes hfl (by assumption) (by omega)) dX8_land_90 lk_X8_112 M.1 ⟨Nat.le_of_ble_eq_true rfl, Nat.le_of_ble_eq_true rfl⟩ (catLe (Nat.le_of_ble_eq_true rfl)) ⟨rfl, rfl⟩ rfl (Nat.le_of_ble_eq_true rfl) (Nat.le_of_ble_eq_true rfl) (fun z90 S90 A90 i90 p90 => ?_)
                obtain ⟨rfl, rfl, rfl⟩ := p90
                refine r_gS (fun S1 hS1 => ?_)
                have M : RM S1 A := by rw [hS1]; exact M0.up (by decide)
                refine rb_ifne C (tgt := 98) dX8_land_93 (by decide) (fun c93 => ?_) (fun c93 => ?_)
                · have e9 : lnW S d a b s = 0 := by
                    unfold lnW cI
                    repeat' split
                    all_goals (first | omega | contradiction)
                  have q1 : ∀ c, c ≠ 249 → S1 c = S c := fun c h => by rw [hS1]; exact upS_fn _ _ _ h
                  have k232 : S1 232 0 = S 232 0 := by rw [q1 232 (by decide)]
                  have k320 := q1 320 (by decide)
                  have k352 := q1 352 (by decide)
                  have k384 := q1 384 (by decide)
                  have k416 := q1 416 (by decide)
                  have k448 := q1 448 (by decide)
                  have k480 := q1 480 (by decide)
                  have k512 := q1 512 (by decide)
                  have k544 := q1 544 (by decide)
                  have k640 := q1 640 (by decide)
                  obtain ⟨g1, g2, g3, g4, g5⟩ := lnW_0 e9
                  refine r_aload_n C dX8_land_98 lg_0 ?_
                  refine r_iconst C dX8_land_99 ?_
                  refine r_iload_n C dX8_land_100 lg_1 ?_
                  refine r_iconst C dX8_land_101 ?_
                  refine r_iconst C dX8_land_102 ?_
                  refine r_iload_n C dX8_land_103 lg_2 ?_
                  refine q_V5Z C (cM_posts hfl M (by omega) (by omega) (by omega) (by omega) (by omega) (by omega) (by omega) (fun m m0 m1 => by rw [k416]; exact hqt m m0 (by omega))) dX8_land_104 lk_X8_115 M.1 ⟨Nat.le_of_ble_eq_true rfl, Nat.le_of_ble_eq_true rfl⟩ (catLe (Nat.le_of_ble_eq_true rfl)) ⟨rfl, rfl⟩ rfl (Nat.le_of_ble_eq_true rfl) (Nat.le_of_ble_eq_true rfl) (fun z104 S104 A104 i104 p104 => ?_)
                  obtain ⟨rfl, rfl, hF104, he104, w1104, w2104, w3104, w4104, w5104, w6104, w7104⟩ := p104
                  have M : RM S104 A := M.of hF104 (by decide)
                  rw [b2i_t (Or.inl rfl)] at he104
                  have en : S104 232 0 - 1 = S 232 0 := by omega
                  refine r_istore C dX8_land_107 (ls1_7 rfl rfl) ?_
                  refine r_aload_n C dX8_land_109 lg_0 ?_
                  refine r_getA C 230 16 dX8_land_110 fg_X8_29_7 rfl rfl M.1 (fun g110 => ?_)
                  refine r_aload_n C dX8_land_113 lg_0 ?_
                  refine r_getI C 232 dX8_land_114 fg_X8_77_7 rfl rfl M.1 (fun g114 => ?_)
                  refine r_iconst C dX8_land_117 ?_
                  refine r_isub C dX8_land_118 ?_
                  rw [en]
                  refine r_lload C dX8_land_119 lg_4 ?_
                  refine r_last C (N := 60) 512 dX8_land_121 (by decide) rfl rfl (M.g (j := 6) (by decide)) (by omega) (by omega) (by omega) (by omega) ?_
                  refine r_gS (fun S2 hS2 => ?_)
                  have M : RM S2 A := by rw [hS2]; exact M.up (by decide)
                  have n232 : S2 232 0 = S 232 0 + 1 := by rw [hS2, upS_c _ _ (by decide)]; omega
                  have en2 : S2 232 0 - 1 = S 232 0 := by omega
                  have n384 : S2 384 = fu (S 384) (S 232 0) (-1) := by rw [hS2, upS_fn _ _ _ (by decide), w3104, k384, k232]
                  have n416 : S2 416 = fu (S 416) (S 232 0) 0 := by rw [hS2, upS_fn _ _ _ (by decide), w4104, k416, k232]
                  have n448 : S2 448 = fu (S 448) (S 232 0) a := by rw [hS2, upS_fn _ _ _ (by decide), w5104, k448, k232]
                  have n640 : S2 640 = S 640 := by rw [hS2, upS_fn _ _ _ (by decide), hF104.fn (by decide), k640]
                  have hqt2 : ∀ m, 0 ≤ m → m < S2 232 0 → 0 ≤ S2 416 m ∧ S2 416 m ≤ 1000 := fun m m0 m1 => by
                    rw [n416]
                    by_cases e : m = S 232 0
                    · rw [e, fu_self]; omega
                    · rw [fu_ne _ _ e]; exact hqt m m0 (by omega)
                  have hct2 : ∀ m, 0 ≤ m → m < S2 232 0 → 0 ≤ S2 448 m ∧ S2 448 m ≤ 1000000 := fun m m0 m1 => by
                    rw [n448]
                    by_cases e : m = S 232 0
                    · rw [e, fu_self]; omega
                    · rw [fu_ne _ _ e]; exact hct m m0 (by omega)
                  have hnb : ¬ hasB s (S 232 0) := g2 _ (Int.le_refl _) (by omega)
                  have hit2 : ∀ m, 0 ≤ m → m < S2 232 0 → hasB s m → (0 ≤ S2 384 m ∧ S2 384 m ≤ 5) ∧ True := fun m m0 m1 mb => by
                    have e : ¬ m = S 232 0 := fun e => hnb (e ▸ mb)
                    rw [n384, fu_ne _ _ e]
                    exact ⟨hki m m0 (by omega) (g4 m m0 (by omega) mb).2.1, trivial⟩
                  have hwt2 : ∀ i, 0 ≤ i → i ≤ 5 → 0 ≤ S2 640 i ∧ S2 640 i ≤ 100 := by rw [n640]; exact hwt
                  have hsm2 : smB S2 b s = smB S b s := smB_c hm0 n232 hnb (fun m m0 m1 => by
                    unfold basM
                    rw [n384, n416, n448, n640, fu_ne _ _ (by omega), fu_ne _ _ (by omega), fu_ne _ _ (by omega)])
                  have hsn : 0 ≤ smB S b s := by
                    unfold smB sumI
                    refine sum_nn _ (fun m m0 m1 => ?_)
                    by_cases q : hasB s m
                    · show 0 ≤ cI _ _ _
                      rw [cI_t q]
                      have e1 := hqt m m0 (by omega)
                      have e2 := hct m m0 (by omega)
                      have e3 := hki m m0 (by omega) (g4 m m0 (by omega) q).2.1
                      have e4 := hwt _ e3.1 e3.2
                      have e5 := mul_b e1.1 e1.2 e4.1 e4.2
                      unfold basM
                      split
                      · omega
                      · split <;> omega
                    · show 0 ≤ cI _ _ _
                      rw [cI_f q]; omega
                  have hp2 : ∀ r, 0 ≤ r → r < 60 → S2 544 (60 * S 232 0 + r) = 0 := fun r r0 r1 => by
                    rw [hS2, upS_c _ _ (by decide), w7104, k232, if_pos (by omega)]
                  refine r_aload_n C dX8_land_122 lg_0 ?_
                  refine r_aload_n C dX8_land_123 lg_0 ?_
                  refine r_getI C 232 dX8_land_124 fg_X8_77_7 rfl rfl M.1 (fun g124 => ?_)
                  refine r_iconst C dX8_land_127 ?_
                  refine r_isub C dX8_land_128 ?_
                  rw [en2]
                  refine r_iload_n C dX8_land_129 lg_2 ?_
                  refine r_iload_n C dX8_land_130 lg_3 ?_
                  refine r_lload C dX8_land_131 lg_4 ?_
                  refine q_V4V C (cM_spreads hfl M (by omega) (by omega) (by omega) (by omega) (by omega) hs (by omega) (by omega) hqt2 hct2 hit2 hwt2 (by rw [hsm2]; omega) hp2 (fun r r0 r1 => g2 r (by omega) (by omega))) dX8_land_133 lk_X8_148 M.1 ⟨Nat.le_of_ble_eq_true rfl, Nat.le_of_ble_eq_true rfl⟩ (catLe (Nat.le_of_ble_eq_true rfl)) ⟨rfl, rfl⟩ rfl (Nat.le_of_ble_eq_true rfl) (Nat.le_of_ble_eq_true rfl) (fun S133 A133 p133 => ?_)
                  obtain ⟨rfl, hF133, hp133, ho133⟩ := p133
                  have M : RM S133 A := M.of hF133 (by decide)
                  have en3 : S133 232 0 - 1 = S 232 0 := by rw [hF133 232 0 (by decide)]; omega
                  refine r_aload_n C dX8_land_136 lg_0 ?_
                  refine r_getI C 232 dX8_land_137 fg_X8_77_7 rfl rfl M.1 (fun g137 => ?_)
                  refine r_iconst C dX8_land_140 ?_
                  refine r_isub C dX8_land_141 ?_
                  rw [en3]
                  exact f_I F dX8_land_142 (by omega) (by
                    have z5 := hF133
                    have ez : ∀ c, c ∉ [544, 1088] → S133 c = S2 c := fun c h => hF133.fn h
                    have eS : Fr [320, 352, 384, 416, 448, 480, 544, 512, 232, 672, 236, 249, 1088] S S2 := ((hS1 ▸ Fr.up (by decide) : Fr [320, 352, 384, 416, 448, 480, 544, 512, 232, 672, 236, 249, 1088] S S1).tr (hF104.sub (by decide))).tr (hS2 ▸ Fr.up (by decide))
                    refine ⟨rfl, Or.inr ⟨e9, rfl, ?_, ?_, ⟨?_, ?_, ?_, ?_, ?_, ?_, ?_⟩, fun r r0 r1 => ?_, fun j hj => ?_, eS.tr (hF133.sub (by decide))⟩⟩
                    · rw [hF133 249 0 (by decide), hS2, upS_c _ _ (by decide), hF104 249 0 (by decide), hS1, upS_self] <;> omega
                    · rw [hF133 232 0 (by decide), n232]
                    · rw [ez 320 (by decide), hS2, upS_fn _ _ _ (by decide), w1104, k320, k232]
                    · rw [ez 352 (by decide), hS2, upS_fn _ _ _ (by decide), w2104, k352, k232]
                    · rw [ez 384 (by decide), n384]
                    · rw [ez 416 (by decide), n416]
                    · rw [ez 448 (by decide), n448]
                    · rw [ez 480 (by decide), hS2, upS_fn _ _ _ (by decide), w6104, k480, k232]
                    · rw [ez 512 (by decide), hS2, upS_fu, hF104.fn (by decide), k512]
                    · rw [hp133 r r0 r1, spP_c (hF133.fn (by decide)) (hF133.fn (by decide)) (hF133.fn (by decide)) (hF133.fn (by decide)) (hF133 232 0 (by decide))]
                    · rw [ho133 j hj, hS2, upS_c _ _ (by decide), w7104 j, k232, if_neg hj, k544]) (Nat.le_of_ble_eq_true rfl) (Nat.le_of_ble_eq_true rfl)
                · refine r_iconst C dX8_land_96 ?_
                  exact f_I F dX8_land_97 (by omega) (by
                    first
                    | (exfalso; omega)
                    | (have e9 : lnW S d a b s = 1 := by
                         unfold lnW cI
                         repeat' split
                         all_goals (first | omega | contradiction)
                       exact ⟨rfl, Or.inl ⟨by omega, rfl, by rw [hS1, e9]⟩⟩)
                    | (have e9 : lnW S d a b s = 2 := by
                         unfold lnW cI
                         repeat' split
                         all_goals (first | omega | contradiction)
                       exact ⟨rfl, Or.inl ⟨by omega, rfl, by rw [hS1, e9]⟩⟩)
                    | (have e9 : lnW S d a b s = 3 := by
                         unfold lnW cI
                         repeat' split
                         all_goals (first | omega | contradiction)
                       exact ⟨rfl, Or.inl ⟨by omega, rfl, by rw [hS1, e9]⟩⟩)) (Nat.le_of_ble_eq_true rfl) (Nat.le_of_ble_eq_true rfl)
              · refine r_aload_n C dX8_land_68 lg_0 ?_
                refine r_lload C dX8_land_69 lg_4 ?_
                refine r_iload_n C dX8_land_71 lg_3 ?_
                refine q_V2J C (cM_sumOf hfl M0 hs (by omega) hm0 hm1 hqt hct (fun m m0 m1 mb => ⟨hki m m0 m1 (c65 m m0 m1 mb).2.1, trivial⟩) hwt) dX8_land_72 lk_X8_133 M.1 ⟨Nat.le_of_ble_eq_true rfl, Nat.le_of_ble_eq_true rfl⟩ (catLe (Nat.le_of_ble_eq_true rfl)) ⟨rfl, rfl⟩ rfl (Nat.le_of_ble_eq_true rfl) (Nat.le_of_ble_eq_true rfl) (fun z72 S72 A72 i72 p72 => ?_)
                obtain ⟨rfl, rfl, rfl⟩ := p72
                have e72 : sumI (fun m => cI (hasB s m) (basM S b m) 0) (S 232 0) = smB S b s := rfl
                rw [e72] at i72 ⊢
                refine r_lconst C dX8_land_75 0 rfl ?_
                refine r_lcne C (tgt := 84) dX8_land_76 dX8_land_77 (by decide) (by omega) (by omega) (fun c76 => ?_) (fun c76 => ?_)
                · refine r_iconst C dX8_land_84 ?_
                  refine r_istore C dX8_land_85 (ls1_6 rfl trivial) ?_
                  refine r_aload_n C dX8_land_87 lg_0 ?_
                  refine r_iload C dX8_land_88 lg_6 ?_
                  refine q_V1Z C (cM_goes hfl (by assumption) (by omega)) dX8_land_90 lk_X8_112 M.1 ⟨Nat.le_of_ble_eq_true rfl, Nat.le_of_ble_eq_true rfl⟩ (catLe (Nat.le_of_ble_eq_true rfl)) ⟨rfl, rfl⟩ rfl (Nat.le_of_ble_eq_true rfl) (Nat.le_of_ble_eq_true rfl) (fun z90 S90 A90 i90 p90 => ?_)
                  obtain ⟨rfl, rfl, rfl⟩ := p90
                  refine r_gS (fun S1 hS1 => ?_)
                  have M : RM S1 A := by rw [hS1]; exact M0.up (by decide)
                  refine rb_ifne C (tgt := 98) dX8_land_93 (by decide) (fun c93 => ?_) (fun c93 => ?_)
                  · have e9 : lnW S d a b s = 0 := by
                      unfold lnW cI
                      repeat' split
                      all_goals (first | omega | contradiction)
                    have q1 : ∀ c, c ≠ 249 → S1 c = S c := fun c h => by rw [hS1]; exact upS_fn _ _ _ h
                    have k232 : S1 232 0 = S 232 0 := by rw [q1 232 (by decide)]
                    have k320 := q1 320 (by decide)
                    have k352 := q1 352 (by decide)
                    have k384 := q1 384 (by decide)
                    have k416 := q1 416 (by decide)
                    have k448 := q1 448 (by decide)
                    have k480 := q1 480 (by decide)
                    have k512 := q1 512 (by decide)
                    have k544 := q1 544 (by decide)
                    have k640 := q1 640 (by decide)
                    obtain ⟨g1, g2, g3, g4, g5⟩ := lnW_0 e9
                    refine r_aload_n C dX8_land_98 lg_0 ?_
                    refine r_iconst C dX8_land_99 ?_
                    refine r_iload_n C dX8_land_100 lg_1 ?_
                    refine r_iconst C dX8_land_101 ?_
                    refine r_iconst C dX8_land_102 ?_
                    refine r_iload_n C dX8_land_103 lg_2 ?_
                    refine q_V5Z C (cM_posts hfl M (by omega) (by omega) (by omega) (by omega) (by omega) (by omega) (by omega) (fun m m0 m1 => by rw [k416]; exact hqt m m0 (by omega))) dX8_land_104 lk_X8_115 M.1 ⟨Nat.le_of_ble_eq_true rfl, Nat.le_of_ble_eq_true rfl⟩ (catLe (Nat.le_of_ble_eq_true rfl)) ⟨rfl, rfl⟩ rfl (Nat.le_of_ble_eq_true rfl) (Nat.le_of_ble_eq_true rfl) (fun z104 S104 A104 i104 p104 => ?_)
                    obtain ⟨rfl, rfl, hF104, he104, w1104, w2104, w3104, w4104, w5104, w6104, w7104⟩ := p104
                    have M : RM S104 A := M.of hF104 (by decide)
                    rw [b2i_t (Or.inl rfl)] at he104
                    have en : S104 232 0 - 1 = S 232 0 := by omega
                    refine r_istore C dX8_land_107 (ls1_7 rfl rfl) ?_
                    refine r_aload_n C dX8_land_109 lg_0 ?_
                    refine r_getA C 230 16 dX8_land_110 fg_X8_29_7 rfl rfl M.1 (fun g110 => ?_)
                    refine r_aload_n C dX8_land_113 lg_0 ?_
                    refine r_getI C 232 dX8_land_114 fg_X8_77_7 rfl rfl M.1 (fun g114 => ?_)
                    refine r_iconst C dX8_land_117 ?_
                    refine r_isub C dX8_land_118 ?_
                    rw [en]
                    refine r_lload C dX8_land_119 lg_4 ?_
                    refine r_last C (N := 60) 512 dX8_land_121 (by decide) rfl rfl (M.g (j := 6) (by decide)) (by omega) (by omega) (by omega) (by omega) ?_
                    refine r_gS (fun S2 hS2 => ?_)
                    have M : RM S2 A := by rw [hS2]; exact M.up (by decide)
                    have n232 : S2 232 0 = S 232 0 + 1 := by rw [hS2, upS_c _ _ (by decide)]; omega
                    have en2 : S2 232 0 - 1 = S 232 0 := by omega
                    have n384 : S2 384 = fu (S 384) (S 232 0) (-1) := by rw [hS2, upS_fn _ _ _ (by decide), w3104, k384, k232]
                    have n416 : S2 416 = fu (S 416) (S 232 0) 0 := by rw [hS2, upS_fn _ _ _ (by decide), w4104, k416, k232]
                    have n448 : S2 448 = fu (S 448) (S 232 0) a := by rw [hS2, upS_fn _ _ _ (by decide), w5104, k448, k232]
                    have n640 : S2 640 = S 640 := by rw [hS2, upS_fn _ _ _ (by decide), hF104.fn (by decide), k640]
                    have hqt2 : ∀ m, 0 ≤ m → m < S2 232 0 → 0 ≤ S2 416 m ∧ S2 416 m ≤ 1000 := fun m m0 m1 => by
                      rw [n416]
                      by_cases e : m = S 232 0
                      · rw [e, fu_self]; omega
                      · rw [fu_ne _ _ e]; exact hqt m m0 (by omega)
                    have hct2 : ∀ m, 0 ≤ m → m < S2 232 0 → 0 ≤ S2 448 m ∧ S2 448 m ≤ 1000000 := fun m m0 m1 => by
                      rw [n448]
                      by_cases e : m = S 232 0
                      · rw [e, fu_self]; omega
                      · rw [fu_ne _ _ e]; exact hct m m0 (by omega)
                    have hnb : ¬ hasB s (S 232 0) := g2 _ (Int.le_refl _) (by omega)
                    have hit2 : ∀ m, 0 ≤ m → m < S2 232 0 → hasB s m → (0 ≤ S2 384 m ∧ S2 384 m ≤ 5) ∧ True := fun m m0 m1 mb => by
                      have e : ¬ m = S 232 0 := fun e => hnb (e ▸ mb)
                      rw [n384, fu_ne _ _ e]
                      exact ⟨hki m m0 (by omega) (g4 m m0 (by omega) mb).2.1, trivial⟩
                    have hwt2 : ∀ i, 0 ≤ i → i ≤ 5 → 0 ≤ S2 640 i ∧ S2 640 i ≤ 100 := by rw [n640]; exact hwt
                    have hsm2 : smB S2 b s = smB S b s := smB_c hm0 n232 hnb (fun m m0 m1 => by
                      unfold basM
                      rw [n384, n416, n448, n640, fu_ne _ _ (by omega), fu_ne _ _ (by omega), fu_ne _ _ (by omega)])
                    have hsn : 0 ≤ smB S b s := by
                      unfold smB sumI
                      refine sum_nn _ (fun m m0 m1 => ?_)
                      by_cases q : hasB s m
                      · show 0 ≤ cI _ _ _
                        rw [cI_t q]
                        have e1 := hqt m m0 (by omega)
                        have e2 := hct m m0 (by omega)
                        have e3 := hki m m0 (by omega) (g4 m m0 (by omega) q).2.1
                        have e4 := hwt _ e3.1 e3.2
                        have e5 := mul_b e1.1 e1.2 e4.1 e4.2
                        unfold basM
                        split
                        · omega
                        · split <;> omega
                      · show 0 ≤ cI _ _ _
                        rw [cI_f q]; omega
                    have hp2 : ∀ r, 0 ≤ r → r < 60 → S2 544 (60 * S 232 0 + r) = 0 := fun r r0 r1 => by
                      rw [hS2, upS_c _ _ (by decide), w7104, k232, if_pos (by omega)]
                    refine r_aload_n C dX8_land_122 lg_0 ?_
                    refine r_aload_n C dX8_land_123 lg_0 ?_
                    refine r_getI C 232 dX8_land_124 fg_X8_77_7 rfl rfl M.1 (fun g124 => ?_)
                    refine r_iconst C dX8_land_127 ?_
                    refine r_isub C dX8_land_128 ?_
                    rw [en2]
                    refine r_iload_n C dX8_land_129 lg_2 ?_
                    refine r_iload_n C dX8_land_130 lg_3 ?_
                    refine r_lload C dX8_land_131 lg_4 ?_
                    refine q_V4V C (cM_spreads hfl M (by omega) (by omega) (by omega) (by omega) (by omega) hs (by omega) (by omega) hqt2 hct2 hit2 hwt2 (by rw [hsm2]; omega) hp2 (fun r r0 r1 => g2 r (by omega) (by omega))) dX8_land_133 lk_X8_148 M.1 ⟨Nat.le_of_ble_eq_true rfl, Nat.le_of_ble_eq_true rfl⟩ (catLe (Nat.le_of_ble_eq_true rfl)) ⟨rfl, rfl⟩ rfl (Nat.le_of_ble_eq_true rfl) (Nat.le_of_ble_eq_true rfl) (fun S133 A133 p133 => ?_)
                    obtain ⟨rfl, hF133, hp133, ho133⟩ := p133
                    have M : RM S133 A := M.of hF133 (by decide)
                    have en3 : S133 232 0 - 1 = S 232 0 := by rw [hF133 232 0 (by decide)]; omega
                    refine r_aload_n C dX8_land_136 lg_0 ?_
                    refine r_getI C 232 dX8_land_137 fg_X8_77_7 rfl rfl M.1 (fun g137 => ?_)
                    refine r_iconst C dX8_land_140 ?_
                    refine r_isub C dX8_land_141 ?_
                    rw [en3]
                    exact f_I F dX8_land_142 (by omega) (by
                      have z5 := hF133
                      have ez : ∀ c, c ∉ [544, 1088] → S133 c = S2 c := fun c h => hF133.fn h
                      have eS : Fr [320, 352, 384, 416, 448, 480, 544, 512, 232, 672, 236, 249, 1088] S S2 := ((hS1 ▸ Fr.up (by decide) : Fr [320, 352, 384, 416, 448, 480, 544, 512, 232, 672, 236, 249, 1088] S S1).tr (hF104.sub (by decide))).tr (hS2 ▸ Fr.up (by decide))
                      refine ⟨rfl, Or.inr ⟨e9, rfl, ?_, ?_, ⟨?_, ?_, ?_, ?_, ?_, ?_, ?_⟩, fun r r0 r1 => ?_, fun j hj => ?_, eS.tr (hF133.sub (by decide))⟩⟩
                      · rw [hF133 249 0 (by decide), hS2, upS_c _ _ (by decide), hF104 249 0 (by decide), hS1, upS_self] <;> omega
                      · rw [hF133 232 0 (by decide), n232]
                      · rw [ez 320 (by decide), hS2, upS_fn _ _ _ (by decide), w1104, k320, k232]
                      · rw [ez 352 (by decide), hS2, upS_fn _ _ _ (by decide), w2104, k352, k232]
                      · rw [ez 384 (by decide), n384]
                      · rw [ez 416 (by decide), n416]
                      · rw [ez 448 (by decide), n448]
                      · rw [ez 480 (by decide), hS2, upS_fn _ _ _ (by decide), w6104, k480, k232]
                      · rw [ez 512 (by decide), hS2, upS_fu, hF104.fn (by decide), k512]
                      · rw [hp133 r r0 r1, spP_c (hF133.fn (by decide)) (hF133.fn (by decide)) (hF133.fn (by decide)) (hF133.fn (by decide)) (hF133 232 0 (by decide))]
                      · rw [ho133 j hj, hS2, upS_c _ _ (by decide), w7104 j, k232, if_neg hj, k544]) (Nat.le_of_ble_eq_true rfl) (Nat.le_of_ble_eq_true rfl)
                  · refine r_iconst C dX8_land_96 ?_
                    exact f_I F dX8_land_97 (by omega) (by
                      first
                      | (exfalso; omega)
                      | (have e9 : lnW S d a b s = 1 := by
                           unfold lnW cI
                           repeat' split
                           all_goals (first | omega | contradiction)
                         exact ⟨rfl, Or.inl ⟨by omega, rfl, by rw [hS1, e9]⟩⟩)
                      | (have e9 : lnW S d a b s = 2 := by
                           unfold lnW cI
                           repeat' split
                           all_goals (first | omega | contradiction)
                         exact ⟨rfl, Or.inl ⟨by omega, rfl, by rw [hS1, e9]⟩⟩)
                      | (have e9 : lnW S d a b s = 3 := by
                           unfold lnW cI
                           repeat' split
                           all_goals (first | omega | contradiction)
                         exact ⟨rfl, Or.inl ⟨by omega, rfl, by rw [hS1, e9]⟩⟩)) (Nat.le_of_ble_eq_true rfl) (Nat.le_of_ble_eq_true rfl)
                · refine r_iconst C dX8_land_80 ?_
                  refine r_goto C (tgt := 85) dX8_land_81 (by decide) ?_
                  refine r_istore C dX8_land_85 (ls1_6 rfl trivial) ?_
                  refine r_aload_n C dX8_land_87 lg_0 ?_
                  refine r_iload C dX8_land_88 lg_6 ?_
                  refine q_V1Z C (cM_goes hfl (by assumption) (by omega)) dX8_land_90 lk_X8_112 M.1 ⟨Nat.le_of_ble_eq_true rfl, Nat.le_of_ble_eq_true rfl⟩ (catLe (Nat.le_of_ble_eq_true rfl)) ⟨rfl, rfl⟩ rfl (Nat.le_of_ble_eq_true rfl) (Nat.le_of_ble_eq_true rfl) (fun z90 S90 A90 i90 p90 => ?_)
                  obtain ⟨rfl, rfl, rfl⟩ := p90
                  refine r_gS (fun S1 hS1 => ?_)
                  have M : RM S1 A := by rw [hS1]; exact M0.up (by decide)
                  refine rb_ifne C (tgt := 98) dX8_land_93 (by decide) (fun c93 => ?_) (fun c93 => ?_)
                  · have e9 : lnW S d a b s = 0 := by
                      unfold lnW cI
                      repeat' split
                      all_goals (first | omega | contradiction)
                    have q1 : ∀ c, c ≠ 249 → S1 c = S c := fun c h => by rw [hS1]; exact upS_fn _ _ _ h
                    have k232 : S1 232 0 = S 232 0 := by rw [q1 232 (by decide)]
                    have k320 := q1 320 (by decide)
                    have k352 := q1 352 (by decide)
                    have k384 := q1 384 (by decide)
                    have k416 := q1 416 (by decide)
                    have k448 := q1 448 (by decide)
                    have k480 := q1 480 (by decide)
                    have k512 := q1 512 (by decide)
                    have k544 := q1 544 (by decide)
                    have k640 := q1 640 (by decide)
                    obtain ⟨g1, g2, g3, g4, g5⟩ := lnW_0 e9
                    refine r_aload_n C dX8_land_98 lg_0 ?_
                    refine r_iconst C dX8_land_99 ?_
                    refine r_iload_n C dX8_land_100 lg_1 ?_
                    refine r_iconst C dX8_land_101 ?_
                    refine r_iconst C dX8_land_102 ?_
                    refine r_iload_n C dX8_land_103 lg_2 ?_
                    refine q_V5Z C (cM_posts hfl M (by omega) (by omega) (by omega) (by omega) (by omega) (by omega) (by omega) (fun m m0 m1 => by rw [k416]; exact hqt m m0 (by omega))) dX8_land_104 lk_X8_115 M.1 ⟨Nat.le_of_ble_eq_true rfl, Nat.le_of_ble_eq_true rfl⟩ (catLe (Nat.le_of_ble_eq_true rfl)) ⟨rfl, rfl⟩ rfl (Nat.le_of_ble_eq_true rfl) (Nat.le_of_ble_eq_true rfl) (fun z104 S104 A104 i104 p104 => ?_)
                    obtain ⟨rfl, rfl, hF104, he104, w1104, w2104, w3104, w4104, w5104, w6104, w7104⟩ := p104
                    have M : RM S104 A := M.of hF104 (by decide)
                    rw [b2i_t (Or.inl rfl)] at he104
                    have en : S104 232 0 - 1 = S 232 0 := by omega
                    refine r_istore C dX8_land_107 (ls1_7 rfl rfl) ?_
                    refine r_aload_n C dX8_land_109 lg_0 ?_
                    refine r_getA C 230 16 dX8_land_110 fg_X8_29_7 rfl rfl M.1 (fun g110 => ?_)
                    refine r_aload_n C dX8_land_113 lg_0 ?_
                    refine r_getI C 232 dX8_land_114 fg_X8_77_7 rfl rfl M.1 (fun g114 => ?_)
                    refine r_iconst C dX8_land_117 ?_
                    refine r_isub C dX8_land_118 ?_
                    rw [en]
                    refine r_lload C dX8_land_119 lg_4 ?_
                    refine r_last C (N := 60) 512 dX8_land_121 (by decide) rfl rfl (M.g (j := 6) (by decide)) (by omega) (by omega) (by omega) (by omega) ?_
                    refine r_gS (fun S2 hS2 => ?_)
                    have M : RM S2 A := by rw [hS2]; exact M.up (by decide)
                    have n232 : S2 232 0 = S 232 0 + 1 := by rw [hS2, upS_c _ _ (by decide)]; omega
                    have en2 : S2 232 0 - 1 = S 232 0 := by omega
                    have n384 : S2 384 = fu (S 384) (S 232 0) (-1) := by rw [hS2, upS_fn _ _ _ (by decide), w3104, k384, k232]
                    have n416 : S2 416 = fu (S 416) (S 232 0) 0 := by rw [hS2, upS_fn _ _ _ (by decide), w4104, k416, k232]
                    have n448 : S2 448 = fu (S 448) (S 232 0) a := by rw [hS2, upS_fn _ _ _ (by decide), w5104, k448, k232]
                    have n640 : S2 640 = S 640 := by rw [hS2, upS_fn _ _ _ (by decide), hF104.fn (by decide), k640]
                    have hqt2 : ∀ m, 0 ≤ m → m < S2 232 0 → 0 ≤ S2 416 m ∧ S2 416 m ≤ 1000 := fun m m0 m1 => by
                      rw [n416]
                      by_cases e : m = S 232 0
                      · rw [e, fu_self]; omega
                      · rw [fu_ne _ _ e]; exact hqt m m0 (by omega)
                    have hct2 : ∀ m, 0 ≤ m → m < S2 232 0 → 0 ≤ S2 448 m ∧ S2 448 m ≤ 1000000 := fun m m0 m1 => by
                      rw [n448]
                      by_cases e : m = S 232 0
                      · rw [e, fu_self]; omega
                      · rw [fu_ne _ _ e]; exact hct m m0 (by omega)
                    have hnb : ¬ hasB s (S 232 0) := g2 _ (Int.le_refl _) (by omega)
                    have hit2 : ∀ m, 0 ≤ m → m < S2 232 0 → hasB s m → (0 ≤ S2 384 m ∧ S2 384 m ≤ 5) ∧ True := fun m m0 m1 mb => by
                      have e : ¬ m = S 232 0 := fun e => hnb (e ▸ mb)
                      rw [n384, fu_ne _ _ e]
                      exact ⟨hki m m0 (by omega) (g4 m m0 (by omega) mb).2.1, trivial⟩
                    have hwt2 : ∀ i, 0 ≤ i → i ≤ 5 → 0 ≤ S2 640 i ∧ S2 640 i ≤ 100 := by rw [n640]; exact hwt
                    have hsm2 : smB S2 b s = smB S b s := smB_c hm0 n232 hnb (fun m m0 m1 => by
                      unfold basM
                      rw [n384, n416, n448, n640, fu_ne _ _ (by omega), fu_ne _ _ (by omega), fu_ne _ _ (by omega)])
                    have hsn : 0 ≤ smB S b s := by
                      unfold smB sumI
                      refine sum_nn _ (fun m m0 m1 => ?_)
                      by_cases q : hasB s m
                      · show 0 ≤ cI _ _ _
                        rw [cI_t q]
                        have e1 := hqt m m0 (by omega)
                        have e2 := hct m m0 (by omega)
                        have e3 := hki m m0 (by omega) (g4 m m0 (by omega) q).2.1
                        have e4 := hwt _ e3.1 e3.2
                        have e5 := mul_b e1.1 e1.2 e4.1 e4.2
                        unfold basM
                        split
                        · omega
                        · split <;> omega
                      · show 0 ≤ cI _ _ _
                        rw [cI_f q]; omega
                    have hp2 : ∀ r, 0 ≤ r → r < 60 → S2 544 (60 * S 232 0 + r) = 0 := fun r r0 r1 => by
                      rw [hS2, upS_c _ _ (by decide), w7104, k232, if_pos (by omega)]
                    refine r_aload_n C dX8_land_122 lg_0 ?_
                    refine r_aload_n C dX8_land_123 lg_0 ?_
                    refine r_getI C 232 dX8_land_124 fg_X8_77_7 rfl rfl M.1 (fun g124 => ?_)
                    refine r_iconst C dX8_land_127 ?_
                    refine r_isub C dX8_land_128 ?_
                    rw [en2]
                    refine r_iload_n C dX8_land_129 lg_2 ?_
                    refine r_iload_n C dX8_land_130 lg_3 ?_
                    refine r_lload C dX8_land_131 lg_4 ?_
                    refine q_V4V C (cM_spreads hfl M (by omega) (by omega) (by omega) (by omega) (by omega) hs (by omega) (by omega) hqt2 hct2 hit2 hwt2 (by rw [hsm2]; omega) hp2 (fun r r0 r1 => g2 r (by omega) (by omega))) dX8_land_133 lk_X8_148 M.1 ⟨Nat.le_of_ble_eq_true rfl, Nat.le_of_ble_eq_true rfl⟩ (catLe (Nat.le_of_ble_eq_true rfl)) ⟨rfl, rfl⟩ rfl (Nat.le_of_ble_eq_true rfl) (Nat.le_of_ble_eq_true rfl) (fun S133 A133 p133 => ?_)
                    obtain ⟨rfl, hF133, hp133, ho133⟩ := p133
                    have M : RM S133 A := M.of hF133 (by decide)
                    have en3 : S133 232 0 - 1 = S 232 0 := by rw [hF133 232 0 (by decide)]; omega
                    refine r_aload_n C dX8_land_136 lg_0 ?_
                    refine r_getI C 232 dX8_land_137 fg_X8_77_7 rfl rfl M.1 (fun g137 => ?_)
                    refine r_iconst C dX8_land_140 ?_
                    refine r_isub C dX8_land_141 ?_
                    rw [en3]
                    exact f_I F dX8_land_142 (by omega) (by
                      have z5 := hF133
                      have ez : ∀ c, c ∉ [544, 1088] → S133 c = S2 c := fun c h => hF133.fn h
                      have eS : Fr [320, 352, 384, 416, 448, 480, 544, 512, 232, 672, 236, 249, 1088] S S2 := ((hS1 ▸ Fr.up (by decide) : Fr [320, 352, 384, 416, 448, 480, 544, 512, 232, 672, 236, 249, 1088] S S1).tr (hF104.sub (by decide))).tr (hS2 ▸ Fr.up (by decide))
                      refine ⟨rfl, Or.inr ⟨e9, rfl, ?_, ?_, ⟨?_, ?_, ?_, ?_, ?_, ?_, ?_⟩, fun r r0 r1 => ?_, fun j hj => ?_, eS.tr (hF133.sub (by decide))⟩⟩
                      · rw [hF133 249 0 (by decide), hS2, upS_c _ _ (by decide), hF104 249 0 (by decide), hS1, upS_self] <;> omega
                      · rw [hF133 232 0 (by decide), n232]
                      · rw [ez 320 (by decide), hS2, upS_fn _ _ _ (by decide), w1104, k320, k232]
                      · rw [ez 352 (by decide), hS2, upS_fn _ _ _ (by decide), w2104, k352, k232]
                      · rw [ez 384 (by decide), n384]
                      · rw [ez 416 (by decide), n416]
                      · rw [ez 448 (by decide), n448]
                      · rw [ez 480 (by decide), hS2, upS_fn _ _ _ (by decide), w6104, k480, k232]
                      · rw [ez 512 (by decide), hS2, upS_fu, hF104.fn (by decide), k512]
                      · rw [hp133 r r0 r1, spP_c (hF133.fn (by decide)) (hF133.fn (by decide)) (hF133.fn (by decide)) (hF133.fn (by decide)) (hF133 232 0 (by decide))]
                      · rw [ho133 j hj, hS2, upS_c _ _ (by decide), w7104 j, k232, if_neg hj, k544]) (Nat.le_of_ble_eq_true rfl) (Nat.le_of_ble_eq_true rfl)
                  · refine r_iconst C dX8_land_96 ?_
                    exact f_I F dX8_land_97 (by omega) (by
                      first
                      | (exfalso; omega)
                      | (have e9 : lnW S d a b s = 1 := by
                           unfold lnW cI
                           repeat' split
                           all_goals (first | omega | contradiction)
                         exact ⟨rfl, Or.inl ⟨by omega, rfl, by rw [hS1, e9]⟩⟩)
                      | (have e9 : lnW S d a b s = 2 := by
                           unfold lnW cI
                           repeat' split
                           all_goals (first | omega | contradiction)
                         exact ⟨rfl, Or.inl ⟨by omega, rfl, by rw [hS1, e9]⟩⟩)
                      | (have e9 : lnW S d a b s = 3 := by
                           unfold lnW cI
                           repeat' split
                           all_goals (first | omega | contradiction)
                         exact ⟨rfl, Or.inl ⟨by omega, rfl, by rw [hS1, e9]⟩⟩)) (Nat.le_of_ble_eq_true rfl) (Nat.le_of_ble_eq_true rfl)
          · refine r_iconst C dX8_land_46 ?_
            refine r_goto C (tgt := 85) dX8_land_47 (by decide) ?_
            refine r_istore C dX8_land_85 (ls1_6 rfl trivial) ?_
            refine r_aload_n C dX8_land_87 lg_0 ?_
            refine r_iload C dX8_land_88 lg_6 ?_
            refine q_V1Z C (cM_goes hfl (by assumption) (by omega)) dX8_land_90 lk_X8_112 M.1 ⟨Nat.le_of_ble_eq_true rfl, Nat.le_of_ble_eq_true rfl⟩ (catLe (Nat.le_of_ble_eq_true rfl)) ⟨rfl, rfl⟩ rfl (Nat.le_of_ble_eq_true rfl) (Nat.le_of_ble_eq_true rfl) (fun z90 S90 A90 i90 p90 => ?_)
            obtain ⟨rfl, rfl, rfl⟩ := p90
            refine r_gS (fun S1 hS1 => ?_)
            have M : RM S1 A := by rw [hS1]; exact M0.up (by decide)
            refine rb_ifne C (tgt := 98) dX8_land_93 (by decide) (fun c93 => ?_) (fun c93 => ?_)
            · have e9 : lnW S d a b s = 0 := by
                unfold lnW cI
                repeat' split
                all_goals (first | omega | contradiction)
              have q1 : ∀ c, c ≠ 249 → S1 c = S c := fun c h => by rw [hS1]; exact upS_fn _ _ _ h
              have k232 : S1 232 0 = S 232 0 := by rw [q1 232 (by decide)]
              have k320 := q1 320 (by decide)
              have k352 := q1 352 (by decide)
              have k384 := q1 384 (by decide)
              have k416 := q1 416 (by decide)
              have k448 := q1 448 (by decide)
              have k480 := q1 480 (by decide)
              have k512 := q1 512 (by decide)
              have k544 := q1 544 (by decide)
              have k640 := q1 640 (by decide)
              obtain ⟨g1, g2, g3, g4, g5⟩ := lnW_0 e9
              refine r_aload_n C dX8_land_98 lg_0 ?_
              refine r_iconst C dX8_land_99 ?_
              refine r_iload_n C dX8_land_100 lg_1 ?_
              refine r_iconst C dX8_land_101 ?_
              refine r_iconst C dX8_land_102 ?_
              refine r_iload_n C dX8_land_103 lg_2 ?_
              refine q_V5Z C (cM_posts hfl M (by omega) (by omega) (by omega) (by omega) (by omega) (by omega) (by omega) (fun m m0 m1 => by rw [k416]; exact hqt m m0 (by omega))) dX8_land_104 lk_X8_115 M.1 ⟨Nat.le_of_ble_eq_true rfl, Nat.le_of_ble_eq_true rfl⟩ (catLe (Nat.le_of_ble_eq_true rfl)) ⟨rfl, rfl⟩ rfl (Nat.le_of_ble_eq_true rfl) (Nat.le_of_ble_eq_true rfl) (fun z104 S104 A104 i104 p104 => ?_)
              obtain ⟨rfl, rfl, hF104, he104, w1104, w2104, w3104, w4104, w5104, w6104, w7104⟩ := p104
              have M : RM S104 A := M.of hF104 (by decide)
              rw [b2i_t (Or.inl rfl)] at he104
              have en : S104 232 0 - 1 = S 232 0 := by omega
              refine r_istore C dX8_land_107 (ls1_7 rfl rfl) ?_
              refine r_aload_n C dX8_land_109 lg_0 ?_
              refine r_getA C 230 16 dX8_land_110 fg_X8_29_7 rfl rfl M.1 (fun g110 => ?_)
              refine r_aload_n C dX8_land_113 lg_0 ?_
              refine r_getI C 232 dX8_land_114 fg_X8_77_7 rfl rfl M.1 (fun g114 => ?_)
              refine r_iconst C dX8_land_117 ?_
              refine r_isub C dX8_land_118 ?_
              rw [en]
              refine r_lload C dX8_land_119 lg_4 ?_
              refine r_last C (N := 60) 512 dX8_land_121 (by decide) rfl rfl (M.g (j := 6) (by decide)) (by omega) (by omega) (by omega) (by omega) ?_
              refine r_gS (fun S2 hS2 => ?_)
              have M : RM S2 A := by rw [hS2]; exact M.up (by decide)
              have n232 : S2 232 0 = S 232 0 + 1 := by rw [hS2, upS_c _ _ (by decide)]; omega
              have en2 : S2 232 0 - 1 = S 232 0 := by omega
              have n384 : S2 384 = fu (S 384) (S 232 0) (-1) := by rw [hS2, upS_fn _ _ _ (by decide), w3104, k384, k232]
              have n416 : S2 416 = fu (S 416) (S 232 0) 0 := by rw [hS2, upS_fn _ _ _ (by decide), w4104, k416, k232]
              have n448 : S2 448 = fu (S 448) (S 232 0) a := by rw [hS2, upS_fn _ _ _ (by decide), w5104, k448, k232]
              have n640 : S2 640 = S 640 := by rw [hS2, upS_fn _ _ _ (by decide), hF104.fn (by decide), k640]
              have hqt2 : ∀ m, 0 ≤ m → m < S2 232 0 → 0 ≤ S2 416 m ∧ S2 416 m ≤ 1000 := fun m m0 m1 => by
                rw [n416]
                by_cases e : m = S 232 0
                · rw [e, fu_self]; omega
                · rw [fu_ne _ _ e]; exact hqt m m0 (by omega)
              have hct2 : ∀ m, 0 ≤ m → m < S2 232 0 → 0 ≤ S2 448 m ∧ S2 448 m ≤ 1000000 := fun m m0 m1 => by
                rw [n448]
                by_cases e : m = S 232 0
                · rw [e, fu_self]; omega
                · rw [fu_ne _ _ e]; exact hct m m0 (by omega)
              have hnb : ¬ hasB s (S 232 0) := g2 _ (Int.le_refl _) (by omega)
              have hit2 : ∀ m, 0 ≤ m → m < S2 232 0 → hasB s m → (0 ≤ S2 384 m ∧ S2 384 m ≤ 5) ∧ True := fun m m0 m1 mb => by
                have e : ¬ m = S 232 0 := fun e => hnb (e ▸ mb)
                rw [n384, fu_ne _ _ e]
                exact ⟨hki m m0 (by omega) (g4 m m0 (by omega) mb).2.1, trivial⟩
              have hwt2 : ∀ i, 0 ≤ i → i ≤ 5 → 0 ≤ S2 640 i ∧ S2 640 i ≤ 100 := by rw [n640]; exact hwt
              have hsm2 : smB S2 b s = smB S b s := smB_c hm0 n232 hnb (fun m m0 m1 => by
                unfold basM
                rw [n384, n416, n448, n640, fu_ne _ _ (by omega), fu_ne _ _ (by omega), fu_ne _ _ (by omega)])
              have hsn : 0 ≤ smB S b s := by
                unfold smB sumI
                refine sum_nn _ (fun m m0 m1 => ?_)
                by_cases q : hasB s m
                · show 0 ≤ cI _ _ _
                  rw [cI_t q]
                  have e1 := hqt m m0 (by omega)
                  have e2 := hct m m0 (by omega)
                  have e3 := hki m m0 (by omega) (g4 m m0 (by omega) q).2.1
                  have e4 := hwt _ e3.1 e3.2
                  have e5 := mul_b e1.1 e1.2 e4.1 e4.2
                  unfold basM
                  split
                  · omega
                  · split <;> omega
                · show 0 ≤ cI _ _ _
                  rw [cI_f q]; omega
              have hp2 : ∀ r, 0 ≤ r → r < 60 → S2 544 (60 * S 232 0 + r) = 0 := fun r r0 r1 => by
                rw [hS2, upS_c _ _ (by decide), w7104, k232, if_pos (by omega)]
              refine r_aload_n C dX8_land_122 lg_0 ?_
              refine r_aload_n C dX8_land_123 lg_0 ?_
              refine r_getI C 232 dX8_land_124 fg_X8_77_7 rfl rfl M.1 (fun g124 => ?_)
              refine r_iconst C dX8_land_127 ?_
              refine r_isub C dX8_land_128 ?_
              rw [en2]
              refine r_iload_n C dX8_land_129 lg_2 ?_
              refine r_iload_n C dX8_land_130 lg_3 ?_
              refine r_lload C dX8_land_131 lg_4 ?_
              refine q_V4V C (cM_spreads hfl M (by omega) (by omega) (by omega) (by omega) (by omega) hs (by omega) (by omega) hqt2 hct2 hit2 hwt2 (by rw [hsm2]; omega) hp2 (fun r r0 r1 => g2 r (by omega) (by omega))) dX8_land_133 lk_X8_148 M.1 ⟨Nat.le_of_ble_eq_true rfl, Nat.le_of_ble_eq_true rfl⟩ (catLe (Nat.le_of_ble_eq_true rfl)) ⟨rfl, rfl⟩ rfl (Nat.le_of_ble_eq_true rfl) (Nat.le_of_ble_eq_true rfl) (fun S133 A133 p133 => ?_)
              obtain ⟨rfl, hF133, hp133, ho133⟩ := p133
              have M : RM S133 A := M.of hF133 (by decide)
              have en3 : S133 232 0 - 1 = S 232 0 := by rw [hF133 232 0 (by decide)]; omega
              refine r_aload_n C dX8_land_136 lg_0 ?_
              refine r_getI C 232 dX8_land_137 fg_X8_77_7 rfl rfl M.1 (fun g137 => ?_)
              refine r_iconst C dX8_land_140 ?_
              refine r_isub C dX8_land_141 ?_
              rw [en3]
              exact f_I F dX8_land_142 (by omega) (by
                have z5 := hF133
                have ez : ∀ c, c ∉ [544, 1088] → S133 c = S2 c := fun c h => hF133.fn h
                have eS : Fr [320, 352, 384, 416, 448, 480, 544, 512, 232, 672, 236, 249, 1088] S S2 := ((hS1 ▸ Fr.up (by decide) : Fr [320, 352, 384, 416, 448, 480, 544, 512, 232, 672, 236, 249, 1088] S S1).tr (hF104.sub (by decide))).tr (hS2 ▸ Fr.up (by decide))
                refine ⟨rfl, Or.inr ⟨e9, rfl, ?_, ?_, ⟨?_, ?_, ?_, ?_, ?_, ?_, ?_⟩, fun r r0 r1 => ?_, fun j hj => ?_, eS.tr (hF133.sub (by decide))⟩⟩
                · rw [hF133 249 0 (by decide), hS2, upS_c _ _ (by decide), hF104 249 0 (by decide), hS1, upS_self] <;> omega
                · rw [hF133 232 0 (by decide), n232]
                · rw [ez 320 (by decide), hS2, upS_fn _ _ _ (by decide), w1104, k320, k232]
                · rw [ez 352 (by decide), hS2, upS_fn _ _ _ (by decide), w2104, k352, k232]
                · rw [ez 384 (by decide), n384]
                · rw [ez 416 (by decide), n416]
                · rw [ez 448 (by decide), n448]
                · rw [ez 480 (by decide), hS2, upS_fn _ _ _ (by decide), w6104, k480, k232]
                · rw [ez 512 (by decide), hS2, upS_fu, hF104.fn (by decide), k512]
                · rw [hp133 r r0 r1, spP_c (hF133.fn (by decide)) (hF133.fn (by decide)) (hF133.fn (by decide)) (hF133.fn (by decide)) (hF133 232 0 (by decide))]
                · rw [ho133 j hj, hS2, upS_c _ _ (by decide), w7104 j, k232, if_neg hj, k544]) (Nat.le_of_ble_eq_true rfl) (Nat.le_of_ble_eq_true rfl)
            · refine r_iconst C dX8_land_96 ?_
              exact f_I F dX8_land_97 (by omega) (by
                first
                | (exfalso; omega)
                | (have e9 : lnW S d a b s = 1 := by
                     unfold lnW cI
                     repeat' split
                     all_goals (first | omega | contradiction)
                   exact ⟨rfl, Or.inl ⟨by omega, rfl, by rw [hS1, e9]⟩⟩)
                | (have e9 : lnW S d a b s = 2 := by
                     unfold lnW cI
                     repeat' split
                     all_goals (first | omega | contradiction)
                   exact ⟨rfl, Or.inl ⟨by omega, rfl, by rw [hS1, e9]⟩⟩)
                | (have e9 : lnW S d a b s = 3 := by
                     unfold lnW cI
                     repeat' split
                     all_goals (first | omega | contradiction)
                   exact ⟨rfl, Or.inl ⟨by omega, rfl, by rw [hS1, e9]⟩⟩)) (Nat.le_of_ble_eq_true rfl) (Nat.le_of_ble_eq_true rfl)
        · refine r_iconst C dX8_land_33 ?_
          refine r_goto C (tgt := 85) dX8_land_34 (by decide) ?_
          refine r_istore C dX8_land_85 (ls1_6 rfl trivial) ?_
          refine r_aload_n C dX8_land_87 lg_0 ?_
          refine r_iload C dX8_land_88 lg_6 ?_
          refine q_V1Z C (cM_goes hfl (by assumption) (by omega)) dX8_land_90 lk_X8_112 M.1 ⟨Nat.le_of_ble_eq_true rfl, Nat.le_of_ble_eq_true rfl⟩ (catLe (Nat.le_of_ble_eq_true rfl)) ⟨rfl, rfl⟩ rfl (Nat.le_of_ble_eq_true rfl) (Nat.le_of_ble_eq_true rfl) (fun z90 S90 A90 i90 p90 => ?_)
          obtain ⟨rfl, rfl, rfl⟩ := p90
          refine r_gS (fun S1 hS1 => ?_)
          have M : RM S1 A := by rw [hS1]; exact M0.up (by decide)
          refine rb_ifne C (tgt := 98) dX8_land_93 (by decide) (fun c93 => ?_) (fun c93 => ?_)
          · have e9 : lnW S d a b s = 0 := by
              unfold lnW cI
              repeat' split
              all_goals (first | omega | contradiction)
            have q1 : ∀ c, c ≠ 249 → S1 c = S c := fun c h => by rw [hS1]; exact upS_fn _ _ _ h
            have k232 : S1 232 0 = S 232 0 := by rw [q1 232 (by decide)]
            have k320 := q1 320 (by decide)
            have k352 := q1 352 (by decide)
            have k384 := q1 384 (by decide)
            have k416 := q1 416 (by decide)
            have k448 := q1 448 (by decide)
            have k480 := q1 480 (by decide)
            have k512 := q1 512 (by decide)
            have k544 := q1 544 (by decide)
            have k640 := q1 640 (by decide)
            obtain ⟨g1, g2, g3, g4, g5⟩ := lnW_0 e9
            refine r_aload_n C dX8_land_98 lg_0 ?_
            refine r_iconst C dX8_land_99 ?_
            refine r_iload_n C dX8_land_100 lg_1 ?_
            refine r_iconst C dX8_land_101 ?_
            refine r_iconst C dX8_land_102 ?_
            refine r_iload_n C dX8_land_103 lg_2 ?_
            refine q_V5Z C (cM_posts hfl M (by omega) (by omega) (by omega) (by omega) (by omega) (by omega) (by omega) (fun m m0 m1 => by rw [k416]; exact hqt m m0 (by omega))) dX8_land_104 lk_X8_115 M.1 ⟨Nat.le_of_ble_eq_true rfl, Nat.le_of_ble_eq_true rfl⟩ (catLe (Nat.le_of_ble_eq_true rfl)) ⟨rfl, rfl⟩ rfl (Nat.le_of_ble_eq_true rfl) (Nat.le_of_ble_eq_true rfl) (fun z104 S104 A104 i104 p104 => ?_)
            obtain ⟨rfl, rfl, hF104, he104, w1104, w2104, w3104, w4104, w5104, w6104, w7104⟩ := p104
            have M : RM S104 A := M.of hF104 (by decide)
            rw [b2i_t (Or.inl rfl)] at he104
            have en : S104 232 0 - 1 = S 232 0 := by omega
            refine r_istore C dX8_land_107 (ls1_7 rfl rfl) ?_
            refine r_aload_n C dX8_land_109 lg_0 ?_
            refine r_getA C 230 16 dX8_land_110 fg_X8_29_7 rfl rfl M.1 (fun g110 => ?_)
            refine r_aload_n C dX8_land_113 lg_0 ?_
            refine r_getI C 232 dX8_land_114 fg_X8_77_7 rfl rfl M.1 (fun g114 => ?_)
            refine r_iconst C dX8_land_117 ?_
            refine r_isub C dX8_land_118 ?_
            rw [en]
            refine r_lload C dX8_land_119 lg_4 ?_
            refine r_last C (N := 60) 512 dX8_land_121 (by decide) rfl rfl (M.g (j := 6) (by decide)) (by omega) (by omega) (by omega) (by omega) ?_
            refine r_gS (fun S2 hS2 => ?_)
            have M : RM S2 A := by rw [hS2]; exact M.up (by decide)
            have n232 : S2 232 0 = S 232 0 + 1 := by rw [hS2, upS_c _ _ (by decide)]; omega
            have en2 : S2 232 0 - 1 = S 232 0 := by omega
            have n384 : S2 384 = fu (S 384) (S 232 0) (-1) := by rw [hS2, upS_fn _ _ _ (by decide), w3104, k384, k232]
            have n416 : S2 416 = fu (S 416) (S 232 0) 0 := by rw [hS2, upS_fn _ _ _ (by decide), w4104, k416, k232]
            have n448 : S2 448 = fu (S 448) (S 232 0) a := by rw [hS2, upS_fn _ _ _ (by decide), w5104, k448, k232]
            have n640 : S2 640 = S 640 := by rw [hS2, upS_fn _ _ _ (by decide), hF104.fn (by decide), k640]
            have hqt2 : ∀ m, 0 ≤ m → m < S2 232 0 → 0 ≤ S2 416 m ∧ S2 416 m ≤ 1000 := fun m m0 m1 => by
              rw [n416]
              by_cases e : m = S 232 0
              · rw [e, fu_self]; omega
              · rw [fu_ne _ _ e]; exact hqt m m0 (by omega)
            have hct2 : ∀ m, 0 ≤ m → m < S2 232 0 → 0 ≤ S2 448 m ∧ S2 448 m ≤ 1000000 := fun m m0 m1 => by
              rw [n448]
              by_cases e : m = S 232 0
              · rw [e, fu_self]; omega
              · rw [fu_ne _ _ e]; exact hct m m0 (by omega)
            have hnb : ¬ hasB s (S 232 0) := g2 _ (Int.le_refl _) (by omega)
            have hit2 : ∀ m, 0 ≤ m → m < S2 232 0 → hasB s m → (0 ≤ S2 384 m ∧ S2 384 m ≤ 5) ∧ True := fun m m0 m1 mb => by
              have e : ¬ m = S 232 0 := fun e => hnb (e ▸ mb)
              rw [n384, fu_ne _ _ e]
              exact ⟨hki m m0 (by omega) (g4 m m0 (by omega) mb).2.1, trivial⟩
            have hwt2 : ∀ i, 0 ≤ i → i ≤ 5 → 0 ≤ S2 640 i ∧ S2 640 i ≤ 100 := by rw [n640]; exact hwt
            have hsm2 : smB S2 b s = smB S b s := smB_c hm0 n232 hnb (fun m m0 m1 => by
              unfold basM
              rw [n384, n416, n448, n640, fu_ne _ _ (by omega), fu_ne _ _ (by omega), fu_ne _ _ (by omega)])
            have hsn : 0 ≤ smB S b s := by
              unfold smB sumI
              refine sum_nn _ (fun m m0 m1 => ?_)
              by_cases q : hasB s m
              · show 0 ≤ cI _ _ _
                rw [cI_t q]
                have e1 := hqt m m0 (by omega)
                have e2 := hct m m0 (by omega)
                have e3 := hki m m0 (by omega) (g4 m m0 (by omega) q).2.1
                have e4 := hwt _ e3.1 e3.2
                have e5 := mul_b e1.1 e1.2 e4.1 e4.2
                unfold basM
                split
                · omega
                · split <;> omega
              · show 0 ≤ cI _ _ _
                rw [cI_f q]; omega
            have hp2 : ∀ r, 0 ≤ r → r < 60 → S2 544 (60 * S 232 0 + r) = 0 := fun r r0 r1 => by
              rw [hS2, upS_c _ _ (by decide), w7104, k232, if_pos (by omega)]
            refine r_aload_n C dX8_land_122 lg_0 ?_
            refine r_aload_n C dX8_land_123 lg_0 ?_
            refine r_getI C 232 dX8_land_124 fg_X8_77_7 rfl rfl M.1 (fun g124 => ?_)
            refine r_iconst C dX8_land_127 ?_
            refine r_isub C dX8_land_128 ?_
            rw [en2]
            refine r_iload_n C dX8_land_129 lg_2 ?_
            refine r_iload_n C dX8_land_130 lg_3 ?_
            refine r_lload C dX8_land_131 lg_4 ?_
            refine q_V4V C (cM_spreads hfl M (by omega) (by omega) (by omega) (by omega) (by omega) hs (by omega) (by omega) hqt2 hct2 hit2 hwt2 (by rw [hsm2]; omega) hp2 (fun r r0 r1 => g2 r (by omega) (by omega))) dX8_land_133 lk_X8_148 M.1 ⟨Nat.le_of_ble_eq_true rfl, Nat.le_of_ble_eq_true rfl⟩ (catLe (Nat.le_of_ble_eq_true rfl)) ⟨rfl, rfl⟩ rfl (Nat.le_of_ble_eq_true rfl) (Nat.le_of_ble_eq_true rfl) (fun S133 A133 p133 => ?_)
            obtain ⟨rfl, hF133, hp133, ho133⟩ := p133
            have M : RM S133 A := M.of hF133 (by decide)
            have en3 : S133 232 0 - 1 = S 232 0 := by rw [hF133 232 0 (by decide)]; omega
            refine r_aload_n C dX8_land_136 lg_0 ?_
            refine r_getI C 232 dX8_land_137 fg_X8_77_7 rfl rfl M.1 (fun g137 => ?_)
            refine r_iconst C dX8_land_140 ?_
            refine r_isub C dX8_land_141 ?_
            rw [en3]
            exact f_I F dX8_land_142 (by omega) (by
              have z5 := hF133
              have ez : ∀ c, c ∉ [544, 1088] → S133 c = S2 c := fun c h => hF133.fn h
              have eS : Fr [320, 352, 384, 416, 448, 480, 544, 512, 232, 672, 236, 249, 1088] S S2 := ((hS1 ▸ Fr.up (by decide) : Fr [320, 352, 384, 416, 448, 480, 544, 512, 232, 672, 236, 249, 1088] S S1).tr (hF104.sub (by decide))).tr (hS2 ▸ Fr.up (by decide))
              refine ⟨rfl, Or.inr ⟨e9, rfl, ?_, ?_, ⟨?_, ?_, ?_, ?_, ?_, ?_, ?_⟩, fun r r0 r1 => ?_, fun j hj => ?_, eS.tr (hF133.sub (by decide))⟩⟩
              · rw [hF133 249 0 (by decide), hS2, upS_c _ _ (by decide), hF104 249 0 (by decide), hS1, upS_self] <;> omega
              · rw [hF133 232 0 (by decide), n232]
              · rw [ez 320 (by decide), hS2, upS_fn _ _ _ (by decide), w1104, k320, k232]
              · rw [ez 352 (by decide), hS2, upS_fn _ _ _ (by decide), w2104, k352, k232]
              · rw [ez 384 (by decide), n384]
              · rw [ez 416 (by decide), n416]
              · rw [ez 448 (by decide), n448]
              · rw [ez 480 (by decide), hS2, upS_fn _ _ _ (by decide), w6104, k480, k232]
              · rw [ez 512 (by decide), hS2, upS_fu, hF104.fn (by decide), k512]
              · rw [hp133 r r0 r1, spP_c (hF133.fn (by decide)) (hF133.fn (by decide)) (hF133.fn (by decide)) (hF133.fn (by decide)) (hF133 232 0 (by decide))]
              · rw [ho133 j hj, hS2, upS_c _ _ (by decide), w7104 j, k232, if_neg hj, k544]) (Nat.le_of_ble_eq_true rfl) (Nat.le_of_ble_eq_true rfl)
          · refine r_iconst C dX8_land_96 ?_
            exact f_I F dX8_land_97 (by omega) (by
              first
              | (exfalso; omega)
              | (have e9 : lnW S d a b s = 1 := by
                   unfold lnW cI
                   repeat' split
                   all_goals (first | omega | contradiction)
                 exact ⟨rfl, Or.inl ⟨by omega, rfl, by rw [hS1, e9]⟩⟩)
              | (have e9 : lnW S d a b s = 2 := by
                   unfold lnW cI
                   repeat' split
                   all_goals (first | omega | contradiction)
                 exact ⟨rfl, Or.inl ⟨by omega, rfl, by rw [hS1, e9]⟩⟩)
              | (have e9 : lnW S d a b s = 3 := by
                   unfold lnW cI
                   repeat' split
                   all_goals (first | omega | contradiction)
                 exact ⟨rfl, Or.inl ⟨by omega, rfl, by rw [hS1, e9]⟩⟩)) (Nat.le_of_ble_eq_true rfl) (Nat.le_of_ble_eq_true rfl)
