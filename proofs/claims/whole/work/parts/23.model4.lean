/-! the reference: posting -/
set_option maxRecDepth 20000 in
theorem cM_posts {G : GT} {l : Launch} (hfl : l.stackTraces = false) {S : ST} {A : AB} {kind day item qty cost : Int} (M0 : RM S A) (hk : rI kind) (hd : rI day) (hi : rI item) (hq : 0 ≤ qty ∧ qty ≤ 1000) (hc : rI cost) (hm0 : 0 ≤ S 232 0) (hm1 : S 232 0 < 60) (hqt : ∀ m, 0 ≤ m → m < S 232 0 → 0 ≤ S 416 m ∧ S 416 m ≤ 1000) : CT G l yX8_posts cX8_posts 7 (some .boolean) (rmk 2 0 0 47) S A [vR A 7 0, vI kind, vI day, vI item, vI qty, vI cost] (oZ fun z S' A' => b2i (kind = 3 ∨ vld (chg (fu (S 320) (S 232 0) kind) (fu (S 384) (S 232 0) item) (fu (S 416) (S 232 0) qty) item) (fu (S 416) (S 232 0) qty) (tks (fu (S 320) (S 232 0) kind) (fu (S 384) (S 232 0) item) item) 0 (led (fu (S 352) (S 232 0) day) (fu (S 480) (S 232 0) 0) (S 232 0 + 1).toNat)) = z ∧ A = A' ∧ Fr [320, 352, 384, 416, 448, 480, 544, 232, 672, 236] S S' ∧ S' 232 0 = S 232 0 + z ∧ S' 320 = (fu (S 320) (S 232 0) kind) ∧ S' 352 = (fu (S 352) (S 232 0) day) ∧ S' 384 = (fu (S 384) (S 232 0) item) ∧ S' 416 = (fu (S 416) (S 232 0) qty) ∧ S' 448 = (fu (S 448) (S 232 0) cost) ∧ S' 480 = (fu (S 480) (S 232 0) 0) ∧ (∀ j, S' 544 j = if 60 * S 232 0 ≤ j ∧ j < 60 * S 232 0 + 60 then 0 else S 544 j)) (noX) := by
  refine ct_ofN (own := RX8) (mn := "posts") rfl rfl (by decide) hfl (lv0 := [some (vR A 7 0), some (vI kind), some (vI day), some (vI item), some (vI qty), some (vI cost), none]) (ent_1 (cat_R _ _ _) (ent_1 rfl (ent_1 rfl (ent_1 rfl (ent_1 rfl (ent_1 rfl (ent_n ent_0))))))) rfl ?_
  intro J X C F FX FT FU hW hA
  have lp : ∀ (S0 : ST) (hw0 : S0 320 = (fu (S 320) (S 232 0) kind) ∧ S0 352 = (fu (S 352) (S 232 0) day) ∧ S0 384 = (fu (S 384) (S 232 0) item) ∧ S0 416 = (fu (S 416) (S 232 0) qty) ∧ S0 448 = (fu (S 448) (S 232 0) cost) ∧ S0 480 = (fu (S 480) (S 232 0) 0)) (hF0 : Fr [320, 352, 384, 416, 448, 480] S S0) (N : Nat) (i : Int) (S1 : ST) (h1 : 0 ≤ i) (h2 : i ≤ 60) (hF1 : Fr [544] S0 S1) (hp : ∀ j, S1 544 j = if 60 * S 232 0 ≤ j ∧ j < 60 * S 232 0 + i then 0 else S 544 j) (hN : 60 - i < N), J 65 [some (vR A 7 0), some (vI kind), some (vI day), some (vI item), some (vI qty), some (vI cost), some (vI i)] [] S1 A 0 0 := by
    intro S0 hw0 hF0 N
    induction N with
    | zero => intro i S1 h1 h2 hF1 hp hN; omega
    | succ N ih =>
      intro i S1 h1 h2 hF1 hp hN
      have hFa : Fr [320, 352, 384, 416, 448, 480, 544] S S1 := (hF0.sub (by decide)).tr (hF1.sub (by decide))
      have M := M0.of hFa (by decide)
      have e232 := hFa 232 0 (by decide)
      obtain ⟨w1, w2, w3, w4, w5, w6⟩ := hw0
      have x1 := (hF1.fn (c := 320) (by decide)).trans w1
      have x2 := (hF1.fn (c := 352) (by decide)).trans w2
      have x3 := (hF1.fn (c := 384) (by decide)).trans w3
      have x4 := (hF1.fn (c := 416) (by decide)).trans w4
      have x5 := (hF1.fn (c := 448) (by decide)).trans w5
      have x6 := (hF1.fn (c := 480) (by decide)).trans w6
      refine r_iload C dX8_posts_65 lg_6 ?_
      refine r_bipush C dX8_posts_67 (by decide) ?_
      refine r_icge C (tgt := 94) dX8_posts_69 (by decide) (by omega) (by omega) (fun c69 => ?_) (fun c69 => ?_)
      · have hi60 : i = 60 := by omega
        subst hi60
        refine r_aload_n C dX8_posts_94 lg_0 ?_
        refine r_dup C dX8_posts_95 (cat_R _ _ _) ?_
        refine r_getI C 232 dX8_posts_96 fg_X8_77_7 rfl rfl M.1 (fun g96 => ?_)
        refine r_iconst C dX8_posts_99 ?_
        refine r_iadd C dX8_posts_100 ?_
        refine r_putI C 232 dX8_posts_101 fg_X8_77_7 rfl rfl M.1 (fun q h => by cases h; exact Or.inl rfl) (by omega) ?_
        rw [e232]
        refine r_gS (fun S2 hS2 => ?_)
        have M : RM S2 A := by rw [hS2]; exact M.up (by decide)
        have e2 : S2 232 0 = S 232 0 + 1 := by rw [hS2, upS_self]
        have y1 : S2 320 = (fu (S 320) (S 232 0) kind) := by rw [hS2, upS_fn _ _ _ (by decide)]; exact x1
        have y2 : S2 352 = (fu (S 352) (S 232 0) day) := by rw [hS2, upS_fn _ _ _ (by decide)]; exact x2
        have y3 : S2 384 = (fu (S 384) (S 232 0) item) := by rw [hS2, upS_fn _ _ _ (by decide)]; exact x3
        have y4 : S2 416 = (fu (S 416) (S 232 0) qty) := by rw [hS2, upS_fn _ _ _ (by decide)]; exact x4
        have y5 : S2 448 = (fu (S 448) (S 232 0) cost) := by rw [hS2, upS_fn _ _ _ (by decide)]; exact x5
        have y6 : S2 480 = (fu (S 480) (S 232 0) 0) := by rw [hS2, upS_fn _ _ _ (by decide)]; exact x6
        have y7 : ∀ j, S2 544 j = if 60 * S 232 0 ≤ j ∧ j < 60 * S 232 0 + 60 then 0 else S 544 j := fun j => by rw [hS2, upS_c _ _ (by decide)]; exact hp j
        have hFb : Fr [320, 352, 384, 416, 448, 480, 544, 232] S S2 := by rw [hS2]; exact (hFa.sub (by decide)).tr (Fr.up (by decide))
        have hq2 : ∀ m, 0 ≤ m → m < S2 232 0 → 0 ≤ S2 416 m ∧ S2 416 m ≤ 1000 := fun m m0 m1 => by
          rw [y4]
          by_cases e : m = S 232 0
          · rw [e, fu_self]; omega
          · rw [fu_ne _ _ e]; exact hqt m m0 (by omega)
        refine r_iload_n C dX8_posts_104 lg_1 ?_
        refine r_iconst C dX8_posts_105 ?_
        refine r_iceq C (tgt := 117) dX8_posts_106 (by decide) (by omega) (by omega) (fun c106 => ?_) (fun c106 => ?_)
        · refine r_iconst C dX8_posts_117 ?_
          refine r_goto C (tgt := 122) dX8_posts_118 (by decide) ?_
          refine r_istore C dX8_posts_122 (ls1_6 rfl rfl) ?_
          refine r_aload_n C dX8_posts_124 lg_0 ?_
          refine r_dup C dX8_posts_125 (cat_R _ _ _) ?_
          refine r_getI C 232 dX8_posts_126 fg_X8_77_7 rfl rfl M.1 (fun g126 => ?_)
          refine r_iload C dX8_posts_129 lg_6 ?_
          refine r_ifeq C (tgt := 138) dX8_posts_131 (by decide) (by omega) (fun c131 => ?_) (fun c131 => ?_)
          · refine r_iconst C dX8_posts_138 ?_
            refine r_isub C dX8_posts_139 ?_
            refine r_putI C 232 dX8_posts_140 fg_X8_77_7 rfl rfl M.1 (fun q h => by cases h; exact Or.inl rfl) (by omega) ?_
            skip
            refine r_iload C dX8_posts_143 lg_6 ?_
            exact f_Z F dX8_posts_145 (by omega) (by first
              | exact ⟨b2i_t (Or.inl (by omega)), rfl, (hFb.sub (by decide)).tr (Fr.up (by decide)), (by rw [upS_self]; omega), (by rw [upS_fn _ _ _ (by decide)]; exact y1), (by rw [upS_fn _ _ _ (by decide)]; exact y2), (by rw [upS_fn _ _ _ (by decide)]; exact y3), (by rw [upS_fn _ _ _ (by decide)]; exact y4), (by rw [upS_fn _ _ _ (by decide)]; exact y5), (by rw [upS_fn _ _ _ (by decide)]; exact y6), (fun j => by rw [upS_c _ _ (by decide)]; exact y7 j)⟩
              | exact ⟨b2i_t (Or.inr c114), rfl, ((hFb.sub (by decide)).tr (hF111.sub (by decide))).tr (Fr.up (by decide)), (by rw [upS_self]; omega), (by rw [upS_fn _ _ _ (by decide)]; exact (hF111.fn (by decide)).trans y1), (by rw [upS_fn _ _ _ (by decide)]; exact (hF111.fn (by decide)).trans y2), (by rw [upS_fn _ _ _ (by decide)]; exact (hF111.fn (by decide)).trans y3), (by rw [upS_fn _ _ _ (by decide)]; exact (hF111.fn (by decide)).trans y4), (by rw [upS_fn _ _ _ (by decide)]; exact (hF111.fn (by decide)).trans y5), (by rw [upS_fn _ _ _ (by decide)]; exact (hF111.fn (by decide)).trans y6), (fun j => by rw [upS_c _ _ (by decide)]; exact (hF111 544 j (by decide)).trans (y7 j))⟩
              | exact ⟨b2i_f (fun q => q.elim (fun q => by omega) c114), rfl, ((hFb.sub (by decide)).tr (hF111.sub (by decide))).tr (Fr.up (by decide)), (by rw [upS_self]; omega), (by rw [upS_fn _ _ _ (by decide)]; exact (hF111.fn (by decide)).trans y1), (by rw [upS_fn _ _ _ (by decide)]; exact (hF111.fn (by decide)).trans y2), (by rw [upS_fn _ _ _ (by decide)]; exact (hF111.fn (by decide)).trans y3), (by rw [upS_fn _ _ _ (by decide)]; exact (hF111.fn (by decide)).trans y4), (by rw [upS_fn _ _ _ (by decide)]; exact (hF111.fn (by decide)).trans y5), (by rw [upS_fn _ _ _ (by decide)]; exact (hF111.fn (by decide)).trans y6), (fun j => by rw [upS_c _ _ (by decide)]; exact (hF111 544 j (by decide)).trans (y7 j))⟩) (Nat.le_of_ble_eq_true rfl) (Nat.le_of_ble_eq_true rfl)
          · refine r_iconst C dX8_posts_134 ?_
            refine r_goto C (tgt := 139) dX8_posts_135 (by decide) ?_
            refine r_isub C dX8_posts_139 ?_
            refine r_putI C 232 dX8_posts_140 fg_X8_77_7 rfl rfl M.1 (fun q h => by cases h; exact Or.inl rfl) (by omega) ?_
            skip
            refine r_iload C dX8_posts_143 lg_6 ?_
            exact f_Z F dX8_posts_145 (by omega) (by first
              | exact ⟨b2i_t (Or.inl (by omega)), rfl, (hFb.sub (by decide)).tr (Fr.up (by decide)), (by rw [upS_self]; omega), (by rw [upS_fn _ _ _ (by decide)]; exact y1), (by rw [upS_fn _ _ _ (by decide)]; exact y2), (by rw [upS_fn _ _ _ (by decide)]; exact y3), (by rw [upS_fn _ _ _ (by decide)]; exact y4), (by rw [upS_fn _ _ _ (by decide)]; exact y5), (by rw [upS_fn _ _ _ (by decide)]; exact y6), (fun j => by rw [upS_c _ _ (by decide)]; exact y7 j)⟩
              | exact ⟨b2i_t (Or.inr c114), rfl, ((hFb.sub (by decide)).tr (hF111.sub (by decide))).tr (Fr.up (by decide)), (by rw [upS_self]; omega), (by rw [upS_fn _ _ _ (by decide)]; exact (hF111.fn (by decide)).trans y1), (by rw [upS_fn _ _ _ (by decide)]; exact (hF111.fn (by decide)).trans y2), (by rw [upS_fn _ _ _ (by decide)]; exact (hF111.fn (by decide)).trans y3), (by rw [upS_fn _ _ _ (by decide)]; exact (hF111.fn (by decide)).trans y4), (by rw [upS_fn _ _ _ (by decide)]; exact (hF111.fn (by decide)).trans y5), (by rw [upS_fn _ _ _ (by decide)]; exact (hF111.fn (by decide)).trans y6), (fun j => by rw [upS_c _ _ (by decide)]; exact (hF111 544 j (by decide)).trans (y7 j))⟩
              | exact ⟨b2i_f (fun q => q.elim (fun q => by omega) c114), rfl, ((hFb.sub (by decide)).tr (hF111.sub (by decide))).tr (Fr.up (by decide)), (by rw [upS_self]; omega), (by rw [upS_fn _ _ _ (by decide)]; exact (hF111.fn (by decide)).trans y1), (by rw [upS_fn _ _ _ (by decide)]; exact (hF111.fn (by decide)).trans y2), (by rw [upS_fn _ _ _ (by decide)]; exact (hF111.fn (by decide)).trans y3), (by rw [upS_fn _ _ _ (by decide)]; exact (hF111.fn (by decide)).trans y4), (by rw [upS_fn _ _ _ (by decide)]; exact (hF111.fn (by decide)).trans y5), (by rw [upS_fn _ _ _ (by decide)]; exact (hF111.fn (by decide)).trans y6), (fun j => by rw [upS_c _ _ (by decide)]; exact (hF111 544 j (by decide)).trans (y7 j))⟩) (Nat.le_of_ble_eq_true rfl) (Nat.le_of_ble_eq_true rfl)
        · refine r_aload_n C dX8_posts_109 lg_0 ?_
          refine r_iload_n C dX8_posts_110 lg_3 ?_
          refine q_V1Z C (cM_isValid hfl M (by omega) (by omega) (by omega) hq2) dX8_posts_111 lk_X8_94 M.1 ⟨Nat.le_of_ble_eq_true rfl, Nat.le_of_ble_eq_true rfl⟩ (catLe (Nat.le_of_ble_eq_true rfl)) ⟨rfl, rfl⟩ rfl (Nat.le_of_ble_eq_true rfl) (Nat.le_of_ble_eq_true rfl) (fun z111 S111 A111 i111 p111 => ?_)
          obtain ⟨rfl, rfl, hF111, hL111⟩ := p111
          have M : RM S111 A := M.of hF111 (by decide)
          have e3 : S111 232 0 = S 232 0 + 1 := (hF111 232 0 (by decide)).trans e2
          rw [y1, y3, y4, y2, y6, e2]
          refine rb_ifeq C (tgt := 121) dX8_posts_114 (by decide) (fun c114 => ?_) (fun c114 => ?_)
          · refine r_iconst C dX8_posts_121 ?_
            refine r_istore C dX8_posts_122 (ls1_6 rfl rfl) ?_
            refine r_aload_n C dX8_posts_124 lg_0 ?_
            refine r_dup C dX8_posts_125 (cat_R _ _ _) ?_
            refine r_getI C 232 dX8_posts_126 fg_X8_77_7 rfl rfl M.1 (fun g126 => ?_)
            refine r_iload C dX8_posts_129 lg_6 ?_
            refine r_ifeq C (tgt := 138) dX8_posts_131 (by decide) (by omega) (fun c131 => ?_) (fun c131 => ?_)
            · refine r_iconst C dX8_posts_138 ?_
              refine r_isub C dX8_posts_139 ?_
              refine r_putI C 232 dX8_posts_140 fg_X8_77_7 rfl rfl M.1 (fun q h => by cases h; exact Or.inl rfl) (by omega) ?_
              skip
              refine r_iload C dX8_posts_143 lg_6 ?_
              exact f_Z F dX8_posts_145 (by omega) (by first
                | exact ⟨b2i_t (Or.inl (by omega)), rfl, (hFb.sub (by decide)).tr (Fr.up (by decide)), (by rw [upS_self]; omega), (by rw [upS_fn _ _ _ (by decide)]; exact y1), (by rw [upS_fn _ _ _ (by decide)]; exact y2), (by rw [upS_fn _ _ _ (by decide)]; exact y3), (by rw [upS_fn _ _ _ (by decide)]; exact y4), (by rw [upS_fn _ _ _ (by decide)]; exact y5), (by rw [upS_fn _ _ _ (by decide)]; exact y6), (fun j => by rw [upS_c _ _ (by decide)]; exact y7 j)⟩
                | exact ⟨b2i_t (Or.inr c114), rfl, ((hFb.sub (by decide)).tr (hF111.sub (by decide))).tr (Fr.up (by decide)), (by rw [upS_self]; omega), (by rw [upS_fn _ _ _ (by decide)]; exact (hF111.fn (by decide)).trans y1), (by rw [upS_fn _ _ _ (by decide)]; exact (hF111.fn (by decide)).trans y2), (by rw [upS_fn _ _ _ (by decide)]; exact (hF111.fn (by decide)).trans y3), (by rw [upS_fn _ _ _ (by decide)]; exact (hF111.fn (by decide)).trans y4), (by rw [upS_fn _ _ _ (by decide)]; exact (hF111.fn (by decide)).trans y5), (by rw [upS_fn _ _ _ (by decide)]; exact (hF111.fn (by decide)).trans y6), (fun j => by rw [upS_c _ _ (by decide)]; exact (hF111 544 j (by decide)).trans (y7 j))⟩
                | exact ⟨b2i_f (fun q => q.elim (fun q => by omega) c114), rfl, ((hFb.sub (by decide)).tr (hF111.sub (by decide))).tr (Fr.up (by decide)), (by rw [upS_self]; omega), (by rw [upS_fn _ _ _ (by decide)]; exact (hF111.fn (by decide)).trans y1), (by rw [upS_fn _ _ _ (by decide)]; exact (hF111.fn (by decide)).trans y2), (by rw [upS_fn _ _ _ (by decide)]; exact (hF111.fn (by decide)).trans y3), (by rw [upS_fn _ _ _ (by decide)]; exact (hF111.fn (by decide)).trans y4), (by rw [upS_fn _ _ _ (by decide)]; exact (hF111.fn (by decide)).trans y5), (by rw [upS_fn _ _ _ (by decide)]; exact (hF111.fn (by decide)).trans y6), (fun j => by rw [upS_c _ _ (by decide)]; exact (hF111 544 j (by decide)).trans (y7 j))⟩) (Nat.le_of_ble_eq_true rfl) (Nat.le_of_ble_eq_true rfl)
            · refine r_iconst C dX8_posts_134 ?_
              refine r_goto C (tgt := 139) dX8_posts_135 (by decide) ?_
              refine r_isub C dX8_posts_139 ?_
              refine r_putI C 232 dX8_posts_140 fg_X8_77_7 rfl rfl M.1 (fun q h => by cases h; exact Or.inl rfl) (by omega) ?_
              skip
              refine r_iload C dX8_posts_143 lg_6 ?_
              exact f_Z F dX8_posts_145 (by omega) (by first
                | exact ⟨b2i_t (Or.inl (by omega)), rfl, (hFb.sub (by decide)).tr (Fr.up (by decide)), (by rw [upS_self]; omega), (by rw [upS_fn _ _ _ (by decide)]; exact y1), (by rw [upS_fn _ _ _ (by decide)]; exact y2), (by rw [upS_fn _ _ _ (by decide)]; exact y3), (by rw [upS_fn _ _ _ (by decide)]; exact y4), (by rw [upS_fn _ _ _ (by decide)]; exact y5), (by rw [upS_fn _ _ _ (by decide)]; exact y6), (fun j => by rw [upS_c _ _ (by decide)]; exact y7 j)⟩
                | exact ⟨b2i_t (Or.inr c114), rfl, ((hFb.sub (by decide)).tr (hF111.sub (by decide))).tr (Fr.up (by decide)), (by rw [upS_self]; omega), (by rw [upS_fn _ _ _ (by decide)]; exact (hF111.fn (by decide)).trans y1), (by rw [upS_fn _ _ _ (by decide)]; exact (hF111.fn (by decide)).trans y2), (by rw [upS_fn _ _ _ (by decide)]; exact (hF111.fn (by decide)).trans y3), (by rw [upS_fn _ _ _ (by decide)]; exact (hF111.fn (by decide)).trans y4), (by rw [upS_fn _ _ _ (by decide)]; exact (hF111.fn (by decide)).trans y5), (by rw [upS_fn _ _ _ (by decide)]; exact (hF111.fn (by decide)).trans y6), (fun j => by rw [upS_c _ _ (by decide)]; exact (hF111 544 j (by decide)).trans (y7 j))⟩
                | exact ⟨b2i_f (fun q => q.elim (fun q => by omega) c114), rfl, ((hFb.sub (by decide)).tr (hF111.sub (by decide))).tr (Fr.up (by decide)), (by rw [upS_self]; omega), (by rw [upS_fn _ _ _ (by decide)]; exact (hF111.fn (by decide)).trans y1), (by rw [upS_fn _ _ _ (by decide)]; exact (hF111.fn (by decide)).trans y2), (by rw [upS_fn _ _ _ (by decide)]; exact (hF111.fn (by decide)).trans y3), (by rw [upS_fn _ _ _ (by decide)]; exact (hF111.fn (by decide)).trans y4), (by rw [upS_fn _ _ _ (by decide)]; exact (hF111.fn (by decide)).trans y5), (by rw [upS_fn _ _ _ (by decide)]; exact (hF111.fn (by decide)).trans y6), (fun j => by rw [upS_c _ _ (by decide)]; exact (hF111 544 j (by decide)).trans (y7 j))⟩) (Nat.le_of_ble_eq_true rfl) (Nat.le_of_ble_eq_true rfl)
          · refine r_iconst C dX8_posts_117 ?_
            refine r_goto C (tgt := 122) dX8_posts_118 (by decide) ?_
            refine r_istore C dX8_posts_122 (ls1_6 rfl rfl) ?_
            refine r_aload_n C dX8_posts_124 lg_0 ?_
            refine r_dup C dX8_posts_125 (cat_R _ _ _) ?_
            refine r_getI C 232 dX8_posts_126 fg_X8_77_7 rfl rfl M.1 (fun g126 => ?_)
            refine r_iload C dX8_posts_129 lg_6 ?_
            refine r_ifeq C (tgt := 138) dX8_posts_131 (by decide) (by omega) (fun c131 => ?_) (fun c131 => ?_)
            · refine r_iconst C dX8_posts_138 ?_
              refine r_isub C dX8_posts_139 ?_
              refine r_putI C 232 dX8_posts_140 fg_X8_77_7 rfl rfl M.1 (fun q h => by cases h; exact Or.inl rfl) (by omega) ?_
              skip
              refine r_iload C dX8_posts_143 lg_6 ?_
              exact f_Z F dX8_posts_145 (by omega) (by first
                | exact ⟨b2i_t (Or.inl (by omega)), rfl, (hFb.sub (by decide)).tr (Fr.up (by decide)), (by rw [upS_self]; omega), (by rw [upS_fn _ _ _ (by decide)]; exact y1), (by rw [upS_fn _ _ _ (by decide)]; exact y2), (by rw [upS_fn _ _ _ (by decide)]; exact y3), (by rw [upS_fn _ _ _ (by decide)]; exact y4), (by rw [upS_fn _ _ _ (by decide)]; exact y5), (by rw [upS_fn _ _ _ (by decide)]; exact y6), (fun j => by rw [upS_c _ _ (by decide)]; exact y7 j)⟩
                | exact ⟨b2i_t (Or.inr c114), rfl, ((hFb.sub (by decide)).tr (hF111.sub (by decide))).tr (Fr.up (by decide)), (by rw [upS_self]; omega), (by rw [upS_fn _ _ _ (by decide)]; exact (hF111.fn (by decide)).trans y1), (by rw [upS_fn _ _ _ (by decide)]; exact (hF111.fn (by decide)).trans y2), (by rw [upS_fn _ _ _ (by decide)]; exact (hF111.fn (by decide)).trans y3), (by rw [upS_fn _ _ _ (by decide)]; exact (hF111.fn (by decide)).trans y4), (by rw [upS_fn _ _ _ (by decide)]; exact (hF111.fn (by decide)).trans y5), (by rw [upS_fn _ _ _ (by decide)]; exact (hF111.fn (by decide)).trans y6), (fun j => by rw [upS_c _ _ (by decide)]; exact (hF111 544 j (by decide)).trans (y7 j))⟩
                | exact ⟨b2i_f (fun q => q.elim (fun q => by omega) c114), rfl, ((hFb.sub (by decide)).tr (hF111.sub (by decide))).tr (Fr.up (by decide)), (by rw [upS_self]; omega), (by rw [upS_fn _ _ _ (by decide)]; exact (hF111.fn (by decide)).trans y1), (by rw [upS_fn _ _ _ (by decide)]; exact (hF111.fn (by decide)).trans y2), (by rw [upS_fn _ _ _ (by decide)]; exact (hF111.fn (by decide)).trans y3), (by rw [upS_fn _ _ _ (by decide)]; exact (hF111.fn (by decide)).trans y4), (by rw [upS_fn _ _ _ (by decide)]; exact (hF111.fn (by decide)).trans y5), (by rw [upS_fn _ _ _ (by decide)]; exact (hF111.fn (by decide)).trans y6), (fun j => by rw [upS_c _ _ (by decide)]; exact (hF111 544 j (by decide)).trans (y7 j))⟩) (Nat.le_of_ble_eq_true rfl) (Nat.le_of_ble_eq_true rfl)
            · refine r_iconst C dX8_posts_134 ?_
              refine r_goto C (tgt := 139) dX8_posts_135 (by decide) ?_
              refine r_isub C dX8_posts_139 ?_
              refine r_putI C 232 dX8_posts_140 fg_X8_77_7 rfl rfl M.1 (fun q h => by cases h; exact Or.inl rfl) (by omega) ?_
              skip
              refine r_iload C dX8_posts_143 lg_6 ?_
              exact f_Z F dX8_posts_145 (by omega) (by first
                | exact ⟨b2i_t (Or.inl (by omega)), rfl, (hFb.sub (by decide)).tr (Fr.up (by decide)), (by rw [upS_self]; omega), (by rw [upS_fn _ _ _ (by decide)]; exact y1), (by rw [upS_fn _ _ _ (by decide)]; exact y2), (by rw [upS_fn _ _ _ (by decide)]; exact y3), (by rw [upS_fn _ _ _ (by decide)]; exact y4), (by rw [upS_fn _ _ _ (by decide)]; exact y5), (by rw [upS_fn _ _ _ (by decide)]; exact y6), (fun j => by rw [upS_c _ _ (by decide)]; exact y7 j)⟩
                | exact ⟨b2i_t (Or.inr c114), rfl, ((hFb.sub (by decide)).tr (hF111.sub (by decide))).tr (Fr.up (by decide)), (by rw [upS_self]; omega), (by rw [upS_fn _ _ _ (by decide)]; exact (hF111.fn (by decide)).trans y1), (by rw [upS_fn _ _ _ (by decide)]; exact (hF111.fn (by decide)).trans y2), (by rw [upS_fn _ _ _ (by decide)]; exact (hF111.fn (by decide)).trans y3), (by rw [upS_fn _ _ _ (by decide)]; exact (hF111.fn (by decide)).trans y4), (by rw [upS_fn _ _ _ (by decide)]; exact (hF111.fn (by decide)).trans y5), (by rw [upS_fn _ _ _ (by decide)]; exact (hF111.fn (by decide)).trans y6), (fun j => by rw [upS_c _ _ (by decide)]; exact (hF111 544 j (by decide)).trans (y7 j))⟩
                | exact ⟨b2i_f (fun q => q.elim (fun q => by omega) c114), rfl, ((hFb.sub (by decide)).tr (hF111.sub (by decide))).tr (Fr.up (by decide)), (by rw [upS_self]; omega), (by rw [upS_fn _ _ _ (by decide)]; exact (hF111.fn (by decide)).trans y1), (by rw [upS_fn _ _ _ (by decide)]; exact (hF111.fn (by decide)).trans y2), (by rw [upS_fn _ _ _ (by decide)]; exact (hF111.fn (by decide)).trans y3), (by rw [upS_fn _ _ _ (by decide)]; exact (hF111.fn (by decide)).trans y4), (by rw [upS_fn _ _ _ (by decide)]; exact (hF111.fn (by decide)).trans y5), (by rw [upS_fn _ _ _ (by decide)]; exact (hF111.fn (by decide)).trans y6), (fun j => by rw [upS_c _ _ (by decide)]; exact (hF111 544 j (by decide)).trans (y7 j))⟩) (Nat.le_of_ble_eq_true rfl) (Nat.le_of_ble_eq_true rfl)
      · refine r_aload_n C dX8_posts_72 lg_0 ?_
        refine r_getA C 231 17 dX8_posts_73 fg_X8_33_7 rfl rfl M.1 (fun g73 => ?_)
        refine r_bipush C dX8_posts_76 (by decide) ?_
        refine r_aload_n C dX8_posts_78 lg_0 ?_
        refine r_getI C 232 dX8_posts_79 fg_X8_77_7 rfl rfl M.1 (fun g79 => ?_)
        refine r_imul C dX8_posts_82 ?_
        refine r_iload C dX8_posts_83 lg_6 ?_
        refine r_iadd C dX8_posts_85 ?_
        refine r_iconst C dX8_posts_86 ?_
        refine r_iast C (N := 3600) 544 dX8_posts_87 (by decide) rfl rfl (M.g (j := 7) (by decide)) (by omega) (by omega) (by omega) (by omega) ?_
        refine r_iinc C dX8_posts_88 lg_6 (ls1_6 rfl rfl) ?_
        refine r_goto C (tgt := 65) dX8_posts_91 (by decide) ?_
        refine ih (i + 1) _ (by omega) (by omega) (hF1.tr (Fr.up (by decide))) (fun j => ?_) (by omega)
        rw [e232]
        by_cases hj : j = 60 * S 232 0 + i
        · rw [hj, upS_self, if_pos (by omega)]
        · rw [upS_z _ _ hj, hp]
          by_cases hk : 60 * S 232 0 ≤ j ∧ j < 60 * S 232 0 + i
          · rw [if_pos hk, if_pos (by omega)]
          · rw [if_neg hk, if_neg (by omega)]
  have M := M0
  refine r_aload_n C dX8_posts_0 lg_0 ?_
  refine r_getA C 224 10 dX8_posts_1 fg_X8_7_7 rfl rfl M.1 (fun g1 => ?_)
  refine r_aload_n C dX8_posts_4 lg_0 ?_
  refine r_getI C 232 dX8_posts_5 fg_X8_77_7 rfl rfl M.1 (fun g5 => ?_)
  refine r_iload_n C dX8_posts_8 lg_1 ?_
  refine r_iast C (N := 60) 320 dX8_posts_9 (by decide) rfl rfl (M.g (j := 0) (by decide)) (by omega) (by omega) (by omega) (by omega) ?_
  refine r_gS (fun S9 h9 => ?_)
  have M : RM S9 A := by rw [h9]; exact M.up (by decide)
  have k9_232 : S9 232 0 = S 232 0 := by rw [h9]; exact rfl
  refine r_aload_n C dX8_posts_10 lg_0 ?_
  refine r_getA C 225 11 dX8_posts_11 fg_X8_13_7 rfl rfl M.1 (fun g11 => ?_)
  refine r_aload_n C dX8_posts_14 lg_0 ?_
  refine r_getI C 232 dX8_posts_15 fg_X8_77_7 rfl rfl M.1 (fun g15 => ?_)
  refine r_iload_n C dX8_posts_18 lg_2 ?_
  refine r_iast C (N := 60) 352 dX8_posts_19 (by decide) rfl rfl (M.g (j := 1) (by decide)) (by omega) (by omega) (by omega) (by omega) ?_
  refine r_gS (fun S19 h19 => ?_)
  have M : RM S19 A := by rw [h19]; exact M.up (by decide)
  have k19_232 : S19 232 0 = S 232 0 := by rw [h19]; exact k9_232
  refine r_aload_n C dX8_posts_20 lg_0 ?_
  refine r_getA C 226 12 dX8_posts_21 fg_X8_16_7 rfl rfl M.1 (fun g21 => ?_)
  refine r_aload_n C dX8_posts_24 lg_0 ?_
  refine r_getI C 232 dX8_posts_25 fg_X8_77_7 rfl rfl M.1 (fun g25 => ?_)
  refine r_iload_n C dX8_posts_28 lg_3 ?_
  refine r_iast C (N := 60) 384 dX8_posts_29 (by decide) rfl rfl (M.g (j := 2) (by decide)) (by omega) (by omega) (by omega) (by omega) ?_
  refine r_gS (fun S29 h29 => ?_)
  have M : RM S29 A := by rw [h29]; exact M.up (by decide)
  have k29_232 : S29 232 0 = S 232 0 := by rw [h29]; exact k19_232
  refine r_aload_n C dX8_posts_30 lg_0 ?_
  refine r_getA C 227 13 dX8_posts_31 fg_X8_19_7 rfl rfl M.1 (fun g31 => ?_)
  refine r_aload_n C dX8_posts_34 lg_0 ?_
  refine r_getI C 232 dX8_posts_35 fg_X8_77_7 rfl rfl M.1 (fun g35 => ?_)
  refine r_iload C dX8_posts_38 lg_4 ?_
  refine r_iast C (N := 60) 416 dX8_posts_40 (by decide) rfl rfl (M.g (j := 3) (by decide)) (by omega) (by omega) (by omega) (by omega) ?_
  refine r_gS (fun S40 h40 => ?_)
  have M : RM S40 A := by rw [h40]; exact M.up (by decide)
  have k40_232 : S40 232 0 = S 232 0 := by rw [h40]; exact k29_232
  refine r_aload_n C dX8_posts_41 lg_0 ?_
  refine r_getA C 228 14 dX8_posts_42 fg_X8_22_7 rfl rfl M.1 (fun g42 => ?_)
  refine r_aload_n C dX8_posts_45 lg_0 ?_
  refine r_getI C 232 dX8_posts_46 fg_X8_77_7 rfl rfl M.1 (fun g46 => ?_)
  refine r_iload C dX8_posts_49 lg_5 ?_
  refine r_iast C (N := 60) 448 dX8_posts_51 (by decide) rfl rfl (M.g (j := 4) (by decide)) (by omega) (by omega) (by omega) (by omega) ?_
  refine r_gS (fun S51 h51 => ?_)
  have M : RM S51 A := by rw [h51]; exact M.up (by decide)
  have k51_232 : S51 232 0 = S 232 0 := by rw [h51]; exact k40_232
  refine r_aload_n C dX8_posts_52 lg_0 ?_
  refine r_getA C 229 15 dX8_posts_53 fg_X8_25_7 rfl rfl M.1 (fun g53 => ?_)
  refine r_aload_n C dX8_posts_56 lg_0 ?_
  refine r_getI C 232 dX8_posts_57 fg_X8_77_7 rfl rfl M.1 (fun g57 => ?_)
  refine r_iconst C dX8_posts_60 ?_
  refine r_zast C (N := 60) 480 dX8_posts_61 (by decide) rfl rfl (M.g (j := 5) (by decide)) (by omega) (by omega) (by omega) (by omega) ?_
  refine r_gS (fun S61 h61 => ?_)
  have M : RM S61 A := by rw [h61]; exact M.up (by decide)
  have k61_232 : S61 232 0 = S 232 0 := by rw [h61]; exact k51_232
  refine r_iconst C dX8_posts_62 ?_
  refine r_istore C dX8_posts_63 (ls1_6 rfl rfl) ?_
  refine lp S61 ⟨?_, ?_, ?_, ?_, ?_, ?_⟩ ?_ 61 0 S61 (by omega) (by omega) Fr.rf (fun j => ?_) (by omega)
  · rw [h61, upS_fn _ _ _ (by decide), h51, upS_fn _ _ _ (by decide), h40, upS_fn _ _ _ (by decide), h29, upS_fn _ _ _ (by decide), h19, upS_fn _ _ _ (by decide), h9, upS_fu]
  · rw [h61, upS_fn _ _ _ (by decide), h51, upS_fn _ _ _ (by decide), h40, upS_fn _ _ _ (by decide), h29, upS_fn _ _ _ (by decide), h19, upS_fu, k9_232, h9, upS_fn _ _ _ (by decide)]
  · rw [h61, upS_fn _ _ _ (by decide), h51, upS_fn _ _ _ (by decide), h40, upS_fn _ _ _ (by decide), h29, upS_fu, k19_232, h19, upS_fn _ _ _ (by decide), h9, upS_fn _ _ _ (by decide)]
  · rw [h61, upS_fn _ _ _ (by decide), h51, upS_fn _ _ _ (by decide), h40, upS_fu, k29_232, h29, upS_fn _ _ _ (by decide), h19, upS_fn _ _ _ (by decide), h9, upS_fn _ _ _ (by decide)]
  · rw [h61, upS_fn _ _ _ (by decide), h51, upS_fu, k40_232, h40, upS_fn _ _ _ (by decide), h29, upS_fn _ _ _ (by decide), h19, upS_fn _ _ _ (by decide), h9, upS_fn _ _ _ (by decide)]
  · rw [h61, upS_fu, k51_232, h51, upS_fn _ _ _ (by decide), h40, upS_fn _ _ _ (by decide), h29, upS_fn _ _ _ (by decide), h19, upS_fn _ _ _ (by decide), h9, upS_fn _ _ _ (by decide)]
  · rw [h61, h51, h40, h29, h19, h9]; exact (((((Fr.up (by decide)).tr (Fr.up (by decide))).tr (Fr.up (by decide))).tr (Fr.up (by decide))).tr (Fr.up (by decide))).tr (Fr.up (by decide))
  · rw [if_neg (by omega), h61, upS_c _ _ (by decide), h51, upS_c _ _ (by decide), h40, upS_c _ _ (by decide), h29, upS_c _ _ (by decide), h19, upS_c _ _ (by decide), h9, upS_c _ _ (by decide)]
