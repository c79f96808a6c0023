/-! the reference: the calls that post, close, weigh; what was posted -/
noncomputable def wrg (S : ST) (day item qty cost : Int) : Int := cI ((0 ≤ day ∧ day ≤ 364) ∧ (0 ≤ item ∧ item ≤ 5) ∧ (1 ≤ qty ∧ qty ≤ 1000) ∧ 0 ≤ cost ∧ cost ≤ 1000000) (cI (day ≤ S 233 0 ∨ S 232 0 = 60) 2 0) 1
theorem wrg_r (S : ST) (d i q c : Int) : 0 ≤ wrg S d i q c ∧ wrg S d i q c ≤ 2 := by
  unfold wrg cI
  split <;> (try split) <;> omega
theorem wrg_0 {S : ST} {d i q c : Int} (h : wrg S d i q c = 0) : ((0 ≤ d ∧ d ≤ 364) ∧ (0 ≤ i ∧ i ≤ 5) ∧ (1 ≤ q ∧ q ≤ 1000) ∧ 0 ≤ c ∧ c ≤ 1000000) ∧ ¬ d ≤ S 233 0 ∧ ¬ S 232 0 = 60 := by
  unfold wrg cI at h
  split at h
  · split at h
    · omega
    · refine ⟨by assumption, by omega, by omega⟩
  · omega
set_option maxRecDepth 20000 in
theorem cM_wrong {G : GT} {l : Launch} (hfl : l.stackTraces = false) {S : ST} {A : AB} {d i q c : Int} (M : RM S A) (hd : rI d) (hi : rI i) (hq : rI q) (hc : rI c) : CT G l yX8_wrong cX8_wrong 5 (some .int) (rmk 2 0 0 42) S A [vR A 7 0, vI d, vI i, vI q, vI c] (oI fun z S' A' => wrg S d i q c = z ∧ S = S' ∧ A = A') (noX) := by
  refine ct_ofN (own := RX8) (mn := "wrong") rfl rfl (by decide) hfl (lv0 := [some (vR A 7 0), some (vI d), some (vI i), some (vI q), some (vI c)]) (ent_1 (cat_R _ _ _) (ent_1 rfl (ent_1 rfl (ent_1 rfl (ent_1 rfl ent_0))))) rfl ?_
  intro J X C F FX FT FU hW hA
  refine r_iload_n C dX8_wrong_0 lg_1 ?_
  refine q_S1Z C (cM_isDay hfl (by omega)) dX8_wrong_1 lk_X8_98 ⟨Nat.le_of_ble_eq_true rfl, Nat.le_of_ble_eq_true rfl⟩ (catLe (Nat.le_of_ble_eq_true rfl)) ⟨rfl, rfl⟩ rfl (Nat.le_of_ble_eq_true rfl) (Nat.le_of_ble_eq_true rfl) (fun z1 S1 A1 i1 p1 => ?_)
  obtain ⟨rfl, rfl, rfl⟩ := p1
  refine rb_ifeq C (tgt := 36) dX8_wrong_4 (by decide) (fun c4 => ?_) (fun c4 => ?_)
  · refine r_iconst C dX8_wrong_36 ?_
    refine r_goto C (tgt := 53) dX8_wrong_37 (by decide) ?_
    exact f_I F dX8_wrong_53 (by omega) ⟨by unfold wrg cI; split <;> (try split) <;> omega, rfl, rfl⟩ (Nat.le_of_ble_eq_true rfl) (Nat.le_of_ble_eq_true rfl)
  · refine r_iload_n C dX8_wrong_7 lg_2 ?_
    refine q_S1Z C (cM_isItem hfl (by omega)) dX8_wrong_8 lk_X8_101 ⟨Nat.le_of_ble_eq_true rfl, Nat.le_of_ble_eq_true rfl⟩ (catLe (Nat.le_of_ble_eq_true rfl)) ⟨rfl, rfl⟩ rfl (Nat.le_of_ble_eq_true rfl) (Nat.le_of_ble_eq_true rfl) (fun z8 S8 A8 i8 p8 => ?_)
    obtain ⟨rfl, rfl, rfl⟩ := p8
    refine rb_ifeq C (tgt := 36) dX8_wrong_11 (by decide) (fun c11 => ?_) (fun c11 => ?_)
    · refine r_iconst C dX8_wrong_36 ?_
      refine r_goto C (tgt := 53) dX8_wrong_37 (by decide) ?_
      exact f_I F dX8_wrong_53 (by omega) ⟨by unfold wrg cI; split <;> (try split) <;> omega, rfl, rfl⟩ (Nat.le_of_ble_eq_true rfl) (Nat.le_of_ble_eq_true rfl)
    · refine r_iload_n C dX8_wrong_14 lg_3 ?_
      refine r_iconst C dX8_wrong_15 ?_
      refine r_sipush C dX8_wrong_16 (by decide) ?_
      refine q_S3Z C (cM_isIn hfl (by omega) (by omega) (by omega)) dX8_wrong_19 lk_X8_73 ⟨Nat.le_of_ble_eq_true rfl, Nat.le_of_ble_eq_true rfl⟩ (catLe (Nat.le_of_ble_eq_true rfl)) ⟨rfl, rfl⟩ rfl (Nat.le_of_ble_eq_true rfl) (Nat.le_of_ble_eq_true rfl) (fun z19 S19 A19 i19 p19 => ?_)
      obtain ⟨rfl, rfl, rfl⟩ := p19
      refine rb_ifeq C (tgt := 36) dX8_wrong_22 (by decide) (fun c22 => ?_) (fun c22 => ?_)
      · refine r_iconst C dX8_wrong_36 ?_
        refine r_goto C (tgt := 53) dX8_wrong_37 (by decide) ?_
        exact f_I F dX8_wrong_53 (by omega) ⟨by unfold wrg cI; split <;> (try split) <;> omega, rfl, rfl⟩ (Nat.le_of_ble_eq_true rfl) (Nat.le_of_ble_eq_true rfl)
      · refine r_iload C dX8_wrong_25 lg_4 ?_
        refine r_iconst C dX8_wrong_27 ?_
        refine r_ldc C dX8_wrong_28 cs_X8_104 1000000 (by decide) ?_
        refine q_S3Z C (cM_isIn hfl (by omega) (by omega) (by omega)) dX8_wrong_30 lk_X8_73 ⟨Nat.le_of_ble_eq_true rfl, Nat.le_of_ble_eq_true rfl⟩ (catLe (Nat.le_of_ble_eq_true rfl)) ⟨rfl, rfl⟩ rfl (Nat.le_of_ble_eq_true rfl) (Nat.le_of_ble_eq_true rfl) (fun z30 S30 A30 i30 p30 => ?_)
        obtain ⟨rfl, rfl, rfl⟩ := p30
        refine rb_ifne C (tgt := 40) dX8_wrong_33 (by decide) (fun c33 => ?_) (fun c33 => ?_)
        · refine r_aload_n C dX8_wrong_40 lg_0 ?_
          refine r_iload_n C dX8_wrong_41 lg_1 ?_
          refine q_V1Z C (cM_isShut hfl (by assumption) (by omega)) dX8_wrong_42 lk_X8_105 M.1 ⟨Nat.le_of_ble_eq_true rfl, Nat.le_of_ble_eq_true rfl⟩ (catLe (Nat.le_of_ble_eq_true rfl)) ⟨rfl, rfl⟩ rfl (Nat.le_of_ble_eq_true rfl) (Nat.le_of_ble_eq_true rfl) (fun z42 S42 A42 i42 p42 => ?_)
          obtain ⟨rfl, rfl, rfl⟩ := p42
          refine rb_ifeq C (tgt := 52) dX8_wrong_45 (by decide) (fun c45 => ?_) (fun c45 => ?_)
          · refine r_iconst C dX8_wrong_52 ?_
            exact f_I F dX8_wrong_53 (by omega) ⟨by unfold wrg cI; split <;> (try split) <;> omega, rfl, rfl⟩ (Nat.le_of_ble_eq_true rfl) (Nat.le_of_ble_eq_true rfl)
          · refine r_iconst C dX8_wrong_48 ?_
            refine r_goto C (tgt := 53) dX8_wrong_49 (by decide) ?_
            exact f_I F dX8_wrong_53 (by omega) ⟨by unfold wrg cI; split <;> (try split) <;> omega, rfl, rfl⟩ (Nat.le_of_ble_eq_true rfl) (Nat.le_of_ble_eq_true rfl)
        · refine r_iconst C dX8_wrong_36 ?_
          refine r_goto C (tgt := 53) dX8_wrong_37 (by decide) ?_
          exact f_I F dX8_wrong_53 (by omega) ⟨by unfold wrg cI; split <;> (try split) <;> omega, rfl, rfl⟩ (Nat.le_of_ble_eq_true rfl) (Nat.le_of_ble_eq_true rfl)
def pOk (S : ST) (kind day item qty : Int) : Prop := kind = 3 ∨ vld (chg (fu (S 320) (S 232 0) kind) (fu (S 384) (S 232 0) item) (fu (S 416) (S 232 0) qty) item) (fu (S 416) (S 232 0) qty) (tks (fu (S 320) (S 232 0) kind) (fu (S 384) (S 232 0) item) item) 0 (led (fu (S 352) (S 232 0) day) (fu (S 480) (S 232 0) 0) (S 232 0 + 1).toNat)
def pRow (S S' : ST) (kind day item qty cost : Int) : Prop := S' 320 = (fu (S 320) (S 232 0) kind) ∧ S' 352 = (fu (S 352) (S 232 0) day) ∧ S' 384 = (fu (S 384) (S 232 0) item) ∧ S' 416 = (fu (S 416) (S 232 0) qty) ∧ S' 448 = (fu (S 448) (S 232 0) cost) ∧ S' 480 = (fu (S 480) (S 232 0) 0) ∧ (∀ j, S' 544 j = if 60 * S 232 0 ≤ j ∧ j < 60 * S 232 0 + 60 then 0 else S 544 j)
/-- what a posting answers and does -/
def PST (S : ST) (kind day item qty cost z : Int) (S' : ST) : Prop :=
  (¬ wrg S day item qty cost = 0 ∧ z = 0 ∧ S' = upS S 249 0 (wrg S day item qty cost)) ∨
  (wrg S day item qty cost = 0 ∧ pOk S kind day item qty ∧ z = S 232 0 ∧ S' 249 0 = 0 ∧ S' 232 0 = S 232 0 + 1 ∧ pRow S S' kind day item qty cost ∧ Fr [320, 352, 384, 416, 448, 480, 544, 232, 672, 236, 249] S S') ∨
  (wrg S day item qty cost = 0 ∧ ¬ pOk S kind day item qty ∧ z = 0 ∧ S' 249 0 = 2 ∧ S' 232 0 = S 232 0 ∧ pRow S S' kind day item qty cost ∧ Fr [320, 352, 384, 416, 448, 480, 544, 232, 672, 236, 249] S S')
theorem pOk_c {S T : ST} {kind day item qty : Int} (h : ∀ c, c ≠ 249 → T c = S c) : pOk T kind day item qty ↔ pOk S kind day item qty := by
  unfold pOk
  rw [h 320 (by decide), h 352 (by decide), h 384 (by decide), h 416 (by decide), h 480 (by decide), h 232 (by decide)]
theorem pRow_c {S T S' : ST} {kind day item qty cost : Int} (h : ∀ c, c ≠ 249 → T c = S c) : pRow T S' kind day item qty cost ↔ pRow S S' kind day item qty cost := by
  unfold pRow
  rw [h 320 (by decide), h 352 (by decide), h 384 (by decide), h 416 (by decide), h 448 (by decide), h 480 (by decide), h 232 (by decide), h 544 (by decide)]
theorem pRow_d {S S' T : ST} {kind day item qty cost : Int} (h : ∀ c, c ≠ 249 → T c = S' c) : pRow S T kind day item qty cost ↔ pRow S S' kind day item qty cost := by
  unfold pRow
  rw [h 320 (by decide), h 352 (by decide), h 384 (by decide), h 416 (by decide), h 448 (by decide), h 480 (by decide), h 544 (by decide)]
set_option maxRecDepth 20000 in
theorem cM_post {G : GT} {l : Launch} (hfl : l.stackTraces = false) {S : ST} {A : AB} {kind day item qty cost : Int} (M0 : RM S A) (hk : rI kind) (hd : rI day) (hi : rI item) (hq : rI qty) (hc : rI cost) (hm0 : 0 ≤ S 232 0) (hm1 : S 232 0 ≤ 60) (hqt : ∀ m, 0 ≤ m → m < S 232 0 → 0 ≤ S 416 m ∧ S 416 m ≤ 1000) : CT G l yX8_post cX8_post 6 (some .int) (rmk 3 0 0 73) S A [vR A 7 0, vI kind, vI day, vI item, vI qty, vI cost] (oI fun z S' A' => A = A' ∧ PST S kind day item qty cost z S') (noX) := by
  have M := M0
  have hw9 := wrg_r S day item qty cost
  refine ct_ofN (own := RX8) (mn := "post") rfl rfl (by decide) hfl (lv0 := [some (vR A 7 0), some (vI kind), some (vI day), some (vI item), some (vI qty), some (vI cost)]) (ent_1 (cat_R _ _ _) (ent_1 rfl (ent_1 rfl (ent_1 rfl (ent_1 rfl (ent_1 rfl ent_0)))))) rfl ?_
  intro J X C F FX FT FU hW hA
  refine r_aload_n C dX8_post_0 lg_0 ?_
  refine r_aload_n C dX8_post_1 lg_0 ?_
  refine r_iload_n C dX8_post_2 lg_2 ?_
  refine r_iload_n C dX8_post_3 lg_3 ?_
  refine r_iload C dX8_post_4 lg_4 ?_
  refine r_iload C dX8_post_6 lg_5 ?_
  refine q_V4I C (cM_wrong hfl (by assumption) (by omega) (by omega) (by omega) (by omega)) dX8_post_8 lk_X8_108 M.1 ⟨Nat.le_of_ble_eq_true rfl, Nat.le_of_ble_eq_true rfl⟩ (catLe (Nat.le_of_ble_eq_true rfl)) ⟨rfl, rfl⟩ rfl (Nat.le_of_ble_eq_true rfl) (Nat.le_of_ble_eq_true rfl) (fun z8 S8 A8 i8 p8 => ?_)
  obtain ⟨rfl, rfl, rfl⟩ := p8
  refine q_V1Z C (cM_goes hfl (by assumption) (by omega)) dX8_post_11 lk_X8_112 M.1 ⟨Nat.le_of_ble_eq_true rfl, Nat.le_of_ble_eq_true rfl⟩ (catLe (Nat.le_of_ble_eq_true rfl)) ⟨rfl, rfl⟩ rfl (Nat.le_of_ble_eq_true rfl) (Nat.le_of_ble_eq_true rfl) (fun z11 S11 A11 i11 p11 => ?_)
  obtain ⟨rfl, rfl, rfl⟩ := p11
  refine r_gS (fun S1 hS1 => ?_)
  have M : RM S1 A := by rw [hS1]; exact M0.up (by decide)
  have q : ∀ c, c ≠ 249 → S1 c = S c := fun c h => by rw [hS1]; exact upS_fn _ _ _ h
  have q232 := q 232 (by decide)
  have q416 := q 416 (by decide)
  refine rb_ifne C (tgt := 19) dX8_post_14 (by decide) (fun c14 => ?_) (fun c14 => ?_)
  · have g9 := wrg_0 c14
    have e232 : S1 232 0 = S 232 0 := by rw [q232]
    refine r_aload_n C dX8_post_19 lg_0 ?_
    refine r_aload_n C dX8_post_20 lg_0 ?_
    refine r_iload_n C dX8_post_21 lg_1 ?_
    refine r_iload_n C dX8_post_22 lg_2 ?_
    refine r_iload_n C dX8_post_23 lg_3 ?_
    refine r_iload C dX8_post_24 lg_4 ?_
    refine r_iload C dX8_post_26 lg_5 ?_
    refine q_V5Z C (cM_posts hfl M hk hd hi (by omega) hc (by omega) (by omega) (fun m m0 m1 => by rw [q416]; exact hqt m m0 (by omega))) dX8_post_28 lk_X8_115 M.1 ⟨Nat.le_of_ble_eq_true rfl, Nat.le_of_ble_eq_true rfl⟩ (catLe (Nat.le_of_ble_eq_true rfl)) ⟨rfl, rfl⟩ rfl (Nat.le_of_ble_eq_true rfl) (Nat.le_of_ble_eq_true rfl) (fun z28 S28 A28 i28 p28 => ?_)
    obtain ⟨rfl, rfl, hF28, he28, w128, w228, w328, w428, w528, w628, w728⟩ := p28
    have M : RM S28 A := M.of hF28 (by decide)
    refine rb_ifeq C (tgt := 38) dX8_post_31 (by decide) (fun c31 => ?_) (fun c31 => ?_)
    · refine r_iconst C dX8_post_38 ?_
      refine q_V1Z C (cM_goes hfl (by assumption) (by omega)) dX8_post_39 lk_X8_112 M.1 ⟨Nat.le_of_ble_eq_true rfl, Nat.le_of_ble_eq_true rfl⟩ (catLe (Nat.le_of_ble_eq_true rfl)) ⟨rfl, rfl⟩ rfl (Nat.le_of_ble_eq_true rfl) (Nat.le_of_ble_eq_true rfl) (fun z39 S39 A39 i39 p39 => ?_)
      obtain ⟨rfl, rfl, rfl⟩ := p39
      refine rb_ifeq C (tgt := 54) dX8_post_42 (by decide) (fun c42 => ?_) (fun c42 => ?_)
      · refine r_iconst C dX8_post_54 ?_
        exact f_I F dX8_post_55 (by first | omega | (rw [he28]; have := b2i_01 (kind = 3 ∨ vld (chg (fu (S1 320) (S1 232 0) kind) (fu (S1 384) (S1 232 0) item) (fu (S1 416) (S1 232 0) qty) item) (fu (S1 416) (S1 232 0) qty) (tks (fu (S1 320) (S1 232 0) kind) (fu (S1 384) (S1 232 0) item) item) 0 (led (fu (S1 352) (S1 232 0) day) (fu (S1 480) (S1 232 0) 0) (S1 232 0 + 1).toNat)); omega)) (by
          first
          | (exfalso; omega)
          | exact ⟨rfl, Or.inr (Or.inl ⟨c14, (pOk_c q).mp c31, by rw [he28, b2i_t c31]; omega, upS_self _ _ _ _, by rw [upS_c _ _ (by decide), he28, b2i_t c31]; omega, (pRow_d (fun c h => upS_fn _ _ _ h)).mpr ((pRow_c q).mp ⟨w128, w228, w328, w428, w528, w628, w728⟩), ((hS1 ▸ Fr.up (by decide) : Fr [320, 352, 384, 416, 448, 480, 544, 232, 672, 236, 249] S S1).tr (hF28.sub (by decide))).tr (Fr.up (by decide))⟩)⟩
          | exact ⟨rfl, Or.inr (Or.inr ⟨c14, fun h => c31 ((pOk_c q).mpr h), rfl, upS_self _ _ _ _, by rw [upS_c _ _ (by decide), he28, b2i_f c31]; omega, (pRow_d (fun c h => upS_fn _ _ _ h)).mpr ((pRow_c q).mp ⟨w128, w228, w328, w428, w528, w628, w728⟩), ((hS1 ▸ Fr.up (by decide) : Fr [320, 352, 384, 416, 448, 480, 544, 232, 672, 236, 249] S S1).tr (hF28.sub (by decide))).tr (Fr.up (by decide))⟩)⟩) (Nat.le_of_ble_eq_true rfl) (Nat.le_of_ble_eq_true rfl)
      · refine r_aload_n C dX8_post_45 lg_0 ?_
        refine r_getI C 232 dX8_post_46 fg_X8_77_7 rfl rfl M.1 (fun g46 => ?_)
        rw [upS_c _ _ (by decide)]
        refine r_iconst C dX8_post_49 ?_
        refine r_isub C dX8_post_50 ?_
        refine r_goto C (tgt := 55) dX8_post_51 (by decide) ?_
        exact f_I F dX8_post_55 (by first | omega | (rw [he28]; have := b2i_01 (kind = 3 ∨ vld (chg (fu (S1 320) (S1 232 0) kind) (fu (S1 384) (S1 232 0) item) (fu (S1 416) (S1 232 0) qty) item) (fu (S1 416) (S1 232 0) qty) (tks (fu (S1 320) (S1 232 0) kind) (fu (S1 384) (S1 232 0) item) item) 0 (led (fu (S1 352) (S1 232 0) day) (fu (S1 480) (S1 232 0) 0) (S1 232 0 + 1).toNat)); omega)) (by
          first
          | (exfalso; omega)
          | exact ⟨rfl, Or.inr (Or.inl ⟨c14, (pOk_c q).mp c31, by rw [he28, b2i_t c31]; omega, upS_self _ _ _ _, by rw [upS_c _ _ (by decide), he28, b2i_t c31]; omega, (pRow_d (fun c h => upS_fn _ _ _ h)).mpr ((pRow_c q).mp ⟨w128, w228, w328, w428, w528, w628, w728⟩), ((hS1 ▸ Fr.up (by decide) : Fr [320, 352, 384, 416, 448, 480, 544, 232, 672, 236, 249] S S1).tr (hF28.sub (by decide))).tr (Fr.up (by decide))⟩)⟩
          | exact ⟨rfl, Or.inr (Or.inr ⟨c14, fun h => c31 ((pOk_c q).mpr h), rfl, upS_self _ _ _ _, by rw [upS_c _ _ (by decide), he28, b2i_f c31]; omega, (pRow_d (fun c h => upS_fn _ _ _ h)).mpr ((pRow_c q).mp ⟨w128, w228, w328, w428, w528, w628, w728⟩), ((hS1 ▸ Fr.up (by decide) : Fr [320, 352, 384, 416, 448, 480, 544, 232, 672, 236, 249] S S1).tr (hF28.sub (by decide))).tr (Fr.up (by decide))⟩)⟩) (Nat.le_of_ble_eq_true rfl) (Nat.le_of_ble_eq_true rfl)
    · refine r_iconst C dX8_post_34 ?_
      refine r_goto C (tgt := 39) dX8_post_35 (by decide) ?_
      refine q_V1Z C (cM_goes hfl (by assumption) (by omega)) dX8_post_39 lk_X8_112 M.1 ⟨Nat.le_of_ble_eq_true rfl, Nat.le_of_ble_eq_true rfl⟩ (catLe (Nat.le_of_ble_eq_true rfl)) ⟨rfl, rfl⟩ rfl (Nat.le_of_ble_eq_true rfl) (Nat.le_of_ble_eq_true rfl) (fun z39 S39 A39 i39 p39 => ?_)
      obtain ⟨rfl, rfl, rfl⟩ := p39
      refine rb_ifeq C (tgt := 54) dX8_post_42 (by decide) (fun c42 => ?_) (fun c42 => ?_)
      · refine r_iconst C dX8_post_54 ?_
        exact f_I F dX8_post_55 (by first | omega | (rw [he28]; have := b2i_01 (kind = 3 ∨ vld (chg (fu (S1 320) (S1 232 0) kind) (fu (S1 384) (S1 232 0) item) (fu (S1 416) (S1 232 0) qty) item) (fu (S1 416) (S1 232 0) qty) (tks (fu (S1 320) (S1 232 0) kind) (fu (S1 384) (S1 232 0) item) item) 0 (led (fu (S1 352) (S1 232 0) day) (fu (S1 480) (S1 232 0) 0) (S1 232 0 + 1).toNat)); omega)) (by
          first
          | (exfalso; omega)
          | exact ⟨rfl, Or.inr (Or.inl ⟨c14, (pOk_c q).mp c31, by rw [he28, b2i_t c31]; omega, upS_self _ _ _ _, by rw [upS_c _ _ (by decide), he28, b2i_t c31]; omega, (pRow_d (fun c h => upS_fn _ _ _ h)).mpr ((pRow_c q).mp ⟨w128, w228, w328, w428, w528, w628, w728⟩), ((hS1 ▸ Fr.up (by decide) : Fr [320, 352, 384, 416, 448, 480, 544, 232, 672, 236, 249] S S1).tr (hF28.sub (by decide))).tr (Fr.up (by decide))⟩)⟩
          | exact ⟨rfl, Or.inr (Or.inr ⟨c14, fun h => c31 ((pOk_c q).mpr h), rfl, upS_self _ _ _ _, by rw [upS_c _ _ (by decide), he28, b2i_f c31]; omega, (pRow_d (fun c h => upS_fn _ _ _ h)).mpr ((pRow_c q).mp ⟨w128, w228, w328, w428, w528, w628, w728⟩), ((hS1 ▸ Fr.up (by decide) : Fr [320, 352, 384, 416, 448, 480, 544, 232, 672, 236, 249] S S1).tr (hF28.sub (by decide))).tr (Fr.up (by decide))⟩)⟩) (Nat.le_of_ble_eq_true rfl) (Nat.le_of_ble_eq_true rfl)
      · refine r_aload_n C dX8_post_45 lg_0 ?_
        refine r_getI C 232 dX8_post_46 fg_X8_77_7 rfl rfl M.1 (fun g46 => ?_)
        rw [upS_c _ _ (by decide)]
        refine r_iconst C dX8_post_49 ?_
        refine r_isub C dX8_post_50 ?_
        refine r_goto C (tgt := 55) dX8_post_51 (by decide) ?_
        exact f_I F dX8_post_55 (by first | omega | (rw [he28]; have := b2i_01 (kind = 3 ∨ vld (chg (fu (S1 320) (S1 232 0) kind) (fu (S1 384) (S1 232 0) item) (fu (S1 416) (S1 232 0) qty) item) (fu (S1 416) (S1 232 0) qty) (tks (fu (S1 320) (S1 232 0) kind) (fu (S1 384) (S1 232 0) item) item) 0 (led (fu (S1 352) (S1 232 0) day) (fu (S1 480) (S1 232 0) 0) (S1 232 0 + 1).toNat)); omega)) (by
          first
          | (exfalso; omega)
          | exact ⟨rfl, Or.inr (Or.inl ⟨c14, (pOk_c q).mp c31, by rw [he28, b2i_t c31]; omega, upS_self _ _ _ _, by rw [upS_c _ _ (by decide), he28, b2i_t c31]; omega, (pRow_d (fun c h => upS_fn _ _ _ h)).mpr ((pRow_c q).mp ⟨w128, w228, w328, w428, w528, w628, w728⟩), ((hS1 ▸ Fr.up (by decide) : Fr [320, 352, 384, 416, 448, 480, 544, 232, 672, 236, 249] S S1).tr (hF28.sub (by decide))).tr (Fr.up (by decide))⟩)⟩
          | exact ⟨rfl, Or.inr (Or.inr ⟨c14, fun h => c31 ((pOk_c q).mpr h), rfl, upS_self _ _ _ _, by rw [upS_c _ _ (by decide), he28, b2i_f c31]; omega, (pRow_d (fun c h => upS_fn _ _ _ h)).mpr ((pRow_c q).mp ⟨w128, w228, w328, w428, w528, w628, w728⟩), ((hS1 ▸ Fr.up (by decide) : Fr [320, 352, 384, 416, 448, 480, 544, 232, 672, 236, 249] S S1).tr (hF28.sub (by decide))).tr (Fr.up (by decide))⟩)⟩) (Nat.le_of_ble_eq_true rfl) (Nat.le_of_ble_eq_true rfl)
  · refine r_iconst C dX8_post_17 ?_
    exact f_I F dX8_post_18 (by omega) ⟨rfl, Or.inl ⟨c14, rfl, hS1⟩⟩ (Nat.le_of_ble_eq_true rfl) (Nat.le_of_ble_eq_true rfl)
set_option maxRecDepth 20000 in
theorem cM_receive {G : GT} {l : Launch} (hfl : l.stackTraces = false) {S : ST} {A : AB} {day item qty cost : Int} (M0 : RM S A) (hd : rI day) (hi : rI item) (hq : rI qty) (hc : rI cost) (hm0 : 0 ≤ S 232 0) (hm1 : S 232 0 ≤ 60) (hqt : ∀ m, 0 ≤ m → m < S 232 0 → 0 ≤ S 416 m ∧ S 416 m ≤ 1000) : CT G l yX8_receive cX8_receive 5 (some .int) (rmk 4 0 0 98) S A [vR A 7 0, vI day, vI item, vI qty, vI cost] (oI fun z S' A' => A = A' ∧ PST S 0 day item qty cost z S') (noX) := by
  refine ct_ofN (own := RX8) (mn := "receive") rfl rfl (by decide) hfl (lv0 := [some (vR A 7 0), some (vI day), some (vI item), some (vI qty), some (vI cost)]) (ent_1 (cat_R _ _ _) (ent_1 rfl (ent_1 rfl (ent_1 rfl (ent_1 rfl ent_0))))) rfl ?_
  intro J X C F FX FT FU hW hA
  refine r_aload_n C dX8_receive_0 lg_0 ?_
  refine r_iconst C dX8_receive_1 ?_
  refine r_iload_n C dX8_receive_2 lg_1 ?_
  refine r_iload_n C dX8_receive_3 lg_2 ?_
  refine r_iload_n C dX8_receive_4 lg_3 ?_
  refine r_iload C dX8_receive_5 lg_4 ?_
  refine q_V5I C (cM_post hfl M0 (by omega) (by omega) (by omega) (by omega) (by omega) hm0 hm1 hqt) dX8_receive_7 lk_X8_119 M0.1 ⟨Nat.le_of_ble_eq_true rfl, Nat.le_of_ble_eq_true rfl⟩ (catLe (Nat.le_of_ble_eq_true rfl)) ⟨rfl, rfl⟩ rfl (Nat.le_of_ble_eq_true rfl) (Nat.le_of_ble_eq_true rfl) (fun z7 S7 A7 i7 p7 => ?_)
  obtain ⟨rfl, h9⟩ := p7
  exact f_I F dX8_receive_10 i7 ⟨rfl, h9⟩ (Nat.le_of_ble_eq_true rfl) (Nat.le_of_ble_eq_true rfl)
set_option maxRecDepth 20000 in
theorem cM_issue {G : GT} {l : Launch} (hfl : l.stackTraces = false) {S : ST} {A : AB} {day item qty : Int} (M0 : RM S A) (hd : rI day) (hi : rI item) (hq : rI qty) (hm0 : 0 ≤ S 232 0) (hm1 : S 232 0 ≤ 60) (hqt : ∀ m, 0 ≤ m → m < S 232 0 → 0 ≤ S 416 m ∧ S 416 m ≤ 1000) : CT G l yX8_issue cX8_issue 4 (some .int) (rmk 4 0 0 98) S A [vR A 7 0, vI day, vI item, vI qty] (oI fun z S' A' => A = A' ∧ PST S 1 day item qty 0 z S') (noX) := by
  refine ct_ofN (own := RX8) (mn := "issue") rfl rfl (by decide) hfl (lv0 := [some (vR A 7 0), some (vI day), some (vI item), some (vI qty)]) (ent_1 (cat_R _ _ _) (ent_1 rfl (ent_1 rfl (ent_1 rfl ent_0)))) rfl ?_
  intro J X C F FX FT FU hW hA
  refine r_aload_n C dX8_issue_0 lg_0 ?_
  refine r_iconst C dX8_issue_1 ?_
  refine r_iload_n C dX8_issue_2 lg_1 ?_
  refine r_iload_n C dX8_issue_3 lg_2 ?_
  refine r_iload_n C dX8_issue_4 lg_3 ?_
  refine r_iconst C dX8_issue_5 ?_
  refine q_V5I C (cM_post hfl M0 (by omega) (by omega) (by omega) (by omega) (by omega) hm0 hm1 hqt) dX8_issue_6 lk_X8_119 M0.1 ⟨Nat.le_of_ble_eq_true rfl, Nat.le_of_ble_eq_true rfl⟩ (catLe (Nat.le_of_ble_eq_true rfl)) ⟨rfl, rfl⟩ rfl (Nat.le_of_ble_eq_true rfl) (Nat.le_of_ble_eq_true rfl) (fun z6 S6 A6 i6 p6 => ?_)
  obtain ⟨rfl, h9⟩ := p6
  exact f_I F dX8_issue_9 i6 ⟨rfl, h9⟩ (Nat.le_of_ble_eq_true rfl) (Nat.le_of_ble_eq_true rfl)
set_option maxRecDepth 20000 in
theorem cM_revalue {G : GT} {l : Launch} (hfl : l.stackTraces = false) {S : ST} {A : AB} {day item qty cost : Int} (M0 : RM S A) (hd : rI day) (hi : rI item) (hq : rI qty) (hc : rI cost) (hm0 : 0 ≤ S 232 0) (hm1 : S 232 0 ≤ 60) (hqt : ∀ m, 0 ≤ m → m < S 232 0 → 0 ≤ S 416 m ∧ S 416 m ≤ 1000) : CT G l yX8_revalue cX8_revalue 5 (some .int) (rmk 4 0 0 98) S A [vR A 7 0, vI day, vI item, vI qty, vI cost] (oI fun z S' A' => A = A' ∧ PST S 2 day item qty cost z S') (noX) := by
  refine ct_ofN (own := RX8) (mn := "revalue") rfl rfl (by decide) hfl (lv0 := [some (vR A 7 0), some (vI day), some (vI item), some (vI qty), some (vI cost)]) (ent_1 (cat_R _ _ _) (ent_1 rfl (ent_1 rfl (ent_1 rfl (ent_1 rfl ent_0))))) rfl ?_
  intro J X C F FX FT FU hW hA
  refine r_aload_n C dX8_revalue_0 lg_0 ?_
  refine r_iconst C dX8_revalue_1 ?_
  refine r_iload_n C dX8_revalue_2 lg_1 ?_
  refine r_iload_n C dX8_revalue_3 lg_2 ?_
  refine r_iload_n C dX8_revalue_4 lg_3 ?_
  refine r_iload C dX8_revalue_5 lg_4 ?_
  refine q_V5I C (cM_post hfl M0 (by omega) (by omega) (by omega) (by omega) (by omega) hm0 hm1 hqt) dX8_revalue_7 lk_X8_119 M0.1 ⟨Nat.le_of_ble_eq_true rfl, Nat.le_of_ble_eq_true rfl⟩ (catLe (Nat.le_of_ble_eq_true rfl)) ⟨rfl, rfl⟩ rfl (Nat.le_of_ble_eq_true rfl) (Nat.le_of_ble_eq_true rfl) (fun z7 S7 A7 i7 p7 => ?_)
  obtain ⟨rfl, h9⟩ := p7
  exact f_I F dX8_revalue_10 i7 ⟨rfl, h9⟩ (Nat.le_of_ble_eq_true rfl) (Nat.le_of_ble_eq_true rfl)
def gmx (f : Int → Int) : Nat → Int
  | 0 => 0
  | k + 1 => if f (gmx f k) < f (k + 1 : Nat) then ((k + 1 : Nat) : Int) else gmx f k
theorem gmx_b (f : Int → Int) : ∀ k : Nat, 0 ≤ gmx f k ∧ gmx f k ≤ k
  | 0 => ⟨Int.le_refl _, Int.le_refl _⟩
  | k + 1 => by
    have := gmx_b f k
    show 0 ≤ (if f (gmx f k) < f (k + 1 : Nat) then ((k + 1 : Nat) : Int) else gmx f k) ∧ (if f (gmx f k) < f (k + 1 : Nat) then ((k + 1 : Nat) : Int) else gmx f k) ≤ _
    split <;> omega
set_option maxRecDepth 20000 in
theorem cM_next {G : GT} {l : Launch} (hfl : l.stackTraces = false) {S : ST} {A : AB} (M : RM S A) (hm0 : 0 ≤ S 232 0) (hm1 : S 232 0 ≤ 60) : CT G l yX8_next cX8_next 3 (some .int) (rmk 0 0 0 0) S A [vR A 7 0] (oI fun z S' A' => gmx (S 1088) (S 232 0 - 1).toNat = z ∧ upS S 1088 (gmx (S 1088) (S 232 0 - 1).toNat) (-1) = S' ∧ A = A') (noX) := by
  refine ct_ofN (own := RX8) (mn := "next") rfl rfl (by decide) hfl (lv0 := [some (vR A 7 0), none, none]) (ent_1 (cat_R _ _ _) (ent_n (ent_n ent_0))) rfl ?_
  intro J X C F FX FT FU hW hA
  have lp : ∀ (N : Nat) (i f : Int) (h1 : 1 ≤ i) (h2 : i ≤ S 232 0 ∨ i = 1) (h4 : f = gmx (S 1088) (i - 1).toNat) (h5 : 0 ≤ f ∧ f < 60) (hN : S 232 0 - i + 1 < N), J 4 [some (vR A 7 0), some (vI f), some (vI i)] [] S A 0 0 := by
    intro N
    induction N with
    | zero => intro i f h1 h2 h4 h5 hN; omega
    | succ N ih =>
      intro i f h1 h2 h4 h5 hN
      refine r_iload_n C dX8_next_4 lg_2 ?_
      refine r_aload_n C dX8_next_5 lg_0 ?_
      refine r_getI C 232 dX8_next_6 fg_X8_77_7 rfl rfl M.1 (fun g6 => ?_)
      refine r_icge C (tgt := 40) dX8_next_9 (by decide) (by omega) (by omega) (fun c9 => ?_) (fun c9 => ?_)
      · have e9 : gmx (S 1088) (S 232 0 - 1).toNat = f := by rw [h4, show (i - 1).toNat = (S 232 0 - 1).toNat by omega]
        refine r_aload_n C dX8_next_40 lg_0 ?_
        refine r_getA C 248 34 dX8_next_41 fg_X8_67_7 rfl rfl M.1 (fun g41 => ?_)
        refine r_iload_n C dX8_next_44 lg_1 ?_
        refine r_ldc2 C dX8_next_45 cs_X8_131 (-1) (by decide) ?_
        refine r_last C (N := 60) 1088 dX8_next_48 (by decide) rfl rfl (M.g (j := 24) (by decide)) (by omega) (by omega) (by omega) (by omega) ?_
        refine r_iload_n C dX8_next_49 lg_1 ?_
        exact f_I F dX8_next_50 (by omega) ⟨e9, by rw [e9], rfl⟩ (Nat.le_of_ble_eq_true rfl) (Nat.le_of_ble_eq_true rfl)
      · refine r_aload_n C dX8_next_12 lg_0 ?_
        refine r_getA C 248 34 dX8_next_13 fg_X8_67_7 rfl rfl M.1 (fun g13 => ?_)
        refine r_iload_n C dX8_next_16 lg_2 ?_
        refine r_lald C (N := 60) 1088 dX8_next_17 (by decide) rfl rfl (M.g (j := 24) (by decide)) (by omega) (by omega) (by omega) (fun g17 => ?_)
        refine r_aload_n C dX8_next_18 lg_0 ?_
        refine r_getA C 248 34 dX8_next_19 fg_X8_67_7 rfl rfl M.1 (fun g19 => ?_)
        refine r_iload_n C dX8_next_22 lg_1 ?_
        refine r_lald C (N := 60) 1088 dX8_next_23 (by decide) rfl rfl (M.g (j := 24) (by decide)) (by omega) (by omega) (by omega) (fun g23 => ?_)
        refine r_lcle C (tgt := 32) dX8_next_24 dX8_next_25 (by decide) (by omega) (by omega) (fun c24 => ?_) (fun c24 => ?_)
        · refine r_iload_n C dX8_next_32 lg_1 ?_
          refine r_istore_n C dX8_next_33 (ls1_1 rfl (cat_R _ _ _)) ?_
          refine r_iinc C dX8_next_34 lg_2 (ls1_2 rfl rfl) ?_
          refine r_goto C (tgt := 4) dX8_next_37 (by decide) ?_
          exact ih (i + 1) _ (by omega) (by omega) (by rw [show (i + 1 - 1).toNat = (i - 1).toNat + 1 by omega]; show _ = (if S 1088 (gmx (S 1088) (i - 1).toNat) < S 1088 (((i - 1).toNat + 1 : Nat) : Int) then (((i - 1).toNat + 1 : Nat) : Int) else gmx (S 1088) (i - 1).toNat); rw [← h4, show (((i - 1).toNat + 1 : Nat) : Int) = i by omega]; first | (rw [if_pos (by omega)]; done) | (rw [if_neg (by omega)]; done)) (by omega) (by omega)
        · refine r_iload_n C dX8_next_28 lg_2 ?_
          refine r_goto C (tgt := 33) dX8_next_29 (by decide) ?_
          refine r_istore_n C dX8_next_33 (ls1_1 rfl (cat_R _ _ _)) ?_
          refine r_iinc C dX8_next_34 lg_2 (ls1_2 rfl rfl) ?_
          refine r_goto C (tgt := 4) dX8_next_37 (by decide) ?_
          exact ih (i + 1) _ (by omega) (by omega) (by rw [show (i + 1 - 1).toNat = (i - 1).toNat + 1 by omega]; show _ = (if S 1088 (gmx (S 1088) (i - 1).toNat) < S 1088 (((i - 1).toNat + 1 : Nat) : Int) then (((i - 1).toNat + 1 : Nat) : Int) else gmx (S 1088) (i - 1).toNat); rw [← h4, show (((i - 1).toNat + 1 : Nat) : Int) = i by omega]; first | (rw [if_pos (by omega)]; done) | (rw [if_neg (by omega)]; done)) (by omega) (by omega)
  refine r_iconst C dX8_next_0 ?_
  refine r_istore_n C dX8_next_1 (ls1_1 rfl (cat_R _ _ _)) ?_
  refine r_iconst C dX8_next_2 ?_
  refine r_istore_n C dX8_next_3 (ls1_2 rfl rfl) ?_
  exact lp (S 232 0 + 1).toNat 1 0 (by omega) (by omega) rfl (by omega) (by omega)
noncomputable def clW (S : ST) (d : Int) : Int := cI (0 ≤ d ∧ d ≤ 364) (cI (d ≤ S 233 0) 2 0) 1
set_option maxRecDepth 20000 in
theorem cM_close {G : GT} {l : Launch} (hfl : l.stackTraces = false) {S : ST} {A : AB} {d : Int} (M : RM S A) (hd : rI d) (hcl : rI (S 233 0)) : CT G l yX8_close cX8_close 3 (some .int) (rmk 2 0 0 42) S A [vR A 7 0, vI d] (oI fun z S' A' => A = A' ∧ ((¬ clW S d = 0 ∧ z = 0 ∧ S' = upS S 249 0 (clW S d)) ∨ (clW S d = 0 ∧ z = S 233 0 ∧ S' = upS (upS S 249 0 0) 233 0 d))) (noX) := by
  refine ct_ofN (own := RX8) (mn := "close") rfl rfl (by decide) hfl (lv0 := [some (vR A 7 0), some (vI d), none]) (ent_1 (cat_R _ _ _) (ent_1 rfl (ent_n ent_0))) rfl ?_
  intro J X C F FX FT FU hW hA
  refine r_aload_n C dX8_close_0 lg_0 ?_
  refine r_iload_n C dX8_close_1 lg_1 ?_
  refine q_S1Z C (cM_isDay hfl (by omega)) dX8_close_2 lk_X8_98 ⟨Nat.le_of_ble_eq_true rfl, Nat.le_of_ble_eq_true rfl⟩ (catLe (Nat.le_of_ble_eq_true rfl)) ⟨rfl, rfl⟩ rfl (Nat.le_of_ble_eq_true rfl) (Nat.le_of_ble_eq_true rfl) (fun z2 S2 A2 i2 p2 => ?_)
  obtain ⟨rfl, rfl, rfl⟩ := p2
  refine rb_ifne C (tgt := 12) dX8_close_5 (by decide) (fun c5 => ?_) (fun c5 => ?_)
  · refine r_iload_n C dX8_close_12 lg_1 ?_
    refine r_aload_n C dX8_close_13 lg_0 ?_
    refine r_getI C 233 dX8_close_14 fg_X8_36_7 rfl rfl M.1 (fun g14 => ?_)
    refine r_icgt C (tgt := 24) dX8_close_17 (by decide) (by omega) (by omega) (fun c17 => ?_) (fun c17 => ?_)
    · refine r_iconst C dX8_close_24 ?_
      refine q_V1Z C (cM_goes hfl (by assumption) (by omega)) dX8_close_25 lk_X8_112 M.1 ⟨Nat.le_of_ble_eq_true rfl, Nat.le_of_ble_eq_true rfl⟩ (catLe (Nat.le_of_ble_eq_true rfl)) ⟨rfl, rfl⟩ rfl (Nat.le_of_ble_eq_true rfl) (Nat.le_of_ble_eq_true rfl) (fun z25 S25 A25 i25 p25 => ?_)
      obtain ⟨rfl, rfl, rfl⟩ := p25
      refine r_gS (fun S9 hS9 => ?_)
      have M : RM S9 A := by rw [hS9]; exact M.up (by decide)
      subst hS9
      refine rb_ifne C (tgt := 33) dX8_close_28 (by decide) (fun c28 => ?_) (fun c28 => ?_)
      · refine r_aload_n C dX8_close_33 lg_0 ?_
        refine r_getI C 233 dX8_close_34 fg_X8_36_7 rfl rfl M.1 (fun g34 => ?_)
        refine r_istore_n C dX8_close_37 (ls1_2 rfl rfl) ?_
        refine r_aload_n C dX8_close_38 lg_0 ?_
        refine r_iload_n C dX8_close_39 lg_1 ?_
        refine r_putI C 233 dX8_close_40 fg_X8_36_7 rfl rfl M.1 (fun q h => by cases h; exact Or.inl rfl) (by omega) ?_
        refine r_iload_n C dX8_close_43 lg_2 ?_
        exact f_I F dX8_close_44 (by rw [upS_c _ _ (by decide)]; omega) (by
          first
          | (exfalso; omega)
          | (have e9 : clW S d = 0 := by
               unfold clW cI
               repeat' split
               all_goals (first | omega | contradiction)
             exact ⟨rfl, Or.inr ⟨e9, by rw [upS_c _ _ (by decide)], rfl⟩⟩)
          | (have e9 : clW S d = 1 := by
               unfold clW cI
               repeat' split
               all_goals (first | omega | contradiction)
             exact ⟨rfl, Or.inl ⟨by omega, rfl, by rw [e9]⟩⟩)
          | (have e9 : clW S d = 2 := by
               unfold clW cI
               repeat' split
               all_goals (first | omega | contradiction)
             exact ⟨rfl, Or.inl ⟨by omega, rfl, by rw [e9]⟩⟩)) (Nat.le_of_ble_eq_true rfl) (Nat.le_of_ble_eq_true rfl)
      · refine r_iconst C dX8_close_31 ?_
        exact f_I F dX8_close_32 (by omega) (by
          first
          | (exfalso; omega)
          | (have e9 : clW S d = 0 := by
               unfold clW cI
               repeat' split
               all_goals (first | omega | contradiction)
             exact ⟨rfl, Or.inr ⟨e9, by rw [upS_c _ _ (by decide)], rfl⟩⟩)
          | (have e9 : clW S d = 1 := by
               unfold clW cI
               repeat' split
               all_goals (first | omega | contradiction)
             exact ⟨rfl, Or.inl ⟨by omega, rfl, by rw [e9]⟩⟩)
          | (have e9 : clW S d = 2 := by
               unfold clW cI
               repeat' split
               all_goals (first | omega | contradiction)
             exact ⟨rfl, Or.inl ⟨by omega, rfl, by rw [e9]⟩⟩)) (Nat.le_of_ble_eq_true rfl) (Nat.le_of_ble_eq_true rfl)
    · refine r_iconst C dX8_close_20 ?_
      refine r_goto C (tgt := 25) dX8_close_21 (by decide) ?_
      refine q_V1Z C (cM_goes hfl (by assumption) (by omega)) dX8_close_25 lk_X8_112 M.1 ⟨Nat.le_of_ble_eq_true rfl, Nat.le_of_ble_eq_true rfl⟩ (catLe (Nat.le_of_ble_eq_true rfl)) ⟨rfl, rfl⟩ rfl (Nat.le_of_ble_eq_true rfl) (Nat.le_of_ble_eq_true rfl) (fun z25 S25 A25 i25 p25 => ?_)
      obtain ⟨rfl, rfl, rfl⟩ := p25
      refine r_gS (fun S9 hS9 => ?_)
      have M : RM S9 A := by rw [hS9]; exact M.up (by decide)
      subst hS9
      refine rb_ifne C (tgt := 33) dX8_close_28 (by decide) (fun c28 => ?_) (fun c28 => ?_)
      · refine r_aload_n C dX8_close_33 lg_0 ?_
        refine r_getI C 233 dX8_close_34 fg_X8_36_7 rfl rfl M.1 (fun g34 => ?_)
        refine r_istore_n C dX8_close_37 (ls1_2 rfl rfl) ?_
        refine r_aload_n C dX8_close_38 lg_0 ?_
        refine r_iload_n C dX8_close_39 lg_1 ?_
        refine r_putI C 233 dX8_close_40 fg_X8_36_7 rfl rfl M.1 (fun q h => by cases h; exact Or.inl rfl) (by omega) ?_
        refine r_iload_n C dX8_close_43 lg_2 ?_
        exact f_I F dX8_close_44 (by rw [upS_c _ _ (by decide)]; omega) (by
          first
          | (exfalso; omega)
          | (have e9 : clW S d = 0 := by
               unfold clW cI
               repeat' split
               all_goals (first | omega | contradiction)
             exact ⟨rfl, Or.inr ⟨e9, by rw [upS_c _ _ (by decide)], rfl⟩⟩)
          | (have e9 : clW S d = 1 := by
               unfold clW cI
               repeat' split
               all_goals (first | omega | contradiction)
             exact ⟨rfl, Or.inl ⟨by omega, rfl, by rw [e9]⟩⟩)
          | (have e9 : clW S d = 2 := by
               unfold clW cI
               repeat' split
               all_goals (first | omega | contradiction)
             exact ⟨rfl, Or.inl ⟨by omega, rfl, by rw [e9]⟩⟩)) (Nat.le_of_ble_eq_true rfl) (Nat.le_of_ble_eq_true rfl)
      · refine r_iconst C dX8_close_31 ?_
        exact f_I F dX8_close_32 (by omega) (by
          first
          | (exfalso; omega)
          | (have e9 : clW S d = 0 := by
               unfold clW cI
               repeat' split
               all_goals (first | omega | contradiction)
             exact ⟨rfl, Or.inr ⟨e9, by rw [upS_c _ _ (by decide)], rfl⟩⟩)
          | (have e9 : clW S d = 1 := by
               unfold clW cI
               repeat' split
               all_goals (first | omega | contradiction)
             exact ⟨rfl, Or.inl ⟨by omega, rfl, by rw [e9]⟩⟩)
          | (have e9 : clW S d = 2 := by
               unfold clW cI
               repeat' split
               all_goals (first | omega | contradiction)
             exact ⟨rfl, Or.inl ⟨by omega, rfl, by rw [e9]⟩⟩)) (Nat.le_of_ble_eq_true rfl) (Nat.le_of_ble_eq_true rfl)
  · refine r_iconst C dX8_close_8 ?_
    refine r_goto C (tgt := 25) dX8_close_9 (by decide) ?_
    refine q_V1Z C (cM_goes hfl (by assumption) (by omega)) dX8_close_25 lk_X8_112 M.1 ⟨Nat.le_of_ble_eq_true rfl, Nat.le_of_ble_eq_true rfl⟩ (catLe (Nat.le_of_ble_eq_true rfl)) ⟨rfl, rfl⟩ rfl (Nat.le_of_ble_eq_true rfl) (Nat.le_of_ble_eq_true rfl) (fun z25 S25 A25 i25 p25 => ?_)
    obtain ⟨rfl, rfl, rfl⟩ := p25
    refine r_gS (fun S9 hS9 => ?_)
    have M : RM S9 A := by rw [hS9]; exact M.up (by decide)
    subst hS9
    refine rb_ifne C (tgt := 33) dX8_close_28 (by decide) (fun c28 => ?_) (fun c28 => ?_)
    · refine r_aload_n C dX8_close_33 lg_0 ?_
      refine r_getI C 233 dX8_close_34 fg_X8_36_7 rfl rfl M.1 (fun g34 => ?_)
      refine r_istore_n C dX8_close_37 (ls1_2 rfl rfl) ?_
      refine r_aload_n C dX8_close_38 lg_0 ?_
      refine r_iload_n C dX8_close_39 lg_1 ?_
      refine r_putI C 233 dX8_close_40 fg_X8_36_7 rfl rfl M.1 (fun q h => by cases h; exact Or.inl rfl) (by omega) ?_
      refine r_iload_n C dX8_close_43 lg_2 ?_
      exact f_I F dX8_close_44 (by rw [upS_c _ _ (by decide)]; omega) (by
        first
        | (exfalso; omega)
        | (have e9 : clW S d = 0 := by
             unfold clW cI
             repeat' split
             all_goals (first | omega | contradiction)
           exact ⟨rfl, Or.inr ⟨e9, by rw [upS_c _ _ (by decide)], rfl⟩⟩)
        | (have e9 : clW S d = 1 := by
             unfold clW cI
             repeat' split
             all_goals (first | omega | contradiction)
           exact ⟨rfl, Or.inl ⟨by omega, rfl, by rw [e9]⟩⟩)
        | (have e9 : clW S d = 2 := by
             unfold clW cI
             repeat' split
             all_goals (first | omega | contradiction)
           exact ⟨rfl, Or.inl ⟨by omega, rfl, by rw [e9]⟩⟩)) (Nat.le_of_ble_eq_true rfl) (Nat.le_of_ble_eq_true rfl)
    · refine r_iconst C dX8_close_31 ?_
      exact f_I F dX8_close_32 (by omega) (by
        first
        | (exfalso; omega)
        | (have e9 : clW S d = 0 := by
             unfold clW cI
             repeat' split
             all_goals (first | omega | contradiction)
           exact ⟨rfl, Or.inr ⟨e9, by rw [upS_c _ _ (by decide)], rfl⟩⟩)
        | (have e9 : clW S d = 1 := by
             unfold clW cI
             repeat' split
             all_goals (first | omega | contradiction)
           exact ⟨rfl, Or.inl ⟨by omega, rfl, by rw [e9]⟩⟩)
        | (have e9 : clW S d = 2 := by
             unfold clW cI
             repeat' split
             all_goals (first | omega | contradiction)
           exact ⟨rfl, Or.inl ⟨by omega, rfl, by rw [e9]⟩⟩)) (Nat.le_of_ble_eq_true rfl) (Nat.le_of_ble_eq_true rfl)
noncomputable def swW (i v : Int) : Int := cI ((0 ≤ i ∧ i ≤ 5) ∧ (1 ≤ v ∧ v ≤ 100)) 0 1
set_option maxRecDepth 20000 in
theorem cM_setWeight {G : GT} {l : Launch} (hfl : l.stackTraces = false) {S : ST} {A : AB} {i v : Int} (M : RM S A) (hi : rI i) (hv : rI v) : CT G l yX8_setWeight cX8_setWeight 4 (some .int) (rmk 2 0 0 42) S A [vR A 7 0, vI i, vI v] (oI fun z S' A' => A = A' ∧ ((¬ swW i v = 0 ∧ z = 0 ∧ S' = upS S 249 0 (swW i v)) ∨ (swW i v = 0 ∧ z = S 640 i ∧ S' = upS (upS S 249 0 0) 640 i v))) (noX) := by
  refine ct_ofN (own := RX8) (mn := "setWeight") rfl rfl (by decide) hfl (lv0 := [some (vR A 7 0), some (vI i), some (vI v), none]) (ent_1 (cat_R _ _ _) (ent_1 rfl (ent_1 rfl (ent_n ent_0)))) rfl ?_
  intro J X C F FX FT FU hW hA
  refine r_aload_n C dX8_setWeight_0 lg_0 ?_
  refine r_iload_n C dX8_setWeight_1 lg_1 ?_
  refine q_S1Z C (cM_isItem hfl (by omega)) dX8_setWeight_2 lk_X8_101 ⟨Nat.le_of_ble_eq_true rfl, Nat.le_of_ble_eq_true rfl⟩ (catLe (Nat.le_of_ble_eq_true rfl)) ⟨rfl, rfl⟩ rfl (Nat.le_of_ble_eq_true rfl) (Nat.le_of_ble_eq_true rfl) (fun z2 S2 A2 i2 p2 => ?_)
  obtain ⟨rfl, rfl, rfl⟩ := p2
  refine rb_ifeq C (tgt := 22) dX8_setWeight_5 (by decide) (fun c5 => ?_) (fun c5 => ?_)
  · refine r_iconst C dX8_setWeight_22 ?_
    refine q_V1Z C (cM_goes hfl (by assumption) (by omega)) dX8_setWeight_23 lk_X8_112 M.1 ⟨Nat.le_of_ble_eq_true rfl, Nat.le_of_ble_eq_true rfl⟩ (catLe (Nat.le_of_ble_eq_true rfl)) ⟨rfl, rfl⟩ rfl (Nat.le_of_ble_eq_true rfl) (Nat.le_of_ble_eq_true rfl) (fun z23 S23 A23 i23 p23 => ?_)
    obtain ⟨rfl, rfl, rfl⟩ := p23
    refine r_gS (fun S9 hS9 => ?_)
    have M : RM S9 A := by rw [hS9]; exact M.up (by decide)
    subst hS9
    refine rb_ifne C (tgt := 31) dX8_setWeight_26 (by decide) (fun c26 => ?_) (fun c26 => ?_)
    · refine r_aload_n C dX8_setWeight_31 lg_0 ?_
      refine r_getA C 234 20 dX8_setWeight_32 fg_X8_40_7 rfl rfl M.1 (fun g32 => ?_)
      refine r_iload_n C dX8_setWeight_35 lg_1 ?_
      refine r_iald C (N := 6) 640 dX8_setWeight_36 (by decide) rfl rfl (M.g (j := 10) (by decide)) (by omega) (by omega) (by omega) (fun g36 => ?_)
      refine r_istore_n C dX8_setWeight_37 (ls1_3 rfl rfl) ?_
      refine r_aload_n C dX8_setWeight_38 lg_0 ?_
      refine r_getA C 234 20 dX8_setWeight_39 fg_X8_40_7 rfl rfl M.1 (fun g39 => ?_)
      refine r_iload_n C dX8_setWeight_42 lg_1 ?_
      refine r_iload_n C dX8_setWeight_43 lg_2 ?_
      refine r_iast C (N := 6) 640 dX8_setWeight_44 (by decide) rfl rfl (M.g (j := 10) (by decide)) (by omega) (by omega) (by omega) (by omega) ?_
      refine r_iload_n C dX8_setWeight_45 lg_3 ?_
      exact f_I F dX8_setWeight_46 (by first | omega | exact g36) (by
        first
        | (exfalso; omega)
        | (have e9 : swW i v = 0 := by
             unfold swW cI
             repeat' split
             all_goals (first | omega | contradiction)
           exact ⟨rfl, Or.inr ⟨e9, by rw [upS_c _ _ (by decide)], rfl⟩⟩)
        | (have e9 : swW i v = 1 := by
             unfold swW cI
             repeat' split
             all_goals (first | omega | contradiction)
           exact ⟨rfl, Or.inl ⟨by omega, rfl, by rw [e9]⟩⟩)) (Nat.le_of_ble_eq_true rfl) (Nat.le_of_ble_eq_true rfl)
    · refine r_iconst C dX8_setWeight_29 ?_
      exact f_I F dX8_setWeight_30 (by omega) (by
        first
        | (exfalso; omega)
        | (have e9 : swW i v = 0 := by
             unfold swW cI
             repeat' split
             all_goals (first | omega | contradiction)
           exact ⟨rfl, Or.inr ⟨e9, by rw [upS_c _ _ (by decide)], rfl⟩⟩)
        | (have e9 : swW i v = 1 := by
             unfold swW cI
             repeat' split
             all_goals (first | omega | contradiction)
           exact ⟨rfl, Or.inl ⟨by omega, rfl, by rw [e9]⟩⟩)) (Nat.le_of_ble_eq_true rfl) (Nat.le_of_ble_eq_true rfl)
  · refine r_iload_n C dX8_setWeight_8 lg_2 ?_
    refine r_iconst C dX8_setWeight_9 ?_
    refine r_bipush C dX8_setWeight_10 (by decide) ?_
    refine q_S3Z C (cM_isIn hfl (by omega) (by omega) (by omega)) dX8_setWeight_12 lk_X8_73 ⟨Nat.le_of_ble_eq_true rfl, Nat.le_of_ble_eq_true rfl⟩ (catLe (Nat.le_of_ble_eq_true rfl)) ⟨rfl, rfl⟩ rfl (Nat.le_of_ble_eq_true rfl) (Nat.le_of_ble_eq_true rfl) (fun z12 S12 A12 i12 p12 => ?_)
    obtain ⟨rfl, rfl, rfl⟩ := p12
    refine rb_ifeq C (tgt := 22) dX8_setWeight_15 (by decide) (fun c15 => ?_) (fun c15 => ?_)
    · refine r_iconst C dX8_setWeight_22 ?_
      refine q_V1Z C (cM_goes hfl (by assumption) (by omega)) dX8_setWeight_23 lk_X8_112 M.1 ⟨Nat.le_of_ble_eq_true rfl, Nat.le_of_ble_eq_true rfl⟩ (catLe (Nat.le_of_ble_eq_true rfl)) ⟨rfl, rfl⟩ rfl (Nat.le_of_ble_eq_true rfl) (Nat.le_of_ble_eq_true rfl) (fun z23 S23 A23 i23 p23 => ?_)
      obtain ⟨rfl, rfl, rfl⟩ := p23
      refine r_gS (fun S9 hS9 => ?_)
      have M : RM S9 A := by rw [hS9]; exact M.up (by decide)
      subst hS9
      refine rb_ifne C (tgt := 31) dX8_setWeight_26 (by decide) (fun c26 => ?_) (fun c26 => ?_)
      · refine r_aload_n C dX8_setWeight_31 lg_0 ?_
        refine r_getA C 234 20 dX8_setWeight_32 fg_X8_40_7 rfl rfl M.1 (fun g32 => ?_)
        refine r_iload_n C dX8_setWeight_35 lg_1 ?_
        refine r_iald C (N := 6) 640 dX8_setWeight_36 (by decide) rfl rfl (M.g (j := 10) (by decide)) (by omega) (by omega) (by omega) (fun g36 => ?_)
        refine r_istore_n C dX8_setWeight_37 (ls1_3 rfl rfl) ?_
        refine r_aload_n C dX8_setWeight_38 lg_0 ?_
        refine r_getA C 234 20 dX8_setWeight_39 fg_X8_40_7 rfl rfl M.1 (fun g39 => ?_)
        refine r_iload_n C dX8_setWeight_42 lg_1 ?_
        refine r_iload_n C dX8_setWeight_43 lg_2 ?_
        refine r_iast C (N := 6) 640 dX8_setWeight_44 (by decide) rfl rfl (M.g (j := 10) (by decide)) (by omega) (by omega) (by omega) (by omega) ?_
        refine r_iload_n C dX8_setWeight_45 lg_3 ?_
        exact f_I F dX8_setWeight_46 (by first | omega | exact g36) (by
          first
          | (exfalso; omega)
          | (have e9 : swW i v = 0 := by
               unfold swW cI
               repeat' split
               all_goals (first | omega | contradiction)
             exact ⟨rfl, Or.inr ⟨e9, by rw [upS_c _ _ (by decide)], rfl⟩⟩)
          | (have e9 : swW i v = 1 := by
               unfold swW cI
               repeat' split
               all_goals (first | omega | contradiction)
             exact ⟨rfl, Or.inl ⟨by omega, rfl, by rw [e9]⟩⟩)) (Nat.le_of_ble_eq_true rfl) (Nat.le_of_ble_eq_true rfl)
      · refine r_iconst C dX8_setWeight_29 ?_
        exact f_I F dX8_setWeight_30 (by omega) (by
          first
          | (exfalso; omega)
          | (have e9 : swW i v = 0 := by
               unfold swW cI
               repeat' split
               all_goals (first | omega | contradiction)
             exact ⟨rfl, Or.inr ⟨e9, by rw [upS_c _ _ (by decide)], rfl⟩⟩)
          | (have e9 : swW i v = 1 := by
               unfold swW cI
               repeat' split
               all_goals (first | omega | contradiction)
             exact ⟨rfl, Or.inl ⟨by omega, rfl, by rw [e9]⟩⟩)) (Nat.le_of_ble_eq_true rfl) (Nat.le_of_ble_eq_true rfl)
    · refine r_iconst C dX8_setWeight_18 ?_
      refine r_goto C (tgt := 23) dX8_setWeight_19 (by decide) ?_
      refine q_V1Z C (cM_goes hfl (by assumption) (by omega)) dX8_setWeight_23 lk_X8_112 M.1 ⟨Nat.le_of_ble_eq_true rfl, Nat.le_of_ble_eq_true rfl⟩ (catLe (Nat.le_of_ble_eq_true rfl)) ⟨rfl, rfl⟩ rfl (Nat.le_of_ble_eq_true rfl) (Nat.le_of_ble_eq_true rfl) (fun z23 S23 A23 i23 p23 => ?_)
      obtain ⟨rfl, rfl, rfl⟩ := p23
      refine r_gS (fun S9 hS9 => ?_)
      have M : RM S9 A := by rw [hS9]; exact M.up (by decide)
      subst hS9
      refine rb_ifne C (tgt := 31) dX8_setWeight_26 (by decide) (fun c26 => ?_) (fun c26 => ?_)
      · refine r_aload_n C dX8_setWeight_31 lg_0 ?_
        refine r_getA C 234 20 dX8_setWeight_32 fg_X8_40_7 rfl rfl M.1 (fun g32 => ?_)
        refine r_iload_n C dX8_setWeight_35 lg_1 ?_
        refine r_iald C (N := 6) 640 dX8_setWeight_36 (by decide) rfl rfl (M.g (j := 10) (by decide)) (by omega) (by omega) (by omega) (fun g36 => ?_)
        refine r_istore_n C dX8_setWeight_37 (ls1_3 rfl rfl) ?_
        refine r_aload_n C dX8_setWeight_38 lg_0 ?_
        refine r_getA C 234 20 dX8_setWeight_39 fg_X8_40_7 rfl rfl M.1 (fun g39 => ?_)
        refine r_iload_n C dX8_setWeight_42 lg_1 ?_
        refine r_iload_n C dX8_setWeight_43 lg_2 ?_
        refine r_iast C (N := 6) 640 dX8_setWeight_44 (by decide) rfl rfl (M.g (j := 10) (by decide)) (by omega) (by omega) (by omega) (by omega) ?_
        refine r_iload_n C dX8_setWeight_45 lg_3 ?_
        exact f_I F dX8_setWeight_46 (by first | omega | exact g36) (by
          first
          | (exfalso; omega)
          | (have e9 : swW i v = 0 := by
               unfold swW cI
               repeat' split
               all_goals (first | omega | contradiction)
             exact ⟨rfl, Or.inr ⟨e9, by rw [upS_c _ _ (by decide)], rfl⟩⟩)
          | (have e9 : swW i v = 1 := by
               unfold swW cI
               repeat' split
               all_goals (first | omega | contradiction)
             exact ⟨rfl, Or.inl ⟨by omega, rfl, by rw [e9]⟩⟩)) (Nat.le_of_ble_eq_true rfl) (Nat.le_of_ble_eq_true rfl)
      · refine r_iconst C dX8_setWeight_29 ?_
        exact f_I F dX8_setWeight_30 (by omega) (by
          first
          | (exfalso; omega)
          | (have e9 : swW i v = 0 := by
               unfold swW cI
               repeat' split
               all_goals (first | omega | contradiction)
             exact ⟨rfl, Or.inr ⟨e9, by rw [upS_c _ _ (by decide)], rfl⟩⟩)
          | (have e9 : swW i v = 1 := by
               unfold swW cI
               repeat' split
               all_goals (first | omega | contradiction)
             exact ⟨rfl, Or.inl ⟨by omega, rfl, by rw [e9]⟩⟩)) (Nat.le_of_ble_eq_true rfl) (Nat.le_of_ble_eq_true rfl)
set_option maxRecDepth 20000 in
theorem cM_movements {G : GT} {l : Launch} (hfl : l.stackTraces = false) {S : ST} {A : AB} (M : RM S A) : CT G l yX8_movements cX8_movements 1 (some .int) (rmk 0 0 0 0) S A [vR A 7 0] (oI fun z S' A' => S 232 0 = z ∧ upS S 249 0 0 = S' ∧ A = A') (noX) := by
  refine ct_ofN (own := RX8) (mn := "movements") rfl rfl (by decide) hfl (lv0 := [some (vR A 7 0)]) (ent_1 (cat_R _ _ _) ent_0) rfl ?_
  intro J X C F FX FT FU hW hA
  refine r_aload_n C dX8_movements_0 lg_0 ?_
  refine r_iconst C dX8_movements_1 ?_
  refine r_putI C 249 dX8_movements_2 fg_X8_70_7 rfl rfl M.1 (fun q h => by cases h; exact Or.inl rfl) (by omega) ?_
  refine r_aload_n C dX8_movements_5 lg_0 ?_
  refine r_getI C 232 dX8_movements_6 fg_X8_77_7 rfl rfl (M.up (c := 249) (z := 0) (v := 0) (by decide)).1 (fun g6 => ?_)
  exact f_I F dX8_movements_9 g6 ⟨by rw [upS_c _ _ (by decide)], rfl, rfl⟩ (Nat.le_of_ble_eq_true rfl) (Nat.le_of_ble_eq_true rfl)
noncomputable def mvW (S : ST) (m : Int) : Int := cI (0 ≤ m ∧ m < S 232 0) 0 1
set_option maxRecDepth 20000 in
theorem cM_kindOf {G : GT} {l : Launch} (hfl : l.stackTraces = false) {S : ST} {A : AB} {m : Int} (M : RM S A) (hm : rI m) (hm0 : 0 ≤ S 232 0) (hm1 : S 232 0 ≤ 60) : CT G l yX8_kindOf cX8_kindOf 2 (some .int) (rmk 2 0 0 43) S A [vR A 7 0, vI m] (oI fun z S' A' => cI (0 ≤ m ∧ m < S 232 0) (S 320 m) 0 = z ∧ upS S 249 0 (mvW S m) = S' ∧ A = A') (noX) := by
  refine ct_ofN (own := RX8) (mn := "kindOf") rfl rfl (by decide) hfl (lv0 := [some (vR A 7 0), some (vI m)]) (ent_1 (cat_R _ _ _) (ent_1 rfl ent_0)) rfl ?_
  intro J X C F FX FT FU hW hA
  refine r_aload_n C dX8_kindOf_0 lg_0 ?_
  refine r_aload_n C dX8_kindOf_1 lg_0 ?_
  refine r_iload_n C dX8_kindOf_2 lg_1 ?_
  refine q_V1Z C (cM_isMovement hfl (by assumption) (by omega) (by omega) (by omega)) dX8_kindOf_3 lk_X8_155 M.1 ⟨Nat.le_of_ble_eq_true rfl, Nat.le_of_ble_eq_true rfl⟩ (catLe (Nat.le_of_ble_eq_true rfl)) ⟨rfl, rfl⟩ rfl (Nat.le_of_ble_eq_true rfl) (Nat.le_of_ble_eq_true rfl) (fun z3 S3 A3 i3 p3 => ?_)
  obtain ⟨rfl, rfl, rfl⟩ := p3
  refine rb_ifeq C (tgt := 13) dX8_kindOf_6 (by decide) (fun c6 => ?_) (fun c6 => ?_)
  · refine r_iconst C dX8_kindOf_13 ?_
    refine q_V1Z C (cM_goes hfl (by assumption) (by omega)) dX8_kindOf_14 lk_X8_112 M.1 ⟨Nat.le_of_ble_eq_true rfl, Nat.le_of_ble_eq_true rfl⟩ (catLe (Nat.le_of_ble_eq_true rfl)) ⟨rfl, rfl⟩ rfl (Nat.le_of_ble_eq_true rfl) (Nat.le_of_ble_eq_true rfl) (fun z14 S14 A14 i14 p14 => ?_)
    obtain ⟨rfl, rfl, rfl⟩ := p14
    refine r_gS (fun S9 hS9 => ?_)
    have M : RM S9 A := by rw [hS9]; exact M.up (by decide)
    subst hS9
    refine rb_ifeq C (tgt := 29) dX8_kindOf_17 (by decide) (fun c17 => ?_) (fun c17 => ?_)
    · refine r_iconst C dX8_kindOf_29 ?_
      exact f_I F dX8_kindOf_30 (by first | omega | exact g25) (by
        first
        | (exfalso; omega)
        | (have e9 : mvW S m = 0 := by
             unfold mvW cI
             repeat' split
             all_goals (first | omega | contradiction)
           exact ⟨by rw [cI_t c6, upS_c _ _ (by decide)], by rw [e9], rfl⟩)
        | (have e9 : mvW S m = 1 := by
             unfold mvW cI
             repeat' split
             all_goals (first | omega | contradiction)
           exact ⟨cI_f c6, by rw [e9], rfl⟩)) (Nat.le_of_ble_eq_true rfl) (Nat.le_of_ble_eq_true rfl)
    · refine r_aload_n C dX8_kindOf_20 lg_0 ?_
      refine r_getA C 224 10 dX8_kindOf_21 fg_X8_7_7 rfl rfl M.1 (fun g21 => ?_)
      refine r_iload_n C dX8_kindOf_24 lg_1 ?_
      refine r_iald C (N := 60) 320 dX8_kindOf_25 (by decide) rfl rfl (M.g (j := 0) (by decide)) (by omega) (by omega) (by omega) (fun g25 => ?_)
      refine r_goto C (tgt := 30) dX8_kindOf_26 (by decide) ?_
      exact f_I F dX8_kindOf_30 (by first | omega | exact g25) (by
        first
        | (exfalso; omega)
        | (have e9 : mvW S m = 0 := by
             unfold mvW cI
             repeat' split
             all_goals (first | omega | contradiction)
           exact ⟨by rw [cI_t c6, upS_c _ _ (by decide)], by rw [e9], rfl⟩)
        | (have e9 : mvW S m = 1 := by
             unfold mvW cI
             repeat' split
             all_goals (first | omega | contradiction)
           exact ⟨cI_f c6, by rw [e9], rfl⟩)) (Nat.le_of_ble_eq_true rfl) (Nat.le_of_ble_eq_true rfl)
  · refine r_iconst C dX8_kindOf_9 ?_
    refine r_goto C (tgt := 14) dX8_kindOf_10 (by decide) ?_
    refine q_V1Z C (cM_goes hfl (by assumption) (by omega)) dX8_kindOf_14 lk_X8_112 M.1 ⟨Nat.le_of_ble_eq_true rfl, Nat.le_of_ble_eq_true rfl⟩ (catLe (Nat.le_of_ble_eq_true rfl)) ⟨rfl, rfl⟩ rfl (Nat.le_of_ble_eq_true rfl) (Nat.le_of_ble_eq_true rfl) (fun z14 S14 A14 i14 p14 => ?_)
    obtain ⟨rfl, rfl, rfl⟩ := p14
    refine r_gS (fun S9 hS9 => ?_)
    have M : RM S9 A := by rw [hS9]; exact M.up (by decide)
    subst hS9
    refine rb_ifeq C (tgt := 29) dX8_kindOf_17 (by decide) (fun c17 => ?_) (fun c17 => ?_)
    · refine r_iconst C dX8_kindOf_29 ?_
      exact f_I F dX8_kindOf_30 (by first | omega | exact g25) (by
        first
        | (exfalso; omega)
        | (have e9 : mvW S m = 0 := by
             unfold mvW cI
             repeat' split
             all_goals (first | omega | contradiction)
           exact ⟨by rw [cI_t c6, upS_c _ _ (by decide)], by rw [e9], rfl⟩)
        | (have e9 : mvW S m = 1 := by
             unfold mvW cI
             repeat' split
             all_goals (first | omega | contradiction)
           exact ⟨cI_f c6, by rw [e9], rfl⟩)) (Nat.le_of_ble_eq_true rfl) (Nat.le_of_ble_eq_true rfl)
    · refine r_aload_n C dX8_kindOf_20 lg_0 ?_
      refine r_getA C 224 10 dX8_kindOf_21 fg_X8_7_7 rfl rfl M.1 (fun g21 => ?_)
      refine r_iload_n C dX8_kindOf_24 lg_1 ?_
      refine r_iald C (N := 60) 320 dX8_kindOf_25 (by decide) rfl rfl (M.g (j := 0) (by decide)) (by omega) (by omega) (by omega) (fun g25 => ?_)
      refine r_goto C (tgt := 30) dX8_kindOf_26 (by decide) ?_
      exact f_I F dX8_kindOf_30 (by first | omega | exact g25) (by
        first
        | (exfalso; omega)
        | (have e9 : mvW S m = 0 := by
             unfold mvW cI
             repeat' split
             all_goals (first | omega | contradiction)
           exact ⟨by rw [cI_t c6, upS_c _ _ (by decide)], by rw [e9], rfl⟩)
        | (have e9 : mvW S m = 1 := by
             unfold mvW cI
             repeat' split
             all_goals (first | omega | contradiction)
           exact ⟨cI_f c6, by rw [e9], rfl⟩)) (Nat.le_of_ble_eq_true rfl) (Nat.le_of_ble_eq_true rfl)
set_option maxRecDepth 20000 in
theorem cM_dayOf {G : GT} {l : Launch} (hfl : l.stackTraces = false) {S : ST} {A : AB} {m : Int} (M : RM S A) (hm : rI m) (hm0 : 0 ≤ S 232 0) (hm1 : S 232 0 ≤ 60) : CT G l yX8_dayOf cX8_dayOf 2 (some .int) (rmk 2 0 0 43) S A [vR A 7 0, vI m] (oI fun z S' A' => cI (0 ≤ m ∧ m < S 232 0) (S 352 m) 0 = z ∧ upS S 249 0 (mvW S m) = S' ∧ A = A') (noX) := by
  refine ct_ofN (own := RX8) (mn := "dayOf") rfl rfl (by decide) hfl (lv0 := [some (vR A 7 0), some (vI m)]) (ent_1 (cat_R _ _ _) (ent_1 rfl ent_0)) rfl ?_
  intro J X C F FX FT FU hW hA
  refine r_aload_n C dX8_dayOf_0 lg_0 ?_
  refine r_aload_n C dX8_dayOf_1 lg_0 ?_
  refine r_iload_n C dX8_dayOf_2 lg_1 ?_
  refine q_V1Z C (cM_isMovement hfl (by assumption) (by omega) (by omega) (by omega)) dX8_dayOf_3 lk_X8_155 M.1 ⟨Nat.le_of_ble_eq_true rfl, Nat.le_of_ble_eq_true rfl⟩ (catLe (Nat.le_of_ble_eq_true rfl)) ⟨rfl, rfl⟩ rfl (Nat.le_of_ble_eq_true rfl) (Nat.le_of_ble_eq_true rfl) (fun z3 S3 A3 i3 p3 => ?_)
  obtain ⟨rfl, rfl, rfl⟩ := p3
  refine rb_ifeq C (tgt := 13) dX8_dayOf_6 (by decide) (fun c6 => ?_) (fun c6 => ?_)
  · refine r_iconst C dX8_dayOf_13 ?_
    refine q_V1Z C (cM_goes hfl (by assumption) (by omega)) dX8_dayOf_14 lk_X8_112 M.1 ⟨Nat.le_of_ble_eq_true rfl, Nat.le_of_ble_eq_true rfl⟩ (catLe (Nat.le_of_ble_eq_true rfl)) ⟨rfl, rfl⟩ rfl (Nat.le_of_ble_eq_true rfl) (Nat.le_of_ble_eq_true rfl) (fun z14 S14 A14 i14 p14 => ?_)
    obtain ⟨rfl, rfl, rfl⟩ := p14
    refine r_gS (fun S9 hS9 => ?_)
    have M : RM S9 A := by rw [hS9]; exact M.up (by decide)
    subst hS9
    refine rb_ifeq C (tgt := 29) dX8_dayOf_17 (by decide) (fun c17 => ?_) (fun c17 => ?_)
    · refine r_iconst C dX8_dayOf_29 ?_
      exact f_I F dX8_dayOf_30 (by first | omega | exact g25) (by
        first
        | (exfalso; omega)
        | (have e9 : mvW S m = 0 := by
             unfold mvW cI
             repeat' split
             all_goals (first | omega | contradiction)
           exact ⟨by rw [cI_t c6, upS_c _ _ (by decide)], by rw [e9], rfl⟩)
        | (have e9 : mvW S m = 1 := by
             unfold mvW cI
             repeat' split
             all_goals (first | omega | contradiction)
           exact ⟨cI_f c6, by rw [e9], rfl⟩)) (Nat.le_of_ble_eq_true rfl) (Nat.le_of_ble_eq_true rfl)
    · refine r_aload_n C dX8_dayOf_20 lg_0 ?_
      refine r_getA C 225 11 dX8_dayOf_21 fg_X8_13_7 rfl rfl M.1 (fun g21 => ?_)
      refine r_iload_n C dX8_dayOf_24 lg_1 ?_
      refine r_iald C (N := 60) 352 dX8_dayOf_25 (by decide) rfl rfl (M.g (j := 1) (by decide)) (by omega) (by omega) (by omega) (fun g25 => ?_)
      refine r_goto C (tgt := 30) dX8_dayOf_26 (by decide) ?_
      exact f_I F dX8_dayOf_30 (by first | omega | exact g25) (by
        first
        | (exfalso; omega)
        | (have e9 : mvW S m = 0 := by
             unfold mvW cI
             repeat' split
             all_goals (first | omega | contradiction)
           exact ⟨by rw [cI_t c6, upS_c _ _ (by decide)], by rw [e9], rfl⟩)
        | (have e9 : mvW S m = 1 := by
             unfold mvW cI
             repeat' split
             all_goals (first | omega | contradiction)
           exact ⟨cI_f c6, by rw [e9], rfl⟩)) (Nat.le_of_ble_eq_true rfl) (Nat.le_of_ble_eq_true rfl)
  · refine r_iconst C dX8_dayOf_9 ?_
    refine r_goto C (tgt := 14) dX8_dayOf_10 (by decide) ?_
    refine q_V1Z C (cM_goes hfl (by assumption) (by omega)) dX8_dayOf_14 lk_X8_112 M.1 ⟨Nat.le_of_ble_eq_true rfl, Nat.le_of_ble_eq_true rfl⟩ (catLe (Nat.le_of_ble_eq_true rfl)) ⟨rfl, rfl⟩ rfl (Nat.le_of_ble_eq_true rfl) (Nat.le_of_ble_eq_true rfl) (fun z14 S14 A14 i14 p14 => ?_)
    obtain ⟨rfl, rfl, rfl⟩ := p14
    refine r_gS (fun S9 hS9 => ?_)
    have M : RM S9 A := by rw [hS9]; exact M.up (by decide)
    subst hS9
    refine rb_ifeq C (tgt := 29) dX8_dayOf_17 (by decide) (fun c17 => ?_) (fun c17 => ?_)
    · refine r_iconst C dX8_dayOf_29 ?_
      exact f_I F dX8_dayOf_30 (by first | omega | exact g25) (by
        first
        | (exfalso; omega)
        | (have e9 : mvW S m = 0 := by
             unfold mvW cI
             repeat' split
             all_goals (first | omega | contradiction)
           exact ⟨by rw [cI_t c6, upS_c _ _ (by decide)], by rw [e9], rfl⟩)
        | (have e9 : mvW S m = 1 := by
             unfold mvW cI
             repeat' split
             all_goals (first | omega | contradiction)
           exact ⟨cI_f c6, by rw [e9], rfl⟩)) (Nat.le_of_ble_eq_true rfl) (Nat.le_of_ble_eq_true rfl)
    · refine r_aload_n C dX8_dayOf_20 lg_0 ?_
      refine r_getA C 225 11 dX8_dayOf_21 fg_X8_13_7 rfl rfl M.1 (fun g21 => ?_)
      refine r_iload_n C dX8_dayOf_24 lg_1 ?_
      refine r_iald C (N := 60) 352 dX8_dayOf_25 (by decide) rfl rfl (M.g (j := 1) (by decide)) (by omega) (by omega) (by omega) (fun g25 => ?_)
      refine r_goto C (tgt := 30) dX8_dayOf_26 (by decide) ?_
      exact f_I F dX8_dayOf_30 (by first | omega | exact g25) (by
        first
        | (exfalso; omega)
        | (have e9 : mvW S m = 0 := by
             unfold mvW cI
             repeat' split
             all_goals (first | omega | contradiction)
           exact ⟨by rw [cI_t c6, upS_c _ _ (by decide)], by rw [e9], rfl⟩)
        | (have e9 : mvW S m = 1 := by
             unfold mvW cI
             repeat' split
             all_goals (first | omega | contradiction)
           exact ⟨cI_f c6, by rw [e9], rfl⟩)) (Nat.le_of_ble_eq_true rfl) (Nat.le_of_ble_eq_true rfl)
set_option maxRecDepth 20000 in
theorem cM_isCancelled {G : GT} {l : Launch} (hfl : l.stackTraces = false) {S : ST} {A : AB} {m : Int} (M : RM S A) (hm : rI m) (hm0 : 0 ≤ S 232 0) (hm1 : S 232 0 ≤ 60) : CT G l yX8_isCancelled cX8_isCancelled 2 (some .boolean) (rmk 2 0 0 43) S A [vR A 7 0, vI m] (oZ fun z S' A' => b2i ((0 ≤ m ∧ m < S 232 0) ∧ ¬ S 480 m = 0) = z ∧ upS S 249 0 (mvW S m) = S' ∧ A = A') (noX) := by
  refine ct_ofN (own := RX8) (mn := "isCancelled") rfl rfl (by decide) hfl (lv0 := [some (vR A 7 0), some (vI m)]) (ent_1 (cat_R _ _ _) (ent_1 rfl ent_0)) rfl ?_
  intro J X C F FX FT FU hW hA
  refine r_aload_n C dX8_isCancelled_0 lg_0 ?_
  refine r_aload_n C dX8_isCancelled_1 lg_0 ?_
  refine r_iload_n C dX8_isCancelled_2 lg_1 ?_
  refine q_V1Z C (cM_isMovement hfl (by assumption) (by omega) (by omega) (by omega)) dX8_isCancelled_3 lk_X8_155 M.1 ⟨Nat.le_of_ble_eq_true rfl, Nat.le_of_ble_eq_true rfl⟩ (catLe (Nat.le_of_ble_eq_true rfl)) ⟨rfl, rfl⟩ rfl (Nat.le_of_ble_eq_true rfl) (Nat.le_of_ble_eq_true rfl) (fun z3 S3 A3 i3 p3 => ?_)
  obtain ⟨rfl, rfl, rfl⟩ := p3
  refine rb_ifeq C (tgt := 13) dX8_isCancelled_6 (by decide) (fun c6 => ?_) (fun c6 => ?_)
  · refine r_iconst C dX8_isCancelled_13 ?_
    refine q_V1Z C (cM_goes hfl (by assumption) (by omega)) dX8_isCancelled_14 lk_X8_112 M.1 ⟨Nat.le_of_ble_eq_true rfl, Nat.le_of_ble_eq_true rfl⟩ (catLe (Nat.le_of_ble_eq_true rfl)) ⟨rfl, rfl⟩ rfl (Nat.le_of_ble_eq_true rfl) (Nat.le_of_ble_eq_true rfl) (fun z14 S14 A14 i14 p14 => ?_)
    obtain ⟨rfl, rfl, rfl⟩ := p14
    refine r_gS (fun S9 hS9 => ?_)
    have M : RM S9 A := by rw [hS9]; exact M.up (by decide)
    subst hS9
    refine rb_ifeq C (tgt := 33) dX8_isCancelled_17 (by decide) (fun c17 => ?_) (fun c17 => ?_)
    · refine r_iconst C dX8_isCancelled_33 ?_
      exact f_Z F dX8_isCancelled_34 (by omega) (by
        first
        | (exfalso; omega)
        | (have e9 : mvW S m = 0 := by
             unfold mvW cI
             repeat' split
             all_goals (first | omega | contradiction)
           first | exact ⟨b2i_t ⟨c6, by rw [upS_c _ _ (by decide)] at c26; omega⟩, by rw [e9], rfl⟩ | exact ⟨b2i_f (fun q => by rw [upS_c _ _ (by decide)] at c26; omega), by rw [e9], rfl⟩)
        | (have e9 : mvW S m = 1 := by
             unfold mvW cI
             repeat' split
             all_goals (first | omega | contradiction)
           exact ⟨b2i_f (fun q => c6 q.1), by rw [e9], rfl⟩)) (Nat.le_of_ble_eq_true rfl) (Nat.le_of_ble_eq_true rfl)
    · refine r_aload_n C dX8_isCancelled_20 lg_0 ?_
      refine r_getA C 229 15 dX8_isCancelled_21 fg_X8_25_7 rfl rfl M.1 (fun g21 => ?_)
      refine r_iload_n C dX8_isCancelled_24 lg_1 ?_
      refine r_zald C (N := 60) 480 dX8_isCancelled_25 (by decide) rfl rfl (M.g (j := 5) (by decide)) (by omega) (by omega) (by omega) (fun g25 => ?_)
      refine r_ifeq C (tgt := 33) dX8_isCancelled_26 (by decide) (by omega) (fun c26 => ?_) (fun c26 => ?_)
      · refine r_iconst C dX8_isCancelled_33 ?_
        exact f_Z F dX8_isCancelled_34 (by omega) (by
          first
          | (exfalso; omega)
          | (have e9 : mvW S m = 0 := by
               unfold mvW cI
               repeat' split
               all_goals (first | omega | contradiction)
             first | exact ⟨b2i_t ⟨c6, by rw [upS_c _ _ (by decide)] at c26; omega⟩, by rw [e9], rfl⟩ | exact ⟨b2i_f (fun q => by rw [upS_c _ _ (by decide)] at c26; omega), by rw [e9], rfl⟩)
          | (have e9 : mvW S m = 1 := by
               unfold mvW cI
               repeat' split
               all_goals (first | omega | contradiction)
             exact ⟨b2i_f (fun q => c6 q.1), by rw [e9], rfl⟩)) (Nat.le_of_ble_eq_true rfl) (Nat.le_of_ble_eq_true rfl)
      · refine r_iconst C dX8_isCancelled_29 ?_
        refine r_goto C (tgt := 34) dX8_isCancelled_30 (by decide) ?_
        exact f_Z F dX8_isCancelled_34 (by omega) (by
          first
          | (exfalso; omega)
          | (have e9 : mvW S m = 0 := by
               unfold mvW cI
               repeat' split
               all_goals (first | omega | contradiction)
             first | exact ⟨b2i_t ⟨c6, by rw [upS_c _ _ (by decide)] at c26; omega⟩, by rw [e9], rfl⟩ | exact ⟨b2i_f (fun q => by rw [upS_c _ _ (by decide)] at c26; omega), by rw [e9], rfl⟩)
          | (have e9 : mvW S m = 1 := by
               unfold mvW cI
               repeat' split
               all_goals (first | omega | contradiction)
             exact ⟨b2i_f (fun q => c6 q.1), by rw [e9], rfl⟩)) (Nat.le_of_ble_eq_true rfl) (Nat.le_of_ble_eq_true rfl)
  · refine r_iconst C dX8_isCancelled_9 ?_
    refine r_goto C (tgt := 14) dX8_isCancelled_10 (by decide) ?_
    refine q_V1Z C (cM_goes hfl (by assumption) (by omega)) dX8_isCancelled_14 lk_X8_112 M.1 ⟨Nat.le_of_ble_eq_true rfl, Nat.le_of_ble_eq_true rfl⟩ (catLe (Nat.le_of_ble_eq_true rfl)) ⟨rfl, rfl⟩ rfl (Nat.le_of_ble_eq_true rfl) (Nat.le_of_ble_eq_true rfl) (fun z14 S14 A14 i14 p14 => ?_)
    obtain ⟨rfl, rfl, rfl⟩ := p14
    refine r_gS (fun S9 hS9 => ?_)
    have M : RM S9 A := by rw [hS9]; exact M.up (by decide)
    subst hS9
    refine rb_ifeq C (tgt := 33) dX8_isCancelled_17 (by decide) (fun c17 => ?_) (fun c17 => ?_)
    · refine r_iconst C dX8_isCancelled_33 ?_
      exact f_Z F dX8_isCancelled_34 (by omega) (by
        first
        | (exfalso; omega)
        | (have e9 : mvW S m = 0 := by
             unfold mvW cI
             repeat' split
             all_goals (first | omega | contradiction)
           first | exact ⟨b2i_t ⟨c6, by rw [upS_c _ _ (by decide)] at c26; omega⟩, by rw [e9], rfl⟩ | exact ⟨b2i_f (fun q => by rw [upS_c _ _ (by decide)] at c26; omega), by rw [e9], rfl⟩)
        | (have e9 : mvW S m = 1 := by
             unfold mvW cI
             repeat' split
             all_goals (first | omega | contradiction)
           exact ⟨b2i_f (fun q => c6 q.1), by rw [e9], rfl⟩)) (Nat.le_of_ble_eq_true rfl) (Nat.le_of_ble_eq_true rfl)
    · refine r_aload_n C dX8_isCancelled_20 lg_0 ?_
      refine r_getA C 229 15 dX8_isCancelled_21 fg_X8_25_7 rfl rfl M.1 (fun g21 => ?_)
      refine r_iload_n C dX8_isCancelled_24 lg_1 ?_
      refine r_zald C (N := 60) 480 dX8_isCancelled_25 (by decide) rfl rfl (M.g (j := 5) (by decide)) (by omega) (by omega) (by omega) (fun g25 => ?_)
      refine r_ifeq C (tgt := 33) dX8_isCancelled_26 (by decide) (by omega) (fun c26 => ?_) (fun c26 => ?_)
      · refine r_iconst C dX8_isCancelled_33 ?_
        exact f_Z F dX8_isCancelled_34 (by omega) (by
          first
          | (exfalso; omega)
          | (have e9 : mvW S m = 0 := by
               unfold mvW cI
               repeat' split
               all_goals (first | omega | contradiction)
             first | exact ⟨b2i_t ⟨c6, by rw [upS_c _ _ (by decide)] at c26; omega⟩, by rw [e9], rfl⟩ | exact ⟨b2i_f (fun q => by rw [upS_c _ _ (by decide)] at c26; omega), by rw [e9], rfl⟩)
          | (have e9 : mvW S m = 1 := by
               unfold mvW cI
               repeat' split
               all_goals (first | omega | contradiction)
             exact ⟨b2i_f (fun q => c6 q.1), by rw [e9], rfl⟩)) (Nat.le_of_ble_eq_true rfl) (Nat.le_of_ble_eq_true rfl)
      · refine r_iconst C dX8_isCancelled_29 ?_
        refine r_goto C (tgt := 34) dX8_isCancelled_30 (by decide) ?_
        exact f_Z F dX8_isCancelled_34 (by omega) (by
          first
          | (exfalso; omega)
          | (have e9 : mvW S m = 0 := by
               unfold mvW cI
               repeat' split
               all_goals (first | omega | contradiction)
             first | exact ⟨b2i_t ⟨c6, by rw [upS_c _ _ (by decide)] at c26; omega⟩, by rw [e9], rfl⟩ | exact ⟨b2i_f (fun q => by rw [upS_c _ _ (by decide)] at c26; omega), by rw [e9], rfl⟩)
          | (have e9 : mvW S m = 1 := by
               unfold mvW cI
               repeat' split
               all_goals (first | omega | contradiction)
             exact ⟨b2i_f (fun q => c6 q.1), by rw [e9], rfl⟩)) (Nat.le_of_ble_eq_true rfl) (Nat.le_of_ble_eq_true rfl)
noncomputable def ptW (S : ST) (a b : Int) : Int := cI ((0 ≤ a ∧ a < S 232 0) ∧ (0 ≤ b ∧ b < S 232 0)) (cI (S 320 a = 3) 0 2) 1
set_option maxRecDepth 20000 in
theorem cM_partOf {G : GT} {l : Launch} (hfl : l.stackTraces = false) {S : ST} {A : AB} {a b : Int} (M : RM S A) (ha : rI a) (hb : rI b) (hm0 : 0 ≤ S 232 0) (hm1 : S 232 0 ≤ 60) : CT G l yX8_partOf cX8_partOf 4 (some .int) (rmk 2 0 0 43) S A [vR A 7 0, vI a, vI b] (oI fun z S' A' => cI (ptW S a b = 0) (S 544 (60 * a + b)) 0 = z ∧ upS S 249 0 (ptW S a b) = S' ∧ A = A') (noX) := by
  refine ct_ofN (own := RX8) (mn := "partOf") rfl rfl (by decide) hfl (lv0 := [some (vR A 7 0), some (vI a), some (vI b), none]) (ent_1 (cat_R _ _ _) (ent_1 rfl (ent_1 rfl (ent_n ent_0)))) rfl ?_
  intro J X C F FX FT FU hW hA
  refine r_aload_n C dX8_partOf_0 lg_0 ?_
  refine r_aload_n C dX8_partOf_1 lg_0 ?_
  refine r_iload_n C dX8_partOf_2 lg_1 ?_
  refine q_V1Z C (cM_isMovement hfl (by assumption) (by omega) (by omega) (by omega)) dX8_partOf_3 lk_X8_155 M.1 ⟨Nat.le_of_ble_eq_true rfl, Nat.le_of_ble_eq_true rfl⟩ (catLe (Nat.le_of_ble_eq_true rfl)) ⟨rfl, rfl⟩ rfl (Nat.le_of_ble_eq_true rfl) (Nat.le_of_ble_eq_true rfl) (fun z3 S3 A3 i3 p3 => ?_)
  obtain ⟨rfl, rfl, rfl⟩ := p3
  refine rb_ifeq C (tgt := 17) dX8_partOf_6 (by decide) (fun c6 => ?_) (fun c6 => ?_)
  · refine r_iconst C dX8_partOf_17 ?_
    refine r_goto C (tgt := 36) dX8_partOf_18 (by decide) ?_
    refine q_V1Z C (cM_goes hfl (by assumption) (by omega)) dX8_partOf_36 lk_X8_112 M.1 ⟨Nat.le_of_ble_eq_true rfl, Nat.le_of_ble_eq_true rfl⟩ (catLe (Nat.le_of_ble_eq_true rfl)) ⟨rfl, rfl⟩ rfl (Nat.le_of_ble_eq_true rfl) (Nat.le_of_ble_eq_true rfl) (fun z36 S36 A36 i36 p36 => ?_)
    obtain ⟨rfl, rfl, rfl⟩ := p36
    refine r_gS (fun S9 hS9 => ?_)
    have M : RM S9 A := by rw [hS9]; exact M.up (by decide)
    subst hS9
    refine r_istore_n C dX8_partOf_39 (ls1_3 rfl rfl) ?_
    refine r_iload_n C dX8_partOf_40 lg_3 ?_
    refine rb_ifeq C (tgt := 58) dX8_partOf_41 (by decide) (fun c41 => ?_) (fun c41 => ?_)
    · refine r_iconst C dX8_partOf_58 ?_
      exact f_I F dX8_partOf_59 (by first | omega | exact g54) (by
        first
        | (exfalso; omega)
        | (have e9 : ptW S a b = 0 := by
             unfold ptW cI
             repeat' split
             all_goals (first | omega | contradiction)
           exact ⟨by rw [cI_t (by omega), upS_c _ _ (by decide)], by rw [e9], rfl⟩)
        | (have e9 : ptW S a b = 1 := by
             unfold ptW cI
             repeat' split
             all_goals (first | omega | contradiction)
           exact ⟨cI_f (by omega), by rw [e9], rfl⟩)
        | (have e9 : ptW S a b = 2 := by
             unfold ptW cI
             repeat' split
             all_goals (first | omega | contradiction)
           exact ⟨cI_f (by omega), by rw [e9], rfl⟩)) (Nat.le_of_ble_eq_true rfl) (Nat.le_of_ble_eq_true rfl)
    · refine r_aload_n C dX8_partOf_44 lg_0 ?_
      refine r_getA C 231 17 dX8_partOf_45 fg_X8_33_7 rfl rfl M.1 (fun g45 => ?_)
      refine r_bipush C dX8_partOf_48 (by decide) ?_
      refine r_iload_n C dX8_partOf_50 lg_1 ?_
      refine r_imul C dX8_partOf_51 ?_
      refine r_iload_n C dX8_partOf_52 lg_2 ?_
      refine r_iadd C dX8_partOf_53 ?_
      refine r_iald C (N := 3600) 544 dX8_partOf_54 (by decide) rfl rfl (M.g (j := 7) (by decide)) (by omega) (by omega) (by omega) (fun g54 => ?_)
      refine r_goto C (tgt := 59) dX8_partOf_55 (by decide) ?_
      exact f_I F dX8_partOf_59 (by first | omega | exact g54) (by
        first
        | (exfalso; omega)
        | (have e9 : ptW S a b = 0 := by
             unfold ptW cI
             repeat' split
             all_goals (first | omega | contradiction)
           exact ⟨by rw [cI_t (by omega), upS_c _ _ (by decide)], by rw [e9], rfl⟩)
        | (have e9 : ptW S a b = 1 := by
             unfold ptW cI
             repeat' split
             all_goals (first | omega | contradiction)
           exact ⟨cI_f (by omega), by rw [e9], rfl⟩)
        | (have e9 : ptW S a b = 2 := by
             unfold ptW cI
             repeat' split
             all_goals (first | omega | contradiction)
           exact ⟨cI_f (by omega), by rw [e9], rfl⟩)) (Nat.le_of_ble_eq_true rfl) (Nat.le_of_ble_eq_true rfl)
  · refine r_aload_n C dX8_partOf_9 lg_0 ?_
    refine r_iload_n C dX8_partOf_10 lg_2 ?_
    refine q_V1Z C (cM_isMovement hfl (by assumption) (by omega) (by omega) (by omega)) dX8_partOf_11 lk_X8_155 M.1 ⟨Nat.le_of_ble_eq_true rfl, Nat.le_of_ble_eq_true rfl⟩ (catLe (Nat.le_of_ble_eq_true rfl)) ⟨rfl, rfl⟩ rfl (Nat.le_of_ble_eq_true rfl) (Nat.le_of_ble_eq_true rfl) (fun z11 S11 A11 i11 p11 => ?_)
    obtain ⟨rfl, rfl, rfl⟩ := p11
    refine rb_ifne C (tgt := 21) dX8_partOf_14 (by decide) (fun c14 => ?_) (fun c14 => ?_)
    · refine r_aload_n C dX8_partOf_21 lg_0 ?_
      refine r_getA C 224 10 dX8_partOf_22 fg_X8_7_7 rfl rfl M.1 (fun g22 => ?_)
      refine r_iload_n C dX8_partOf_25 lg_1 ?_
      refine r_iald C (N := 60) 320 dX8_partOf_26 (by decide) rfl rfl (M.g (j := 0) (by decide)) (by omega) (by omega) (by omega) (fun g26 => ?_)
      refine r_iconst C dX8_partOf_27 ?_
      refine r_iceq C (tgt := 35) dX8_partOf_28 (by decide) (by omega) (by omega) (fun c28 => ?_) (fun c28 => ?_)
      · refine r_iconst C dX8_partOf_35 ?_
        refine q_V1Z C (cM_goes hfl (by assumption) (by omega)) dX8_partOf_36 lk_X8_112 M.1 ⟨Nat.le_of_ble_eq_true rfl, Nat.le_of_ble_eq_true rfl⟩ (catLe (Nat.le_of_ble_eq_true rfl)) ⟨rfl, rfl⟩ rfl (Nat.le_of_ble_eq_true rfl) (Nat.le_of_ble_eq_true rfl) (fun z36 S36 A36 i36 p36 => ?_)
        obtain ⟨rfl, rfl, rfl⟩ := p36
        refine r_gS (fun S9 hS9 => ?_)
        have M : RM S9 A := by rw [hS9]; exact M.up (by decide)
        subst hS9
        refine r_istore_n C dX8_partOf_39 (ls1_3 rfl rfl) ?_
        refine r_iload_n C dX8_partOf_40 lg_3 ?_
        refine rb_ifeq C (tgt := 58) dX8_partOf_41 (by decide) (fun c41 => ?_) (fun c41 => ?_)
        · refine r_iconst C dX8_partOf_58 ?_
          exact f_I F dX8_partOf_59 (by first | omega | exact g54) (by
            first
            | (exfalso; omega)
            | (have e9 : ptW S a b = 0 := by
                 unfold ptW cI
                 repeat' split
                 all_goals (first | omega | contradiction)
               exact ⟨by rw [cI_t (by omega), upS_c _ _ (by decide)], by rw [e9], rfl⟩)
            | (have e9 : ptW S a b = 1 := by
                 unfold ptW cI
                 repeat' split
                 all_goals (first | omega | contradiction)
               exact ⟨cI_f (by omega), by rw [e9], rfl⟩)
            | (have e9 : ptW S a b = 2 := by
                 unfold ptW cI
                 repeat' split
                 all_goals (first | omega | contradiction)
               exact ⟨cI_f (by omega), by rw [e9], rfl⟩)) (Nat.le_of_ble_eq_true rfl) (Nat.le_of_ble_eq_true rfl)
        · refine r_aload_n C dX8_partOf_44 lg_0 ?_
          refine r_getA C 231 17 dX8_partOf_45 fg_X8_33_7 rfl rfl M.1 (fun g45 => ?_)
          refine r_bipush C dX8_partOf_48 (by decide) ?_
          refine r_iload_n C dX8_partOf_50 lg_1 ?_
          refine r_imul C dX8_partOf_51 ?_
          refine r_iload_n C dX8_partOf_52 lg_2 ?_
          refine r_iadd C dX8_partOf_53 ?_
          refine r_iald C (N := 3600) 544 dX8_partOf_54 (by decide) rfl rfl (M.g (j := 7) (by decide)) (by omega) (by omega) (by omega) (fun g54 => ?_)
          refine r_goto C (tgt := 59) dX8_partOf_55 (by decide) ?_
          exact f_I F dX8_partOf_59 (by first | omega | exact g54) (by
            first
            | (exfalso; omega)
            | (have e9 : ptW S a b = 0 := by
                 unfold ptW cI
                 repeat' split
                 all_goals (first | omega | contradiction)
               exact ⟨by rw [cI_t (by omega), upS_c _ _ (by decide)], by rw [e9], rfl⟩)
            | (have e9 : ptW S a b = 1 := by
                 unfold ptW cI
                 repeat' split
                 all_goals (first | omega | contradiction)
               exact ⟨cI_f (by omega), by rw [e9], rfl⟩)
            | (have e9 : ptW S a b = 2 := by
                 unfold ptW cI
                 repeat' split
                 all_goals (first | omega | contradiction)
               exact ⟨cI_f (by omega), by rw [e9], rfl⟩)) (Nat.le_of_ble_eq_true rfl) (Nat.le_of_ble_eq_true rfl)
      · refine r_iconst C dX8_partOf_31 ?_
        refine r_goto C (tgt := 36) dX8_partOf_32 (by decide) ?_
        refine q_V1Z C (cM_goes hfl (by assumption) (by omega)) dX8_partOf_36 lk_X8_112 M.1 ⟨Nat.le_of_ble_eq_true rfl, Nat.le_of_ble_eq_true rfl⟩ (catLe (Nat.le_of_ble_eq_true rfl)) ⟨rfl, rfl⟩ rfl (Nat.le_of_ble_eq_true rfl) (Nat.le_of_ble_eq_true rfl) (fun z36 S36 A36 i36 p36 => ?_)
        obtain ⟨rfl, rfl, rfl⟩ := p36
        refine r_gS (fun S9 hS9 => ?_)
        have M : RM S9 A := by rw [hS9]; exact M.up (by decide)
        subst hS9
        refine r_istore_n C dX8_partOf_39 (ls1_3 rfl rfl) ?_
        refine r_iload_n C dX8_partOf_40 lg_3 ?_
        refine rb_ifeq C (tgt := 58) dX8_partOf_41 (by decide) (fun c41 => ?_) (fun c41 => ?_)
        · refine r_iconst C dX8_partOf_58 ?_
          exact f_I F dX8_partOf_59 (by first | omega | exact g54) (by
            first
            | (exfalso; omega)
            | (have e9 : ptW S a b = 0 := by
                 unfold ptW cI
                 repeat' split
                 all_goals (first | omega | contradiction)
               exact ⟨by rw [cI_t (by omega), upS_c _ _ (by decide)], by rw [e9], rfl⟩)
            | (have e9 : ptW S a b = 1 := by
                 unfold ptW cI
                 repeat' split
                 all_goals (first | omega | contradiction)
               exact ⟨cI_f (by omega), by rw [e9], rfl⟩)
            | (have e9 : ptW S a b = 2 := by
                 unfold ptW cI
                 repeat' split
                 all_goals (first | omega | contradiction)
               exact ⟨cI_f (by omega), by rw [e9], rfl⟩)) (Nat.le_of_ble_eq_true rfl) (Nat.le_of_ble_eq_true rfl)
        · refine r_aload_n C dX8_partOf_44 lg_0 ?_
          refine r_getA C 231 17 dX8_partOf_45 fg_X8_33_7 rfl rfl M.1 (fun g45 => ?_)
          refine r_bipush C dX8_partOf_48 (by decide) ?_
          refine r_iload_n C dX8_partOf_50 lg_1 ?_
          refine r_imul C dX8_partOf_51 ?_
          refine r_iload_n C dX8_partOf_52 lg_2 ?_
          refine r_iadd C dX8_partOf_53 ?_
          refine r_iald C (N := 3600) 544 dX8_partOf_54 (by decide) rfl rfl (M.g (j := 7) (by decide)) (by omega) (by omega) (by omega) (fun g54 => ?_)
          refine r_goto C (tgt := 59) dX8_partOf_55 (by decide) ?_
          exact f_I F dX8_partOf_59 (by first | omega | exact g54) (by
            first
            | (exfalso; omega)
            | (have e9 : ptW S a b = 0 := by
                 unfold ptW cI
                 repeat' split
                 all_goals (first | omega | contradiction)
               exact ⟨by rw [cI_t (by omega), upS_c _ _ (by decide)], by rw [e9], rfl⟩)
            | (have e9 : ptW S a b = 1 := by
                 unfold ptW cI
                 repeat' split
                 all_goals (first | omega | contradiction)
               exact ⟨cI_f (by omega), by rw [e9], rfl⟩)
            | (have e9 : ptW S a b = 2 := by
                 unfold ptW cI
                 repeat' split
                 all_goals (first | omega | contradiction)
               exact ⟨cI_f (by omega), by rw [e9], rfl⟩)) (Nat.le_of_ble_eq_true rfl) (Nat.le_of_ble_eq_true rfl)
    · refine r_iconst C dX8_partOf_17 ?_
      refine r_goto C (tgt := 36) dX8_partOf_18 (by decide) ?_
      refine q_V1Z C (cM_goes hfl (by assumption) (by omega)) dX8_partOf_36 lk_X8_112 M.1 ⟨Nat.le_of_ble_eq_true rfl, Nat.le_of_ble_eq_true rfl⟩ (catLe (Nat.le_of_ble_eq_true rfl)) ⟨rfl, rfl⟩ rfl (Nat.le_of_ble_eq_true rfl) (Nat.le_of_ble_eq_true rfl) (fun z36 S36 A36 i36 p36 => ?_)
      obtain ⟨rfl, rfl, rfl⟩ := p36
      refine r_gS (fun S9 hS9 => ?_)
      have M : RM S9 A := by rw [hS9]; exact M.up (by decide)
      subst hS9
      refine r_istore_n C dX8_partOf_39 (ls1_3 rfl rfl) ?_
      refine r_iload_n C dX8_partOf_40 lg_3 ?_
      refine rb_ifeq C (tgt := 58) dX8_partOf_41 (by decide) (fun c41 => ?_) (fun c41 => ?_)
      · refine r_iconst C dX8_partOf_58 ?_
        exact f_I F dX8_partOf_59 (by first | omega | exact g54) (by
          first
          | (exfalso; omega)
          | (have e9 : ptW S a b = 0 := by
               unfold ptW cI
               repeat' split
               all_goals (first | omega | contradiction)
             exact ⟨by rw [cI_t (by omega), upS_c _ _ (by decide)], by rw [e9], rfl⟩)
          | (have e9 : ptW S a b = 1 := by
               unfold ptW cI
               repeat' split
               all_goals (first | omega | contradiction)
             exact ⟨cI_f (by omega), by rw [e9], rfl⟩)
          | (have e9 : ptW S a b = 2 := by
               unfold ptW cI
               repeat' split
               all_goals (first | omega | contradiction)
             exact ⟨cI_f (by omega), by rw [e9], rfl⟩)) (Nat.le_of_ble_eq_true rfl) (Nat.le_of_ble_eq_true rfl)
      · refine r_aload_n C dX8_partOf_44 lg_0 ?_
        refine r_getA C 231 17 dX8_partOf_45 fg_X8_33_7 rfl rfl M.1 (fun g45 => ?_)
        refine r_bipush C dX8_partOf_48 (by decide) ?_
        refine r_iload_n C dX8_partOf_50 lg_1 ?_
        refine r_imul C dX8_partOf_51 ?_
        refine r_iload_n C dX8_partOf_52 lg_2 ?_
        refine r_iadd C dX8_partOf_53 ?_
        refine r_iald C (N := 3600) 544 dX8_partOf_54 (by decide) rfl rfl (M.g (j := 7) (by decide)) (by omega) (by omega) (by omega) (fun g54 => ?_)
        refine r_goto C (tgt := 59) dX8_partOf_55 (by decide) ?_
        exact f_I F dX8_partOf_59 (by first | omega | exact g54) (by
          first
          | (exfalso; omega)
          | (have e9 : ptW S a b = 0 := by
               unfold ptW cI
               repeat' split
               all_goals (first | omega | contradiction)
             exact ⟨by rw [cI_t (by omega), upS_c _ _ (by decide)], by rw [e9], rfl⟩)
          | (have e9 : ptW S a b = 1 := by
               unfold ptW cI
               repeat' split
               all_goals (first | omega | contradiction)
             exact ⟨cI_f (by omega), by rw [e9], rfl⟩)
          | (have e9 : ptW S a b = 2 := by
               unfold ptW cI
               repeat' split
               all_goals (first | omega | contradiction)
             exact ⟨cI_f (by omega), by rw [e9], rfl⟩)) (Nat.le_of_ble_eq_true rfl) (Nat.le_of_ble_eq_true rfl)
def plc (m : Int) : List Int → Int → Int → Int
  | [], _, f => f
  | x :: t, i, f => plc m t (i + 1) (if x = m then i else f)
set_option maxRecDepth 20000 in
theorem cM_placeOf {G : GT} {l : Launch} (hfl : l.stackTraces = false) {S : ST} {A : AB} {m : Int} (M : RM S A) (hm : rI m) (hm0 : 0 ≤ S 232 0) (hm1 : S 232 0 ≤ 60) : CT G l yX8_placeOf cX8_placeOf 5 (some .int) (rmk 2 0 0 43) S A [vR A 7 0, vI m] (oI fun z S' A' => cI (mvW S m = 0) (plc m (led (S 352) (S 480) (S 232 0).toNat) 0 (-1)) 0 = z ∧ Fr [249, 672, 236] S S' ∧ S' 249 0 = mvW S m ∧ A = A') (noX) := by
  refine ct_ofN (own := RX8) (mn := "placeOf") rfl rfl (by decide) hfl (lv0 := [some (vR A 7 0), some (vI m), none, none, none]) (ent_1 (cat_R _ _ _) (ent_1 rfl (ent_n (ent_n (ent_n ent_0))))) rfl ?_
  intro J X C F FX FT FU hW hA
  have lp : ∀ (S1 : ST) (hF : Fr [249, 672, 236] S S1) (h9 : S1 249 0 = mvW S m) (hL : LD S1 (led (S 352) (S 480) (S 232 0).toNat)) (b a : List Int) (f : Int) (hf : rI f) (hab : (led (S 352) (S 480) (S 232 0).toNat) = a ++ b) (hp : plc m (led (S 352) (S 480) (S 232 0).toNat) 0 (-1) = plc m b (a.length : Int) f), J 27 [some (vR A 7 0), some (vI m), some (vI f), some (vI (b2i (mvW S m = 0))), some (vI (a.length : Int))] [] S1 A 0 0 := by
    intro S1 hF h9 hL b
    have M := M.of hF (by decide)
    have hlen := led_len (S 352) (S 480) (S 232 0).toNat
    have h236 := hL.1
    induction b with
    | nil =>
      intro a f hf hab hp
      rw [List.append_nil] at hab
      rw [hab] at h236
      refine r_iload C dX8_placeOf_27 lg_4 ?_
      refine r_aload_n C dX8_placeOf_29 lg_0 ?_
      refine r_getI C 236 dX8_placeOf_30 fg_X8_80_7 rfl rfl M.1 (fun g30 => ?_)
      refine r_icge C (tgt := 60) dX8_placeOf_33 (by decide) (by omega) (by omega) (fun c33 => ?_) (fun c33 => ?_)
      · refine r_iload_n C dX8_placeOf_60 lg_3 ?_
        refine rb_ifeq C (tgt := 68) dX8_placeOf_61 (by decide) (fun c61 => ?_) (fun c61 => ?_)
        · refine r_iconst C dX8_placeOf_68 ?_
          exact f_I F dX8_placeOf_69 (by omega) (by first
            | exact ⟨by rw [cI_t c61, hp]; rfl, hF, h9, rfl⟩
            | exact ⟨by rw [cI_f c61], hF, h9, rfl⟩) (Nat.le_of_ble_eq_true rfl) (Nat.le_of_ble_eq_true rfl)
        · refine r_iload_n C dX8_placeOf_64 lg_2 ?_
          refine r_goto C (tgt := 69) dX8_placeOf_65 (by decide) ?_
          exact f_I F dX8_placeOf_69 (by omega) (by first
            | exact ⟨by rw [cI_t c61, hp]; rfl, hF, h9, rfl⟩
            | exact ⟨by rw [cI_f c61], hF, h9, rfl⟩) (Nat.le_of_ble_eq_true rfl) (Nat.le_of_ble_eq_true rfl)
      · exfalso; omega
    | cons x t ih =>
      intro a f hf hab hp
      have hlab : a.length + (t.length + 1) ≤ 60 := by rw [hab, List.length_append, List.length_cons] at hlen; omega
      have hx : 0 ≤ x ∧ x < S 232 0 := by
        have := (led_mem (S 352) (S 480) (S 232 0).toNat).mp (show x ∈ (led (S 352) (S 480) (S 232 0).toNat) by rw [hab]; simp)
        omega
      rw [hab] at hL h236
      rw [List.length_append, List.length_cons] at h236
      have ex : S1 672 (a.length : Int) = x := hL.at
      have key := fun (f' : Int) (hf' : rI f') (e : f' = if x = m then (a.length : Int) else f) => ih (a ++ [x]) f' hf' (by rw [hab]; simp) (by rw [hp, e, List.length_append, List.length_singleton]; rfl)
      rw [List.length_append, List.length_singleton] at key
      refine r_iload C dX8_placeOf_27 lg_4 ?_
      refine r_aload_n C dX8_placeOf_29 lg_0 ?_
      refine r_getI C 236 dX8_placeOf_30 fg_X8_80_7 rfl rfl M.1 (fun g30 => ?_)
      refine r_icge C (tgt := 60) dX8_placeOf_33 (by decide) (by omega) (by omega) (fun c33 => ?_) (fun c33 => ?_)
      · exfalso; omega
      · refine r_aload_n C dX8_placeOf_36 lg_0 ?_
        refine r_getA C 235 21 dX8_placeOf_37 fg_X8_43_7 rfl rfl M.1 (fun g37 => ?_)
        refine r_iload C dX8_placeOf_40 lg_4 ?_
        refine r_iald C (N := 60) 672 dX8_placeOf_42 (by decide) rfl rfl (M.g (j := 11) (by decide)) (by omega) (by omega) (by omega) (fun g42 => ?_)
        rw [ex]
        refine r_iload_n C dX8_placeOf_43 lg_1 ?_
        refine r_icne C (tgt := 52) dX8_placeOf_44 (by decide) (by omega) (by omega) (fun c44 => ?_) (fun c44 => ?_)
        · refine r_iload_n C dX8_placeOf_52 lg_2 ?_
          refine r_istore_n C dX8_placeOf_53 (ls1_2 rfl rfl) ?_
          refine r_iinc C dX8_placeOf_54 lg_4 (ls1_4 rfl rfl) ?_
          refine r_goto C (tgt := 27) dX8_placeOf_57 (by decide) ?_
          first
          | exact key _ (by omega) (by rw [if_neg (by omega)])
          | exact key _ (by omega) (by rw [if_pos (by omega)])
        · refine r_iload C dX8_placeOf_47 lg_4 ?_
          refine r_goto C (tgt := 53) dX8_placeOf_49 (by decide) ?_
          refine r_istore_n C dX8_placeOf_53 (ls1_2 rfl rfl) ?_
          refine r_iinc C dX8_placeOf_54 lg_4 (ls1_4 rfl rfl) ?_
          refine r_goto C (tgt := 27) dX8_placeOf_57 (by decide) ?_
          first
          | exact key _ (by omega) (by rw [if_neg (by omega)])
          | exact key _ (by omega) (by rw [if_pos (by omega)])
  refine r_iconst C dX8_placeOf_0 ?_
  refine r_istore_n C dX8_placeOf_1 (ls1_2 rfl rfl) ?_
  refine r_aload_n C dX8_placeOf_2 lg_0 ?_
  refine r_aload_n C dX8_placeOf_3 lg_0 ?_
  refine r_iload_n C dX8_placeOf_4 lg_1 ?_
  refine q_V1Z C (cM_isMovement hfl (by assumption) (by omega) (by omega) (by omega)) dX8_placeOf_5 lk_X8_155 M.1 ⟨Nat.le_of_ble_eq_true rfl, Nat.le_of_ble_eq_true rfl⟩ (catLe (Nat.le_of_ble_eq_true rfl)) ⟨rfl, rfl⟩ rfl (Nat.le_of_ble_eq_true rfl) (Nat.le_of_ble_eq_true rfl) (fun z5 S5 A5 i5 p5 => ?_)
  obtain ⟨rfl, rfl, rfl⟩ := p5
  refine rb_ifeq C (tgt := 15) dX8_placeOf_8 (by decide) (fun c8 => ?_) (fun c8 => ?_)
  · refine r_iconst C dX8_placeOf_15 ?_
    refine q_V1Z C (cM_goes hfl (by assumption) (by omega)) dX8_placeOf_16 lk_X8_112 M.1 ⟨Nat.le_of_ble_eq_true rfl, Nat.le_of_ble_eq_true rfl⟩ (catLe (Nat.le_of_ble_eq_true rfl)) ⟨rfl, rfl⟩ rfl (Nat.le_of_ble_eq_true rfl) (Nat.le_of_ble_eq_true rfl) (fun z16 S16 A16 i16 p16 => ?_)
    obtain ⟨rfl, rfl, rfl⟩ := p16
    refine r_gS (fun S9 hS9 => ?_)
    have M : RM S9 A := by rw [hS9]; exact M.up (by decide)
    have hcg : led (S9 352) (S9 480) (S9 232 0).toNat = led (S 352) (S 480) (S 232 0).toNat := by rw [hS9, upS_fn _ _ _ (by decide), upS_fn _ _ _ (by decide), upS_c _ _ (by decide)]
    have hFa : Fr [249, 672, 236] S S9 := by rw [hS9]; exact Fr.up (by decide)
    have q232 : S9 232 0 = S 232 0 := by rw [hS9]; exact upS_c _ _ (by decide)
    subst hS9
    refine r_istore_n C dX8_placeOf_19 (ls1_3 rfl rfl) ?_
    refine r_aload_n C dX8_placeOf_20 lg_0 ?_
    refine q_V0V C (cM_orders hfl (by assumption) (by omega) (by omega)) dX8_placeOf_21 lk_X8_83 M.1 ⟨Nat.le_of_ble_eq_true rfl, Nat.le_of_ble_eq_true rfl⟩ (catLe (Nat.le_of_ble_eq_true rfl)) ⟨rfl, rfl⟩ rfl (Nat.le_of_ble_eq_true rfl) (Nat.le_of_ble_eq_true rfl) (fun S21 A21 p21 => ?_)
    obtain ⟨rfl, hF21, hL21⟩ := p21
    refine r_iconst C dX8_placeOf_24 ?_
    refine r_istore C dX8_placeOf_25 (ls1_4 rfl rfl) ?_
    first
    | (have e9 : mvW S m = 0 := by
         unfold mvW cI
         repeat' split
         all_goals omega
       have h9 := lp S21 (hFa.tr (hF21.sub (by decide))) ((hF21 249 0 (by decide)).trans (by rw [upS_self, e9])) (hcg ▸ hL21) (led (S 352) (S 480) (S 232 0).toNat) [] (-1) (by omega) rfl rfl
       rw [e9] at h9
       exact h9)
    | (have e9 : mvW S m = 1 := by
         unfold mvW cI
         repeat' split
         all_goals omega
       have h9 := lp S21 (hFa.tr (hF21.sub (by decide))) ((hF21 249 0 (by decide)).trans (by rw [upS_self, e9])) (hcg ▸ hL21) (led (S 352) (S 480) (S 232 0).toNat) [] (-1) (by omega) rfl rfl
       rw [e9] at h9
       exact h9)
  · refine r_iconst C dX8_placeOf_11 ?_
    refine r_goto C (tgt := 16) dX8_placeOf_12 (by decide) ?_
    refine q_V1Z C (cM_goes hfl (by assumption) (by omega)) dX8_placeOf_16 lk_X8_112 M.1 ⟨Nat.le_of_ble_eq_true rfl, Nat.le_of_ble_eq_true rfl⟩ (catLe (Nat.le_of_ble_eq_true rfl)) ⟨rfl, rfl⟩ rfl (Nat.le_of_ble_eq_true rfl) (Nat.le_of_ble_eq_true rfl) (fun z16 S16 A16 i16 p16 => ?_)
    obtain ⟨rfl, rfl, rfl⟩ := p16
    refine r_gS (fun S9 hS9 => ?_)
    have M : RM S9 A := by rw [hS9]; exact M.up (by decide)
    have hcg : led (S9 352) (S9 480) (S9 232 0).toNat = led (S 352) (S 480) (S 232 0).toNat := by rw [hS9, upS_fn _ _ _ (by decide), upS_fn _ _ _ (by decide), upS_c _ _ (by decide)]
    have hFa : Fr [249, 672, 236] S S9 := by rw [hS9]; exact Fr.up (by decide)
    have q232 : S9 232 0 = S 232 0 := by rw [hS9]; exact upS_c _ _ (by decide)
    subst hS9
    refine r_istore_n C dX8_placeOf_19 (ls1_3 rfl rfl) ?_
    refine r_aload_n C dX8_placeOf_20 lg_0 ?_
    refine q_V0V C (cM_orders hfl (by assumption) (by omega) (by omega)) dX8_placeOf_21 lk_X8_83 M.1 ⟨Nat.le_of_ble_eq_true rfl, Nat.le_of_ble_eq_true rfl⟩ (catLe (Nat.le_of_ble_eq_true rfl)) ⟨rfl, rfl⟩ rfl (Nat.le_of_ble_eq_true rfl) (Nat.le_of_ble_eq_true rfl) (fun S21 A21 p21 => ?_)
    obtain ⟨rfl, hF21, hL21⟩ := p21
    refine r_iconst C dX8_placeOf_24 ?_
    refine r_istore C dX8_placeOf_25 (ls1_4 rfl rfl) ?_
    first
    | (have e9 : mvW S m = 0 := by
         unfold mvW cI
         repeat' split
         all_goals omega
       have h9 := lp S21 (hFa.tr (hF21.sub (by decide))) ((hF21 249 0 (by decide)).trans (by rw [upS_self, e9])) (hcg ▸ hL21) (led (S 352) (S 480) (S 232 0).toNat) [] (-1) (by omega) rfl rfl
       rw [e9] at h9
       exact h9)
    | (have e9 : mvW S m = 1 := by
         unfold mvW cI
         repeat' split
         all_goals omega
       have h9 := lp S21 (hFa.tr (hF21.sub (by decide))) ((hF21 249 0 (by decide)).trans (by rw [upS_self, e9])) (hcg ▸ hL21) (led (S 352) (S 480) (S 232 0).toNat) [] (-1) (by omega) rfl rfl
       rw [e9] at h9
       exact h9)
