/-! the reference: what asks for a walk -/
noncomputable def WKr (R : RW) (item day : Int) (ic : Int → Int) : WS := walkW R item day (LdR R) (w00 ic)
def akOk (item day : Int) : Prop := (0 ≤ item ∧ item ≤ 5) ∧ (0 ≤ day ∧ day ≤ 364)
theorem WKr_ok {R : RW} (hR : RG R) {item day : Int} (hit : 0 ≤ item) (hv : RV R item) (ic : Int → Int) : ∃ a', WI R item a' 3660 (WKr R item day ic) := walk_WI hR hit (LdR R) [] (w00 ic) rfl (WI_00 R item ic) hv
theorem WI_len {R : RW} (hR : RG R) {item day : Int} (hit : 0 ≤ item) : ∀ (b a : List Int) (w : WS), LdR R = a ++ b → WI R item a (61 * a.length) w → vld (chg R.kd R.it R.qt item) R.qt (tks R.kd R.it item) w.hand b → (walkW R item day b w).q.length ≤ 60
  | [], a, w, hab, hw, hv => by
    have h0 : (LdR R).length ≤ R.n.toNat := led_len R.dy R.gn R.n.toNat
    have h9 := hR.1
    rw [hab, List.append_nil] at h0
    have h1 := hw.2.2.2.1
    show w.q.length ≤ 60
    omega
  | m :: t, a, w, hab, hw, hv => by
    have hlen : (LdR R).length ≤ R.n.toNat := led_len R.dy R.gn R.n.toNat
    rw [hab, List.length_append, List.length_cons] at hlen
    have h9 := hR.1
    have hm := (led_mem R.dy R.gn R.n.toNat).mp (show m ∈ LdR R by rw [hab]; simp)
    have hnd : (LdR R).Nodup := led_nd R.dy R.gn R.n.toNat
    rw [hab, List.nodup_append] at hnd
    have hma : m ∉ a := fun q => hnd.2.2 m q m List.mem_cons_self rfl
    show (if R.dy m ≤ day then walkW R item day t (stepW R item w m) else w).q.length ≤ 60
    split
    · have h1 := WI_step hR hw (by omega) hit hm.1.1 (by omega) hma hv.1
      have hh : (stepW R item w m).hand = w.hand + chg R.kd R.it R.qt item m := by
        rw [h1.2.2.2.2.2.1, hs_one, ← hw.2.2.2.2.2.1]
      exact WI_len hR hit t (a ++ [m]) _ (by rw [hab]; simp) (WI_more h1 (by rw [List.length_append, List.length_singleton]; omega)) (by rw [hh]; exact hv.2)
    · have := hw.2.2.2.1; omega
theorem WKr_len {R : RW} (hR : RG R) {item day : Int} (hit : 0 ≤ item) (hv : RV R item) (ic : Int → Int) : (WKr R item day ic).q.length ≤ 60 := WI_len hR hit (LdR R) [] (w00 ic) rfl (WI_00 R item ic) hv
/-- what a question of an item and a day answers -/
def ASK (S : ST) (item day v z : Int) (S' : ST) : Prop := (¬ akOk item day ∧ z = 0 ∧ S' = upS S 249 0 1) ∨ (akOk item day ∧ z = v ∧ S' 249 0 = 0 ∧ Fr [237, 238, 239, 244, 832, 864, 896, 928, 992, 1024, 1056, 672, 236, 249] S S')
set_option maxRecDepth 20000 in
theorem cM_asks {G : GT} {l : Launch} (hfl : l.stackTraces = false) {S : ST} {A : AB} {item day : Int} (M0 : RM S A) (hR : RG (rwM S)) (hdy : rI day) (hi : rI item) (hV : ∀ i, 0 ≤ i → i ≤ 5 → RV (rwM S) i) : CT G l yX8_asks cX8_asks 4 (some .boolean) (rmk 4 0 0 98) S A [vR A 7 0, vI item, vI day] (oZ fun z S' A' => b2i (akOk item day) = z ∧ A = A' ∧ ((¬ akOk item day ∧ S' = upS S 249 0 1) ∨ (akOk item day ∧ S' 249 0 = 0 ∧ Fr [237, 238, 239, 244, 832, 864, 896, 928, 992, 1024, 1056, 672, 236, 249] S S' ∧ WD S' (WKr (rwM S) item day (S 928))))) (noX) := by
  have M := M0
  refine ct_ofN (own := RX8) (mn := "asks") rfl rfl (by decide) hfl (lv0 := [some (vR A 7 0), some (vI item), some (vI day), none]) (ent_1 (cat_R _ _ _) (ent_1 rfl (ent_1 rfl (ent_n ent_0)))) rfl ?_
  intro J X C F FX FT FU hW hA
  refine r_aload_n C dX8_asks_0 lg_0 ?_
  refine r_iload_n C dX8_asks_1 lg_1 ?_
  refine q_S1Z C (cM_isItem hfl (by omega)) dX8_asks_2 lk_X8_101 ⟨Nat.le_of_ble_eq_true rfl, Nat.le_of_ble_eq_true rfl⟩ (catLe (Nat.le_of_ble_eq_true rfl)) ⟨rfl, rfl⟩ rfl (Nat.le_of_ble_eq_true rfl) (Nat.le_of_ble_eq_true rfl) (fun z2 S2 A2 i2 p2 => ?_)
  obtain ⟨rfl, rfl, rfl⟩ := p2
  refine rb_ifeq C (tgt := 19) dX8_asks_5 (by decide) (fun c5 => ?_) (fun c5 => ?_)
  · refine r_iconst C dX8_asks_19 ?_
    refine q_V1Z C (cM_goes hfl (by assumption) (by omega)) dX8_asks_20 lk_X8_112 M.1 ⟨Nat.le_of_ble_eq_true rfl, Nat.le_of_ble_eq_true rfl⟩ (catLe (Nat.le_of_ble_eq_true rfl)) ⟨rfl, rfl⟩ rfl (Nat.le_of_ble_eq_true rfl) (Nat.le_of_ble_eq_true rfl) (fun z20 S20 A20 i20 p20 => ?_)
    obtain ⟨rfl, rfl, rfl⟩ := p20
    refine r_gS (fun S9 hS9 => ?_)
    have M : RM S9 A := by rw [hS9]; exact M0.up (by decide)
    have hF9 : Fr [237, 238, 239, 244, 832, 864, 896, 928, 992, 1024, 1056, 672, 236, 249] S S9 := by rw [hS9]; exact Fr.up (by decide)
    have er := rwM_fr hF9
    have x249 := (congrFun (congrFun hS9 249) 0).trans (upS_self _ _ _ _)
    refine r_istore_n C dX8_asks_23 (ls1_3 rfl rfl) ?_
    refine r_iload_n C dX8_asks_24 lg_3 ?_
    refine rb_ifeq C (tgt := 34) dX8_asks_25 (by decide) (fun c25 => ?_) (fun c25 => ?_)
    · refine r_iload_n C dX8_asks_34 lg_3 ?_
      exact f_Z F dX8_asks_35 (b2i_01 _) (by
        first
        | (exfalso; omega)
        | exact ⟨b2i_iff ⟨fun h => by unfold akOk at h; omega, fun h => by omega⟩, rfl, Or.inl ⟨fun h => by unfold akOk at h; omega, hS9⟩⟩
        | (have e928 : S9 928 = S 928 := by rw [hS9]; exact upS_fn _ _ _ (by decide)
           rw [er, e928] at hw9
           exact ⟨b2i_iff ⟨fun h => rfl, fun h => ⟨by omega, by omega⟩⟩, rfl, Or.inr ⟨⟨by omega, by omega⟩, (hF31 249 0 (by decide)).trans x249, hF9.tr (hF31.sub (by decide)), hw9⟩⟩)) (Nat.le_of_ble_eq_true rfl) (Nat.le_of_ble_eq_true rfl)
    · refine r_aload_n C dX8_asks_28 lg_0 ?_
      refine r_iload_n C dX8_asks_29 lg_1 ?_
      refine r_iload_n C dX8_asks_30 lg_2 ?_
      refine q_V2V C (cM_walks hfl M (er ▸ hR) (by omega) (by omega) (er ▸ hV item (by omega) (by omega))) dX8_asks_31 lk_X8_196 M.1 ⟨Nat.le_of_ble_eq_true rfl, Nat.le_of_ble_eq_true rfl⟩ (catLe (Nat.le_of_ble_eq_true rfl)) ⟨rfl, rfl⟩ rfl (Nat.le_of_ble_eq_true rfl) (Nat.le_of_ble_eq_true rfl) (fun S31 A31 p31 => ?_)
      obtain ⟨rfl, hF31, hw31⟩ := p31
      have hw9 : WD S31 (WKr (rwM S9) item day (S9 928)) := hw31
      refine r_iload_n C dX8_asks_34 lg_3 ?_
      exact f_Z F dX8_asks_35 (b2i_01 _) (by
        first
        | (exfalso; omega)
        | exact ⟨b2i_iff ⟨fun h => by unfold akOk at h; omega, fun h => by omega⟩, rfl, Or.inl ⟨fun h => by unfold akOk at h; omega, hS9⟩⟩
        | (have e928 : S9 928 = S 928 := by rw [hS9]; exact upS_fn _ _ _ (by decide)
           rw [er, e928] at hw9
           exact ⟨b2i_iff ⟨fun h => rfl, fun h => ⟨by omega, by omega⟩⟩, rfl, Or.inr ⟨⟨by omega, by omega⟩, (hF31 249 0 (by decide)).trans x249, hF9.tr (hF31.sub (by decide)), hw9⟩⟩)) (Nat.le_of_ble_eq_true rfl) (Nat.le_of_ble_eq_true rfl)
  · refine r_iload_n C dX8_asks_8 lg_2 ?_
    refine q_S1Z C (cM_isDay hfl (by omega)) dX8_asks_9 lk_X8_98 ⟨Nat.le_of_ble_eq_true rfl, Nat.le_of_ble_eq_true rfl⟩ (catLe (Nat.le_of_ble_eq_true rfl)) ⟨rfl, rfl⟩ rfl (Nat.le_of_ble_eq_true rfl) (Nat.le_of_ble_eq_true rfl) (fun z9 S9 A9 i9 p9 => ?_)
    obtain ⟨rfl, rfl, rfl⟩ := p9
    refine rb_ifeq C (tgt := 19) dX8_asks_12 (by decide) (fun c12 => ?_) (fun c12 => ?_)
    · refine r_iconst C dX8_asks_19 ?_
      refine q_V1Z C (cM_goes hfl (by assumption) (by omega)) dX8_asks_20 lk_X8_112 M.1 ⟨Nat.le_of_ble_eq_true rfl, Nat.le_of_ble_eq_true rfl⟩ (catLe (Nat.le_of_ble_eq_true rfl)) ⟨rfl, rfl⟩ rfl (Nat.le_of_ble_eq_true rfl) (Nat.le_of_ble_eq_true rfl) (fun z20 S20 A20 i20 p20 => ?_)
      obtain ⟨rfl, rfl, rfl⟩ := p20
      refine r_gS (fun S9 hS9 => ?_)
      have M : RM S9 A := by rw [hS9]; exact M0.up (by decide)
      have hF9 : Fr [237, 238, 239, 244, 832, 864, 896, 928, 992, 1024, 1056, 672, 236, 249] S S9 := by rw [hS9]; exact Fr.up (by decide)
      have er := rwM_fr hF9
      have x249 := (congrFun (congrFun hS9 249) 0).trans (upS_self _ _ _ _)
      refine r_istore_n C dX8_asks_23 (ls1_3 rfl rfl) ?_
      refine r_iload_n C dX8_asks_24 lg_3 ?_
      refine rb_ifeq C (tgt := 34) dX8_asks_25 (by decide) (fun c25 => ?_) (fun c25 => ?_)
      · refine r_iload_n C dX8_asks_34 lg_3 ?_
        exact f_Z F dX8_asks_35 (b2i_01 _) (by
          first
          | (exfalso; omega)
          | exact ⟨b2i_iff ⟨fun h => by unfold akOk at h; omega, fun h => by omega⟩, rfl, Or.inl ⟨fun h => by unfold akOk at h; omega, hS9⟩⟩
          | (have e928 : S9 928 = S 928 := by rw [hS9]; exact upS_fn _ _ _ (by decide)
             rw [er, e928] at hw9
             exact ⟨b2i_iff ⟨fun h => rfl, fun h => ⟨by omega, by omega⟩⟩, rfl, Or.inr ⟨⟨by omega, by omega⟩, (hF31 249 0 (by decide)).trans x249, hF9.tr (hF31.sub (by decide)), hw9⟩⟩)) (Nat.le_of_ble_eq_true rfl) (Nat.le_of_ble_eq_true rfl)
      · refine r_aload_n C dX8_asks_28 lg_0 ?_
        refine r_iload_n C dX8_asks_29 lg_1 ?_
        refine r_iload_n C dX8_asks_30 lg_2 ?_
        refine q_V2V C (cM_walks hfl M (er ▸ hR) (by omega) (by omega) (er ▸ hV item (by omega) (by omega))) dX8_asks_31 lk_X8_196 M.1 ⟨Nat.le_of_ble_eq_true rfl, Nat.le_of_ble_eq_true rfl⟩ (catLe (Nat.le_of_ble_eq_true rfl)) ⟨rfl, rfl⟩ rfl (Nat.le_of_ble_eq_true rfl) (Nat.le_of_ble_eq_true rfl) (fun S31 A31 p31 => ?_)
        obtain ⟨rfl, hF31, hw31⟩ := p31
        have hw9 : WD S31 (WKr (rwM S9) item day (S9 928)) := hw31
        refine r_iload_n C dX8_asks_34 lg_3 ?_
        exact f_Z F dX8_asks_35 (b2i_01 _) (by
          first
          | (exfalso; omega)
          | exact ⟨b2i_iff ⟨fun h => by unfold akOk at h; omega, fun h => by omega⟩, rfl, Or.inl ⟨fun h => by unfold akOk at h; omega, hS9⟩⟩
          | (have e928 : S9 928 = S 928 := by rw [hS9]; exact upS_fn _ _ _ (by decide)
             rw [er, e928] at hw9
             exact ⟨b2i_iff ⟨fun h => rfl, fun h => ⟨by omega, by omega⟩⟩, rfl, Or.inr ⟨⟨by omega, by omega⟩, (hF31 249 0 (by decide)).trans x249, hF9.tr (hF31.sub (by decide)), hw9⟩⟩)) (Nat.le_of_ble_eq_true rfl) (Nat.le_of_ble_eq_true rfl)
    · refine r_iconst C dX8_asks_15 ?_
      refine r_goto C (tgt := 20) dX8_asks_16 (by decide) ?_
      refine q_V1Z C (cM_goes hfl (by assumption) (by omega)) dX8_asks_20 lk_X8_112 M.1 ⟨Nat.le_of_ble_eq_true rfl, Nat.le_of_ble_eq_true rfl⟩ (catLe (Nat.le_of_ble_eq_true rfl)) ⟨rfl, rfl⟩ rfl (Nat.le_of_ble_eq_true rfl) (Nat.le_of_ble_eq_true rfl) (fun z20 S20 A20 i20 p20 => ?_)
      obtain ⟨rfl, rfl, rfl⟩ := p20
      refine r_gS (fun S9 hS9 => ?_)
      have M : RM S9 A := by rw [hS9]; exact M0.up (by decide)
      have hF9 : Fr [237, 238, 239, 244, 832, 864, 896, 928, 992, 1024, 1056, 672, 236, 249] S S9 := by rw [hS9]; exact Fr.up (by decide)
      have er := rwM_fr hF9
      have x249 := (congrFun (congrFun hS9 249) 0).trans (upS_self _ _ _ _)
      refine r_istore_n C dX8_asks_23 (ls1_3 rfl rfl) ?_
      refine r_iload_n C dX8_asks_24 lg_3 ?_
      refine rb_ifeq C (tgt := 34) dX8_asks_25 (by decide) (fun c25 => ?_) (fun c25 => ?_)
      · refine r_iload_n C dX8_asks_34 lg_3 ?_
        exact f_Z F dX8_asks_35 (b2i_01 _) (by
          first
          | (exfalso; omega)
          | exact ⟨b2i_iff ⟨fun h => by unfold akOk at h; omega, fun h => by omega⟩, rfl, Or.inl ⟨fun h => by unfold akOk at h; omega, hS9⟩⟩
          | (have e928 : S9 928 = S 928 := by rw [hS9]; exact upS_fn _ _ _ (by decide)
             rw [er, e928] at hw9
             exact ⟨b2i_iff ⟨fun h => rfl, fun h => ⟨by omega, by omega⟩⟩, rfl, Or.inr ⟨⟨by omega, by omega⟩, (hF31 249 0 (by decide)).trans x249, hF9.tr (hF31.sub (by decide)), hw9⟩⟩)) (Nat.le_of_ble_eq_true rfl) (Nat.le_of_ble_eq_true rfl)
      · refine r_aload_n C dX8_asks_28 lg_0 ?_
        refine r_iload_n C dX8_asks_29 lg_1 ?_
        refine r_iload_n C dX8_asks_30 lg_2 ?_
        refine q_V2V C (cM_walks hfl M (er ▸ hR) (by omega) (by omega) (er ▸ hV item (by omega) (by omega))) dX8_asks_31 lk_X8_196 M.1 ⟨Nat.le_of_ble_eq_true rfl, Nat.le_of_ble_eq_true rfl⟩ (catLe (Nat.le_of_ble_eq_true rfl)) ⟨rfl, rfl⟩ rfl (Nat.le_of_ble_eq_true rfl) (Nat.le_of_ble_eq_true rfl) (fun S31 A31 p31 => ?_)
        obtain ⟨rfl, hF31, hw31⟩ := p31
        have hw9 : WD S31 (WKr (rwM S9) item day (S9 928)) := hw31
        refine r_iload_n C dX8_asks_34 lg_3 ?_
        exact f_Z F dX8_asks_35 (b2i_01 _) (by
          first
          | (exfalso; omega)
          | exact ⟨b2i_iff ⟨fun h => by unfold akOk at h; omega, fun h => by omega⟩, rfl, Or.inl ⟨fun h => by unfold akOk at h; omega, hS9⟩⟩
          | (have e928 : S9 928 = S 928 := by rw [hS9]; exact upS_fn _ _ _ (by decide)
             rw [er, e928] at hw9
             exact ⟨b2i_iff ⟨fun h => rfl, fun h => ⟨by omega, by omega⟩⟩, rfl, Or.inr ⟨⟨by omega, by omega⟩, (hF31 249 0 (by decide)).trans x249, hF9.tr (hF31.sub (by decide)), hw9⟩⟩)) (Nat.le_of_ble_eq_true rfl) (Nat.le_of_ble_eq_true rfl)
set_option maxRecDepth 20000 in
theorem cM_onHand {G : GT} {l : Launch} (hfl : l.stackTraces = false) {S : ST} {A : AB} {item day : Int} (M0 : RM S A) (hR : RG (rwM S)) (hdy : rI day) (hi : rI item) (hV : ∀ i, 0 ≤ i → i ≤ 5 → RV (rwM S) i) : CT G l yX8_onHand cX8_onHand 3 (some .int) (rmk 5 0 0 121) S A [vR A 7 0, vI item, vI day] (oI fun z S' A' => A = A' ∧ ASK S item day ((WKr (rwM S) item day (S 928)).hand) z S') (noX) := by
  have M := M0
  refine ct_ofN (own := RX8) (mn := "onHand") rfl rfl (by decide) hfl (lv0 := [some (vR A 7 0), some (vI item), some (vI day)]) (ent_1 (cat_R _ _ _) (ent_1 rfl (ent_1 rfl ent_0))) rfl ?_
  intro J X C F FX FT FU hW hA
  refine r_aload_n C dX8_onHand_0 lg_0 ?_
  refine r_iload_n C dX8_onHand_1 lg_1 ?_
  refine r_iload_n C dX8_onHand_2 lg_2 ?_
  refine q_V2Z C (cM_asks hfl M0 hR hdy hi hV) dX8_onHand_3 lk_X8_199 M.1 ⟨Nat.le_of_ble_eq_true rfl, Nat.le_of_ble_eq_true rfl⟩ (catLe (Nat.le_of_ble_eq_true rfl)) ⟨rfl, rfl⟩ rfl (Nat.le_of_ble_eq_true rfl) (Nat.le_of_ble_eq_true rfl) (fun z3 S3 A3 i3 p3 => ?_)
  obtain ⟨rfl, rfl, h9⟩ := p3
  have M : RM S3 A := by
    rcases h9 with ⟨h, e⟩ | ⟨h, h1, h2, h3⟩
    · rw [e]; exact M0.up (by decide)
    · exact M0.of h2 (by decide)
  refine rb_ifeq C (tgt := 16) dX8_onHand_6 (by decide) (fun c6 => ?_) (fun c6 => ?_)
  · have h9 : ¬ akOk item day ∧ S3 = upS S 249 0 1 := h9.resolve_right (fun q => c6 q.1)
    refine r_iconst C dX8_onHand_16 ?_
    exact f_I F dX8_onHand_17 (by first | omega | exact g10) (by
      first
      | exact ⟨rfl, Or.inl ⟨c6, rfl, h9.2⟩⟩
      | exact ⟨rfl, Or.inr ⟨c6, x237_0, h1, h2⟩⟩) (Nat.le_of_ble_eq_true rfl) (Nat.le_of_ble_eq_true rfl)
  · obtain ⟨h0, h1, h2, h3⟩ := h9.resolve_left (fun q => q.1 c6)
    obtain ⟨x237_0, x238_0, x239_0, x832_0, x832_1, x864_0, x864_1, x896_0, x896_1, hq, hic⟩ := h3
    refine r_aload_n C dX8_onHand_9 lg_0 ?_
    refine r_getI C 237 dX8_onHand_10 fg_X8_175_7 rfl rfl M.1 (fun g10 => ?_)
    refine r_goto C (tgt := 17) dX8_onHand_13 (by decide) ?_
    exact f_I F dX8_onHand_17 (by first | omega | exact g10) (by
      first
      | exact ⟨rfl, Or.inl ⟨c6, rfl, h9.2⟩⟩
      | exact ⟨rfl, Or.inr ⟨c6, x237_0, h1, h2⟩⟩) (Nat.le_of_ble_eq_true rfl) (Nat.le_of_ble_eq_true rfl)
set_option maxRecDepth 20000 in
theorem cM_received {G : GT} {l : Launch} (hfl : l.stackTraces = false) {S : ST} {A : AB} {item day : Int} (M0 : RM S A) (hR : RG (rwM S)) (hdy : rI day) (hi : rI item) (hV : ∀ i, 0 ≤ i → i ≤ 5 → RV (rwM S) i) : CT G l yX8_received cX8_received 3 (some .long) (rmk 5 0 0 121) S A [vR A 7 0, vI item, vI day] (oJ fun z S' A' => A = A' ∧ ASK S item day ((WKr (rwM S) item day (S 928)).rcv) z S') (noX) := by
  have M := M0
  refine ct_ofN (own := RX8) (mn := "received") rfl rfl (by decide) hfl (lv0 := [some (vR A 7 0), some (vI item), some (vI day)]) (ent_1 (cat_R _ _ _) (ent_1 rfl (ent_1 rfl ent_0))) rfl ?_
  intro J X C F FX FT FU hW hA
  refine r_aload_n C dX8_received_0 lg_0 ?_
  refine r_iload_n C dX8_received_1 lg_1 ?_
  refine r_iload_n C dX8_received_2 lg_2 ?_
  refine q_V2Z C (cM_asks hfl M0 hR hdy hi hV) dX8_received_3 lk_X8_199 M.1 ⟨Nat.le_of_ble_eq_true rfl, Nat.le_of_ble_eq_true rfl⟩ (catLe (Nat.le_of_ble_eq_true rfl)) ⟨rfl, rfl⟩ rfl (Nat.le_of_ble_eq_true rfl) (Nat.le_of_ble_eq_true rfl) (fun z3 S3 A3 i3 p3 => ?_)
  obtain ⟨rfl, rfl, h9⟩ := p3
  have M : RM S3 A := by
    rcases h9 with ⟨h, e⟩ | ⟨h, h1, h2, h3⟩
    · rw [e]; exact M0.up (by decide)
    · exact M0.of h2 (by decide)
  refine rb_ifeq C (tgt := 16) dX8_received_6 (by decide) (fun c6 => ?_) (fun c6 => ?_)
  · have h9 : ¬ akOk item day ∧ S3 = upS S 249 0 1 := h9.resolve_right (fun q => c6 q.1)
    refine r_lconst C dX8_received_16 0 rfl ?_
    exact f_J F dX8_received_17 (by first | omega | exact g10) (by
      first
      | exact ⟨rfl, Or.inl ⟨c6, rfl, h9.2⟩⟩
      | exact ⟨rfl, Or.inr ⟨c6, x239_0, h1, h2⟩⟩) (Nat.le_of_ble_eq_true rfl) (Nat.le_of_ble_eq_true rfl)
  · obtain ⟨h0, h1, h2, h3⟩ := h9.resolve_left (fun q => q.1 c6)
    obtain ⟨x237_0, x238_0, x239_0, x832_0, x832_1, x864_0, x864_1, x896_0, x896_1, hq, hic⟩ := h3
    refine r_aload_n C dX8_received_9 lg_0 ?_
    refine r_getJ C 239 dX8_received_10 fg_X8_171_7 rfl rfl M.1 (fun g10 => ?_)
    refine r_goto C (tgt := 17) dX8_received_13 (by decide) ?_
    exact f_J F dX8_received_17 (by first | omega | exact g10) (by
      first
      | exact ⟨rfl, Or.inl ⟨c6, rfl, h9.2⟩⟩
      | exact ⟨rfl, Or.inr ⟨c6, x239_0, h1, h2⟩⟩) (Nat.le_of_ble_eq_true rfl) (Nat.le_of_ble_eq_true rfl)
set_option maxRecDepth 20000 in
theorem cM_layers {G : GT} {l : Launch} (hfl : l.stackTraces = false) {S : ST} {A : AB} {item day : Int} (M0 : RM S A) (hR : RG (rwM S)) (hdy : rI day) (hi : rI item) (hV : ∀ i, 0 ≤ i → i ≤ 5 → RV (rwM S) i) : CT G l yX8_layers cX8_layers 3 (some .int) (rmk 5 0 0 121) S A [vR A 7 0, vI item, vI day] (oI fun z S' A' => A = A' ∧ ASK S item day (((WKr (rwM S) item day (S 928)).q.length : Int)) z S') (noX) := by
  have M := M0
  refine ct_ofN (own := RX8) (mn := "layers") rfl rfl (by decide) hfl (lv0 := [some (vR A 7 0), some (vI item), some (vI day)]) (ent_1 (cat_R _ _ _) (ent_1 rfl (ent_1 rfl ent_0))) rfl ?_
  intro J X C F FX FT FU hW hA
  refine r_aload_n C dX8_layers_0 lg_0 ?_
  refine r_iload_n C dX8_layers_1 lg_1 ?_
  refine r_iload_n C dX8_layers_2 lg_2 ?_
  refine q_V2Z C (cM_asks hfl M0 hR hdy hi hV) dX8_layers_3 lk_X8_199 M.1 ⟨Nat.le_of_ble_eq_true rfl, Nat.le_of_ble_eq_true rfl⟩ (catLe (Nat.le_of_ble_eq_true rfl)) ⟨rfl, rfl⟩ rfl (Nat.le_of_ble_eq_true rfl) (Nat.le_of_ble_eq_true rfl) (fun z3 S3 A3 i3 p3 => ?_)
  obtain ⟨rfl, rfl, h9⟩ := p3
  have M : RM S3 A := by
    rcases h9 with ⟨h, e⟩ | ⟨h, h1, h2, h3⟩
    · rw [e]; exact M0.up (by decide)
    · exact M0.of h2 (by decide)
  refine rb_ifeq C (tgt := 16) dX8_layers_6 (by decide) (fun c6 => ?_) (fun c6 => ?_)
  · have h9 : ¬ akOk item day ∧ S3 = upS S 249 0 1 := h9.resolve_right (fun q => c6 q.1)
    refine r_iconst C dX8_layers_16 ?_
    exact f_I F dX8_layers_17 (by first | omega | exact g10) (by
      first
      | exact ⟨rfl, Or.inl ⟨c6, rfl, h9.2⟩⟩
      | exact ⟨rfl, Or.inr ⟨c6, hq.1, h1, h2⟩⟩) (Nat.le_of_ble_eq_true rfl) (Nat.le_of_ble_eq_true rfl)
  · obtain ⟨h0, h1, h2, h3⟩ := h9.resolve_left (fun q => q.1 c6)
    obtain ⟨x237_0, x238_0, x239_0, x832_0, x832_1, x864_0, x864_1, x896_0, x896_1, hq, hic⟩ := h3
    refine r_aload_n C dX8_layers_9 lg_0 ?_
    refine r_getI C 244 dX8_layers_10 fg_X8_161_7 rfl rfl M.1 (fun g10 => ?_)
    refine r_goto C (tgt := 17) dX8_layers_13 (by decide) ?_
    exact f_I F dX8_layers_17 (by first | omega | exact g10) (by
      first
      | exact ⟨rfl, Or.inl ⟨c6, rfl, h9.2⟩⟩
      | exact ⟨rfl, Or.inr ⟨c6, hq.1, h1, h2⟩⟩) (Nat.le_of_ble_eq_true rfl) (Nat.le_of_ble_eq_true rfl)
set_option maxRecDepth 20000 in
theorem cM_issued {G : GT} {l : Launch} (hfl : l.stackTraces = false) {S : ST} {A : AB} {item day y : Int} (M0 : RM S A) (hR : RG (rwM S)) (hdy : rI day) (hi : rI item) (hV : ∀ i, 0 ≤ i → i ≤ 5 → RV (rwM S) i) (hy : rI y) : CT G l yX8_issued cX8_issued 4 (some .long) (rmk 5 0 0 121) S A [vR A 7 0, vI item, vI day, vI y] (oJ fun z S' A' => A = A' ∧ ASK S item day (cI (y = 0) (WKr (rwM S) item day (S 928)).i0 (WKr (rwM S) item day (S 928)).i1) z S') (noX) := by
  have M := M0
  refine ct_ofN (own := RX8) (mn := "issued") rfl rfl (by decide) hfl (lv0 := [some (vR A 7 0), some (vI item), some (vI day), some (vI y)]) (ent_1 (cat_R _ _ _) (ent_1 rfl (ent_1 rfl (ent_1 rfl ent_0)))) rfl ?_
  intro J X C F FX FT FU hW hA
  refine r_aload_n C dX8_issued_0 lg_0 ?_
  refine r_iload_n C dX8_issued_1 lg_1 ?_
  refine r_iload_n C dX8_issued_2 lg_2 ?_
  refine q_V2Z C (cM_asks hfl M0 hR hdy hi hV) dX8_issued_3 lk_X8_199 M.1 ⟨Nat.le_of_ble_eq_true rfl, Nat.le_of_ble_eq_true rfl⟩ (catLe (Nat.le_of_ble_eq_true rfl)) ⟨rfl, rfl⟩ rfl (Nat.le_of_ble_eq_true rfl) (Nat.le_of_ble_eq_true rfl) (fun z3 S3 A3 i3 p3 => ?_)
  obtain ⟨rfl, rfl, h9⟩ := p3
  have M : RM S3 A := by
    rcases h9 with ⟨h, e⟩ | ⟨h, h1, h2, h3⟩
    · rw [e]; exact M0.up (by decide)
    · exact M0.of h2 (by decide)
  refine rb_ifeq C (tgt := 26) dX8_issued_6 (by decide) (fun c6 => ?_) (fun c6 => ?_)
  · have h9 : ¬ akOk item day ∧ S3 = upS S 249 0 1 := h9.resolve_right (fun q => c6 q.1)
    refine r_lconst C dX8_issued_26 0 rfl ?_
    exact f_J F dX8_issued_27 (by first | omega | exact g22) (by
      first
      | exact ⟨rfl, Or.inl ⟨c6, rfl, h9.2⟩⟩
      | exact ⟨rfl, Or.inr ⟨c6, (by first | (rw [cI_t c14]; exact x832_0) | (rw [cI_f c14]; exact x832_1)), h1, h2⟩⟩) (Nat.le_of_ble_eq_true rfl) (Nat.le_of_ble_eq_true rfl)
  · obtain ⟨h0, h1, h2, h3⟩ := h9.resolve_left (fun q => q.1 c6)
    obtain ⟨x237_0, x238_0, x239_0, x832_0, x832_1, x864_0, x864_1, x896_0, x896_1, hq, hic⟩ := h3
    refine r_aload_n C dX8_issued_9 lg_0 ?_
    refine r_getA C 240 26 dX8_issued_10 fg_X8_46_7 rfl rfl M.1 (fun g10 => ?_)
    refine r_iload_n C dX8_issued_13 lg_3 ?_
    refine r_ifeq C (tgt := 21) dX8_issued_14 (by decide) (by omega) (fun c14 => ?_) (fun c14 => ?_)
    · refine r_iconst C dX8_issued_21 ?_
      refine r_lald C (N := 2) 832 dX8_issued_22 (by decide) rfl rfl (M.g (j := 16) (by decide)) (by omega) (by omega) (by omega) (fun g22 => ?_)
      refine r_goto C (tgt := 27) dX8_issued_23 (by decide) ?_
      exact f_J F dX8_issued_27 (by first | omega | exact g22) (by
        first
        | exact ⟨rfl, Or.inl ⟨c6, rfl, h9.2⟩⟩
        | exact ⟨rfl, Or.inr ⟨c6, (by first | (rw [cI_t c14]; exact x832_0) | (rw [cI_f c14]; exact x832_1)), h1, h2⟩⟩) (Nat.le_of_ble_eq_true rfl) (Nat.le_of_ble_eq_true rfl)
    · refine r_iconst C dX8_issued_17 ?_
      refine r_goto C (tgt := 22) dX8_issued_18 (by decide) ?_
      refine r_lald C (N := 2) 832 dX8_issued_22 (by decide) rfl rfl (M.g (j := 16) (by decide)) (by omega) (by omega) (by omega) (fun g22 => ?_)
      refine r_goto C (tgt := 27) dX8_issued_23 (by decide) ?_
      exact f_J F dX8_issued_27 (by first | omega | exact g22) (by
        first
        | exact ⟨rfl, Or.inl ⟨c6, rfl, h9.2⟩⟩
        | exact ⟨rfl, Or.inr ⟨c6, (by first | (rw [cI_t c14]; exact x832_0) | (rw [cI_f c14]; exact x832_1)), h1, h2⟩⟩) (Nat.le_of_ble_eq_true rfl) (Nat.le_of_ble_eq_true rfl)
set_option maxRecDepth 20000 in
theorem cM_revalued {G : GT} {l : Launch} (hfl : l.stackTraces = false) {S : ST} {A : AB} {item day y : Int} (M0 : RM S A) (hR : RG (rwM S)) (hdy : rI day) (hi : rI item) (hV : ∀ i, 0 ≤ i → i ≤ 5 → RV (rwM S) i) (hy : rI y) : CT G l yX8_revalued cX8_revalued 4 (some .long) (rmk 5 0 0 121) S A [vR A 7 0, vI item, vI day, vI y] (oJ fun z S' A' => A = A' ∧ ASK S item day (cI (y = 0) (WKr (rwM S) item day (S 928)).v0 (WKr (rwM S) item day (S 928)).v1) z S') (noX) := by
  have M := M0
  refine ct_ofN (own := RX8) (mn := "revalued") rfl rfl (by decide) hfl (lv0 := [some (vR A 7 0), some (vI item), some (vI day), some (vI y)]) (ent_1 (cat_R _ _ _) (ent_1 rfl (ent_1 rfl (ent_1 rfl ent_0)))) rfl ?_
  intro J X C F FX FT FU hW hA
  refine r_aload_n C dX8_revalued_0 lg_0 ?_
  refine r_iload_n C dX8_revalued_1 lg_1 ?_
  refine r_iload_n C dX8_revalued_2 lg_2 ?_
  refine q_V2Z C (cM_asks hfl M0 hR hdy hi hV) dX8_revalued_3 lk_X8_199 M.1 ⟨Nat.le_of_ble_eq_true rfl, Nat.le_of_ble_eq_true rfl⟩ (catLe (Nat.le_of_ble_eq_true rfl)) ⟨rfl, rfl⟩ rfl (Nat.le_of_ble_eq_true rfl) (Nat.le_of_ble_eq_true rfl) (fun z3 S3 A3 i3 p3 => ?_)
  obtain ⟨rfl, rfl, h9⟩ := p3
  have M : RM S3 A := by
    rcases h9 with ⟨h, e⟩ | ⟨h, h1, h2, h3⟩
    · rw [e]; exact M0.up (by decide)
    · exact M0.of h2 (by decide)
  refine rb_ifeq C (tgt := 26) dX8_revalued_6 (by decide) (fun c6 => ?_) (fun c6 => ?_)
  · have h9 : ¬ akOk item day ∧ S3 = upS S 249 0 1 := h9.resolve_right (fun q => c6 q.1)
    refine r_lconst C dX8_revalued_26 0 rfl ?_
    exact f_J F dX8_revalued_27 (by first | omega | exact g22) (by
      first
      | exact ⟨rfl, Or.inl ⟨c6, rfl, h9.2⟩⟩
      | exact ⟨rfl, Or.inr ⟨c6, (by first | (rw [cI_t c14]; exact x864_0) | (rw [cI_f c14]; exact x864_1)), h1, h2⟩⟩) (Nat.le_of_ble_eq_true rfl) (Nat.le_of_ble_eq_true rfl)
  · obtain ⟨h0, h1, h2, h3⟩ := h9.resolve_left (fun q => q.1 c6)
    obtain ⟨x237_0, x238_0, x239_0, x832_0, x832_1, x864_0, x864_1, x896_0, x896_1, hq, hic⟩ := h3
    refine r_aload_n C dX8_revalued_9 lg_0 ?_
    refine r_getA C 241 27 dX8_revalued_10 fg_X8_49_7 rfl rfl M.1 (fun g10 => ?_)
    refine r_iload_n C dX8_revalued_13 lg_3 ?_
    refine r_ifeq C (tgt := 21) dX8_revalued_14 (by decide) (by omega) (fun c14 => ?_) (fun c14 => ?_)
    · refine r_iconst C dX8_revalued_21 ?_
      refine r_lald C (N := 2) 864 dX8_revalued_22 (by decide) rfl rfl (M.g (j := 17) (by decide)) (by omega) (by omega) (by omega) (fun g22 => ?_)
      refine r_goto C (tgt := 27) dX8_revalued_23 (by decide) ?_
      exact f_J F dX8_revalued_27 (by first | omega | exact g22) (by
        first
        | exact ⟨rfl, Or.inl ⟨c6, rfl, h9.2⟩⟩
        | exact ⟨rfl, Or.inr ⟨c6, (by first | (rw [cI_t c14]; exact x864_0) | (rw [cI_f c14]; exact x864_1)), h1, h2⟩⟩) (Nat.le_of_ble_eq_true rfl) (Nat.le_of_ble_eq_true rfl)
    · refine r_iconst C dX8_revalued_17 ?_
      refine r_goto C (tgt := 22) dX8_revalued_18 (by decide) ?_
      refine r_lald C (N := 2) 864 dX8_revalued_22 (by decide) rfl rfl (M.g (j := 17) (by decide)) (by omega) (by omega) (by omega) (fun g22 => ?_)
      refine r_goto C (tgt := 27) dX8_revalued_23 (by decide) ?_
      exact f_J F dX8_revalued_27 (by first | omega | exact g22) (by
        first
        | exact ⟨rfl, Or.inl ⟨c6, rfl, h9.2⟩⟩
        | exact ⟨rfl, Or.inr ⟨c6, (by first | (rw [cI_t c14]; exact x864_0) | (rw [cI_f c14]; exact x864_1)), h1, h2⟩⟩) (Nat.le_of_ble_eq_true rfl) (Nat.le_of_ble_eq_true rfl)
set_option maxRecDepth 20000 in
theorem cM_expensed {G : GT} {l : Launch} (hfl : l.stackTraces = false) {S : ST} {A : AB} {item day y : Int} (M0 : RM S A) (hR : RG (rwM S)) (hdy : rI day) (hi : rI item) (hV : ∀ i, 0 ≤ i → i ≤ 5 → RV (rwM S) i) (hy : rI y) : CT G l yX8_expensed cX8_expensed 4 (some .long) (rmk 5 0 0 121) S A [vR A 7 0, vI item, vI day, vI y] (oJ fun z S' A' => A = A' ∧ ASK S item day (cI (y = 0) (WKr (rwM S) item day (S 928)).e0 (WKr (rwM S) item day (S 928)).e1) z S') (noX) := by
  have M := M0
  refine ct_ofN (own := RX8) (mn := "expensed") rfl rfl (by decide) hfl (lv0 := [some (vR A 7 0), some (vI item), some (vI day), some (vI y)]) (ent_1 (cat_R _ _ _) (ent_1 rfl (ent_1 rfl (ent_1 rfl ent_0)))) rfl ?_
  intro J X C F FX FT FU hW hA
  refine r_aload_n C dX8_expensed_0 lg_0 ?_
  refine r_iload_n C dX8_expensed_1 lg_1 ?_
  refine r_iload_n C dX8_expensed_2 lg_2 ?_
  refine q_V2Z C (cM_asks hfl M0 hR hdy hi hV) dX8_expensed_3 lk_X8_199 M.1 ⟨Nat.le_of_ble_eq_true rfl, Nat.le_of_ble_eq_true rfl⟩ (catLe (Nat.le_of_ble_eq_true rfl)) ⟨rfl, rfl⟩ rfl (Nat.le_of_ble_eq_true rfl) (Nat.le_of_ble_eq_true rfl) (fun z3 S3 A3 i3 p3 => ?_)
  obtain ⟨rfl, rfl, h9⟩ := p3
  have M : RM S3 A := by
    rcases h9 with ⟨h, e⟩ | ⟨h, h1, h2, h3⟩
    · rw [e]; exact M0.up (by decide)
    · exact M0.of h2 (by decide)
  refine rb_ifeq C (tgt := 26) dX8_expensed_6 (by decide) (fun c6 => ?_) (fun c6 => ?_)
  · have h9 : ¬ akOk item day ∧ S3 = upS S 249 0 1 := h9.resolve_right (fun q => c6 q.1)
    refine r_lconst C dX8_expensed_26 0 rfl ?_
    exact f_J F dX8_expensed_27 (by first | omega | exact g22) (by
      first
      | exact ⟨rfl, Or.inl ⟨c6, rfl, h9.2⟩⟩
      | exact ⟨rfl, Or.inr ⟨c6, (by first | (rw [cI_t c14]; exact x896_0) | (rw [cI_f c14]; exact x896_1)), h1, h2⟩⟩) (Nat.le_of_ble_eq_true rfl) (Nat.le_of_ble_eq_true rfl)
  · obtain ⟨h0, h1, h2, h3⟩ := h9.resolve_left (fun q => q.1 c6)
    obtain ⟨x237_0, x238_0, x239_0, x832_0, x832_1, x864_0, x864_1, x896_0, x896_1, hq, hic⟩ := h3
    refine r_aload_n C dX8_expensed_9 lg_0 ?_
    refine r_getA C 242 28 dX8_expensed_10 fg_X8_52_7 rfl rfl M.1 (fun g10 => ?_)
    refine r_iload_n C dX8_expensed_13 lg_3 ?_
    refine r_ifeq C (tgt := 21) dX8_expensed_14 (by decide) (by omega) (fun c14 => ?_) (fun c14 => ?_)
    · refine r_iconst C dX8_expensed_21 ?_
      refine r_lald C (N := 2) 896 dX8_expensed_22 (by decide) rfl rfl (M.g (j := 18) (by decide)) (by omega) (by omega) (by omega) (fun g22 => ?_)
      refine r_goto C (tgt := 27) dX8_expensed_23 (by decide) ?_
      exact f_J F dX8_expensed_27 (by first | omega | exact g22) (by
        first
        | exact ⟨rfl, Or.inl ⟨c6, rfl, h9.2⟩⟩
        | exact ⟨rfl, Or.inr ⟨c6, (by first | (rw [cI_t c14]; exact x896_0) | (rw [cI_f c14]; exact x896_1)), h1, h2⟩⟩) (Nat.le_of_ble_eq_true rfl) (Nat.le_of_ble_eq_true rfl)
    · refine r_iconst C dX8_expensed_17 ?_
      refine r_goto C (tgt := 22) dX8_expensed_18 (by decide) ?_
      refine r_lald C (N := 2) 896 dX8_expensed_22 (by decide) rfl rfl (M.g (j := 18) (by decide)) (by omega) (by omega) (by omega) (fun g22 => ?_)
      refine r_goto C (tgt := 27) dX8_expensed_23 (by decide) ?_
      exact f_J F dX8_expensed_27 (by first | omega | exact g22) (by
        first
        | exact ⟨rfl, Or.inl ⟨c6, rfl, h9.2⟩⟩
        | exact ⟨rfl, Or.inr ⟨c6, (by first | (rw [cI_t c14]; exact x896_0) | (rw [cI_f c14]; exact x896_1)), h1, h2⟩⟩) (Nat.le_of_ble_eq_true rfl) (Nat.le_of_ble_eq_true rfl)
set_option maxRecDepth 20000 in
theorem cM_value {G : GT} {l : Launch} (hfl : l.stackTraces = false) {S : ST} {A : AB} {item day y : Int} (M0 : RM S A) (hR : RG (rwM S)) (hdy : rI day) (hi : rI item) (hV : ∀ i, 0 ≤ i → i ≤ 5 → RV (rwM S) i) (hy : rI y) : CT G l yX8_value cX8_value 7 (some .long) (rmk 5 0 0 121) S A [vR A 7 0, vI item, vI day, vI y] (oJ fun z S' A' => A = A' ∧ ASK S item day (cI (y = 0) (qc (WKr (rwM S) item day (S 928)).q) (WKr (rwM S) item day (S 928)).avg) z S') (noX) := by
  have M := M0
  refine ct_ofN (own := RX8) (mn := "value") rfl rfl (by decide) hfl (lv0 := [some (vR A 7 0), some (vI item), some (vI day), some (vI y), none, none, none]) (ent_1 (cat_R _ _ _) (ent_1 rfl (ent_1 rfl (ent_1 rfl (ent_n (ent_n (ent_n ent_0))))))) rfl ?_
  intro J X C F FX FT FU hW hA
  have lp : ∀ (S3 : ST) (h0 : akOk item day) (h1 : S3 249 0 = 0) (h2 : Fr [237, 238, 239, 244, 832, 864, 896, 928, 992, 1024, 1056, 672, 236, 249] S S3) (h3 : WD S3 (WKr (rwM S) item day (S 928))) (b a : QL3) (hab : (WKr (rwM S) item day (S 928)).q = a ++ b), J 17 [some (vR A 7 0), some (vI item), some (vI day), some (vI y), some (vL (qc a)), none, some (vI (a.length : Int))] [] S3 A 0 0 := by
    intro S3 h0 h1 h2 h3 b
    have M : RM S3 A := M0.of h2 (by decide)
    have hlen := WKr_len hR h0.1.1 (hV item h0.1.1 h0.1.2) (S 928) (day := day)
    obtain ⟨a', hok, hW2⟩ := WKr_ok hR h0.1.1 (hV item h0.1.1 h0.1.2) (S 928) (day := day)
    have hqb : qc (WKr (rwM S) item day (S 928)).q ≤ 2000000000 * 3660 := hW2.2.2.2.2.2.2.2.1
    have hqn := qc_nn hok
    have hab9 : True := trivial
    obtain ⟨x237_0, x238_0, x239_0, x832_0, x832_1, x864_0, x864_1, x896_0, x896_1, hq, hic⟩ := h3
    have h244 := hq.1
    induction b with
    | nil =>
      intro a hab
      rw [List.append_nil] at hab
      rw [hab] at h244 hlen hqb hqn
      refine r_iload C dX8_value_17 lg_6 ?_
      refine r_aload_n C dX8_value_19 lg_0 ?_
      refine r_getI C 244 dX8_value_20 fg_X8_161_7 rfl rfl M.1 (fun g20 => ?_)
      refine r_icge C (tgt := 44) dX8_value_23 (by decide) (by omega) (by omega) (fun c23 => ?_) (fun c23 => ?_)
      · refine r_iload_n C dX8_value_44 lg_3 ?_
        refine r_ifeq C (tgt := 55) dX8_value_45 (by decide) (by omega) (fun c45 => ?_) (fun c45 => ?_)
        · refine r_lload C dX8_value_55 lg_4 ?_
          exact f_J F dX8_value_57 (by first | omega | exact g49) ⟨rfl, Or.inr ⟨h0, by first | (rw [cI_f c45]; exact x238_0) | (rw [cI_t c45, hab]), h1, h2⟩⟩ (Nat.le_of_ble_eq_true rfl) (Nat.le_of_ble_eq_true rfl)
        · refine r_aload_n C dX8_value_48 lg_0 ?_
          refine r_getJ C 238 dX8_value_49 fg_X8_178_7 rfl rfl M.1 (fun g49 => ?_)
          refine r_goto C (tgt := 57) dX8_value_52 (by decide) ?_
          exact f_J F dX8_value_57 (by first | omega | exact g49) ⟨rfl, Or.inr ⟨h0, by first | (rw [cI_f c45]; exact x238_0) | (rw [cI_t c45, hab]), h1, h2⟩⟩ (Nat.le_of_ble_eq_true rfl) (Nat.le_of_ble_eq_true rfl)
      · exfalso; omega
    | cons x t ih =>
      intro a hab
      have hlab : a.length + (t.length + 1) ≤ 60 := by rw [hab, List.length_append, List.length_cons] at hlen; omega
      have ex := (hq.2 a.length x (by rw [hab]; simp)).2.1
      rw [hab, List.length_append, List.length_cons] at h244
      have key := ih (a ++ [x]) (by rw [hab]; simp)
      rw [List.length_append, List.length_singleton, qc_app, show qc [x] = x.2.1 from by show x.2.1 + 0 = _; omega] at key
      refine r_iload C dX8_value_17 lg_6 ?_
      refine r_aload_n C dX8_value_19 lg_0 ?_
      refine r_getI C 244 dX8_value_20 fg_X8_161_7 rfl rfl M.1 (fun g20 => ?_)
      refine r_icge C (tgt := 44) dX8_value_23 (by decide) (by omega) (by omega) (fun c23 => ?_) (fun c23 => ?_)
      · exfalso; omega
      · refine r_lload C dX8_value_26 lg_4 ?_
        refine r_aload_n C dX8_value_28 lg_0 ?_
        refine r_getA C 246 32 dX8_value_29 fg_X8_61_7 rfl rfl M.1 (fun g29 => ?_)
        refine r_iload C dX8_value_32 lg_6 ?_
        refine r_lald C (N := 60) 1024 dX8_value_34 (by decide) rfl rfl (M.g (j := 22) (by decide)) (by omega) (by omega) (by omega) (fun g34 => ?_)
        rw [ex]
        refine r_ladd C dX8_value_35 ?_
        refine r_lstore C dX8_value_36 (ls2_4 rfl rfl) ?_
        refine r_iinc C dX8_value_38 lg_6 (ls1_6 rfl trivial) ?_
        refine r_goto C (tgt := 17) dX8_value_41 (by decide) ?_
        exact key
  refine r_aload_n C dX8_value_0 lg_0 ?_
  refine r_iload_n C dX8_value_1 lg_1 ?_
  refine r_iload_n C dX8_value_2 lg_2 ?_
  refine q_V2Z C (cM_asks hfl M0 hR hdy hi hV) dX8_value_3 lk_X8_199 M.1 ⟨Nat.le_of_ble_eq_true rfl, Nat.le_of_ble_eq_true rfl⟩ (catLe (Nat.le_of_ble_eq_true rfl)) ⟨rfl, rfl⟩ rfl (Nat.le_of_ble_eq_true rfl) (Nat.le_of_ble_eq_true rfl) (fun z3 S3 A3 i3 p3 => ?_)
  obtain ⟨rfl, rfl, h9⟩ := p3
  have M : RM S3 A := by
    rcases h9 with ⟨h, e⟩ | ⟨h, h1, h2, h3⟩
    · rw [e]; exact M0.up (by decide)
    · exact M0.of h2 (by decide)
  refine rb_ifne C (tgt := 11) dX8_value_6 (by decide) (fun c6 => ?_) (fun c6 => ?_)
  · obtain ⟨h0, h1, h2, h3⟩ := h9.resolve_left (fun q => q.1 c6)
    refine r_lconst C dX8_value_11 0 rfl ?_
    refine r_lstore C dX8_value_12 (ls2_4 rfl rfl) ?_
    refine r_iconst C dX8_value_14 ?_
    refine r_istore C dX8_value_15 (ls1_6 rfl trivial) ?_
    exact lp S3 h0 h1 h2 h3 _ [] rfl
  · have h9 : ¬ akOk item day ∧ S3 = upS S 249 0 1 := h9.resolve_right (fun q => c6 q.1)
    refine r_lconst C dX8_value_9 0 rfl ?_
    exact f_J F dX8_value_10 (by omega) ⟨rfl, Or.inl ⟨c6, rfl, h9.2⟩⟩ (Nat.le_of_ble_eq_true rfl) (Nat.le_of_ble_eq_true rfl)
set_option maxRecDepth 20000 in
theorem cM_asksLayer {G : GT} {l : Launch} (hfl : l.stackTraces = false) {S : ST} {A : AB} {item day k : Int} (M0 : RM S A) (hR : RG (rwM S)) (hdy : rI day) (hi : rI item) (hV : ∀ i, 0 ≤ i → i ≤ 5 → RV (rwM S) i) (hk : rI k) : CT G l yX8_asksLayer cX8_asksLayer 4 (some .boolean) (rmk 5 0 0 121) S A [vR A 7 0, vI item, vI day, vI k] (oZ fun z S' A' => b2i (akOk item day ∧ 0 ≤ k ∧ k < (WKr (rwM S) item day (S 928)).q.length) = z ∧ A = A' ∧ ((¬ akOk item day ∧ S' = upS S 249 0 1) ∨ (akOk item day ∧ S' 249 0 = b2i (¬ (0 ≤ k ∧ k < (WKr (rwM S) item day (S 928)).q.length)) * 2 ∧ Fr [237, 238, 239, 244, 832, 864, 896, 928, 992, 1024, 1056, 672, 236, 249] S S' ∧ WD S' (WKr (rwM S) item day (S 928))))) (noX) := by
  have M := M0
  refine ct_ofN (own := RX8) (mn := "asksLayer") rfl rfl (by decide) hfl (lv0 := [some (vR A 7 0), some (vI item), some (vI day), some (vI k)]) (ent_1 (cat_R _ _ _) (ent_1 rfl (ent_1 rfl (ent_1 rfl ent_0)))) rfl ?_
  intro J X C F FX FT FU hW hA
  refine r_aload_n C dX8_asksLayer_0 lg_0 ?_
  refine r_iload_n C dX8_asksLayer_1 lg_1 ?_
  refine r_iload_n C dX8_asksLayer_2 lg_2 ?_
  refine q_V2Z C (cM_asks hfl M0 hR hdy hi hV) dX8_asksLayer_3 lk_X8_199 M.1 ⟨Nat.le_of_ble_eq_true rfl, Nat.le_of_ble_eq_true rfl⟩ (catLe (Nat.le_of_ble_eq_true rfl)) ⟨rfl, rfl⟩ rfl (Nat.le_of_ble_eq_true rfl) (Nat.le_of_ble_eq_true rfl) (fun z3 S3 A3 i3 p3 => ?_)
  obtain ⟨rfl, rfl, h9⟩ := p3
  have M : RM S3 A := by
    rcases h9 with ⟨h, e⟩ | ⟨h, h1, h2, h3⟩
    · rw [e]; exact M0.up (by decide)
    · exact M0.of h2 (by decide)
  refine rb_ifeq C (tgt := 39) dX8_asksLayer_6 (by decide) (fun c6 => ?_) (fun c6 => ?_)
  · have h9 : ¬ akOk item day ∧ S3 = upS S 249 0 1 := h9.resolve_right (fun q => c6 q.1)
    refine r_iconst C dX8_asksLayer_39 ?_
    exact f_Z F dX8_asksLayer_40 (by omega) (by
      first
      | (exfalso; omega)
      | exact ⟨b2i_f (fun q => c6 q.1), rfl, Or.inl ⟨c6, h9.2⟩⟩
      | exact ⟨b2i_t ⟨c6, by omega⟩, rfl, Or.inr ⟨c6, by rw [x249, b2i_f (by omega)]; omega, hF9, hw9⟩⟩
      | exact ⟨b2i_f (fun q => by omega), rfl, Or.inr ⟨c6, by rw [x249, b2i_t (by omega)]; omega, hF9, hw9⟩⟩) (Nat.le_of_ble_eq_true rfl) (Nat.le_of_ble_eq_true rfl)
  · obtain ⟨h0, h1, h2, h3⟩ := h9.resolve_left (fun q => q.1 c6)
    have h244 := h3.2.2.2.2.2.2.2.2.2.1.1
    have hlen := WKr_len hR h0.1.1 (hV item h0.1.1 h0.1.2) (S 928) (day := day)
    refine r_aload_n C dX8_asksLayer_9 lg_0 ?_
    refine r_iload_n C dX8_asksLayer_10 lg_3 ?_
    refine r_iconst C dX8_asksLayer_11 ?_
    refine r_aload_n C dX8_asksLayer_12 lg_0 ?_
    refine r_getI C 244 dX8_asksLayer_13 fg_X8_161_7 rfl rfl M.1 (fun g13 => ?_)
    rw [h244]
    refine r_iconst C dX8_asksLayer_16 ?_
    refine r_isub C dX8_asksLayer_17 ?_
    refine q_S3Z C (cM_isIn hfl (by omega) (by omega) (by omega)) dX8_asksLayer_18 lk_X8_73 ⟨Nat.le_of_ble_eq_true rfl, Nat.le_of_ble_eq_true rfl⟩ (catLe (Nat.le_of_ble_eq_true rfl)) ⟨rfl, rfl⟩ rfl (Nat.le_of_ble_eq_true rfl) (Nat.le_of_ble_eq_true rfl) (fun z18 S18 A18 i18 p18 => ?_)
    obtain ⟨rfl, rfl, rfl⟩ := p18
    refine rb_ifeq C (tgt := 28) dX8_asksLayer_21 (by decide) (fun c21 => ?_) (fun c21 => ?_)
    · refine r_iconst C dX8_asksLayer_28 ?_
      refine q_V1Z C (cM_goes hfl (by assumption) (by omega)) dX8_asksLayer_29 lk_X8_112 M.1 ⟨Nat.le_of_ble_eq_true rfl, Nat.le_of_ble_eq_true rfl⟩ (catLe (Nat.le_of_ble_eq_true rfl)) ⟨rfl, rfl⟩ rfl (Nat.le_of_ble_eq_true rfl) (Nat.le_of_ble_eq_true rfl) (fun z29 S29 A29 i29 p29 => ?_)
      obtain ⟨rfl, rfl, rfl⟩ := p29
      refine r_gS (fun S9 hS9 => ?_)
      have hF9 : Fr [237, 238, 239, 244, 832, 864, 896, 928, 992, 1024, 1056, 672, 236, 249] S S9 := by rw [hS9]; exact h2.tr (Fr.up (by decide))
      have x249 := (congrFun (congrFun hS9 249) 0).trans (upS_self _ _ _ _)
      have hw9 : WD S9 (WKr (rwM S) item day (S 928)) := h3.fr (hS9 ▸ Fr.up (List.mem_singleton.mpr rfl) : Fr [249] S3 S9) (by decide)
      refine rb_ifeq C (tgt := 39) dX8_asksLayer_32 (by decide) (fun c32 => ?_) (fun c32 => ?_)
      · refine r_iconst C dX8_asksLayer_39 ?_
        exact f_Z F dX8_asksLayer_40 (by omega) (by
          first
          | (exfalso; omega)
          | exact ⟨b2i_f (fun q => c6 q.1), rfl, Or.inl ⟨c6, h9.2⟩⟩
          | exact ⟨b2i_t ⟨c6, by omega⟩, rfl, Or.inr ⟨c6, by rw [x249, b2i_f (by omega)]; omega, hF9, hw9⟩⟩
          | exact ⟨b2i_f (fun q => by omega), rfl, Or.inr ⟨c6, by rw [x249, b2i_t (by omega)]; omega, hF9, hw9⟩⟩) (Nat.le_of_ble_eq_true rfl) (Nat.le_of_ble_eq_true rfl)
      · refine r_iconst C dX8_asksLayer_35 ?_
        refine r_goto C (tgt := 40) dX8_asksLayer_36 (by decide) ?_
        exact f_Z F dX8_asksLayer_40 (by omega) (by
          first
          | (exfalso; omega)
          | exact ⟨b2i_f (fun q => c6 q.1), rfl, Or.inl ⟨c6, h9.2⟩⟩
          | exact ⟨b2i_t ⟨c6, by omega⟩, rfl, Or.inr ⟨c6, by rw [x249, b2i_f (by omega)]; omega, hF9, hw9⟩⟩
          | exact ⟨b2i_f (fun q => by omega), rfl, Or.inr ⟨c6, by rw [x249, b2i_t (by omega)]; omega, hF9, hw9⟩⟩) (Nat.le_of_ble_eq_true rfl) (Nat.le_of_ble_eq_true rfl)
    · refine r_iconst C dX8_asksLayer_24 ?_
      refine r_goto C (tgt := 29) dX8_asksLayer_25 (by decide) ?_
      refine q_V1Z C (cM_goes hfl (by assumption) (by omega)) dX8_asksLayer_29 lk_X8_112 M.1 ⟨Nat.le_of_ble_eq_true rfl, Nat.le_of_ble_eq_true rfl⟩ (catLe (Nat.le_of_ble_eq_true rfl)) ⟨rfl, rfl⟩ rfl (Nat.le_of_ble_eq_true rfl) (Nat.le_of_ble_eq_true rfl) (fun z29 S29 A29 i29 p29 => ?_)
      obtain ⟨rfl, rfl, rfl⟩ := p29
      refine r_gS (fun S9 hS9 => ?_)
      have hF9 : Fr [237, 238, 239, 244, 832, 864, 896, 928, 992, 1024, 1056, 672, 236, 249] S S9 := by rw [hS9]; exact h2.tr (Fr.up (by decide))
      have x249 := (congrFun (congrFun hS9 249) 0).trans (upS_self _ _ _ _)
      have hw9 : WD S9 (WKr (rwM S) item day (S 928)) := h3.fr (hS9 ▸ Fr.up (List.mem_singleton.mpr rfl) : Fr [249] S3 S9) (by decide)
      refine rb_ifeq C (tgt := 39) dX8_asksLayer_32 (by decide) (fun c32 => ?_) (fun c32 => ?_)
      · refine r_iconst C dX8_asksLayer_39 ?_
        exact f_Z F dX8_asksLayer_40 (by omega) (by
          first
          | (exfalso; omega)
          | exact ⟨b2i_f (fun q => c6 q.1), rfl, Or.inl ⟨c6, h9.2⟩⟩
          | exact ⟨b2i_t ⟨c6, by omega⟩, rfl, Or.inr ⟨c6, by rw [x249, b2i_f (by omega)]; omega, hF9, hw9⟩⟩
          | exact ⟨b2i_f (fun q => by omega), rfl, Or.inr ⟨c6, by rw [x249, b2i_t (by omega)]; omega, hF9, hw9⟩⟩) (Nat.le_of_ble_eq_true rfl) (Nat.le_of_ble_eq_true rfl)
      · refine r_iconst C dX8_asksLayer_35 ?_
        refine r_goto C (tgt := 40) dX8_asksLayer_36 (by decide) ?_
        exact f_Z F dX8_asksLayer_40 (by omega) (by
          first
          | (exfalso; omega)
          | exact ⟨b2i_f (fun q => c6 q.1), rfl, Or.inl ⟨c6, h9.2⟩⟩
          | exact ⟨b2i_t ⟨c6, by omega⟩, rfl, Or.inr ⟨c6, by rw [x249, b2i_f (by omega)]; omega, hF9, hw9⟩⟩
          | exact ⟨b2i_f (fun q => by omega), rfl, Or.inr ⟨c6, by rw [x249, b2i_t (by omega)]; omega, hF9, hw9⟩⟩) (Nat.le_of_ble_eq_true rfl) (Nat.le_of_ble_eq_true rfl)
def qat (q : QL3) (k : Int) : Int × Int × Int := (q[k.toNat]?).getD (0, 0, 0)
/-- what a question of a layer answers -/
def ASL (S : ST) (item day k v z : Int) (S' : ST) : Prop := (¬ akOk item day ∧ z = 0 ∧ S' = upS S 249 0 1) ∨ (akOk item day ∧ (0 ≤ k ∧ k < (WKr (rwM S) item day (S 928)).q.length) ∧ z = v ∧ S' 249 0 = 0 ∧ Fr [237, 238, 239, 244, 832, 864, 896, 928, 992, 1024, 1056, 672, 236, 249] S S') ∨ (akOk item day ∧ ¬ (0 ≤ k ∧ k < (WKr (rwM S) item day (S 928)).q.length) ∧ z = 0 ∧ S' 249 0 = 2 ∧ Fr [237, 238, 239, 244, 832, 864, 896, 928, 992, 1024, 1056, 672, 236, 249] S S')
theorem qat_at {S : ST} {q : QL3} (h : QD S q) {k : Int} (h0 : 0 ≤ k) (h1 : k < q.length) : S 992 k = (qat q k).1 ∧ S 1024 k = (qat q k).2.1 ∧ S 1056 k = (qat q k).2.2 := by
  have h2 : k.toNat < q.length := by omega
  have h3 := h.2 k.toNat (q[k.toNat]) (List.getElem?_eq_getElem h2)
  rw [Int.toNat_of_nonneg h0] at h3
  unfold qat
  rw [List.getElem?_eq_getElem h2]
  exact h3
set_option maxRecDepth 20000 in
theorem cM_layerQuantity {G : GT} {l : Launch} (hfl : l.stackTraces = false) {S : ST} {A : AB} {item day k : Int} (M0 : RM S A) (hR : RG (rwM S)) (hdy : rI day) (hi : rI item) (hV : ∀ i, 0 ≤ i → i ≤ 5 → RV (rwM S) i) (hk : rI k) : CT G l yX8_layerQuantity cX8_layerQuantity 4 (some .int) (rmk 6 0 0 144) S A [vR A 7 0, vI item, vI day, vI k] (oI fun z S' A' => A = A' ∧ ASL S item day k (qat (WKr (rwM S) item day (S 928)).q k).1 z S') (noX) := by
  have M := M0
  refine ct_ofN (own := RX8) (mn := "layerQuantity") rfl rfl (by decide) hfl (lv0 := [some (vR A 7 0), some (vI item), some (vI day), some (vI k)]) (ent_1 (cat_R _ _ _) (ent_1 rfl (ent_1 rfl (ent_1 rfl ent_0)))) rfl ?_
  intro J X C F FX FT FU hW hA
  refine r_aload_n C dX8_layerQuantity_0 lg_0 ?_
  refine r_iload_n C dX8_layerQuantity_1 lg_1 ?_
  refine r_iload_n C dX8_layerQuantity_2 lg_2 ?_
  refine r_iload_n C dX8_layerQuantity_3 lg_3 ?_
  refine q_V3Z C (cM_asksLayer hfl M0 hR hdy hi hV hk) dX8_layerQuantity_4 lk_X8_205 M.1 ⟨Nat.le_of_ble_eq_true rfl, Nat.le_of_ble_eq_true rfl⟩ (catLe (Nat.le_of_ble_eq_true rfl)) ⟨rfl, rfl⟩ rfl (Nat.le_of_ble_eq_true rfl) (Nat.le_of_ble_eq_true rfl) (fun z4 S4 A4 i4 p4 => ?_)
  obtain ⟨rfl, rfl, h9⟩ := p4
  have M : RM S4 A := by
    rcases h9 with ⟨h, e⟩ | ⟨h, h1, h2, h3⟩
    · rw [e]; exact M0.up (by decide)
    · exact M0.of h2 (by decide)
  refine rb_ifeq C (tgt := 19) dX8_layerQuantity_7 (by decide) (fun c7 => ?_) (fun c7 => ?_)
  · refine r_iconst C dX8_layerQuantity_19 ?_
    exact f_I F dX8_layerQuantity_20 (by first | omega | exact g15) (by
      first
      | exact ⟨rfl, Or.inr (Or.inl ⟨c7.1, c7.2, hat.1, by rw [h1, b2i_f (fun q => q c7.2)]; omega, h2⟩)⟩
      | (rcases h9 with ⟨h, e⟩ | ⟨h, h1, h2, h3⟩
         · exact ⟨rfl, Or.inl ⟨h, rfl, e⟩⟩
         · have hn : ¬ (0 ≤ k ∧ k < (WKr (rwM S) item day (S 928)).q.length) := fun q => c7 ⟨h, q⟩
           exact ⟨rfl, Or.inr (Or.inr ⟨h, hn, rfl, by rw [h1, b2i_t hn]; omega, h2⟩)⟩)) (Nat.le_of_ble_eq_true rfl) (Nat.le_of_ble_eq_true rfl)
  · obtain ⟨h0, h1, h2, h3⟩ := h9.resolve_left (fun q => q.1 c7.1)
    have hqq := h3.2.2.2.2.2.2.2.2.2.1
    have hat := qat_at hqq c7.2.1 c7.2.2
    have hlen := WKr_len hR c7.1.1.1 (hV item c7.1.1.1 c7.1.1.2) (S 928) (day := day)
    obtain ⟨hk0, hk1⟩ := c7.2
    refine r_aload_n C dX8_layerQuantity_10 lg_0 ?_
    refine r_getA C 245 31 dX8_layerQuantity_11 fg_X8_58_7 rfl rfl M.1 (fun g11 => ?_)
    refine r_iload_n C dX8_layerQuantity_14 lg_3 ?_
    refine r_iald C (N := 60) 992 dX8_layerQuantity_15 (by decide) rfl rfl (M.g (j := 21) (by decide)) (by omega) (by omega) (by omega) (fun g15 => ?_)
    refine r_goto C (tgt := 20) dX8_layerQuantity_16 (by decide) ?_
    exact f_I F dX8_layerQuantity_20 (by first | omega | exact g15) (by
      first
      | exact ⟨rfl, Or.inr (Or.inl ⟨c7.1, c7.2, hat.1, by rw [h1, b2i_f (fun q => q c7.2)]; omega, h2⟩)⟩
      | (rcases h9 with ⟨h, e⟩ | ⟨h, h1, h2, h3⟩
         · exact ⟨rfl, Or.inl ⟨h, rfl, e⟩⟩
         · have hn : ¬ (0 ≤ k ∧ k < (WKr (rwM S) item day (S 928)).q.length) := fun q => c7 ⟨h, q⟩
           exact ⟨rfl, Or.inr (Or.inr ⟨h, hn, rfl, by rw [h1, b2i_t hn]; omega, h2⟩)⟩)) (Nat.le_of_ble_eq_true rfl) (Nat.le_of_ble_eq_true rfl)
set_option maxRecDepth 20000 in
theorem cM_layerCost {G : GT} {l : Launch} (hfl : l.stackTraces = false) {S : ST} {A : AB} {item day k : Int} (M0 : RM S A) (hR : RG (rwM S)) (hdy : rI day) (hi : rI item) (hV : ∀ i, 0 ≤ i → i ≤ 5 → RV (rwM S) i) (hk : rI k) : CT G l yX8_layerCost cX8_layerCost 4 (some .long) (rmk 6 0 0 144) S A [vR A 7 0, vI item, vI day, vI k] (oJ fun z S' A' => A = A' ∧ ASL S item day k (qat (WKr (rwM S) item day (S 928)).q k).2.1 z S') (noX) := by
  have M := M0
  refine ct_ofN (own := RX8) (mn := "layerCost") rfl rfl (by decide) hfl (lv0 := [some (vR A 7 0), some (vI item), some (vI day), some (vI k)]) (ent_1 (cat_R _ _ _) (ent_1 rfl (ent_1 rfl (ent_1 rfl ent_0)))) rfl ?_
  intro J X C F FX FT FU hW hA
  refine r_aload_n C dX8_layerCost_0 lg_0 ?_
  refine r_iload_n C dX8_layerCost_1 lg_1 ?_
  refine r_iload_n C dX8_layerCost_2 lg_2 ?_
  refine r_iload_n C dX8_layerCost_3 lg_3 ?_
  refine q_V3Z C (cM_asksLayer hfl M0 hR hdy hi hV hk) dX8_layerCost_4 lk_X8_205 M.1 ⟨Nat.le_of_ble_eq_true rfl, Nat.le_of_ble_eq_true rfl⟩ (catLe (Nat.le_of_ble_eq_true rfl)) ⟨rfl, rfl⟩ rfl (Nat.le_of_ble_eq_true rfl) (Nat.le_of_ble_eq_true rfl) (fun z4 S4 A4 i4 p4 => ?_)
  obtain ⟨rfl, rfl, h9⟩ := p4
  have M : RM S4 A := by
    rcases h9 with ⟨h, e⟩ | ⟨h, h1, h2, h3⟩
    · rw [e]; exact M0.up (by decide)
    · exact M0.of h2 (by decide)
  refine rb_ifeq C (tgt := 19) dX8_layerCost_7 (by decide) (fun c7 => ?_) (fun c7 => ?_)
  · refine r_lconst C dX8_layerCost_19 0 rfl ?_
    exact f_J F dX8_layerCost_20 (by first | omega | exact g15) (by
      first
      | exact ⟨rfl, Or.inr (Or.inl ⟨c7.1, c7.2, hat.2.1, by rw [h1, b2i_f (fun q => q c7.2)]; omega, h2⟩)⟩
      | (rcases h9 with ⟨h, e⟩ | ⟨h, h1, h2, h3⟩
         · exact ⟨rfl, Or.inl ⟨h, rfl, e⟩⟩
         · have hn : ¬ (0 ≤ k ∧ k < (WKr (rwM S) item day (S 928)).q.length) := fun q => c7 ⟨h, q⟩
           exact ⟨rfl, Or.inr (Or.inr ⟨h, hn, rfl, by rw [h1, b2i_t hn]; omega, h2⟩)⟩)) (Nat.le_of_ble_eq_true rfl) (Nat.le_of_ble_eq_true rfl)
  · obtain ⟨h0, h1, h2, h3⟩ := h9.resolve_left (fun q => q.1 c7.1)
    have hqq := h3.2.2.2.2.2.2.2.2.2.1
    have hat := qat_at hqq c7.2.1 c7.2.2
    have hlen := WKr_len hR c7.1.1.1 (hV item c7.1.1.1 c7.1.1.2) (S 928) (day := day)
    obtain ⟨hk0, hk1⟩ := c7.2
    refine r_aload_n C dX8_layerCost_10 lg_0 ?_
    refine r_getA C 246 32 dX8_layerCost_11 fg_X8_61_7 rfl rfl M.1 (fun g11 => ?_)
    refine r_iload_n C dX8_layerCost_14 lg_3 ?_
    refine r_lald C (N := 60) 1024 dX8_layerCost_15 (by decide) rfl rfl (M.g (j := 22) (by decide)) (by omega) (by omega) (by omega) (fun g15 => ?_)
    refine r_goto C (tgt := 20) dX8_layerCost_16 (by decide) ?_
    exact f_J F dX8_layerCost_20 (by first | omega | exact g15) (by
      first
      | exact ⟨rfl, Or.inr (Or.inl ⟨c7.1, c7.2, hat.2.1, by rw [h1, b2i_f (fun q => q c7.2)]; omega, h2⟩)⟩
      | (rcases h9 with ⟨h, e⟩ | ⟨h, h1, h2, h3⟩
         · exact ⟨rfl, Or.inl ⟨h, rfl, e⟩⟩
         · have hn : ¬ (0 ≤ k ∧ k < (WKr (rwM S) item day (S 928)).q.length) := fun q => c7 ⟨h, q⟩
           exact ⟨rfl, Or.inr (Or.inr ⟨h, hn, rfl, by rw [h1, b2i_t hn]; omega, h2⟩)⟩)) (Nat.le_of_ble_eq_true rfl) (Nat.le_of_ble_eq_true rfl)
set_option maxRecDepth 20000 in
theorem cM_layerOrigin {G : GT} {l : Launch} (hfl : l.stackTraces = false) {S : ST} {A : AB} {item day k : Int} (M0 : RM S A) (hR : RG (rwM S)) (hdy : rI day) (hi : rI item) (hV : ∀ i, 0 ≤ i → i ≤ 5 → RV (rwM S) i) (hk : rI k) : CT G l yX8_layerOrigin cX8_layerOrigin 4 (some .int) (rmk 6 0 0 144) S A [vR A 7 0, vI item, vI day, vI k] (oI fun z S' A' => A = A' ∧ ASL S item day k (qat (WKr (rwM S) item day (S 928)).q k).2.2 z S') (noX) := by
  have M := M0
  refine ct_ofN (own := RX8) (mn := "layerOrigin") rfl rfl (by decide) hfl (lv0 := [some (vR A 7 0), some (vI item), some (vI day), some (vI k)]) (ent_1 (cat_R _ _ _) (ent_1 rfl (ent_1 rfl (ent_1 rfl ent_0)))) rfl ?_
  intro J X C F FX FT FU hW hA
  refine r_aload_n C dX8_layerOrigin_0 lg_0 ?_
  refine r_iload_n C dX8_layerOrigin_1 lg_1 ?_
  refine r_iload_n C dX8_layerOrigin_2 lg_2 ?_
  refine r_iload_n C dX8_layerOrigin_3 lg_3 ?_
  refine q_V3Z C (cM_asksLayer hfl M0 hR hdy hi hV hk) dX8_layerOrigin_4 lk_X8_205 M.1 ⟨Nat.le_of_ble_eq_true rfl, Nat.le_of_ble_eq_true rfl⟩ (catLe (Nat.le_of_ble_eq_true rfl)) ⟨rfl, rfl⟩ rfl (Nat.le_of_ble_eq_true rfl) (Nat.le_of_ble_eq_true rfl) (fun z4 S4 A4 i4 p4 => ?_)
  obtain ⟨rfl, rfl, h9⟩ := p4
  have M : RM S4 A := by
    rcases h9 with ⟨h, e⟩ | ⟨h, h1, h2, h3⟩
    · rw [e]; exact M0.up (by decide)
    · exact M0.of h2 (by decide)
  refine rb_ifeq C (tgt := 19) dX8_layerOrigin_7 (by decide) (fun c7 => ?_) (fun c7 => ?_)
  · refine r_iconst C dX8_layerOrigin_19 ?_
    exact f_I F dX8_layerOrigin_20 (by first | omega | exact g15) (by
      first
      | exact ⟨rfl, Or.inr (Or.inl ⟨c7.1, c7.2, hat.2.2, by rw [h1, b2i_f (fun q => q c7.2)]; omega, h2⟩)⟩
      | (rcases h9 with ⟨h, e⟩ | ⟨h, h1, h2, h3⟩
         · exact ⟨rfl, Or.inl ⟨h, rfl, e⟩⟩
         · have hn : ¬ (0 ≤ k ∧ k < (WKr (rwM S) item day (S 928)).q.length) := fun q => c7 ⟨h, q⟩
           exact ⟨rfl, Or.inr (Or.inr ⟨h, hn, rfl, by rw [h1, b2i_t hn]; omega, h2⟩)⟩)) (Nat.le_of_ble_eq_true rfl) (Nat.le_of_ble_eq_true rfl)
  · obtain ⟨h0, h1, h2, h3⟩ := h9.resolve_left (fun q => q.1 c7.1)
    have hqq := h3.2.2.2.2.2.2.2.2.2.1
    have hat := qat_at hqq c7.2.1 c7.2.2
    have hlen := WKr_len hR c7.1.1.1 (hV item c7.1.1.1 c7.1.1.2) (S 928) (day := day)
    obtain ⟨hk0, hk1⟩ := c7.2
    refine r_aload_n C dX8_layerOrigin_10 lg_0 ?_
    refine r_getA C 247 33 dX8_layerOrigin_11 fg_X8_64_7 rfl rfl M.1 (fun g11 => ?_)
    refine r_iload_n C dX8_layerOrigin_14 lg_3 ?_
    refine r_iald C (N := 60) 1056 dX8_layerOrigin_15 (by decide) rfl rfl (M.g (j := 23) (by decide)) (by omega) (by omega) (by omega) (fun g15 => ?_)
    refine r_goto C (tgt := 20) dX8_layerOrigin_16 (by decide) ?_
    exact f_I F dX8_layerOrigin_20 (by first | omega | exact g15) (by
      first
      | exact ⟨rfl, Or.inr (Or.inl ⟨c7.1, c7.2, hat.2.2, by rw [h1, b2i_f (fun q => q c7.2)]; omega, h2⟩)⟩
      | (rcases h9 with ⟨h, e⟩ | ⟨h, h1, h2, h3⟩
         · exact ⟨rfl, Or.inl ⟨h, rfl, e⟩⟩
         · have hn : ¬ (0 ≤ k ∧ k < (WKr (rwM S) item day (S 928)).q.length) := fun q => c7 ⟨h, q⟩
           exact ⟨rfl, Or.inr (Or.inr ⟨h, hn, rfl, by rw [h1, b2i_t hn]; omega, h2⟩)⟩)) (Nat.le_of_ble_eq_true rfl) (Nat.le_of_ble_eq_true rfl)
