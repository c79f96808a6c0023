/-! the class: cancelling; questions of an issue's cost, of value and layers -/
theorem walk_in {R : RW} (hR : RG R) {item day : Int} (hit : 0 ≤ item) : ∀ (b a : List Int) (w : WS), LdR R = a ++ b → WI R item a (61 * a.length) w → vld (chg R.kd R.it R.qt item) R.qt (tks R.kd R.it item) w.hand b → ∃ a', (∀ x ∈ a', x ∈ LdR R) ∧ WI R item a' 3660 (walkW R item day b w)
  | [], a, w, hab, hw, hv => ⟨a, fun x hx => by rw [hab]; exact List.mem_append_left _ hx, WI_more hw (by have := led_len R.dy R.gn R.n.toNat; have h9 := hR.1; have : (LdR R).length ≤ R.n.toNat := this; rw [hab, List.append_nil] at this; omega)⟩
  | m :: t, a, w, hab, hw, hv => by
    have hlen : (LdR R).length ≤ R.n.toNat := led_len R.dy R.gn R.n.toNat
    rw [hab, List.length_append, List.length_cons] at hlen
    have h9 := hR.1
    have hm := (led_mem R.dy R.gn R.n.toNat).mp (show m ∈ LdR R by rw [hab]; simp)
    have hnd : (LdR R).Nodup := led_nd R.dy R.gn R.n.toNat
    rw [hab, List.nodup_append] at hnd
    have hma : m ∉ a := fun q => hnd.2.2 m q m List.mem_cons_self rfl
    show ∃ a', (∀ x ∈ a', x ∈ LdR R) ∧ WI R item a' 3660 (if R.dy m ≤ day then walkW R item day t (stepW R item w m) else w)
    split
    · have h1 := WI_step hR hw (by omega) hit hm.1.1 (by omega) hma hv.1
      have hh : (stepW R item w m).hand = w.hand + chg R.kd R.it R.qt item m := by
        rw [h1.2.2.2.2.2.1, hs_one, ← hw.2.2.2.2.2.1]
      exact walk_in hR hit t (a ++ [m]) _ (by rw [hab]; simp) (WI_more h1 (by rw [List.length_append, List.length_singleton]; omega)) (by rw [hh]; exact hv.2)
    · exact ⟨a, fun x hx => by rw [hab]; exact List.mem_append_left _ hx, WI_more hw (by omega)⟩
theorem wk_q {R : RW} {S : ST} {A : AB} (hCK : CK R S A) (hR : RG R) {item day : Int} (hit : 0 ≤ item) (hv : RV R item) (ic : Int → Int) : (∀ x ∈ og (WKr R item day ic).q, lv1 A 1 x) ∧ (0 ≤ qc (WKr R item day ic).q ∧ qc (WKr R item day ic).q ≤ 1000000000000000) ∧ (WKr R item day ic).q.length ≤ 60 ∧ (0 ≤ (WKr R item day ic).avg ∧ (WKr R item day ic).avg ≤ 1000000000000000) := by
  obtain ⟨a', h1, h2, h3, h4, h5, h6, h7, h8⟩ := walk_in (day := day) hR hit (LdR R) [] (w00 ic) rfl (WI_00 R item ic) hv
  have hA1 := hCK.2.2.1.2.2
  have hn := hR.1
  refine ⟨fun x hx => ?_, ⟨qc_nn h2, ?_⟩, WKr_len hR hit hv ic, ?_⟩
  · obtain ⟨y, hy, e⟩ := List.mem_map.mp hx
    have h9 := (led_mem R.dy R.gn R.n.toNat).mp (h1 _ (h4 y hy))
    rw [← e]
    exact ⟨h9.1.1, by omega⟩
  · have h9 : qc (WKr R item day ic).q ≤ 2000000000 * 3660 := h8.2.2.1
    omega
  · have h9 : 0 ≤ (WKr R item day ic).avg ∧ (WKr R item day ic).avg ≤ 2000000000 * 3660 := h8.2.1
    omega
set_option maxRecDepth 20000 in
theorem cB_cancel {G : GT} {l : Launch} (hfl : l.stackTraces = false) {S : ST} {A : AB} {m : Int} {R : RW} (hCK : CK R S A) (hR : RG R) (hm : rI m) : CT G l yX7_cancel cX7_cancel 3 (some .int) (rmk 8 4 24 132) S A [vR A 6 0, vI m] (oI fun z S' A' => ((LdR (rwC R m)).length : Int) = z ∧ ((0 ≤ m ∧ m < R.n) ∧ (S 103 m = 0 ∧ S 198 0 < S 98 m ∧ (S 97 m = 0 → (¬ (∃ x ∈ LdR R, m ∈ (shR R x).map Prod.fst) ∧ S 100 m ≤ spf (S 98) (S 96) (S 99) (dlt (S 97) (S 100)) (S 100) (fun m => S 97 m = 1 ∨ S 97 m = 2) (S 99 m) (S 98 m) (S 96 m) (LdR R) 0 0)))) ∧ CK (rwC R m) S' A' ∧ A = A' ∧ Fr [103, 104, 64, 65] S S') (fun E S' A' => ((E = xIO ∧ ¬ (0 ≤ m ∧ m < R.n)) ∨ (E = xIS ∧ (0 ≤ m ∧ m < R.n) ∧ ¬ (S 103 m = 0 ∧ S 198 0 < S 98 m ∧ (S 97 m = 0 → (¬ (∃ x ∈ LdR R, m ∈ (shR R x).map Prod.fst) ∧ S 100 m ≤ spf (S 98) (S 96) (S 99) (dlt (S 97) (S 100)) (S 100) (fun m => S 97 m = 1 ∨ S 97 m = 2) (S 99 m) (S 98 m) (S 96 m) (LdR R) 0 0))))) ∧ S = S' ∧ A = A') := by
  have hn := hR.1
  have hl6 := hCK.1.1
  have hl2 := hCK.1.2.1
  have h193 := hCK.2.1.2.1
  have hA3 : A.2 3 = R.n := hCK.2.2.1.2.1
  have hmm := ck_mem hCK hR
  refine ct_ofN (own := RX7) (mn := "cancel") rfl rfl (by decide) hfl (lv0 := [some (vR A 6 0), some (vI m), none]) (ent_1 (cat_R _ _ _) (ent_1 rfl (ent_n ent_0))) rfl ?_
  intro J X C F FX FT FU hW hA
  refine r_aload_n C dX7_cancel_0 lg_0 ?_
  refine r_iload_n C dX7_cancel_1 lg_1 ?_
  refine r_V1A C (cB_find hfl (R := R) hCK hR.1 hm) dX7_cancel_2 lk_X7_111 hl6 ⟨Nat.le_of_ble_eq_true rfl, Nat.le_of_ble_eq_true rfl⟩ (catLe (Nat.le_of_ble_eq_true rfl)) 1 6 ⟨rfl, rfl⟩ (Nat.le_of_ble_eq_true rfl) (Nat.le_of_ble_eq_true rfl) (fun E9 S9 A9 h9 => FX _ _ _ _ _ _ _ (by obtain ⟨rfl, h8, rfl, rfl⟩ := h9; exact ⟨Or.inl ⟨rfl, h8⟩, rfl, rfl⟩) (Nat.le_of_ble_eq_true rfl) (Nat.le_of_ble_eq_true rfl)) (fun z2 S2 A2 i2 p2 => ?_)
  obtain ⟨⟨e2, hf02, hf12⟩, rfl, rfl⟩ := p2
  rw [e2]
  have hzm : lv1 A 3 m := ⟨hf02, by omega⟩
  refine r_astore_n C dX7_cancel_5 (ls1_2 (cat_R _ _ _) rfl) ?_
  refine r_aload_n C dX7_cancel_6 lg_2 ?_
  refine r_getZ C 103 dX7_cancel_7 fg_X7_115_3 rfl rfl hzm (fun g7 => ?_)
  refine r_ifeq C (tgt := 23) dX7_cancel_10 (by decide) (by omega) (fun c10 => ?_) (fun c10 => ?_)
  · have hgn : R.gn m = 0 := by have h9 := ((hCK.2.2.2.2.1 m hf02 hf12).1.2.2.2.2.2.2.2.1); omega
    obtain ⟨a, b, hab⟩ := led_sp (dy := R.dy) (gn := R.gn) (n := R.n.toNat) hf02 (by omega) hgn
    have hab : LdR R = a ++ m :: b := hab
    refine r_aload_n C dX7_cancel_23 lg_0 ?_
    refine r_aload_n C dX7_cancel_24 lg_2 ?_
    refine r_getI C 98 dX7_cancel_25 fg_X7_121_3 rfl rfl hzm (fun g25 => ?_)
    refine r_V1V C (cB_open hfl hl6 (by omega)) dX7_cancel_28 lk_X7_124 hl6 ⟨Nat.le_of_ble_eq_true rfl, Nat.le_of_ble_eq_true rfl⟩ (catLe (Nat.le_of_ble_eq_true rfl)) 1 6 ⟨rfl, rfl⟩ (Nat.le_of_ble_eq_true rfl) (Nat.le_of_ble_eq_true rfl) (fun E9 S9 A9 h9 => FX _ _ _ _ _ _ _ (by obtain ⟨rfl, h8, rfl, rfl⟩ := h9; exact ⟨Or.inr ⟨rfl, ⟨hf02, hf12⟩, fun q => h8 q.2.1⟩, rfl, rfl⟩) (Nat.le_of_ble_eq_true rfl) (Nat.le_of_ble_eq_true rfl)) (fun S28 A28 p28 => ?_)
    obtain ⟨hr28, rfl, rfl⟩ := p28
    refine r_aload_n C dX7_cancel_31 lg_2 ?_
    refine r_getI C 97 dX7_cancel_32 fg_X7_127_3 rfl rfl hzm (fun g32 => ?_)
    refine r_ifne C (tgt := 43) dX7_cancel_35 (by decide) (by omega) (fun c35 => ?_) (fun c35 => ?_)
    · have hcc : (S 103 m = 0 ∧ S 198 0 < S 98 m ∧ (S 97 m = 0 → (¬ (∃ x ∈ LdR R, m ∈ (shR R x).map Prod.fst) ∧ S 100 m ≤ spf (S 98) (S 96) (S 99) (dlt (S 97) (S 100)) (S 100) (fun m => S 97 m = 1 ∨ S 97 m = 2) (S 99 m) (S 98 m) (S 96 m) (LdR R) 0 0))) := ⟨c10, hr28, fun q => absurd q c35⟩
      have hcc : (S 103 m = 0 ∧ S 198 0 < S 98 m ∧ (S 97 m = 0 → (¬ (∃ x ∈ LdR R, m ∈ (shR R x).map Prod.fst) ∧ S 100 m ≤ spf (S 98) (S 96) (S 99) (dlt (S 97) (S 100)) (S 100) (fun m => S 97 m = 1 ∨ S 97 m = 2) (S 99 m) (S 98 m) (S 96 m) (LdR R) 0 0))) := by
        first
        | exact hcc
        | exact ⟨c10, hr28, fun _ => hr40⟩
      refine r_aload_n C dX7_cancel_43 lg_2 ?_
      refine r_iconst C dX7_cancel_44 ?_
      refine r_putZ C 103 dX7_cancel_45 fg_X7_115_3 rfl rfl hzm (fun q h => by cases h; exact Or.inl rfl) (by omega) ?_
      refine r_gS (fun S45 h45 => ?_)
      have k193 : S45 193 0 = 0 := by rw [h45, upS_c _ _ (by decide)]; exact h193
      refine r_aload_n C dX7_cancel_48 lg_0 ?_
      refine r_getA C 193 2 dX7_cancel_49 fg_X7_18_6 rfl rfl hl6 (fun g49 => ?_)
      rw [k193]
      refine r_aload_n C dX7_cancel_52 lg_2 ?_
      refine q_V1V C (cG_remove hfl (a := a) (b := b) hl2 (by rw [h45, upS_fn _ _ _ (by decide), upS_c _ _ (by decide), ← hab]; exact hCK.2.2.2.2.2.1) (fun x hx => ⟨(hmm.1 x (by rw [hab]; exact hx)).1, trivial⟩) hzm (by rw [← hab]; exact led_nd _ _ _) (by rw [h45, upS_c _ _ (by decide), hCK.2.2.2.2.2.2, hab, List.length_append, List.length_cons]; rw [hab, List.length_append, List.length_cons] at hmm; have := hmm.2; omega) (by omega)) dX7_cancel_53 lk_X7_134 hl2 ⟨Nat.le_of_ble_eq_true rfl, Nat.le_of_ble_eq_true rfl⟩ (catLe (Nat.le_of_ble_eq_true rfl)) ⟨rfl, rfl⟩ rfl (Nat.le_of_ble_eq_true rfl) (Nat.le_of_ble_eq_true rfl) (fun S53 A53 p53 => ?_)
      obtain ⟨rfl, hF53, hc53, hz53⟩ := p53
      have hD := ck_cancel (S' := S53) hCK hab ((h45 ▸ Fr.up (by decide) : Fr [103, 104, 64, 65] S S45).tr (hF53.sub (by decide))) (by rw [hF53.fn (by decide), h45, upS_fu]) hc53 (by rw [hz53, h45, upS_c _ _ (by decide)])
      have k193b : S53 193 0 = 0 := (hF53 193 0 (by decide)).trans k193
      refine r_aload_n C dX7_cancel_56 lg_0 ?_
      refine r_getA C 193 2 dX7_cancel_57 fg_X7_18_6 rfl rfl hl6 (fun g57 => ?_)
      rw [k193b]
      refine r_getI C 65 dX7_cancel_60 fg_X7_137_2 rfl rfl hl2 (fun g60 => ?_)
      exact f_I F dX7_cancel_63 g60 ⟨hD.2.2.2.2.2.2.symm, ⟨⟨hf02, hf12⟩, hcc⟩, hD, rfl, (h45 ▸ Fr.up (by decide) : Fr [103, 104, 64, 65] S S45).tr (hF53.sub (by decide))⟩ (Nat.le_of_ble_eq_true rfl) (Nat.le_of_ble_eq_true rfl)
    · refine r_aload_n C dX7_cancel_38 lg_0 ?_
      refine r_aload_n C dX7_cancel_39 lg_2 ?_
      refine r_V1V C (cB_disp hfl hCK hR.1 hR hzm) dX7_cancel_40 lk_X7_130 hl6 ⟨Nat.le_of_ble_eq_true rfl, Nat.le_of_ble_eq_true rfl⟩ (catLe (Nat.le_of_ble_eq_true rfl)) 2 12 ⟨rfl, rfl⟩ (Nat.le_of_ble_eq_true rfl) (Nat.le_of_ble_eq_true rfl) (fun E9 S9 A9 h9 => FX _ _ _ _ _ _ _ (by obtain ⟨rfl, h8, rfl, rfl⟩ := h9; exact ⟨Or.inr ⟨rfl, ⟨hf02, hf12⟩, fun q => h8 (q.2.2 c35)⟩, rfl, rfl⟩) (Nat.le_of_ble_eq_true rfl) (Nat.le_of_ble_eq_true rfl)) (fun S40 A40 p40 => ?_)
      obtain ⟨hr40, rfl, rfl⟩ := p40
      have hcc : (S 103 m = 0 ∧ S 198 0 < S 98 m ∧ (S 97 m = 0 → (¬ (∃ x ∈ LdR R, m ∈ (shR R x).map Prod.fst) ∧ S 100 m ≤ spf (S 98) (S 96) (S 99) (dlt (S 97) (S 100)) (S 100) (fun m => S 97 m = 1 ∨ S 97 m = 2) (S 99 m) (S 98 m) (S 96 m) (LdR R) 0 0))) := by
        first
        | exact hcc
        | exact ⟨c10, hr28, fun _ => hr40⟩
      refine r_aload_n C dX7_cancel_43 lg_2 ?_
      refine r_iconst C dX7_cancel_44 ?_
      refine r_putZ C 103 dX7_cancel_45 fg_X7_115_3 rfl rfl hzm (fun q h => by cases h; exact Or.inl rfl) (by omega) ?_
      refine r_gS (fun S45 h45 => ?_)
      have k193 : S45 193 0 = 0 := by rw [h45, upS_c _ _ (by decide)]; exact h193
      refine r_aload_n C dX7_cancel_48 lg_0 ?_
      refine r_getA C 193 2 dX7_cancel_49 fg_X7_18_6 rfl rfl hl6 (fun g49 => ?_)
      rw [k193]
      refine r_aload_n C dX7_cancel_52 lg_2 ?_
      refine q_V1V C (cG_remove hfl (a := a) (b := b) hl2 (by rw [h45, upS_fn _ _ _ (by decide), upS_c _ _ (by decide), ← hab]; exact hCK.2.2.2.2.2.1) (fun x hx => ⟨(hmm.1 x (by rw [hab]; exact hx)).1, trivial⟩) hzm (by rw [← hab]; exact led_nd _ _ _) (by rw [h45, upS_c _ _ (by decide), hCK.2.2.2.2.2.2, hab, List.length_append, List.length_cons]; rw [hab, List.length_append, List.length_cons] at hmm; have := hmm.2; omega) (by omega)) dX7_cancel_53 lk_X7_134 hl2 ⟨Nat.le_of_ble_eq_true rfl, Nat.le_of_ble_eq_true rfl⟩ (catLe (Nat.le_of_ble_eq_true rfl)) ⟨rfl, rfl⟩ rfl (Nat.le_of_ble_eq_true rfl) (Nat.le_of_ble_eq_true rfl) (fun S53 A53 p53 => ?_)
      obtain ⟨rfl, hF53, hc53, hz53⟩ := p53
      have hD := ck_cancel (S' := S53) hCK hab ((h45 ▸ Fr.up (by decide) : Fr [103, 104, 64, 65] S S45).tr (hF53.sub (by decide))) (by rw [hF53.fn (by decide), h45, upS_fu]) hc53 (by rw [hz53, h45, upS_c _ _ (by decide)])
      have k193b : S53 193 0 = 0 := (hF53 193 0 (by decide)).trans k193
      refine r_aload_n C dX7_cancel_56 lg_0 ?_
      refine r_getA C 193 2 dX7_cancel_57 fg_X7_18_6 rfl rfl hl6 (fun g57 => ?_)
      rw [k193b]
      refine r_getI C 65 dX7_cancel_60 fg_X7_137_2 rfl rfl hl2 (fun g60 => ?_)
      exact f_I F dX7_cancel_63 g60 ⟨hD.2.2.2.2.2.2.symm, ⟨⟨hf02, hf12⟩, hcc⟩, hD, rfl, (h45 ▸ Fr.up (by decide) : Fr [103, 104, 64, 65] S S45).tr (hF53.sub (by decide))⟩ (Nat.le_of_ble_eq_true rfl) (Nat.le_of_ble_eq_true rfl)
  · exact FT _ _ _ _ _ _ _ _ _ xIS "cancelled already" (by decide) rfl xw_IS nw_X7_98 dX7_cancel_13 dX7_cancel_16 dX7_cancel_17 dX7_cancel_19 dX7_cancel_22 ⟨Or.inr ⟨rfl, ⟨hf02, hf12⟩, fun q => c10 q.1⟩, rfl, rfl⟩ (Nat.le_of_ble_eq_true rfl) (Nat.le_of_ble_eq_true rfl) (Nat.le_of_ble_eq_true rfl) (Nat.le_of_ble_eq_true rfl)
set_option maxRecDepth 20000 in
theorem cB0_costOf {G : GT} {l : Launch} (hfl : l.stackTraces = false) {S : ST} {A : AB} {m y : Int} {R : RW} (hCK : CK R S A) (hR : RG R) (hR2 : RG2 R) (hV : ∀ i, 0 ≤ i → i ≤ 5 → RV R i) (hm : rI m) (hy : rI y) (hy0 : y = 0) : CT G l yX7_costOf cX7_costOf 4 (some .long) (rmk 7 2 12 125) S A [vR A 6 0, vI m, vI y] (oJ fun z S' A' => (WKr R (R.it m) (R.dy m) (icF S)).ic (2 * m) = z ∧ ((0 ≤ m ∧ m < R.n) ∧ (R.kd m = 1 ∧ R.gn m = 0)) ∧ A = A' ∧ Fr [33, 34, 35, 5, 6, 0, 1, 2, 3, 4, 106] S S') (fun E S' A' => ((E = xIO ∧ ¬ (0 ≤ m ∧ m < R.n)) ∨ (E = xIS ∧ (0 ≤ m ∧ m < R.n) ∧ ¬ (R.kd m = 1 ∧ R.gn m = 0))) ∧ S = S' ∧ A = A') := by
  have hA3 : A.2 3 = R.n := hCK.2.2.1.2.1
  refine ct_ofN (own := RX7) (mn := "costOf") rfl rfl (by decide) hfl (lv0 := [some (vR A 6 0), some (vI m), some (vI y), none]) (ent_1 (cat_R _ _ _) (ent_1 rfl (ent_1 rfl (ent_n ent_0)))) rfl ?_
  intro J X C F FX FT FU hW hA
  refine r_aload_n C dX7_costOf_0 lg_0 ?_
  refine r_iload_n C dX7_costOf_1 lg_1 ?_
  refine r_V1A C (cB_find hfl (R := R) hCK hR.1 hm) dX7_costOf_2 lk_X7_111 hCK.1.1 ⟨Nat.le_of_ble_eq_true rfl, Nat.le_of_ble_eq_true rfl⟩ (catLe (Nat.le_of_ble_eq_true rfl)) 1 6 ⟨rfl, rfl⟩ (Nat.le_of_ble_eq_true rfl) (Nat.le_of_ble_eq_true rfl) (fun E9 S9 A9 h9 => FX _ _ _ _ _ _ _ (by obtain ⟨rfl, h8, rfl, rfl⟩ := h9; exact ⟨Or.inl ⟨rfl, h8⟩, rfl, rfl⟩) (Nat.le_of_ble_eq_true rfl) (Nat.le_of_ble_eq_true rfl)) (fun z2 S2 A2 i2 p2 => ?_)
  obtain ⟨⟨e2, hf02, hf12⟩, rfl, rfl⟩ := p2
  rw [e2]
  have hzm : lv1 A 3 m := ⟨hf02, by omega⟩
  obtain ⟨⟨h97, h99, h100, h101⟩, h98, h102, hq1, hq2, hq3, hq4, hq5⟩ := row_ok hR hCK hf02 hf12
  have h103 := (hCK.2.2.2.2.1 m hf02 hf12).1.2.2.2.2.2.2.2.1
  refine r_astore_n C dX7_costOf_5 (ls1_3 (cat_R _ _ _) rfl) ?_
  refine r_aload_n C dX7_costOf_6 lg_3 ?_
  refine r_getI C 97 dX7_costOf_7 fg_X7_127_3 rfl rfl hzm (fun g7 => ?_)
  refine r_iconst C dX7_costOf_10 ?_
  refine r_icne C (tgt := 21) dX7_costOf_11 (by decide) (by omega) (by omega) (fun c11 => ?_) (fun c11 => ?_)
  · exact FT _ _ _ _ _ _ _ _ _ xIS "no issue of the ledger" (by decide) rfl xw_IS nw_X7_98 dX7_costOf_21 dX7_costOf_24 dX7_costOf_25 dX7_costOf_27 dX7_costOf_30 ⟨Or.inr ⟨rfl, ⟨hf02, hf12⟩, fun q => by omega⟩, rfl, rfl⟩ (Nat.le_of_ble_eq_true rfl) (Nat.le_of_ble_eq_true rfl) (Nat.le_of_ble_eq_true rfl) (Nat.le_of_ble_eq_true rfl)
  · refine r_aload_n C dX7_costOf_14 lg_3 ?_
    refine r_getZ C 103 dX7_costOf_15 fg_X7_115_3 rfl rfl hzm (fun g15 => ?_)
    refine r_ifeq C (tgt := 31) dX7_costOf_18 (by decide) (by omega) (fun c18 => ?_) (fun c18 => ?_)
    · have hki : (R.kd m = 1 ∧ R.gn m = 0) := ⟨by omega, by omega⟩
      have hit9 := ((hR.2 m hf02 hf12).1.2.2.1 (by omega)).1
      refine r_aload_n C dX7_costOf_31 lg_0 ?_
      refine r_aload_n C dX7_costOf_32 lg_3 ?_
      refine r_getI C 99 dX7_costOf_33 fg_X7_160_3 rfl rfl hzm (fun g33 => ?_)
      rw [h99]
      refine r_aload_n C dX7_costOf_36 lg_3 ?_
      refine r_getI C 98 dX7_costOf_37 fg_X7_121_3 rfl rfl hzm (fun g37 => ?_)
      rw [h98]
      refine r_iload_n C dX7_costOf_40 lg_2 ?_
      refine q_V3A C (cB0_replayed hfl hCK hR hR2 hit9 hq5 (hV _ hit9.1 hit9.2) hy hy0) dX7_costOf_41 lk_X7_163 hCK.1.1 ⟨Nat.le_of_ble_eq_true rfl, Nat.le_of_ble_eq_true rfl⟩ (catLe (Nat.le_of_ble_eq_true rfl)) ⟨rfl, rfl⟩ rfl (Nat.le_of_ble_eq_true rfl) (Nat.le_of_ble_eq_true rfl) (fun z41 S41 A41 i41 p41 => ?_)
      obtain ⟨rfl, rfl, hF41, hv41⟩ := p41
      refine r_pop C dX7_costOf_44 (cat_R _ _ _) ?_
      refine r_aload_n C dX7_costOf_45 lg_3 ?_
      refine r_getJ C 106 dX7_costOf_46 fg_X7_167_3 rfl rfl hzm (fun g46 => ?_)
      exact f_J F dX7_costOf_49 g46 ⟨(hv41.2.2.2.2.2.2 m).symm, ⟨⟨hf02, hf12⟩, hki⟩, rfl, hF41⟩ (Nat.le_of_ble_eq_true rfl) (Nat.le_of_ble_eq_true rfl)
    · exact FT _ _ _ _ _ _ _ _ _ xIS "no issue of the ledger" (by decide) rfl xw_IS nw_X7_98 dX7_costOf_21 dX7_costOf_24 dX7_costOf_25 dX7_costOf_27 dX7_costOf_30 ⟨Or.inr ⟨rfl, ⟨hf02, hf12⟩, fun q => by omega⟩, rfl, rfl⟩ (Nat.le_of_ble_eq_true rfl) (Nat.le_of_ble_eq_true rfl) (Nat.le_of_ble_eq_true rfl) (Nat.le_of_ble_eq_true rfl)
set_option maxRecDepth 20000 in
theorem cB4_costOf {G : GT} {l : Launch} (hfl : l.stackTraces = false) {S : ST} {A : AB} {m y : Int} {R : RW} (hCK : CK R S A) (hR : RG R) (hR2 : RG2 R) (hV : ∀ i, 0 ≤ i → i ≤ 5 → RV R i) (hm : rI m) (hy : rI y) (hy0 : ¬ y = 0) : CT G l yX7_costOf cX7_costOf 4 (some .long) (rmk 7 2 12 125) S A [vR A 6 0, vI m, vI y] (oJ fun z S' A' => (WKr R (R.it m) (R.dy m) (icF S)).ic (2 * m + 1) = z ∧ ((0 ≤ m ∧ m < R.n) ∧ (R.kd m = 1 ∧ R.gn m = 0)) ∧ A = A' ∧ Fr [128, 129, 130, 131, 132, 133, 106] S S') (fun E S' A' => ((E = xIO ∧ ¬ (0 ≤ m ∧ m < R.n)) ∨ (E = xIS ∧ (0 ≤ m ∧ m < R.n) ∧ ¬ (R.kd m = 1 ∧ R.gn m = 0))) ∧ S = S' ∧ A = A') := by
  have hA3 : A.2 3 = R.n := hCK.2.2.1.2.1
  refine ct_ofN (own := RX7) (mn := "costOf") rfl rfl (by decide) hfl (lv0 := [some (vR A 6 0), some (vI m), some (vI y), none]) (ent_1 (cat_R _ _ _) (ent_1 rfl (ent_1 rfl (ent_n ent_0)))) rfl ?_
  intro J X C F FX FT FU hW hA
  refine r_aload_n C dX7_costOf_0 lg_0 ?_
  refine r_iload_n C dX7_costOf_1 lg_1 ?_
  refine r_V1A C (cB_find hfl (R := R) hCK hR.1 hm) dX7_costOf_2 lk_X7_111 hCK.1.1 ⟨Nat.le_of_ble_eq_true rfl, Nat.le_of_ble_eq_true rfl⟩ (catLe (Nat.le_of_ble_eq_true rfl)) 1 6 ⟨rfl, rfl⟩ (Nat.le_of_ble_eq_true rfl) (Nat.le_of_ble_eq_true rfl) (fun E9 S9 A9 h9 => FX _ _ _ _ _ _ _ (by obtain ⟨rfl, h8, rfl, rfl⟩ := h9; exact ⟨Or.inl ⟨rfl, h8⟩, rfl, rfl⟩) (Nat.le_of_ble_eq_true rfl) (Nat.le_of_ble_eq_true rfl)) (fun z2 S2 A2 i2 p2 => ?_)
  obtain ⟨⟨e2, hf02, hf12⟩, rfl, rfl⟩ := p2
  rw [e2]
  have hzm : lv1 A 3 m := ⟨hf02, by omega⟩
  obtain ⟨⟨h97, h99, h100, h101⟩, h98, h102, hq1, hq2, hq3, hq4, hq5⟩ := row_ok hR hCK hf02 hf12
  have h103 := (hCK.2.2.2.2.1 m hf02 hf12).1.2.2.2.2.2.2.2.1
  refine r_astore_n C dX7_costOf_5 (ls1_3 (cat_R _ _ _) rfl) ?_
  refine r_aload_n C dX7_costOf_6 lg_3 ?_
  refine r_getI C 97 dX7_costOf_7 fg_X7_127_3 rfl rfl hzm (fun g7 => ?_)
  refine r_iconst C dX7_costOf_10 ?_
  refine r_icne C (tgt := 21) dX7_costOf_11 (by decide) (by omega) (by omega) (fun c11 => ?_) (fun c11 => ?_)
  · exact FT _ _ _ _ _ _ _ _ _ xIS "no issue of the ledger" (by decide) rfl xw_IS nw_X7_98 dX7_costOf_21 dX7_costOf_24 dX7_costOf_25 dX7_costOf_27 dX7_costOf_30 ⟨Or.inr ⟨rfl, ⟨hf02, hf12⟩, fun q => by omega⟩, rfl, rfl⟩ (Nat.le_of_ble_eq_true rfl) (Nat.le_of_ble_eq_true rfl) (Nat.le_of_ble_eq_true rfl) (Nat.le_of_ble_eq_true rfl)
  · refine r_aload_n C dX7_costOf_14 lg_3 ?_
    refine r_getZ C 103 dX7_costOf_15 fg_X7_115_3 rfl rfl hzm (fun g15 => ?_)
    refine r_ifeq C (tgt := 31) dX7_costOf_18 (by decide) (by omega) (fun c18 => ?_) (fun c18 => ?_)
    · have hki : (R.kd m = 1 ∧ R.gn m = 0) := ⟨by omega, by omega⟩
      have hit9 := ((hR.2 m hf02 hf12).1.2.2.1 (by omega)).1
      refine r_aload_n C dX7_costOf_31 lg_0 ?_
      refine r_aload_n C dX7_costOf_32 lg_3 ?_
      refine r_getI C 99 dX7_costOf_33 fg_X7_160_3 rfl rfl hzm (fun g33 => ?_)
      rw [h99]
      refine r_aload_n C dX7_costOf_36 lg_3 ?_
      refine r_getI C 98 dX7_costOf_37 fg_X7_121_3 rfl rfl hzm (fun g37 => ?_)
      rw [h98]
      refine r_iload_n C dX7_costOf_40 lg_2 ?_
      refine q_V3A C (cB4_replayed hfl hCK hR hR2 hit9 hq5 (hV _ hit9.1 hit9.2) hy hy0) dX7_costOf_41 lk_X7_163 hCK.1.1 ⟨Nat.le_of_ble_eq_true rfl, Nat.le_of_ble_eq_true rfl⟩ (catLe (Nat.le_of_ble_eq_true rfl)) ⟨rfl, rfl⟩ rfl (Nat.le_of_ble_eq_true rfl) (Nat.le_of_ble_eq_true rfl) (fun z41 S41 A41 i41 p41 => ?_)
      obtain ⟨rfl, rfl, hF41, hv41⟩ := p41
      refine r_pop C dX7_costOf_44 (cat_R _ _ _) ?_
      refine r_aload_n C dX7_costOf_45 lg_3 ?_
      refine r_getJ C 106 dX7_costOf_46 fg_X7_167_3 rfl rfl hzm (fun g46 => ?_)
      exact f_J F dX7_costOf_49 g46 ⟨(hv41.2.2.2.2.2.2 m).symm, ⟨⟨hf02, hf12⟩, hki⟩, rfl, hF41⟩ (Nat.le_of_ble_eq_true rfl) (Nat.le_of_ble_eq_true rfl)
    · exact FT _ _ _ _ _ _ _ _ _ xIS "no issue of the ledger" (by decide) rfl xw_IS nw_X7_98 dX7_costOf_21 dX7_costOf_24 dX7_costOf_25 dX7_costOf_27 dX7_costOf_30 ⟨Or.inr ⟨rfl, ⟨hf02, hf12⟩, fun q => by omega⟩, rfl, rfl⟩ (Nat.le_of_ble_eq_true rfl) (Nat.le_of_ble_eq_true rfl) (Nat.le_of_ble_eq_true rfl) (Nat.le_of_ble_eq_true rfl)
set_option maxRecDepth 20000 in
theorem cB0_value {G : GT} {l : Launch} (hfl : l.stackTraces = false) {S : ST} {A : AB} {item day y : Int} {R : RW} (hCK : CK R S A) (hR : RG R) (hR2 : RG2 R) (hV : ∀ i, 0 ≤ i → i ≤ 5 → RV R i) (hi : rI item) (hd : rI day) (hy : rI y) (hy0 : y = 0) : CT G l yX7_value cX7_value 4 (some .long) (rmk 8 2 12 133) S A [vR A 6 0, vI item, vI day, vI y] (oJ fun z S' A' => qc (WKr R item day (icF S)).q = z ∧ akOk item day ∧ A = A' ∧ Fr [33, 34, 35, 5, 6, 0, 1, 2, 3, 4, 106] S S') (fun E S' A' => (E = xIA ∧ ¬ akOk item day) ∧ S = S' ∧ A = A') := by
  refine ct_ofN (own := RX7) (mn := "value") rfl rfl (by decide) hfl (lv0 := [some (vR A 6 0), some (vI item), some (vI day), some (vI y)]) (ent_1 (cat_R _ _ _) (ent_1 rfl (ent_1 rfl (ent_1 rfl ent_0)))) rfl ?_
  intro J X C F FX FT FU hW hA
  refine r_iload_n C dX7_value_0 lg_1 ?_
  refine r_iload_n C dX7_value_1 lg_2 ?_
  refine r_S2V C (cB_item hfl (by omega) (by omega)) dX7_value_2 lk_X7_44 ⟨Nat.le_of_ble_eq_true rfl, Nat.le_of_ble_eq_true rfl⟩ (catLe (Nat.le_of_ble_eq_true rfl)) 2 12 ⟨rfl, rfl⟩ (Nat.le_of_ble_eq_true rfl) (Nat.le_of_ble_eq_true rfl) (fun E9 S9 A9 h9 => FX _ _ _ _ _ _ _ (by obtain ⟨rfl, h8, rfl, rfl⟩ := h9; exact ⟨⟨rfl, h8⟩, rfl, rfl⟩) (Nat.le_of_ble_eq_true rfl) (Nat.le_of_ble_eq_true rfl)) (fun S2 A2 p2 => ?_)
  obtain ⟨hr2, rfl, rfl⟩ := p2
  refine r_aload_n C dX7_value_5 lg_0 ?_
  refine r_iload_n C dX7_value_6 lg_1 ?_
  refine r_iload_n C dX7_value_7 lg_2 ?_
  refine r_iload_n C dX7_value_8 lg_3 ?_
  refine q_V3A C (cB0_replayed hfl hCK hR hR2 hr2.1 hd (hV item hr2.1.1 hr2.1.2) hy hy0) dX7_value_9 lk_X7_163 hCK.1.1 ⟨Nat.le_of_ble_eq_true rfl, Nat.le_of_ble_eq_true rfl⟩ (catLe (Nat.le_of_ble_eq_true rfl)) ⟨rfl, rfl⟩ rfl (Nat.le_of_ble_eq_true rfl) (Nat.le_of_ble_eq_true rfl) (fun z9 S9 A9 i9 p9 => ?_)
  obtain ⟨rfl, rfl, hF9, hv9⟩ := p9
  have hwq := wk_q (day := day) hCK hR hr2.1.1 (hV item hr2.1.1 hr2.1.2) (icF S)
  refine q_U0J C (cF_worth hfl hCK.1.2.2.1 hv9.2.2.2.2.2.1.1 hwq.1 hwq.2.1) dX7_value_12 lk_X7_176_0 hCK.1.2.2.1 ⟨Nat.le_of_ble_eq_true rfl, Nat.le_of_ble_eq_true rfl⟩ (catLe (Nat.le_of_ble_eq_true rfl)) ⟨rfl, rfl⟩ rfl (Nat.le_of_ble_eq_true rfl) (Nat.le_of_ble_eq_true rfl) (fun z12 S12 A12 i12 p12 => ?_)
  obtain ⟨rfl, rfl, rfl⟩ := p12
  exact f_J F dX7_value_15 i12 ⟨rfl, hr2, rfl, hF9⟩ (Nat.le_of_ble_eq_true rfl) (Nat.le_of_ble_eq_true rfl)
set_option maxRecDepth 20000 in
theorem cB4_value {G : GT} {l : Launch} (hfl : l.stackTraces = false) {S : ST} {A : AB} {item day y : Int} {R : RW} (hCK : CK R S A) (hR : RG R) (hR2 : RG2 R) (hV : ∀ i, 0 ≤ i → i ≤ 5 → RV R i) (hi : rI item) (hd : rI day) (hy : rI y) (hy0 : ¬ y = 0) : CT G l yX7_value cX7_value 4 (some .long) (rmk 8 2 12 133) S A [vR A 6 0, vI item, vI day, vI y] (oJ fun z S' A' => (WKr R item day (icF S)).avg = z ∧ akOk item day ∧ A = A' ∧ Fr [128, 129, 130, 131, 132, 133, 106] S S') (fun E S' A' => (E = xIA ∧ ¬ akOk item day) ∧ S = S' ∧ A = A') := by
  refine ct_ofN (own := RX7) (mn := "value") rfl rfl (by decide) hfl (lv0 := [some (vR A 6 0), some (vI item), some (vI day), some (vI y)]) (ent_1 (cat_R _ _ _) (ent_1 rfl (ent_1 rfl (ent_1 rfl ent_0)))) rfl ?_
  intro J X C F FX FT FU hW hA
  refine r_iload_n C dX7_value_0 lg_1 ?_
  refine r_iload_n C dX7_value_1 lg_2 ?_
  refine r_S2V C (cB_item hfl (by omega) (by omega)) dX7_value_2 lk_X7_44 ⟨Nat.le_of_ble_eq_true rfl, Nat.le_of_ble_eq_true rfl⟩ (catLe (Nat.le_of_ble_eq_true rfl)) 2 12 ⟨rfl, rfl⟩ (Nat.le_of_ble_eq_true rfl) (Nat.le_of_ble_eq_true rfl) (fun E9 S9 A9 h9 => FX _ _ _ _ _ _ _ (by obtain ⟨rfl, h8, rfl, rfl⟩ := h9; exact ⟨⟨rfl, h8⟩, rfl, rfl⟩) (Nat.le_of_ble_eq_true rfl) (Nat.le_of_ble_eq_true rfl)) (fun S2 A2 p2 => ?_)
  obtain ⟨hr2, rfl, rfl⟩ := p2
  refine r_aload_n C dX7_value_5 lg_0 ?_
  refine r_iload_n C dX7_value_6 lg_1 ?_
  refine r_iload_n C dX7_value_7 lg_2 ?_
  refine r_iload_n C dX7_value_8 lg_3 ?_
  refine q_V3A C (cB4_replayed hfl hCK hR hR2 hr2.1 hd (hV item hr2.1.1 hr2.1.2) hy hy0) dX7_value_9 lk_X7_163 hCK.1.1 ⟨Nat.le_of_ble_eq_true rfl, Nat.le_of_ble_eq_true rfl⟩ (catLe (Nat.le_of_ble_eq_true rfl)) ⟨rfl, rfl⟩ rfl (Nat.le_of_ble_eq_true rfl) (Nat.le_of_ble_eq_true rfl) (fun z9 S9 A9 i9 p9 => ?_)
  obtain ⟨rfl, rfl, hF9, hv9⟩ := p9
  have hwq := wk_q (day := day) hCK hR hr2.1.1 (hV item hr2.1.1 hr2.1.2) (icF S)
  refine q_U0J C (cA_worth hfl hCK.1.2.2.2.1) dX7_value_12 lk_X7_176_4 hCK.1.2.2.2.1 ⟨Nat.le_of_ble_eq_true rfl, Nat.le_of_ble_eq_true rfl⟩ (catLe (Nat.le_of_ble_eq_true rfl)) ⟨rfl, rfl⟩ rfl (Nat.le_of_ble_eq_true rfl) (Nat.le_of_ble_eq_true rfl) (fun z12 S12 A12 i12 p12 => ?_)
  obtain ⟨rfl, rfl, rfl⟩ := p12
  exact f_J F dX7_value_15 i12 ⟨hv9.2.2.2.2.2.1.symm, hr2, rfl, hF9⟩ (Nat.le_of_ble_eq_true rfl) (Nat.le_of_ble_eq_true rfl)
set_option maxRecDepth 20000 in
theorem cB_layers {G : GT} {l : Launch} (hfl : l.stackTraces = false) {S : ST} {A : AB} {item day : Int} {R : RW} (hCK : CK R S A) (hR : RG R) (hR2 : RG2 R) (hV : ∀ i, 0 ≤ i → i ≤ 5 → RV R i) (hi : rI item) (hd : rI day) : CT G l yX7_layers cX7_layers 3 (some .int) (rmk 8 2 12 133) S A [vR A 6 0, vI item, vI day] (oI fun z S' A' => ((WKr R item day (icF S)).q.length : Int) = z ∧ akOk item day ∧ A = A' ∧ Fr [33, 34, 35, 5, 6, 0, 1, 2, 3, 4, 106] S S') (fun E S' A' => (E = xIA ∧ ¬ akOk item day) ∧ S = S' ∧ A = A') := by
  have h193 := hCK.2.1.2.1
  have h194 := hCK.2.1.2.2.1
  have hA1 : A.2 1 = R.n := hCK.2.2.1.2.2
  refine ct_ofN (own := RX7) (mn := "layers") rfl rfl (by decide) hfl (lv0 := [some (vR A 6 0), some (vI item), some (vI day)]) (ent_1 (cat_R _ _ _) (ent_1 rfl (ent_1 rfl ent_0))) rfl ?_
  intro J X C F FX FT FU hW hA
  refine r_iload_n C dX7_layers_0 lg_1 ?_
  refine r_iload_n C dX7_layers_1 lg_2 ?_
  refine r_S2V C (cB_item hfl (by omega) (by omega)) dX7_layers_2 lk_X7_44 ⟨Nat.le_of_ble_eq_true rfl, Nat.le_of_ble_eq_true rfl⟩ (catLe (Nat.le_of_ble_eq_true rfl)) 2 12 ⟨rfl, rfl⟩ (Nat.le_of_ble_eq_true rfl) (Nat.le_of_ble_eq_true rfl) (fun E9 S9 A9 h9 => FX _ _ _ _ _ _ _ (by obtain ⟨rfl, h8, rfl, rfl⟩ := h9; exact ⟨⟨rfl, h8⟩, rfl, rfl⟩) (Nat.le_of_ble_eq_true rfl) (Nat.le_of_ble_eq_true rfl)) (fun S2 A2 p2 => ?_)
  obtain ⟨hr2, rfl, rfl⟩ := p2
  refine r_aload_n C dX7_layers_5 lg_0 ?_
  refine r_getA C 194 0 dX7_layers_6 fg_X7_25_6 rfl rfl hCK.1.1 (fun g6 => ?_)
  rw [h194]
  refine r_aload_n C dX7_layers_9 lg_0 ?_
  refine r_getA C 193 2 dX7_layers_10 fg_X7_18_6 rfl rfl hCK.1.1 (fun g10 => ?_)
  rw [h193]
  refine r_getA C 64 3 dX7_layers_13 fg_X7_194_2 rfl rfl hCK.1.2.1 (fun g13 => ?_)
  refine r_iload_n C dX7_layers_16 lg_1 ?_
  refine r_iload_n C dX7_layers_17 lg_2 ?_
  refine q_U3V C (cV0_replay hfl hCK.1.2.2.1 hCK hR hR2 hr2.1 hd (hV item hr2.1.1 hr2.1.2)) dX7_layers_18 lk_X7_198_0 hCK.1.2.2.1 ⟨Nat.le_of_ble_eq_true rfl, Nat.le_of_ble_eq_true rfl⟩ (catLe (Nat.le_of_ble_eq_true rfl)) ⟨rfl, rfl⟩ rfl (Nat.le_of_ble_eq_true rfl) (Nat.le_of_ble_eq_true rfl) (fun S18 A18 p18 => ?_)
  obtain ⟨rfl, hF18, hv18⟩ := p18
  have hwq := wk_q (day := day) hCK hR hr2.1.1 (hV item hr2.1.1 hr2.1.2) (icF S)
  refine r_aload_n C dX7_layers_21 lg_0 ?_
  refine r_getA C 194 0 dX7_layers_22 fg_X7_25_6 rfl rfl hCK.1.1 (fun g22 => ?_)
  rw [hF18 194 0 (by decide), h194]
  refine q_V0I C (cF_length hfl hCK.1.2.2.1 hv18.2.2.2.2.2.1.1 hwq.1 hwq.2.2.1) dX7_layers_25 lk_X7_202 hCK.1.2.2.1 ⟨Nat.le_of_ble_eq_true rfl, Nat.le_of_ble_eq_true rfl⟩ (catLe (Nat.le_of_ble_eq_true rfl)) ⟨rfl, rfl⟩ rfl (Nat.le_of_ble_eq_true rfl) (Nat.le_of_ble_eq_true rfl) (fun z25 S25 A25 i25 p25 => ?_)
  obtain ⟨rfl, rfl, rfl⟩ := p25
  exact f_I F dX7_layers_28 i25 ⟨rfl, hr2, rfl, hF18⟩ (Nat.le_of_ble_eq_true rfl) (Nat.le_of_ble_eq_true rfl)
set_option maxRecDepth 20000 in
theorem cB_findLayer {G : GT} {l : Launch} (hfl : l.stackTraces = false) {S : ST} {A : AB} {item day lay : Int} {R : RW} (hCK : CK R S A) (hR : RG R) (hR2 : RG2 R) (hV : ∀ i, 0 ≤ i → i ≤ 5 → RV R i) (hi : rI item) (hd : rI day) (hl : rI lay) : CT G l yX7_findLayer cX7_findLayer 5 (some (.object "Layerbook$Layer")) (rmk 8 3 18 133) S A [vR A 6 0, vI item, vI day, vI lay] (oA 1 fun z S' A' => ((0 ≤ lay ∧ lay < (WKr R item day (icF S)).q.length) ∧ akOk item day) ∧ ((0 ≤ z ∧ z < R.n) ∧ S' 33 z = (qat (WKr R item day (icF S)).q lay).1 ∧ S' 34 z = (qat (WKr R item day (icF S)).q lay).2.1 ∧ z = (qat (WKr R item day (icF S)).q lay).2.2) ∧ A = A' ∧ Fr [33, 34, 35, 5, 6, 0, 1, 2, 3, 4, 106] S S') (fun E S' A' => (E = xIA ∧ ¬ akOk item day ∧ S = S' ∧ A = A') ∨ (E = xIO ∧ akOk item day ∧ ¬ (0 ≤ lay ∧ lay < (WKr R item day (icF S)).q.length) ∧ A = A' ∧ Fr [33, 34, 35, 5, 6, 0, 1, 2, 3, 4, 106] S S')) := by
  have h193 := hCK.2.1.2.1
  have h194 := hCK.2.1.2.2.1
  have hA1 : A.2 1 = R.n := hCK.2.2.1.2.2
  refine ct_ofN (own := RX7) (mn := "findLayer") rfl rfl (by decide) hfl (lv0 := [some (vR A 6 0), some (vI item), some (vI day), some (vI lay), none]) (ent_1 (cat_R _ _ _) (ent_1 rfl (ent_1 rfl (ent_1 rfl (ent_n ent_0))))) rfl ?_
  intro J X C F FX FT FU hW hA
  refine r_iload_n C dX7_findLayer_0 lg_1 ?_
  refine r_iload_n C dX7_findLayer_1 lg_2 ?_
  refine r_S2V C (cB_item hfl (by omega) (by omega)) dX7_findLayer_2 lk_X7_44 ⟨Nat.le_of_ble_eq_true rfl, Nat.le_of_ble_eq_true rfl⟩ (catLe (Nat.le_of_ble_eq_true rfl)) 2 12 ⟨rfl, rfl⟩ (Nat.le_of_ble_eq_true rfl) (Nat.le_of_ble_eq_true rfl) (fun E9 S9 A9 h9 => FX _ _ _ _ _ _ _ (by obtain ⟨rfl, h8, rfl, rfl⟩ := h9; exact Or.inl ⟨rfl, h8, rfl, rfl⟩) (Nat.le_of_ble_eq_true rfl) (Nat.le_of_ble_eq_true rfl)) (fun S2 A2 p2 => ?_)
  obtain ⟨hr2, rfl, rfl⟩ := p2
  refine r_aload_n C dX7_findLayer_5 lg_0 ?_
  refine r_getA C 194 0 dX7_findLayer_6 fg_X7_25_6 rfl rfl hCK.1.1 (fun g6 => ?_)
  rw [h194]
  refine r_aload_n C dX7_findLayer_9 lg_0 ?_
  refine r_getA C 193 2 dX7_findLayer_10 fg_X7_18_6 rfl rfl hCK.1.1 (fun g10 => ?_)
  rw [h193]
  refine r_getA C 64 3 dX7_findLayer_13 fg_X7_194_2 rfl rfl hCK.1.2.1 (fun g13 => ?_)
  refine r_iload_n C dX7_findLayer_16 lg_1 ?_
  refine r_iload_n C dX7_findLayer_17 lg_2 ?_
  refine q_U3V C (cV0_replay hfl hCK.1.2.2.1 hCK hR hR2 hr2.1 hd (hV item hr2.1.1 hr2.1.2)) dX7_findLayer_18 lk_X7_198_0 hCK.1.2.2.1 ⟨Nat.le_of_ble_eq_true rfl, Nat.le_of_ble_eq_true rfl⟩ (catLe (Nat.le_of_ble_eq_true rfl)) ⟨rfl, rfl⟩ rfl (Nat.le_of_ble_eq_true rfl) (Nat.le_of_ble_eq_true rfl) (fun S18 A18 p18 => ?_)
  obtain ⟨rfl, hF18, hv18⟩ := p18
  have hwq := wk_q (day := day) hCK hR hr2.1.1 (hV item hr2.1.1 hr2.1.2) (icF S)
  refine r_aload_n C dX7_findLayer_21 lg_0 ?_
  refine r_getA C 194 0 dX7_findLayer_22 fg_X7_25_6 rfl rfl hCK.1.1 (fun g22 => ?_)
  rw [hF18 194 0 (by decide), h194]
  refine r_iload_n C dX7_findLayer_25 lg_3 ?_
  refine q_V1A C (cF_at hfl hCK.1.2.2.1 hv18.2.2.2.2.2.1.1 hwq.1 hwq.2.2.1 hl) dX7_findLayer_26 lk_X7_248 hCK.1.2.2.1 ⟨Nat.le_of_ble_eq_true rfl, Nat.le_of_ble_eq_true rfl⟩ (catLe (Nat.le_of_ble_eq_true rfl)) ⟨rfl, rfl⟩ rfl (Nat.le_of_ble_eq_true rfl) (Nat.le_of_ble_eq_true rfl) (fun z26 S26 A26 i26 p26 => ?_)
  obtain ⟨h26, rfl, rfl⟩ := p26
  refine r_astore C dX7_findLayer_29 (ls1_4 (cat_R _ _ _) rfl) ?_
  refine r_aload C dX7_findLayer_31 lg_4 ?_
  refine r_ifnonnull C (tgt := 46) dX7_findLayer_33 (by decide) (fun c33 => ?_) (fun c33 => ?_)
  · rcases h26 with ⟨q1, q2⟩ | ⟨q1, q2, q3, q4, q5, q6⟩
    · exfalso; omega
    refine r_aload C dX7_findLayer_46 lg_4 ?_
    exact f_A F dX7_findLayer_48 (by omega) ⟨⟨⟨q1, q2⟩, hr2⟩, ⟨⟨q3.1, by omega⟩, q4, q5, q6⟩, rfl, hF18⟩ (Nat.le_of_ble_eq_true rfl) (Nat.le_of_ble_eq_true rfl)
  · exact FT _ _ _ _ _ _ _ _ _ xIO "there is no such layer" (by decide) rfl xw_IO nw_X7_85 dX7_findLayer_36 dX7_findLayer_39 dX7_findLayer_40 dX7_findLayer_42 dX7_findLayer_45 (Or.inr ⟨rfl, hr2, (by
      rcases h26 with ⟨q1, q2⟩ | ⟨q1, q2, q3, q4, q5, q6⟩
      · exact q1
      · exfalso; omega), rfl, hF18⟩) (Nat.le_of_ble_eq_true rfl) (Nat.le_of_ble_eq_true rfl) (Nat.le_of_ble_eq_true rfl) (Nat.le_of_ble_eq_true rfl)
set_option maxRecDepth 20000 in
theorem cB_layerQuantity {G : GT} {l : Launch} (hfl : l.stackTraces = false) {S : ST} {A : AB} {item day lay : Int} {R : RW} (hCK : CK R S A) (hR : RG R) (hR2 : RG2 R) (hV : ∀ i, 0 ≤ i → i ≤ 5 → RV R i) (hi : rI item) (hd : rI day) (hl : rI lay) : CT G l yX7_layerQuantity cX7_layerQuantity 4 (some .int) (rmk 9 3 18 157) S A [vR A 6 0, vI item, vI day, vI lay] (oI fun z S' A' => (qat (WKr R item day (icF S)).q lay).1 = z ∧ ((0 ≤ lay ∧ lay < (WKr R item day (icF S)).q.length) ∧ akOk item day) ∧ A = A' ∧ Fr [33, 34, 35, 5, 6, 0, 1, 2, 3, 4, 106] S S') (fun E S' A' => (E = xIA ∧ ¬ akOk item day ∧ S = S' ∧ A = A') ∨ (E = xIO ∧ akOk item day ∧ ¬ (0 ≤ lay ∧ lay < (WKr R item day (icF S)).q.length) ∧ A = A' ∧ Fr [33, 34, 35, 5, 6, 0, 1, 2, 3, 4, 106] S S')) := by
  have h193 := hCK.2.1.2.1
  have h194 := hCK.2.1.2.2.1
  have hA1 : A.2 1 = R.n := hCK.2.2.1.2.2
  refine ct_ofN (own := RX7) (mn := "layerQuantity") rfl rfl (by decide) hfl (lv0 := [some (vR A 6 0), some (vI item), some (vI day), some (vI lay)]) (ent_1 (cat_R _ _ _) (ent_1 rfl (ent_1 rfl (ent_1 rfl ent_0)))) rfl ?_
  intro J X C F FX FT FU hW hA
  refine r_aload_n C dX7_layerQuantity_0 lg_0 ?_
  refine r_iload_n C dX7_layerQuantity_1 lg_1 ?_
  refine r_iload_n C dX7_layerQuantity_2 lg_2 ?_
  refine r_iload_n C dX7_layerQuantity_3 lg_3 ?_
  refine r_V3A C (cB_findLayer hfl hCK hR hR2 hV hi hd hl) dX7_layerQuantity_4 lk_X7_206 hCK.1.1 ⟨Nat.le_of_ble_eq_true rfl, Nat.le_of_ble_eq_true rfl⟩ (catLe (Nat.le_of_ble_eq_true rfl)) 3 18 ⟨rfl, rfl⟩ (Nat.le_of_ble_eq_true rfl) (Nat.le_of_ble_eq_true rfl) (fun E9 S9 A9 h9 => FX _ _ _ _ _ _ _ h9 (Nat.le_of_ble_eq_true rfl) (Nat.le_of_ble_eq_true rfl)) (fun z4 S4 A4 i4 p4 => ?_)
  obtain ⟨⟨hg4, hk4⟩, ⟨hz4, q14, q24, q34⟩, rfl, hF4⟩ := p4
  refine r_getI C 33 dX7_layerQuantity_7 fg_X7_210_1 rfl rfl ⟨hz4.1, by omega⟩ (fun g7 => ?_)
  exact f_I F dX7_layerQuantity_10 g7 ⟨q14.symm, ⟨hg4, hk4⟩, rfl, hF4⟩ (Nat.le_of_ble_eq_true rfl) (Nat.le_of_ble_eq_true rfl)
set_option maxRecDepth 20000 in
theorem cB_layerCost {G : GT} {l : Launch} (hfl : l.stackTraces = false) {S : ST} {A : AB} {item day lay : Int} {R : RW} (hCK : CK R S A) (hR : RG R) (hR2 : RG2 R) (hV : ∀ i, 0 ≤ i → i ≤ 5 → RV R i) (hi : rI item) (hd : rI day) (hl : rI lay) : CT G l yX7_layerCost cX7_layerCost 4 (some .long) (rmk 9 3 18 157) S A [vR A 6 0, vI item, vI day, vI lay] (oJ fun z S' A' => (qat (WKr R item day (icF S)).q lay).2.1 = z ∧ ((0 ≤ lay ∧ lay < (WKr R item day (icF S)).q.length) ∧ akOk item day) ∧ A = A' ∧ Fr [33, 34, 35, 5, 6, 0, 1, 2, 3, 4, 106] S S') (fun E S' A' => (E = xIA ∧ ¬ akOk item day ∧ S = S' ∧ A = A') ∨ (E = xIO ∧ akOk item day ∧ ¬ (0 ≤ lay ∧ lay < (WKr R item day (icF S)).q.length) ∧ A = A' ∧ Fr [33, 34, 35, 5, 6, 0, 1, 2, 3, 4, 106] S S')) := by
  have h193 := hCK.2.1.2.1
  have h194 := hCK.2.1.2.2.1
  have hA1 : A.2 1 = R.n := hCK.2.2.1.2.2
  refine ct_ofN (own := RX7) (mn := "layerCost") rfl rfl (by decide) hfl (lv0 := [some (vR A 6 0), some (vI item), some (vI day), some (vI lay)]) (ent_1 (cat_R _ _ _) (ent_1 rfl (ent_1 rfl (ent_1 rfl ent_0)))) rfl ?_
  intro J X C F FX FT FU hW hA
  refine r_aload_n C dX7_layerCost_0 lg_0 ?_
  refine r_iload_n C dX7_layerCost_1 lg_1 ?_
  refine r_iload_n C dX7_layerCost_2 lg_2 ?_
  refine r_iload_n C dX7_layerCost_3 lg_3 ?_
  refine r_V3A C (cB_findLayer hfl hCK hR hR2 hV hi hd hl) dX7_layerCost_4 lk_X7_206 hCK.1.1 ⟨Nat.le_of_ble_eq_true rfl, Nat.le_of_ble_eq_true rfl⟩ (catLe (Nat.le_of_ble_eq_true rfl)) 3 18 ⟨rfl, rfl⟩ (Nat.le_of_ble_eq_true rfl) (Nat.le_of_ble_eq_true rfl) (fun E9 S9 A9 h9 => FX _ _ _ _ _ _ _ h9 (Nat.le_of_ble_eq_true rfl) (Nat.le_of_ble_eq_true rfl)) (fun z4 S4 A4 i4 p4 => ?_)
  obtain ⟨⟨hg4, hk4⟩, ⟨hz4, q14, q24, q34⟩, rfl, hF4⟩ := p4
  refine r_getJ C 34 dX7_layerCost_7 fg_X7_214_1 rfl rfl ⟨hz4.1, by omega⟩ (fun g7 => ?_)
  exact f_J F dX7_layerCost_10 g7 ⟨q24.symm, ⟨hg4, hk4⟩, rfl, hF4⟩ (Nat.le_of_ble_eq_true rfl) (Nat.le_of_ble_eq_true rfl)
set_option maxRecDepth 20000 in
theorem cB_layerOrigin {G : GT} {l : Launch} (hfl : l.stackTraces = false) {S : ST} {A : AB} {item day lay : Int} {R : RW} (hCK : CK R S A) (hR : RG R) (hR2 : RG2 R) (hV : ∀ i, 0 ≤ i → i ≤ 5 → RV R i) (hi : rI item) (hd : rI day) (hl : rI lay) : CT G l yX7_layerOrigin cX7_layerOrigin 4 (some .int) (rmk 9 3 18 157) S A [vR A 6 0, vI item, vI day, vI lay] (oI fun z S' A' => (qat (WKr R item day (icF S)).q lay).2.2 = z ∧ ((0 ≤ lay ∧ lay < (WKr R item day (icF S)).q.length) ∧ akOk item day) ∧ A = A' ∧ Fr [33, 34, 35, 5, 6, 0, 1, 2, 3, 4, 106] S S') (fun E S' A' => (E = xIA ∧ ¬ akOk item day ∧ S = S' ∧ A = A') ∨ (E = xIO ∧ akOk item day ∧ ¬ (0 ≤ lay ∧ lay < (WKr R item day (icF S)).q.length) ∧ A = A' ∧ Fr [33, 34, 35, 5, 6, 0, 1, 2, 3, 4, 106] S S')) := by
  have h193 := hCK.2.1.2.1
  have h194 := hCK.2.1.2.2.1
  have hA1 : A.2 1 = R.n := hCK.2.2.1.2.2
  refine ct_ofN (own := RX7) (mn := "layerOrigin") rfl rfl (by decide) hfl (lv0 := [some (vR A 6 0), some (vI item), some (vI day), some (vI lay)]) (ent_1 (cat_R _ _ _) (ent_1 rfl (ent_1 rfl (ent_1 rfl ent_0)))) rfl ?_
  intro J X C F FX FT FU hW hA
  refine r_aload_n C dX7_layerOrigin_0 lg_0 ?_
  refine r_iload_n C dX7_layerOrigin_1 lg_1 ?_
  refine r_iload_n C dX7_layerOrigin_2 lg_2 ?_
  refine r_iload_n C dX7_layerOrigin_3 lg_3 ?_
  refine r_V3A C (cB_findLayer hfl hCK hR hR2 hV hi hd hl) dX7_layerOrigin_4 lk_X7_206 hCK.1.1 ⟨Nat.le_of_ble_eq_true rfl, Nat.le_of_ble_eq_true rfl⟩ (catLe (Nat.le_of_ble_eq_true rfl)) 3 18 ⟨rfl, rfl⟩ (Nat.le_of_ble_eq_true rfl) (Nat.le_of_ble_eq_true rfl) (fun E9 S9 A9 h9 => FX _ _ _ _ _ _ _ h9 (Nat.le_of_ble_eq_true rfl) (Nat.le_of_ble_eq_true rfl)) (fun z4 S4 A4 i4 p4 => ?_)
  obtain ⟨⟨hg4, hk4⟩, ⟨hz4, q14, q24, q34⟩, rfl, hF4⟩ := p4
  refine r_getI C 32 dX7_layerOrigin_7 fg_X7_217_1 rfl rfl ⟨hz4.1, by omega⟩ (fun g7 => ?_)
  exact f_I F dX7_layerOrigin_10 g7 ⟨(q34.symm.trans (((hF4 32 z4 (by decide)).trans (hCK.2.2.2.2.1 z4 hz4.1 hz4.2).1.2.2.2.2.2.2.2.2).symm)), ⟨hg4, hk4⟩, rfl, hF4⟩ (Nat.le_of_ble_eq_true rfl) (Nat.le_of_ble_eq_true rfl)
