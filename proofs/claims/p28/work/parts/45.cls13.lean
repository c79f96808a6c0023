/-! the class: a movement laid in the ledger; its other makings -/
set_option maxRecDepth 20000 in
theorem cB_post {G : GT} {l : Launch} (hfl : l.stackTraces = false) {S : ST} {A : AB} {m : Int} {L : List Int} (hl6 : lv1 A 6 0) (hl8 : lv1 A 8 0) (hl2 : lv1 A 2 0) (h192 : S 192 0 = 0) (h193 : S 193 0 = 0) (hcn : 0 ≤ S 197 0 ∧ S 197 0 < 60) (hlen : L.length ≤ 60) (hch : CH (S 104) (S 64 0) L) (hL : ∀ x ∈ L, 0 ≤ x ∧ x < A.2 3) (hm : lv1 A 3 m) (hmL : m ∉ L) (hnd : L.Nodup) (hsr : srt (S 98) L) (hsz : S 65 0 = L.length) (hA3 : A.2 3 ≤ 60) : CT G l yX7_post cX7_post 2 (some .int) (rmk 1 0 0 23) S A [vR A 6 0, vR A 3 m] (oI fun z S' A' => S 96 m = z ∧ A = A' ∧ Fr [256, 197, 104, 64, 65] S S' ∧ S' 197 0 = S 197 0 + 1 ∧ (∀ j, S' 256 j = if j = S 197 0 then m else S 256 j) ∧ CH (S' 104) (S' 64 0) (ins (S 98) m L) ∧ S' 65 0 = S 65 0 + 1) (noX) := by
  refine ct_ofN (own := RX7) (mn := "post") rfl rfl (by decide) hfl (lv0 := [some (vR A 6 0), some (vR A 3 m)]) (ent_1 (cat_R _ _ _) (ent_1 (cat_R _ _ _) ent_0)) rfl ?_
  intro J X C F FX FT FU hW hA
  refine r_aload_n C dX7_post_0 lg_0 ?_
  refine r_getI C 197 dX7_post_1 fg_X7_57_6 rfl rfl hl6 (fun g1 => ?_)
  refine r_iflt C (tgt := 47) dX7_post_4 (by decide) (by omega) (fun c4 => ?_) (fun c4 => ?_)
  · exfalso; omega
  · refine r_aload_n C dX7_post_7 lg_0 ?_
    refine r_getI C 197 dX7_post_8 fg_X7_57_6 rfl rfl hl6 (fun g8 => ?_)
    refine r_aload_n C dX7_post_11 lg_0 ?_
    refine r_getA C 192 8 dX7_post_12 fg_X7_11_6 rfl rfl hl6 (fun g12 => ?_)
    refine r_alen C (N := 60) dX7_post_15 (by decide) rfl (by decide) (by rw [h192]; exact hl8) ?_
    refine r_icge C (tgt := 47) dX7_post_16 (by decide) (by omega) (by omega) (fun c16 => ?_) (fun c16 => ?_)
    · exfalso; omega
    · refine r_aload_n C dX7_post_19 lg_0 ?_
      refine r_getA C 192 8 dX7_post_20 fg_X7_11_6 rfl rfl hl6 (fun g20 => ?_)
      refine r_aload_n C dX7_post_23 lg_0 ?_
      refine r_getI C 197 dX7_post_24 fg_X7_57_6 rfl rfl hl6 (fun g24 => ?_)
      refine r_aload_n C dX7_post_27 lg_1 ?_
      refine r_aast C (N := 60) 256 dX7_post_28 (by decide) rfl rfl (by rw [h192]; exact hl8) (by omega) (by omega) (by omega) ⟨by omega, by omega⟩ (by omega) ?_
      refine r_gS (fun S28 h28 => ?_)
      have k197 : S28 197 0 = S 197 0 := (congrFun (congrFun h28 197) 0).trans (upS_c _ _ (by decide))
      refine r_aload_n C dX7_post_29 lg_0 ?_
      refine r_dup C dX7_post_30 (cat_R _ _ _) ?_
      refine r_getI C 197 dX7_post_31 fg_X7_57_6 rfl rfl hl6 (fun g31 => ?_)
      refine r_iconst C dX7_post_34 ?_
      refine r_iadd C dX7_post_35 ?_
      refine r_putI C 197 dX7_post_36 fg_X7_57_6 rfl rfl hl6 (fun q h => by cases h; exact Or.inl rfl) (by omega) ?_
      refine r_gS (fun S36 h36 => ?_)
      have f36 : Fr [256, 197, 104, 64, 65] S S36 := by rw [h36]; exact (h28 ▸ Fr.up (by decide) : Fr [256, 197, 104, 64, 65] S S28).tr (Fr.up (by decide))
      have k193 : S36 193 0 = 0 := (f36 193 0 (by decide)).trans h193
      have k104 : S36 104 = S 104 := by rw [h36, upS_fn _ _ _ (by decide), h28, upS_fn _ _ _ (by decide)]
      have k64 : S36 64 0 = S 64 0 := by rw [h36, upS_c _ _ (by decide), h28, upS_c _ _ (by decide)]
      have k65 : S36 65 0 = S 65 0 := by rw [h36, upS_c _ _ (by decide), h28, upS_c _ _ (by decide)]
      have k98 : S36 98 = S 98 := f36.fn (by decide)
      have k256 : ∀ j, S36 256 j = if j = S 197 0 then m else S 256 j := fun j => by
        rw [h36, upS_c _ _ (by decide), h28]
        by_cases e : j = S 197 0
        · rw [if_pos e, e, upS_self]
        · rw [if_neg e, upS_z _ _ e]
      refine r_aload_n C dX7_post_39 lg_0 ?_
      refine r_getA C 193 2 dX7_post_40 fg_X7_18_6 rfl rfl hl6 (fun g40 => ?_)
      rw [k193]
      refine r_aload_n C dX7_post_43 lg_1 ?_
      refine q_V1V C (cG_insert hfl hl2 hlen (L := L) (by rw [k104, k64]; exact hch) (fun x hx => ⟨hL x hx, trivial⟩) hm hmL hnd (by rw [k98]; exact hsr) (by rw [k65]; exact hsz) hA3) dX7_post_44 lk_X7_254 hl2 ⟨Nat.le_of_ble_eq_true rfl, Nat.le_of_ble_eq_true rfl⟩ (catLe (Nat.le_of_ble_eq_true rfl)) ⟨rfl, rfl⟩ rfl (Nat.le_of_ble_eq_true rfl) (Nat.le_of_ble_eq_true rfl) (fun S44 A44 p44 => ?_)
      obtain ⟨rfl, hF44, hc44, hz44⟩ := p44
      refine r_aload_n C dX7_post_47 lg_1 ?_
      refine r_getI C 96 dX7_post_48 fg_X7_243_3 rfl rfl hm (fun g48 => ?_)
      exact f_I F dX7_post_51 g48 ⟨((hF44 96 m (by decide)).trans (f36 96 m (by decide))).symm, rfl, f36.tr (hF44.sub (by decide)), (hF44 197 0 (by decide)).trans (by rw [h36, upS_self]; omega), fun j => (hF44 256 j (by decide)).trans (k256 j), by rw [← k98]; exact hc44, by rw [hz44, k65]⟩ (Nat.le_of_ble_eq_true rfl) (Nat.le_of_ble_eq_true rfl)
