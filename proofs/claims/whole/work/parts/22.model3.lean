/-! the order of the ledger -/
set_option maxRecDepth 20000 in
theorem cM_orders {G : GT} {l : Launch} (hfl : l.stackTraces = false) {S : ST} {A : AB} (M0 : RM S A) (hm0 : 0 ≤ S 232 0) (hm1 : S 232 0 ≤ 60) : CT G l yX8_orders cX8_orders 3 none (rmk 0 0 0 0) S A [vR A 7 0] (oV fun S' A' => A = A' ∧ Fr [672, 236] S S' ∧ LD S' (led (S 352) (S 480) (S 232 0).toNat)) (noX) := by
  refine ct_ofN (own := RX8) (mn := "orders") rfl rfl (by decide) hfl (lv0 := [some (vR A 7 0), none, none]) (ent_1 (cat_R _ _ _) (ent_n (ent_n ent_0))) rfl ?_
  intro J X C F FX FT FU hW hA
  have lp : ∀ (N : Nat) (i : Int) (S1 : ST) (h1 : 0 ≤ i) (h2 : i ≤ S 232 0) (hF : Fr [672, 236] S S1) (hL : LD S1 (led (S 352) (S 480) i.toNat)) (hN : S 232 0 - i < N), J 7 [some (vR A 7 0), some (vI i), none] [] S1 A 0 0 := by
    intro N
    induction N with
    | zero => intro i S1 h1 h2 hF hL hN; omega
    | succ N ih =>
      intro i S1 h1 h2 hF hL hN
      have M := M0.of hF (by decide)
      have e232 := hF 232 0 (by decide)
      have hlen := led_len (S 352) (S 480) i.toNat
      have e480 := hF 480 i (by decide)
      have h236 := hL.1
      have hmem : ∀ x ∈ led (S 352) (S 480) i.toNat, 0 ≤ x ∧ x < i := fun x hx => by have := (led_mem (S 352) (S 480) i.toNat).mp hx; omega
      have hsr := led_srt (S 352) (S 480) i.toNat
      have fin9 : ∀ (a b : List Int) (S2 : ST), led (S 352) (S 480) i.toNat = a ++ b → S 480 i = 0 → i < S 232 0 → (∀ x ∈ a, S 352 x ≤ S 352 i) → (∀ x ∈ b, S 352 i < S 352 x) → Fr [672, 236] S S2 → S2 236 0 = (a ++ b).length → (∀ (k : Nat) (x : Int), a[k]? = some x → S2 672 k = x) → (∀ (k : Nat) (x : Int), b[k]? = some x → S2 672 (a.length + 1 + k : Int) = x) → J 75 [some (vR A 7 0), some (vI i), some (vI (a.length : Int))] [] S2 A 0 0 := by
        intro a b S2 hab hg hi ha hb hF2 h236 hA9 hB9
        have M := M0.of hF2 (by decide)
        have hlab : a.length + b.length ≤ 59 := by rw [hab, List.length_append] at hlen; omega
        rw [List.length_append] at h236
        refine r_aload_n C dX8_orders_75 lg_0 ?_
        refine r_getA C 235 21 dX8_orders_76 fg_X8_43_7 rfl rfl M.1 (fun g76 => ?_)
        refine r_iload_n C dX8_orders_79 lg_2 ?_
        refine r_iload_n C dX8_orders_80 lg_1 ?_
        refine r_iast C (N := 60) 672 dX8_orders_81 (by decide) rfl rfl (M.g (j := 11) (by decide)) (by omega) (by omega) (by omega) (by omega) ?_
        have M := M.up (c := 672) (z := (a.length : Int)) (v := i) (by decide)
        refine r_aload_n C dX8_orders_82 lg_0 ?_
        refine r_dup C dX8_orders_83 (cat_R _ _ _) ?_
        refine r_getI C 236 dX8_orders_84 fg_X8_80_7 rfl rfl M.1 (fun g84 => ?_)
        refine r_iconst C dX8_orders_87 ?_
        refine r_iadd C dX8_orders_88 ?_
        refine r_putI C 236 dX8_orders_89 fg_X8_80_7 rfl rfl M.1 (fun q h => by cases h; exact Or.inl rfl) (by rw [upS_c _ _ (by decide)]; omega) ?_
        refine r_iinc C dX8_orders_92 lg_1 (ls1_1 rfl (cat_R _ _ _)) ?_
        refine r_goto C (tgt := 7) dX8_orders_95 (by decide) ?_
        refine r_le C (lle_k (lle_k (lle_f lle_0))) ?_
        have e1 : led (S 352) (S 480) (i + 1).toNat = a ++ i :: b := by
          rw [toN_s h1]
          show (if S 480 (i.toNat : Int) = 0 then ins (S 352) (i.toNat : Int) (led (S 352) (S 480) i.toNat) else led (S 352) (S 480) i.toNat) = _
          rw [Int.toNat_of_nonneg h1, if_pos hg, hab, ins_split a b ha hb]
        refine ih (i + 1) _ (by omega) (by omega) ((hF2.tr (Fr.up (by decide))).tr (Fr.up (by decide))) ?_ (by omega)
        rw [e1]
        refine ⟨?_, fun k x hx => ?_⟩
        · rw [upS_self, upS_c _ _ (by decide), h236, List.length_append, List.length_cons]; omega
        · rw [upS_c _ _ (by decide)]
          by_cases hk : k < a.length
          · rw [List.getElem?_append_left hk] at hx
            rw [upS_z _ _ (by omega)]
            exact hA9 k x hx
          · rw [List.getElem?_append_right (by omega)] at hx
            by_cases hk2 : k = a.length
            · subst hk2
              rw [Nat.sub_self] at hx
              cases hx
              rw [upS_self]
            · obtain ⟨j, hj⟩ : ∃ j, k - a.length = j + 1 := ⟨k - a.length - 1, by omega⟩
              rw [hj] at hx
              rw [upS_z _ _ (by omega), show (k : Int) = (a.length : Int) + 1 + (j : Int) by omega]
              exact hB9 j x hx
      have lp2 : ∀ (N2 : Nat) (a b : List Int) (S2 : ST), led (S 352) (S 480) i.toNat = a ++ b → S 480 i = 0 → i < S 232 0 → (∀ x ∈ b, S 352 i < S 352 x) → Fr [672, 236] S S2 → S2 236 0 = (a ++ b).length → (∀ (k : Nat) (x : Int), a[k]? = some x → S2 672 k = x) → (∀ (k : Nat) (x : Int), b[k]? = some x → S2 672 (a.length + 1 + k : Int) = x) → a.length < N2 → J 29 [some (vR A 7 0), some (vI i), some (vI (a.length : Int))] [] S2 A 0 0 := by
        intro N2
        induction N2 with
        | zero => intro a b S2 _ _ _ _ _ _ _ _ h; omega
        | succ N2 ih2 =>
          intro a b S2 hab hg hi hb hF2 h236 hA9 hB9 hN2
          have M := M0.of hF2 (by decide)
          have hlab : a.length + b.length ≤ 59 := by rw [hab, List.length_append] at hlen; omega
          have hsab := srt_app a b (hab ▸ hsr)
          refine r_iload_n C dX8_orders_29 lg_2 ?_
          refine r_ifle C (tgt := 75) dX8_orders_30 (by decide) (by omega) (fun c30 => ?_) (fun c30 => ?_)
          · first
            | exact fin9 a b S2 hab hg hi (fun x hx => by have := List.length_pos_of_mem hx; omega) hb hF2 h236 hA9 hB9
            | (have hle : ∀ x ∈ a' ++ [y], S 352 x ≤ S 352 i := by
                 intro x hx
                 rcases List.mem_append.mp hx with hx | hx
                 · have := (srt_app a' [y] hsab.1).2.2 x hx y List.mem_cons_self; omega
                 · rw [List.mem_singleton.mp hx]; omega
               have h9 := fin9 (a' ++ [y]) b S2 hab hg hi hle hb hF2 (by rw [h236]; simp; omega) hA9 (by rw [List.length_append, List.length_singleton]; exact hB9)
               rw [List.length_append, List.length_singleton] at h9
               exact h9)
          · obtain ⟨a', y, rfl⟩ := list_last a (by omega)
            rw [List.length_append, List.length_singleton] at *
            have ey : S2 672 (((a'.length + 1 : Nat) : Int) - 1) = y := by
              rw [show ((a'.length + 1 : Nat) : Int) - 1 = (a'.length : Int) by omega]
              exact hA9 a'.length y (by simp)
            have hy := hmem y (by rw [hab]; simp)
            have e1 := hF2 352 y (by decide)
            have e2 := hF2 352 i (by decide)
            have hlab2 : a'.length < 59 := by omega
            refine r_aload_n C dX8_orders_33 lg_0 ?_
            refine r_getA C 225 11 dX8_orders_34 fg_X8_13_7 rfl rfl M.1 (fun g34 => ?_)
            refine r_aload_n C dX8_orders_37 lg_0 ?_
            refine r_getA C 235 21 dX8_orders_38 fg_X8_43_7 rfl rfl M.1 (fun g38 => ?_)
            refine r_iload_n C dX8_orders_41 lg_2 ?_
            refine r_iconst C dX8_orders_42 ?_
            refine r_isub C dX8_orders_43 ?_
            refine r_iald C (N := 60) 672 dX8_orders_44 (by decide) rfl rfl (M.g (j := 11) (by decide)) (by omega) (by omega) (by omega) (fun g44 => ?_)
            rw [ey]
            refine r_iald C (N := 60) 352 dX8_orders_45 (by decide) rfl rfl (M.g (j := 1) (by decide)) (by omega) (by omega) (by omega) (fun g45 => ?_)
            refine r_aload_n C dX8_orders_46 lg_0 ?_
            refine r_getA C 225 11 dX8_orders_47 fg_X8_13_7 rfl rfl M.1 (fun g47 => ?_)
            refine r_iload_n C dX8_orders_50 lg_1 ?_
            refine r_iald C (N := 60) 352 dX8_orders_51 (by decide) rfl rfl (M.g (j := 1) (by decide)) (by omega) (by omega) (by omega) (fun g51 => ?_)
            refine r_icle C (tgt := 75) dX8_orders_52 (by decide) (by omega) (by omega) (fun c52 => ?_) (fun c52 => ?_)
            · first
              | exact fin9 a b S2 hab hg hi (fun x hx => by have := List.length_pos_of_mem hx; omega) hb hF2 h236 hA9 hB9
              | (have hle : ∀ x ∈ a' ++ [y], S 352 x ≤ S 352 i := by
                   intro x hx
                   rcases List.mem_append.mp hx with hx | hx
                   · have := (srt_app a' [y] hsab.1).2.2 x hx y List.mem_cons_self; omega
                   · rw [List.mem_singleton.mp hx]; omega
                 have h9 := fin9 (a' ++ [y]) b S2 hab hg hi hle hb hF2 (by rw [h236]; simp; omega) hA9 (by rw [List.length_append, List.length_singleton]; exact hB9)
                 rw [List.length_append, List.length_singleton] at h9
                 exact h9)
            · refine r_aload_n C dX8_orders_55 lg_0 ?_
              refine r_getA C 235 21 dX8_orders_56 fg_X8_43_7 rfl rfl M.1 (fun g56 => ?_)
              refine r_iload_n C dX8_orders_59 lg_2 ?_
              refine r_aload_n C dX8_orders_60 lg_0 ?_
              refine r_getA C 235 21 dX8_orders_61 fg_X8_43_7 rfl rfl M.1 (fun g61 => ?_)
              refine r_iload_n C dX8_orders_64 lg_2 ?_
              refine r_iconst C dX8_orders_65 ?_
              refine r_isub C dX8_orders_66 ?_
              refine r_iald C (N := 60) 672 dX8_orders_67 (by decide) rfl rfl (M.g (j := 11) (by decide)) (by omega) (by omega) (by omega) (fun g67 => ?_)
              refine r_iast C (N := 60) 672 dX8_orders_68 (by decide) rfl rfl (M.g (j := 11) (by decide)) (by omega) (by omega) (by omega) (by omega) ?_
              refine r_iinc C dX8_orders_69 lg_2 (ls1_2 rfl rfl) ?_
              refine r_goto C (tgt := 29) dX8_orders_72 (by decide) ?_
              rw [show ((a'.length + 1 : Nat) : Int) + -1 = (a'.length : Int) by omega]
              refine ih2 a' (y :: b) _ (by rw [hab]; simp) hg hi (fun x hx => ?_) (hF2.tr (Fr.up (by decide))) ?_ (fun k x hx => ?_) (fun k x hx => ?_) (by omega)
              · rcases List.mem_cons.mp hx with rfl | hx
                · omega
                · exact hb x hx
              · rw [upS_c _ _ (by decide), h236]; simp; omega
              · have hk := (List.getElem?_eq_some_iff.mp hx).1
                rw [upS_z _ _ (by omega)]
                exact hA9 k x (by rw [List.getElem?_append_left hk]; exact hx)
              · cases k with
                | zero =>
                  cases hx
                  rw [show (a'.length : Int) + 1 + ((0 : Nat) : Int) = ((a'.length + 1 : Nat) : Int) by omega, upS_self]
                  exact ey
                | succ k =>
                  rw [upS_z _ _ (by omega), show (a'.length : Int) + 1 + ((k + 1 : Nat) : Int) = ((a'.length + 1 : Nat) : Int) + 1 + (k : Int) by omega]
                  exact hB9 k x hx
      refine r_iload_n C dX8_orders_7 lg_1 ?_
      refine r_aload_n C dX8_orders_8 lg_0 ?_
      refine r_getI C 232 dX8_orders_9 fg_X8_77_7 rfl rfl M.1 (fun g9 => ?_)
      refine r_icge C (tgt := 98) dX8_orders_12 (by decide) (by omega) (by omega) (fun c12 => ?_) (fun c12 => ?_)
      · exact f_V F dX8_orders_98 ⟨rfl, hF, by rw [show i = S 232 0 by omega] at hL; exact hL⟩ (Nat.le_of_ble_eq_true rfl) (Nat.le_of_ble_eq_true rfl)
      · refine r_aload_n C dX8_orders_15 lg_0 ?_
        refine r_getA C 229 15 dX8_orders_16 fg_X8_25_7 rfl rfl M.1 (fun g16 => ?_)
        refine r_iload_n C dX8_orders_19 lg_1 ?_
        refine r_zald C (N := 60) 480 dX8_orders_20 (by decide) rfl rfl (M.g (j := 5) (by decide)) (by omega) (by omega) (by omega) (fun g20 => ?_)
        refine r_ifne C (tgt := 92) dX8_orders_21 (by decide) (by omega) (fun c21 => ?_) (fun c21 => ?_)
        · refine r_iinc C dX8_orders_92 lg_1 (ls1_1 rfl (cat_R _ _ _)) ?_
          refine r_goto C (tgt := 7) dX8_orders_95 (by decide) ?_
          refine ih (i + 1) S1 (by omega) (by omega) hF ?_ (by omega)
          rw [toN_s h1]
          show LD S1 (if S 480 (i.toNat : Int) = 0 then ins (S 352) (i.toNat : Int) (led (S 352) (S 480) i.toNat) else led (S 352) (S 480) i.toNat)
          rw [Int.toNat_of_nonneg h1, if_neg (by omega)]
          exact hL
        · refine r_aload_n C dX8_orders_24 lg_0 ?_
          refine r_getI C 236 dX8_orders_25 fg_X8_80_7 rfl rfl M.1 (fun g25 => ?_)
          refine r_istore_n C dX8_orders_28 (ls1_2 rfl rfl) ?_
          rw [hL.1]
          exact lp2 (((led (S 352) (S 480) i.toNat)).length + 1) (led (S 352) (S 480) i.toNat) [] S1 (by simp) (by omega) (by omega) (fun x hx => by cases hx) hF (by simp [h236]) hL.2 (fun k x hx => by cases hx) (by omega)
  refine r_aload_n C dX8_orders_0 lg_0 ?_
  refine r_iconst C dX8_orders_1 ?_
  refine r_putI C 236 dX8_orders_2 fg_X8_80_7 rfl rfl M0.1 (fun q h => by cases h; exact Or.inl rfl) (by omega) ?_
  refine r_iconst C dX8_orders_5 ?_
  refine r_istore_n C dX8_orders_6 (ls1_1 rfl (cat_R _ _ _)) ?_
  exact lp (S 232 0 + 1).toNat 0 _ (by omega) (by omega) (Fr.up (by decide)) ⟨upS_self _ _ _ _, fun i x hx => by cases hx⟩ (by omega)
set_option maxRecDepth 20000 in
theorem cM_isValid {G : GT} {l : Launch} (hfl : l.stackTraces = false) {S : ST} {A : AB} {i : Int} (M0 : RM S A) (hi : rI i) (hm0 : 0 ≤ S 232 0) (hm1 : S 232 0 ≤ 60) (hqt : ∀ m, 0 ≤ m → m < S 232 0 → 0 ≤ S 416 m ∧ S 416 m ≤ 1000) : CT G l yX8_isValid cX8_isValid 6 (some .boolean) (rmk 1 0 0 22) S A [vR A 7 0, vI i] (oZ fun z S' A' => b2i (vld (chg (S 320) (S 384) (S 416) i) (S 416) (tks (S 320) (S 384) i) 0 (led (S 352) (S 480) (S 232 0).toNat)) = z ∧ A = A' ∧ Fr [672, 236] S S' ∧ LD S' (led (S 352) (S 480) (S 232 0).toNat)) (noX) := by
  refine ct_ofN (own := RX8) (mn := "isValid") rfl rfl (by decide) hfl (lv0 := [some (vR A 7 0), some (vI i), none, none, none, none]) (ent_1 (cat_R _ _ _) (ent_1 rfl (ent_n (ent_n (ent_n (ent_n ent_0)))))) rfl ?_
  intro J X C F FX FT FU hW hA
  have lp : ∀ (S1 : ST) (hF : Fr [672, 236] S S1) (hL : LD S1 (led (S 352) (S 480) (S 232 0).toNat)) (b a : List Int) (p : Prop) (acc : Int) (hacc : acc = b2i p) (hab : (led (S 352) (S 480) (S 232 0).toNat) = a ++ b) (hp : vld (chg (S 320) (S 384) (S 416) i) (S 416) (tks (S 320) (S 384) i) 0 (led (S 352) (S 480) (S 232 0).toNat) ↔ p ∧ vld (chg (S 320) (S 384) (S 416) i) (S 416) (tks (S 320) (S 384) i) (hs (chg (S 320) (S 384) (S 416) i) a) b), J 11 [some (vR A 7 0), some (vI i), some (vI (hs (chg (S 320) (S 384) (S 416) i) a)), some (vI acc), some (vI (a.length : Int)), none] [] S1 A 0 0 := by
    intro S1 hF hL b
    have M := M0.of hF (by decide)
    have hlen := led_len (S 352) (S 480) (S 232 0).toNat
    have h236 := hL.1
    induction b with
    | nil =>
      intro a p acc hacc hab hp
      rw [List.append_nil] at hab
      rw [hab] at h236
      have hr9 := b2i_r p
      refine r_iload C dX8_isValid_11 lg_4 ?_
      refine r_aload_n C dX8_isValid_13 lg_0 ?_
      refine r_getI C 236 dX8_isValid_14 fg_X8_80_7 rfl rfl M.1 (fun g14 => ?_)
      refine r_icge C (tgt := 76) dX8_isValid_17 (by decide) (by omega) (by omega) (fun c17 => ?_) (fun c17 => ?_)
      · refine r_iload_n C dX8_isValid_76 lg_3 ?_
        exact f_Z F dX8_isValid_77 (by rw [hacc]; exact b2i_01 _) ⟨by rw [hacc]; exact b2i_iff (hp.trans ⟨fun q => q.1, fun q => ⟨q, trivial⟩⟩), rfl, hF, hL⟩ (Nat.le_of_ble_eq_true rfl) (Nat.le_of_ble_eq_true rfl)
      · exfalso; omega
    | cons x t ih =>
      intro a p acc hacc hab hp
      have hr9 := b2i_r p
      have hlab : a.length + (t.length + 1) ≤ 60 := by rw [hab, List.length_append, List.length_cons] at hlen; omega
      have hx : 0 ≤ x ∧ x < S 232 0 := by
        have := (led_mem (S 352) (S 480) (S 232 0).toNat).mp (show x ∈ (led (S 352) (S 480) (S 232 0).toNat) by rw [hab]; simp)
        omega
      rw [hab] at hL h236
      rw [List.length_append, List.length_cons] at h236
      have ex : S1 672 (a.length : Int) = x := hL.at
      have e320 : S1 320 = S 320 := funext fun z => hF 320 z (by decide)
      have e384 : S1 384 = S 384 := funext fun z => hF 384 z (by decide)
      have e416 : S1 416 = S 416 := funext fun z => hF 416 z (by decide)
      have hqx := hqt x hx.1 hx.2
      have hqx1 : 0 ≤ S1 416 x ∧ S1 416 x ≤ 1000 := by rw [e416]; exact hqx
      have hub := hs_b (f := (chg (S 320) (S 384) (S 416) i)) (B := 1000) a (fun y hy => chg_b (by have := (led_mem (S 352) (S 480) (S 232 0).toNat).mp (show y ∈ (led (S 352) (S 480) (S 232 0).toNat) by rw [hab]; simp [hy]); exact hqt y (by omega) (by omega)))
      have hch := chg_b (kd := S 320) (it := S 384) (qt := S 416) (i := i) (m := x) hqx
      refine r_iload C dX8_isValid_11 lg_4 ?_
      refine r_aload_n C dX8_isValid_13 lg_0 ?_
      refine r_getI C 236 dX8_isValid_14 fg_X8_80_7 rfl rfl M.1 (fun g14 => ?_)
      refine r_icge C (tgt := 76) dX8_isValid_17 (by decide) (by omega) (by omega) (fun c17 => ?_) (fun c17 => ?_)
      · exfalso; omega
      · refine r_aload_n C dX8_isValid_20 lg_0 ?_
        refine r_getA C 235 21 dX8_isValid_21 fg_X8_43_7 rfl rfl M.1 (fun g21 => ?_)
        refine r_iload C dX8_isValid_24 lg_4 ?_
        refine r_iald C (N := 60) 672 dX8_isValid_26 (by decide) rfl rfl (M.g (j := 11) (by decide)) (by omega) (by omega) (by omega) (fun g26 => ?_)
        rw [ex]
        refine r_istore C dX8_isValid_27 (ls1_5 rfl rfl) ?_
        refine r_iload_n C dX8_isValid_29 lg_3 ?_
        refine r_ifeq C (tgt := 58) dX8_isValid_30 (by decide) (by rw [hacc]; exact b2i_r _) (fun c30 => ?_) (fun c30 => ?_)
        · refine r_iconst C dX8_isValid_58 ?_
          refine r_istore_n C dX8_isValid_59 (ls1_3 rfl rfl) ?_
          refine r_iload_n C dX8_isValid_60 lg_2 ?_
          refine r_aload_n C dX8_isValid_61 lg_0 ?_
          refine r_iload C dX8_isValid_62 lg_5 ?_
          refine r_iload_n C dX8_isValid_64 lg_1 ?_
          refine q_V2I C (cM_change hfl (by assumption) (by omega) (by omega) (by omega) (by omega)) dX8_isValid_65 lk_X8_90 M.1 ⟨Nat.le_of_ble_eq_true rfl, Nat.le_of_ble_eq_true rfl⟩ (catLe (Nat.le_of_ble_eq_true rfl)) ⟨rfl, rfl⟩ rfl (Nat.le_of_ble_eq_true rfl) (Nat.le_of_ble_eq_true rfl) (fun z65 S65 A65 i65 p65 => ?_)
          obtain ⟨rfl, rfl, rfl⟩ := p65
          rw [e320, e384, e416]
          refine r_iadd C dX8_isValid_68 ?_
          refine r_istore_n C dX8_isValid_69 (ls1_2 rfl rfl) ?_
          refine r_iinc C dX8_isValid_70 lg_4 (ls1_4 rfl rfl) ?_
          refine r_goto C (tgt := 11) dX8_isValid_73 (by decide) ?_
          refine r_le C (lle_k (lle_k (lle_k (lle_k (lle_k (lle_f lle_0)))))) ?_
          have key : ∀ acc' : Int, acc' = b2i (p ∧ (tks (S 320) (S 384) i x → S 416 x ≤ hs (chg (S 320) (S 384) (S 416) i) a)) → J 11 [some (vR A 7 0), some (vI i), some (vI (hs (chg (S 320) (S 384) (S 416) i) (a ++ [x]))), some (vI acc'), some (vI ((a ++ [x]).length : Int)), none] [] S1 A 0 0 := fun acc' h' => ih (a ++ [x]) _ acc' h' (by rw [hab]; simp) (by
            rw [hp, hs_one]
            exact ⟨fun ⟨q1, q2, q3⟩ => ⟨⟨q1, q2⟩, q3⟩, fun ⟨⟨q1, q2⟩, q3⟩ => ⟨q1, q2, q3⟩⟩)
          rw [hs_one, List.length_append, List.length_singleton] at key
          refine key _ ?_
          have etk : tks (S1 320) (S1 384) i x ↔ tks (S 320) (S 384) i x := by rw [e320, e384]
          have eqx : S1 416 x = S 416 x := by rw [e416]
          first
          | exact e0f (fun q => (b2i_0.mp (hacc.symm.trans c30)) q.1)
          | exact e1t ⟨Classical.byContradiction fun q => c30 (hacc.trans (b2i_f q)), fun q => absurd (etk.mpr q) c40⟩
          | exact e0f (fun q => by have := q.2 (etk.mp c40); omega)
          | exact e1t ⟨Classical.byContradiction fun q => c30 (hacc.trans (b2i_f q)), fun q => by omega⟩
        · refine r_aload_n C dX8_isValid_33 lg_0 ?_
          refine r_iload C dX8_isValid_34 lg_5 ?_
          refine r_iload_n C dX8_isValid_36 lg_1 ?_
          refine q_V2Z C (cM_takesUnits hfl (by assumption) (by omega) (by omega) (by omega)) dX8_isValid_37 lk_X8_86 M.1 ⟨Nat.le_of_ble_eq_true rfl, Nat.le_of_ble_eq_true rfl⟩ (catLe (Nat.le_of_ble_eq_true rfl)) ⟨rfl, rfl⟩ rfl (Nat.le_of_ble_eq_true rfl) (Nat.le_of_ble_eq_true rfl) (fun z37 S37 A37 i37 p37 => ?_)
          obtain ⟨rfl, rfl, rfl⟩ := p37
          refine rb_ifeq C (tgt := 54) dX8_isValid_40 (by decide) (fun c40 => ?_) (fun c40 => ?_)
          · refine r_iconst C dX8_isValid_54 ?_
            refine r_goto C (tgt := 59) dX8_isValid_55 (by decide) ?_
            refine r_istore_n C dX8_isValid_59 (ls1_3 rfl rfl) ?_
            refine r_iload_n C dX8_isValid_60 lg_2 ?_
            refine r_aload_n C dX8_isValid_61 lg_0 ?_
            refine r_iload C dX8_isValid_62 lg_5 ?_
            refine r_iload_n C dX8_isValid_64 lg_1 ?_
            refine q_V2I C (cM_change hfl (by assumption) (by omega) (by omega) (by omega) (by omega)) dX8_isValid_65 lk_X8_90 M.1 ⟨Nat.le_of_ble_eq_true rfl, Nat.le_of_ble_eq_true rfl⟩ (catLe (Nat.le_of_ble_eq_true rfl)) ⟨rfl, rfl⟩ rfl (Nat.le_of_ble_eq_true rfl) (Nat.le_of_ble_eq_true rfl) (fun z65 S65 A65 i65 p65 => ?_)
            obtain ⟨rfl, rfl, rfl⟩ := p65
            rw [e320, e384, e416]
            refine r_iadd C dX8_isValid_68 ?_
            refine r_istore_n C dX8_isValid_69 (ls1_2 rfl rfl) ?_
            refine r_iinc C dX8_isValid_70 lg_4 (ls1_4 rfl rfl) ?_
            refine r_goto C (tgt := 11) dX8_isValid_73 (by decide) ?_
            refine r_le C (lle_k (lle_k (lle_k (lle_k (lle_k (lle_f lle_0)))))) ?_
            have key : ∀ acc' : Int, acc' = b2i (p ∧ (tks (S 320) (S 384) i x → S 416 x ≤ hs (chg (S 320) (S 384) (S 416) i) a)) → J 11 [some (vR A 7 0), some (vI i), some (vI (hs (chg (S 320) (S 384) (S 416) i) (a ++ [x]))), some (vI acc'), some (vI ((a ++ [x]).length : Int)), none] [] S1 A 0 0 := fun acc' h' => ih (a ++ [x]) _ acc' h' (by rw [hab]; simp) (by
              rw [hp, hs_one]
              exact ⟨fun ⟨q1, q2, q3⟩ => ⟨⟨q1, q2⟩, q3⟩, fun ⟨⟨q1, q2⟩, q3⟩ => ⟨q1, q2, q3⟩⟩)
            rw [hs_one, List.length_append, List.length_singleton] at key
            refine key _ ?_
            have etk : tks (S1 320) (S1 384) i x ↔ tks (S 320) (S 384) i x := by rw [e320, e384]
            have eqx : S1 416 x = S 416 x := by rw [e416]
            first
            | exact e0f (fun q => (b2i_0.mp (hacc.symm.trans c30)) q.1)
            | exact e1t ⟨Classical.byContradiction fun q => c30 (hacc.trans (b2i_f q)), fun q => absurd (etk.mpr q) c40⟩
            | exact e0f (fun q => by have := q.2 (etk.mp c40); omega)
            | exact e1t ⟨Classical.byContradiction fun q => c30 (hacc.trans (b2i_f q)), fun q => by omega⟩
          · refine r_aload_n C dX8_isValid_43 lg_0 ?_
            refine r_getA C 227 13 dX8_isValid_44 fg_X8_19_7 rfl rfl M.1 (fun g44 => ?_)
            refine r_iload C dX8_isValid_47 lg_5 ?_
            refine r_iald C (N := 60) 416 dX8_isValid_49 (by decide) rfl rfl (M.g (j := 3) (by decide)) (by omega) (by omega) (by omega) (fun g49 => ?_)
            refine r_iload_n C dX8_isValid_50 lg_2 ?_
            refine r_icgt C (tgt := 58) dX8_isValid_51 (by decide) (by omega) (by omega) (fun c51 => ?_) (fun c51 => ?_)
            · refine r_iconst C dX8_isValid_58 ?_
              refine r_istore_n C dX8_isValid_59 (ls1_3 rfl rfl) ?_
              refine r_iload_n C dX8_isValid_60 lg_2 ?_
              refine r_aload_n C dX8_isValid_61 lg_0 ?_
              refine r_iload C dX8_isValid_62 lg_5 ?_
              refine r_iload_n C dX8_isValid_64 lg_1 ?_
              refine q_V2I C (cM_change hfl (by assumption) (by omega) (by omega) (by omega) (by omega)) dX8_isValid_65 lk_X8_90 M.1 ⟨Nat.le_of_ble_eq_true rfl, Nat.le_of_ble_eq_true rfl⟩ (catLe (Nat.le_of_ble_eq_true rfl)) ⟨rfl, rfl⟩ rfl (Nat.le_of_ble_eq_true rfl) (Nat.le_of_ble_eq_true rfl) (fun z65 S65 A65 i65 p65 => ?_)
              obtain ⟨rfl, rfl, rfl⟩ := p65
              rw [e320, e384, e416]
              refine r_iadd C dX8_isValid_68 ?_
              refine r_istore_n C dX8_isValid_69 (ls1_2 rfl rfl) ?_
              refine r_iinc C dX8_isValid_70 lg_4 (ls1_4 rfl rfl) ?_
              refine r_goto C (tgt := 11) dX8_isValid_73 (by decide) ?_
              refine r_le C (lle_k (lle_k (lle_k (lle_k (lle_k (lle_f lle_0)))))) ?_
              have key : ∀ acc' : Int, acc' = b2i (p ∧ (tks (S 320) (S 384) i x → S 416 x ≤ hs (chg (S 320) (S 384) (S 416) i) a)) → J 11 [some (vR A 7 0), some (vI i), some (vI (hs (chg (S 320) (S 384) (S 416) i) (a ++ [x]))), some (vI acc'), some (vI ((a ++ [x]).length : Int)), none] [] S1 A 0 0 := fun acc' h' => ih (a ++ [x]) _ acc' h' (by rw [hab]; simp) (by
                rw [hp, hs_one]
                exact ⟨fun ⟨q1, q2, q3⟩ => ⟨⟨q1, q2⟩, q3⟩, fun ⟨⟨q1, q2⟩, q3⟩ => ⟨q1, q2, q3⟩⟩)
              rw [hs_one, List.length_append, List.length_singleton] at key
              refine key _ ?_
              have etk : tks (S1 320) (S1 384) i x ↔ tks (S 320) (S 384) i x := by rw [e320, e384]
              have eqx : S1 416 x = S 416 x := by rw [e416]
              first
              | exact e0f (fun q => (b2i_0.mp (hacc.symm.trans c30)) q.1)
              | exact e1t ⟨Classical.byContradiction fun q => c30 (hacc.trans (b2i_f q)), fun q => absurd (etk.mpr q) c40⟩
              | exact e0f (fun q => by have := q.2 (etk.mp c40); omega)
              | exact e1t ⟨Classical.byContradiction fun q => c30 (hacc.trans (b2i_f q)), fun q => by omega⟩
            · refine r_iconst C dX8_isValid_54 ?_
              refine r_goto C (tgt := 59) dX8_isValid_55 (by decide) ?_
              refine r_istore_n C dX8_isValid_59 (ls1_3 rfl rfl) ?_
              refine r_iload_n C dX8_isValid_60 lg_2 ?_
              refine r_aload_n C dX8_isValid_61 lg_0 ?_
              refine r_iload C dX8_isValid_62 lg_5 ?_
              refine r_iload_n C dX8_isValid_64 lg_1 ?_
              refine q_V2I C (cM_change hfl (by assumption) (by omega) (by omega) (by omega) (by omega)) dX8_isValid_65 lk_X8_90 M.1 ⟨Nat.le_of_ble_eq_true rfl, Nat.le_of_ble_eq_true rfl⟩ (catLe (Nat.le_of_ble_eq_true rfl)) ⟨rfl, rfl⟩ rfl (Nat.le_of_ble_eq_true rfl) (Nat.le_of_ble_eq_true rfl) (fun z65 S65 A65 i65 p65 => ?_)
              obtain ⟨rfl, rfl, rfl⟩ := p65
              rw [e320, e384, e416]
              refine r_iadd C dX8_isValid_68 ?_
              refine r_istore_n C dX8_isValid_69 (ls1_2 rfl rfl) ?_
              refine r_iinc C dX8_isValid_70 lg_4 (ls1_4 rfl rfl) ?_
              refine r_goto C (tgt := 11) dX8_isValid_73 (by decide) ?_
              refine r_le C (lle_k (lle_k (lle_k (lle_k (lle_k (lle_f lle_0)))))) ?_
              have key : ∀ acc' : Int, acc' = b2i (p ∧ (tks (S 320) (S 384) i x → S 416 x ≤ hs (chg (S 320) (S 384) (S 416) i) a)) → J 11 [some (vR A 7 0), some (vI i), some (vI (hs (chg (S 320) (S 384) (S 416) i) (a ++ [x]))), some (vI acc'), some (vI ((a ++ [x]).length : Int)), none] [] S1 A 0 0 := fun acc' h' => ih (a ++ [x]) _ acc' h' (by rw [hab]; simp) (by
                rw [hp, hs_one]
                exact ⟨fun ⟨q1, q2, q3⟩ => ⟨⟨q1, q2⟩, q3⟩, fun ⟨⟨q1, q2⟩, q3⟩ => ⟨q1, q2, q3⟩⟩)
              rw [hs_one, List.length_append, List.length_singleton] at key
              refine key _ ?_
              have etk : tks (S1 320) (S1 384) i x ↔ tks (S 320) (S 384) i x := by rw [e320, e384]
              have eqx : S1 416 x = S 416 x := by rw [e416]
              first
              | exact e0f (fun q => (b2i_0.mp (hacc.symm.trans c30)) q.1)
              | exact e1t ⟨Classical.byContradiction fun q => c30 (hacc.trans (b2i_f q)), fun q => absurd (etk.mpr q) c40⟩
              | exact e0f (fun q => by have := q.2 (etk.mp c40); omega)
              | exact e1t ⟨Classical.byContradiction fun q => c30 (hacc.trans (b2i_f q)), fun q => by omega⟩
  refine r_iconst C dX8_isValid_0 ?_
  refine r_istore_n C dX8_isValid_1 (ls1_2 rfl rfl) ?_
  refine r_iconst C dX8_isValid_2 ?_
  refine r_istore_n C dX8_isValid_3 (ls1_3 rfl rfl) ?_
  refine r_aload_n C dX8_isValid_4 lg_0 ?_
  refine q_V0V C (cM_orders hfl (by assumption) (by omega) (by omega)) dX8_isValid_5 lk_X8_83 M0.1 ⟨Nat.le_of_ble_eq_true rfl, Nat.le_of_ble_eq_true rfl⟩ (catLe (Nat.le_of_ble_eq_true rfl)) ⟨rfl, rfl⟩ rfl (Nat.le_of_ble_eq_true rfl) (Nat.le_of_ble_eq_true rfl) (fun S5 A5 p5 => ?_)
  obtain ⟨rfl, hF5, hL5⟩ := p5
  refine r_iconst C dX8_isValid_8 ?_
  refine r_istore C dX8_isValid_9 (ls1_4 rfl rfl) ?_
  exact lp S5 hF5 hL5 (led (S 352) (S 480) (S 232 0).toNat) [] True 1 (b2i_t trivial).symm rfl (by simp [hs])
