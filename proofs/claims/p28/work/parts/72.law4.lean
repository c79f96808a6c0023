/-! the law: sight, past, all -/
theorem inH_s (g : Int → Int) {w : Int} (hw : 0 ≤ w) (h : Int) : inH g (w + 1).toNat h = 1000003 * inH g w.toNat h + g w := by
  rw [toN_s hw]
  show 1000003 * inH g w.toNat h + g (w.toNat : Int) = _
  rw [Int.toNat_of_nonneg hw]
theorem al1_s (R : RW) {k : Int} (hk : 0 ≤ k) : al1 R (k + 1).toNat = 8191 * al1 R k.toNat + R.kd k + 7 * R.dy k + 4001 * cI (R.gn k = 0) (fst k (LdR R)) (-1) := by
  rw [toN_s hk]
  show 8191 * al1 R k.toNat + R.kd (k.toNat : Int) + 7 * R.dy (k.toNat : Int) + 4001 * cI (R.gn (k.toNat : Int) = 0) (fst (k.toNat : Int) (LdR R)) (-1) = _
  rw [Int.toNat_of_nonneg hk]
theorem al2_s (R : RW) {k : Int} (hk : 0 ≤ k) : al2 R (k + 1).toNat = 31 * al2 R k.toNat + wL (sgh (akv R k) 364) := by
  rw [toN_s hk]
  show 31 * al2 R k.toNat + wL (sgh (akv R (k.toNat : Int)) 364) = _
  rw [Int.toNat_of_nonneg hk]
set_option maxRecDepth 20000 in
theorem cQ_sight {G : GT} {l : Launch} (hfl : l.stackTraces = false) {S : ST} {A : AB} {item upTo : Int} {R : RW} (hP : PI R S A) (hit : 0 ≤ item ∧ item ≤ 5) (hup : 0 ≤ upTo ∧ upTo ≤ 364) : CT G l yL_sight cL_sight 7 (some .long) (rmk 10 0 0 180) S A [vR A 6 0, vI item, vI upTo] (oJ fun z S' A' => wL (sgh (akv R item) upTo) = z ∧ A = A' ∧ Fr QF S S') (noX) := by
  refine ct_ofN (own := RL) (mn := "sight") rfl rfl (by decide) hfl (lv0 := [some (vR A 6 0), some (vI item), some (vI upTo), none, none, none, none]) (ent_1 (cat_R _ _ _) (ent_1 rfl (ent_1 rfl (ent_n (ent_n (ent_n (ent_n ent_0))))))) rfl ?_
  intro J X C F FX FT FU hW hA
  have hP0 := hP
  obtain ⟨hk1, hk2⟩ := hup
  have lp : ∀ (N : Nat) (f : Nat) (S1 : ST) (d h : Int) (hF1 : Fr QF S S1) (hd : d ≤ upTo) (hdl : -400 ≤ d) (hf : d < f) (hG : outH (akv R item) (1 + upTo / 7) f d h = sgh (akv R item) upTo) (hN : f < N), J 5 [some (vR A 6 0), some (vI item), some (vI upTo), some (vL h), none, some (vI d), none] [] S1 A 0 0 := by
    intro N
    induction N with
    | zero => intro f S1 d h hF1 hd hdl hf hG hN; omega
    | succ N ih =>
      intro f S1 d h hF1 hd hdl hf hG hN
      obtain ⟨f9, e1, e2, e3⟩ : ∃ f9 : Nat, (0 ≤ d → f = f9 + 1) ∧ (0 ≤ d → d - (1 + upTo / 7) < f9) ∧ (0 ≤ d → outH (akv R item) (1 + upTo / 7) f9 (d - (1 + upTo / 7)) (inH ((akv R item) d) 12 h) = sgh (akv R item) upTo) := by
        by_cases hd0 : 0 ≤ d
        · obtain ⟨f9, a1, a2, a3⟩ := outH_pos hd0 hf (by omega) hG
          exact ⟨f9, fun _ => a1, fun _ => a2, fun _ => a3⟩
        · exact ⟨0, fun q => absurd q hd0, fun q => absurd q hd0, fun q => absurd q hd0⟩
      have ihO := ih
      have lp9 : 0 ≤ d → J 13 [some (vR A 6 0), some (vI item), some (vI upTo), some (vL h), none, some (vI d), some (vI 0)] [] S1 A 0 0 := by
        intro hd0
        have e1 := e1 hd0
        have e2 := e2 hd0
        have e3 := e3 hd0
        clear ih
        have lp2 : ∀ (N : Nat) (w h2 : Int) (S2 : ST) (h1 : 0 ≤ w) (h3 : w ≤ 12) (hF2 : Fr QF S S2) (he : h2 = inH ((akv R item) d) w.toNat h) (hN : 12 - w < N), J 13 [some (vR A 6 0), some (vI item), some (vI upTo), some (vL h2), none, some (vI d), some (vI w)] [] S2 A 0 0 := by
          intro N
          induction N with
          | zero => intro w h2 S2 h1 h3 hF2 he hN; omega
          | succ N ih =>
            intro w h2 S2 h1 h3 hF2 he hN
            have hP := pi_fr hP0 hF2
            refine r_iload C dL_sight_13 lg_6 ?_
            refine r_bipush C dL_sight_15 (by decide) ?_
            refine r_icge C (tgt := 42) dL_sight_17 (by decide) (by omega) (by omega) (fun c17 => ?_) (fun c17 => ?_)
            · refine r_iload C dL_sight_42 lg_5 ?_
              refine r_iconst C dL_sight_44 ?_
              refine r_iload_n C dL_sight_45 lg_2 ?_
              refine r_bipush C dL_sight_46 (by decide) ?_
              refine r_idiv C dL_sight_48 (by omega) (by omega) (by omega) (by omega) ?_
              refine r_iadd C dL_sight_49 ?_
              refine r_isub C dL_sight_50 ?_
              refine r_istore C dL_sight_51 (ls1_5 rfl trivial) ?_
              refine r_goto C (tgt := 5) dL_sight_53 (by decide) ?_
              refine r_le C (lle_k (lle_k (lle_k (lle_k (lle_k (lle_k (lle_f lle_0))))))) ?_
              rw [show w = 12 by omega] at he
              exact ihO f9 S2 _ h2 hF2 (by omega) (by omega) e2 (by rw [he]; exact e3) (by omega)
            · refine r_ldc2 C dL_sight_20 cs_L_108 (1000003) (by decide) ?_
              refine r_lload_n C dL_sight_23 lg_3 ?_
              refine r_lmul C dL_sight_24 ?_
              refine r_aload_n C dL_sight_25 lg_0 ?_
              refine r_iload_n C dL_sight_26 lg_1 ?_
              refine r_iload C dL_sight_27 lg_5 ?_
              refine r_iload C dL_sight_29 lg_6 ?_
              refine q_W4J C (cQ_ask hfl hP ⟨hit, by omega⟩ (by omega)) dL_sight_31 lk_L_110 ⟨Nat.le_of_ble_eq_true rfl, Nat.le_of_ble_eq_true rfl⟩ (catLe (Nat.le_of_ble_eq_true rfl)) ⟨rfl, rfl⟩ rfl (Nat.le_of_ble_eq_true rfl) (Nat.le_of_ble_eq_true rfl) (fun z31 S31 A31 i31 p31 => ?_)
              obtain ⟨rfl, rfl, hF31⟩ := p31
              have hP := pi_fr hP hF31
              have hFz := hF2.tr hF31
              refine r_ladd C dL_sight_34 ?_
              refine r_lstore_n C dL_sight_35 (ls2_3 rfl rfl) ?_
              refine r_iinc C dL_sight_36 lg_6 (ls1_6 rfl rfl) ?_
              refine r_goto C (tgt := 13) dL_sight_39 (by decide) ?_
              exact ih (w + 1) _ _ (by omega) (by omega) hFz (by rw [inH_s _ h1, ← he]) (by omega)
        exact lp2 13 0 _ S1 (by omega) (by omega) hF1 rfl (by omega)
      refine r_iload C dL_sight_5 lg_5 ?_
      refine r_iflt C (tgt := 56) dL_sight_7 (by decide) (by omega) (fun c7 => ?_) (fun c7 => ?_)
      · refine r_lload_n C dL_sight_56 lg_3 ?_
        rw [vL_w h]
        exact f_J F dL_sight_57 (wL_r _) ⟨by rw [← hG, outH_neg f (by omega)], rfl, hF1⟩ (Nat.le_of_ble_eq_true rfl) (Nat.le_of_ble_eq_true rfl)
      · refine r_iconst C dL_sight_10 ?_
        refine r_istore C dL_sight_11 (ls1_6 rfl rfl) ?_
        exact lp9 (by omega)
  refine r_lconst C dL_sight_0 0 rfl ?_
  refine r_lstore_n C dL_sight_1 (ls2_3 rfl rfl) ?_
  refine r_iload_n C dL_sight_2 lg_2 ?_
  refine r_istore C dL_sight_3 (ls1_5 rfl trivial) ?_
  exact lp (upTo.toNat + 2) (upTo.toNat + 1) S upTo 0 Fr.rf (by omega) (by omega) (by omega) rfl (by omega)
set_option maxRecDepth 20000 in
theorem cQ_past {G : GT} {l : Launch} (hfl : l.stackTraces = false) {S : ST} {A : AB} {item upTo : Int} {R : RW} (hP : PI R S A) (hit : 0 ≤ item ∧ item ≤ 5) (hup : 0 ≤ upTo ∧ upTo ≤ 364) : CT G l yL_past cL_past 7 (some .long) (rmk 10 0 0 180) S A [vR A 6 0, vI item, vI upTo] (oJ fun z S' A' => wL (sgh (psA R item) upTo) = z ∧ A = A' ∧ Fr QF S S') (noX) := by
  refine ct_ofN (own := RL) (mn := "past") rfl rfl (by decide) hfl (lv0 := [some (vR A 6 0), some (vI item), some (vI upTo), none, none, none, none]) (ent_1 (cat_R _ _ _) (ent_1 rfl (ent_1 rfl (ent_n (ent_n (ent_n (ent_n ent_0))))))) rfl ?_
  intro J X C F FX FT FU hW hA
  have hP0 := hP
  obtain ⟨hk1, hk2⟩ := hup
  have lp : ∀ (N : Nat) (f : Nat) (S1 : ST) (d h : Int) (hF1 : Fr QF S S1) (hd : d ≤ upTo) (hdl : -400 ≤ d) (hf : d < f) (hG : outH (psA R item) (1 + upTo / 7) f d h = sgh (psA R item) upTo) (hN : f < N), J 5 [some (vR A 6 0), some (vI item), some (vI upTo), some (vL h), none, some (vI d), none] [] S1 A 0 0 := by
    intro N
    induction N with
    | zero => intro f S1 d h hF1 hd hdl hf hG hN; omega
    | succ N ih =>
      intro f S1 d h hF1 hd hdl hf hG hN
      obtain ⟨f9, e1, e2, e3⟩ : ∃ f9 : Nat, (0 ≤ d → f = f9 + 1) ∧ (0 ≤ d → d - (1 + upTo / 7) < f9) ∧ (0 ≤ d → outH (psA R item) (1 + upTo / 7) f9 (d - (1 + upTo / 7)) (inH ((psA R item) d) 12 h) = sgh (psA R item) upTo) := by
        by_cases hd0 : 0 ≤ d
        · obtain ⟨f9, a1, a2, a3⟩ := outH_pos hd0 hf (by omega) hG
          exact ⟨f9, fun _ => a1, fun _ => a2, fun _ => a3⟩
        · exact ⟨0, fun q => absurd q hd0, fun q => absurd q hd0, fun q => absurd q hd0⟩
      have ihO := ih
      have lp9 : 0 ≤ d → J 13 [some (vR A 6 0), some (vI item), some (vI upTo), some (vL h), none, some (vI d), some (vI 0)] [] S1 A 0 0 := by
        intro hd0
        have e1 := e1 hd0
        have e2 := e2 hd0
        have e3 := e3 hd0
        clear ih
        have lp2 : ∀ (N : Nat) (w h2 : Int) (S2 : ST) (h1 : 0 ≤ w) (h3 : w ≤ 12) (hF2 : Fr QF S S2) (he : h2 = inH ((psA R item) d) w.toNat h) (hN : 12 - w < N), J 13 [some (vR A 6 0), some (vI item), some (vI upTo), some (vL h2), none, some (vI d), some (vI w)] [] S2 A 0 0 := by
          intro N
          induction N with
          | zero => intro w h2 S2 h1 h3 hF2 he hN; omega
          | succ N ih =>
            intro w h2 S2 h1 h3 hF2 he hN
            have hP := pi_fr hP0 hF2
            refine r_iload C dL_past_13 lg_6 ?_
            refine r_bipush C dL_past_15 (by decide) ?_
            refine r_icge C (tgt := 52) dL_past_17 (by decide) (by omega) (by omega) (fun c17 => ?_) (fun c17 => ?_)
            · refine r_iload C dL_past_52 lg_5 ?_
              refine r_iconst C dL_past_54 ?_
              refine r_iload_n C dL_past_55 lg_2 ?_
              refine r_bipush C dL_past_56 (by decide) ?_
              refine r_idiv C dL_past_58 (by omega) (by omega) (by omega) (by omega) ?_
              refine r_iadd C dL_past_59 ?_
              refine r_isub C dL_past_60 ?_
              refine r_istore C dL_past_61 (ls1_5 rfl trivial) ?_
              refine r_goto C (tgt := 5) dL_past_63 (by decide) ?_
              refine r_le C (lle_k (lle_k (lle_k (lle_k (lle_k (lle_k (lle_f lle_0))))))) ?_
              rw [show w = 12 by omega] at he
              exact ihO f9 S2 _ h2 hF2 (by omega) (by omega) e2 (by rw [he]; exact e3) (by omega)
            · refine r_ldc2 C dL_past_20 cs_L_108 (1000003) (by decide) ?_
              refine r_lload_n C dL_past_23 lg_3 ?_
              refine r_lmul C dL_past_24 ?_
              refine r_iload C dL_past_25 lg_6 ?_
              refine r_iconst C dL_past_27 ?_
              refine r_icne C (tgt := 35) dL_past_28 (by decide) (by omega) (by omega) (fun c28 => ?_) (fun c28 => ?_)
              · have hst : psA R item d w = akv R item d w := if_neg c28
                refine r_aload_n C dL_past_35 lg_0 ?_
                refine r_iload_n C dL_past_36 lg_1 ?_
                refine r_iload C dL_past_37 lg_5 ?_
                refine r_iload C dL_past_39 lg_6 ?_
                refine q_W4J C (cQ_ask hfl hP ⟨hit, by omega⟩ (by omega)) dL_past_41 lk_L_110 ⟨Nat.le_of_ble_eq_true rfl, Nat.le_of_ble_eq_true rfl⟩ (catLe (Nat.le_of_ble_eq_true rfl)) ⟨rfl, rfl⟩ rfl (Nat.le_of_ble_eq_true rfl) (Nat.le_of_ble_eq_true rfl) (fun z41 S41 A41 i41 p41 => ?_)
                obtain ⟨rfl, rfl, hF41⟩ := p41
                have hP := pi_fr hP hF41
                have hFz := hF2.tr hF41
                refine r_ladd C dL_past_44 ?_
                refine r_lstore_n C dL_past_45 (ls2_3 rfl rfl) ?_
                refine r_iinc C dL_past_46 lg_6 (ls1_6 rfl rfl) ?_
                refine r_goto C (tgt := 13) dL_past_49 (by decide) ?_
                exact ih (w + 1) _ _ (by omega) (by omega) hFz (by rw [inH_s _ h1, ← he, hst]) (by omega)
              · have hst : psA R item d w = 0 := if_pos (by omega)
                have hFz := hF2
                refine r_lconst C dL_past_31 0 rfl ?_
                refine r_goto C (tgt := 44) dL_past_32 (by decide) ?_
                refine r_ladd C dL_past_44 ?_
                refine r_lstore_n C dL_past_45 (ls2_3 rfl rfl) ?_
                refine r_iinc C dL_past_46 lg_6 (ls1_6 rfl rfl) ?_
                refine r_goto C (tgt := 13) dL_past_49 (by decide) ?_
                exact ih (w + 1) _ _ (by omega) (by omega) hFz (by rw [inH_s _ h1, ← he, hst]) (by omega)
        exact lp2 13 0 _ S1 (by omega) (by omega) hF1 rfl (by omega)
      refine r_iload C dL_past_5 lg_5 ?_
      refine r_iflt C (tgt := 66) dL_past_7 (by decide) (by omega) (fun c7 => ?_) (fun c7 => ?_)
      · refine r_lload_n C dL_past_66 lg_3 ?_
        rw [vL_w h]
        exact f_J F dL_past_67 (wL_r _) ⟨by rw [← hG, outH_neg f (by omega)], rfl, hF1⟩ (Nat.le_of_ble_eq_true rfl) (Nat.le_of_ble_eq_true rfl)
      · refine r_iconst C dL_past_10 ?_
        refine r_istore C dL_past_11 (ls1_6 rfl rfl) ?_
        exact lp9 (by omega)
  refine r_lconst C dL_past_0 0 rfl ?_
  refine r_lstore_n C dL_past_1 (ls2_3 rfl rfl) ?_
  refine r_iload_n C dL_past_2 lg_2 ?_
  refine r_istore C dL_past_3 (ls1_5 rfl trivial) ?_
  exact lp (upTo.toNat + 2) (upTo.toNat + 1) S upTo 0 Fr.rf (by omega) (by omega) (by omega) rfl (by omega)
set_option maxRecDepth 20000 in
theorem cQ_all {G : GT} {l : Launch} (hfl : l.stackTraces = false) {S : ST} {A : AB} {R : RW} (hP : PI R S A)  : CT G l yL_all cL_all 4 (some .long) (rmk 11 0 0 206) S A [vR A 6 0] (oJ fun z S' A' => wL (allF R) = z ∧ A = A' ∧ Fr QF S S') (noX) := by
  have hl6 := hP.1.1.1
  refine ct_ofN (own := RL) (mn := "all") rfl rfl (by decide) hfl (lv0 := [some (vR A 6 0), none, none, none]) (ent_1 (cat_R _ _ _) (ent_n (ent_n (ent_n ent_0)))) rfl ?_
  intro J X C F FX FT FU hW hA
  have hP0 := hP
  have hn := hP.2.1.1
  have lp2 : ∀ (N : Nat) (k h2 : Int) (S2 : ST) (h1 : 0 ≤ k) (h3 : k ≤ 6) (hF2 : Fr QF S S2) (he : h2 = al2 R k.toNat) (hN : 6 - k < N), J 59 [some (vR A 6 0), some (vL h2), none, some (vI k)] [] S2 A 0 0 := by
    intro N
    induction N with
    | zero => intro k h2 S2 h1 h3 hF2 he hN; omega
    | succ N ih =>
      intro k h2 S2 h1 h3 hF2 he hN
      have hP := pi_fr hP0 hF2
      refine r_iload_n C dL_all_59 lg_3 ?_
      refine r_bipush C dL_all_60 (by decide) ?_
      refine r_icge C (tgt := 86) dL_all_62 (by decide) (by omega) (by omega) (fun c62 => ?_) (fun c62 => ?_)
      · refine r_lload_n C dL_all_86 lg_1 ?_
        rw [vL_w h2]
        exact f_J F dL_all_87 (wL_r _) ⟨by rw [he, show k = 6 by omega]; rfl, rfl, hF2⟩ (Nat.le_of_ble_eq_true rfl) (Nat.le_of_ble_eq_true rfl)
      · refine r_ldc2 C dL_all_65 cs_L_126 (31) (by decide) ?_
        refine r_lload_n C dL_all_68 lg_1 ?_
        refine r_lmul C dL_all_69 ?_
        refine r_aload_n C dL_all_70 lg_0 ?_
        refine r_iload_n C dL_all_71 lg_3 ?_
        refine r_sipush C dL_all_72 (by decide) ?_
        refine q_S3J C (cQ_sight hfl hP ⟨h1, by omega⟩ (by omega)) dL_all_75 lk_L_128 ⟨Nat.le_of_ble_eq_true rfl, Nat.le_of_ble_eq_true rfl⟩ (catLe (Nat.le_of_ble_eq_true rfl)) ⟨rfl, rfl⟩ rfl (Nat.le_of_ble_eq_true rfl) (Nat.le_of_ble_eq_true rfl) (fun z75 S75 A75 i75 p75 => ?_)
        obtain ⟨rfl, rfl, hF75⟩ := p75
        have hP := pi_fr hP hF75
        refine r_ladd C dL_all_78 ?_
        refine r_lstore_n C dL_all_79 (ls2_1 rfl (cat_R _ _ _)) ?_
        refine r_iinc C dL_all_80 lg_3 (ls1_3 rfl trivial) ?_
        refine r_goto C (tgt := 59) dL_all_83 (by decide) ?_
        exact ih (k + 1) _ _ (by omega) (by omega) (hF2.tr hF75) (by rw [al2_s R h1, ← he]) (by omega)
  have lp1 : ∀ (N : Nat) (k h1 : Int) (h2 : 0 ≤ k) (h3 : k ≤ R.n) (he : h1 = al1 R k.toNat) (hN : R.n - k < N), J 8 [some (vR A 6 0), some (vL h1), none, some (vI k)] [] S A 0 0 := by
    intro N
    induction N with
    | zero => intro k h1 h2 h3 he hN; omega
    | succ N ih =>
      intro k h1 h2 h3 he hN
      refine r_iload_n C dL_all_8 lg_3 ?_
      refine r_aload_n C dL_all_9 lg_0 ?_
      refine q_V0I C (cZ_movements hfl hP) dL_all_10 lk_L_116 hl6 ⟨Nat.le_of_ble_eq_true rfl, Nat.le_of_ble_eq_true rfl⟩ (catLe (Nat.le_of_ble_eq_true rfl)) ⟨rfl, rfl⟩ rfl (Nat.le_of_ble_eq_true rfl) (Nat.le_of_ble_eq_true rfl) (fun z10 S10 A10 i10 p10 => ?_)
      obtain ⟨rfl, rfl, rfl⟩ := p10
      refine r_icge C (tgt := 57) dL_all_13 (by decide) (by omega) (by omega) (fun c13 => ?_) (fun c13 => ?_)
      · refine r_iconst C dL_all_57 ?_
        refine r_istore_n C dL_all_58 (ls1_3 rfl trivial) ?_
        exact lp2 7 0 _ S (by omega) (by omega) Fr.rf (by rw [he, show k = R.n by omega]; rfl) (by omega)
      · refine r_ldc2 C dL_all_16 cs_L_120 (8191) (by decide) ?_
        refine r_lload_n C dL_all_19 lg_1 ?_
        refine r_lmul C dL_all_20 ?_
        refine r_aload_n C dL_all_21 lg_0 ?_
        refine r_iload_n C dL_all_22 lg_3 ?_
        refine q_V1I C (cZ_kindOf hfl hP (by omega)) dL_all_23 lk_L_44 hl6 ⟨Nat.le_of_ble_eq_true rfl, Nat.le_of_ble_eq_true rfl⟩ (catLe (Nat.le_of_ble_eq_true rfl)) ⟨rfl, rfl⟩ rfl (Nat.le_of_ble_eq_true rfl) (Nat.le_of_ble_eq_true rfl) (fun z23 S23 A23 i23 p23 => ?_)
        obtain ⟨rfl, rfl, rfl⟩ := p23
        refine r_i2l C dL_all_26 i23 ?_
        refine r_ladd C dL_all_27 ?_
        refine r_ldc2 C dL_all_28 cs_L_122 (7) (by decide) ?_
        refine r_aload_n C dL_all_31 lg_0 ?_
        refine r_iload_n C dL_all_32 lg_3 ?_
        refine q_V1I C (cZ_dayOf hfl hP (by omega)) dL_all_33 lk_L_47 hl6 ⟨Nat.le_of_ble_eq_true rfl, Nat.le_of_ble_eq_true rfl⟩ (catLe (Nat.le_of_ble_eq_true rfl)) ⟨rfl, rfl⟩ rfl (Nat.le_of_ble_eq_true rfl) (Nat.le_of_ble_eq_true rfl) (fun z33 S33 A33 i33 p33 => ?_)
        obtain ⟨rfl, rfl, rfl⟩ := p33
        refine r_i2l C dL_all_36 i33 ?_
        refine r_lmul C dL_all_37 ?_
        refine r_ladd C dL_all_38 ?_
        refine r_ldc2 C dL_all_39 cs_L_124 (4001) (by decide) ?_
        refine r_aload_n C dL_all_42 lg_0 ?_
        refine r_iload_n C dL_all_43 lg_3 ?_
        refine q_V1I C (cZ_placeOf hfl hP (by omega)) dL_all_44 lk_L_50 hl6 ⟨Nat.le_of_ble_eq_true rfl, Nat.le_of_ble_eq_true rfl⟩ (catLe (Nat.le_of_ble_eq_true rfl)) ⟨rfl, rfl⟩ rfl (Nat.le_of_ble_eq_true rfl) (Nat.le_of_ble_eq_true rfl) (fun z44 S44 A44 i44 p44 => ?_)
        obtain ⟨rfl, rfl, rfl⟩ := p44
        refine r_i2l C dL_all_47 i44 ?_
        refine r_lmul C dL_all_48 ?_
        refine r_ladd C dL_all_49 ?_
        refine r_lstore_n C dL_all_50 (ls2_1 rfl (cat_R _ _ _)) ?_
        refine r_iinc C dL_all_51 lg_3 (ls1_3 rfl trivial) ?_
        refine r_goto C (tgt := 8) dL_all_54 (by decide) ?_
        exact ih (k + 1) _ (by omega) (by omega) (by rw [al1_s R h2, ← he]) (by omega)
  refine r_aload_n C dL_all_0 lg_0 ?_
  refine q_V0I C (cZ_movements hfl hP) dL_all_1 lk_L_116 hl6 ⟨Nat.le_of_ble_eq_true rfl, Nat.le_of_ble_eq_true rfl⟩ (catLe (Nat.le_of_ble_eq_true rfl)) ⟨rfl, rfl⟩ rfl (Nat.le_of_ble_eq_true rfl) (Nat.le_of_ble_eq_true rfl) (fun z1 S1 A1 i1 p1 => ?_)
  obtain ⟨rfl, rfl, rfl⟩ := p1
  refine r_i2l C dL_all_4 (by omega) ?_
  refine r_lstore_n C dL_all_5 (ls2_1 rfl (cat_R _ _ _)) ?_
  refine r_iconst C dL_all_6 ?_
  refine r_istore_n C dL_all_7 (ls1_3 rfl trivial) ?_
  exact lp1 (R.n.toNat + 1) 0 _ (by omega) (by omega) rfl (by omega)
theorem wk_b {R : RW} {S : ST} {A : AB} (hP : PI R S A) {i d : Int} (hit : 0 ≤ i ∧ i ≤ 5) : (-40000000000000000 ≤ (wk R i d).rcv ∧ (wk R i d).rcv ≤ 40000000000000000) ∧ (-40000000000000000 ≤ (wk R i d).i0 ∧ (wk R i d).i0 ≤ 40000000000000000) ∧ (-40000000000000000 ≤ (wk R i d).i1 ∧ (wk R i d).i1 ≤ 40000000000000000) ∧ (-40000000000000000 ≤ (wk R i d).v0 ∧ (wk R i d).v0 ≤ 40000000000000000) ∧ (-40000000000000000 ≤ (wk R i d).v1 ∧ (wk R i d).v1 ≤ 40000000000000000) ∧ (-40000000000000000 ≤ (wk R i d).e0 ∧ (wk R i d).e0 ≤ 40000000000000000) ∧ (-40000000000000000 ≤ (wk R i d).e1 ∧ (wk R i d).e1 ≤ 40000000000000000) ∧ (0 ≤ qc (wk R i d).q ∧ qc (wk R i d).q ≤ 40000000000000000) ∧ (0 ≤ (wk R i d).avg ∧ (wk R i d).avg ≤ 40000000000000000) := by
  obtain ⟨hCK, hR, hR2, hV⟩ := hP
  have h := sound_all (day := d) hR hR2 hit.1 (hV i hit.1 hit.2)
  obtain ⟨b1, b2, b3, b4, b5, b6, b7, b8, b9, b10⟩ := h.2.2.2.2.1
  have h2 := h.2.1.2.1.1
  unfold bt at b4 b5 b6 b7 b8 b9 b10
  refine ⟨?_, ?_, ?_, ?_, ?_, ?_, ?_, ?_, ?_⟩ <;> omega
set_option maxRecDepth 20000 in
theorem cQ_receivedOfAll {G : GT} {l : Launch} (hfl : l.stackTraces = false) {S : ST} {A : AB} {R : RW} (hP : PI R S A)  : CT G l yL_receivedOfAll cL_receivedOfAll 4 (some .long) (rmk 9 0 0 155) S A [vR A 6 0] (oJ fun z S' A' => sumI (fun i => (wk R i 364).rcv) 6 = z ∧ A = A' ∧ Fr QF S S') (noX) := by
  have hl6 := hP.1.1.1
  refine ct_ofN (own := RL) (mn := "receivedOfAll") rfl rfl (by decide) hfl (lv0 := [some (vR A 6 0), none, none, none]) (ent_1 (cat_R _ _ _) (ent_n (ent_n (ent_n ent_0)))) rfl ?_
  intro J X C F FX FT FU hW hA
  have hP0 := hP
  have lp : ∀ (N : Nat) (k a : Int) (S1 : ST) (h1 : 0 ≤ k) (h2 : k ≤ 6) (hF1 : Fr QF S S1) (he : a = sumI (fun i => (wk R i 364).rcv) k) (hb : -(k * 40000000000000000) ≤ a ∧ a ≤ k * 40000000000000000) (hN : 6 - k < N), J 4 [some (vR A 6 0), some (vL a), none, some (vI k)] [] S1 A 0 0 := by
    intro N
    induction N with
    | zero => intro k a S1 h1 h2 hF1 he hb hN; omega
    | succ N ih =>
      intro k a S1 h1 h2 hF1 he hb hN
      have hP := pi_fr hP0 hF1
      refine r_iload_n C dL_receivedOfAll_4 lg_3 ?_
      refine r_bipush C dL_receivedOfAll_5 (by decide) ?_
      refine r_icge C (tgt := 27) dL_receivedOfAll_7 (by decide) (by omega) (by omega) (fun c7 => ?_) (fun c7 => ?_)
      · refine r_lload_n C dL_receivedOfAll_27 lg_1 ?_
        exact f_J F dL_receivedOfAll_28 (by omega) ⟨by rw [he, show k = 6 by omega], rfl, hF1⟩ (Nat.le_of_ble_eq_true rfl) (Nat.le_of_ble_eq_true rfl)
      · refine r_lload_n C dL_receivedOfAll_10 lg_1 ?_
        refine r_aload_n C dL_receivedOfAll_11 lg_0 ?_
        refine r_iload_n C dL_receivedOfAll_12 lg_3 ?_
        refine r_sipush C dL_receivedOfAll_13 (by decide) ?_
        refine q_V2J C (cZ_received hfl hP ⟨⟨h1, by omega⟩, by omega⟩) dL_receivedOfAll_16 lk_L_86 hl6 ⟨Nat.le_of_ble_eq_true rfl, Nat.le_of_ble_eq_true rfl⟩ (catLe (Nat.le_of_ble_eq_true rfl)) ⟨rfl, rfl⟩ rfl (Nat.le_of_ble_eq_true rfl) (Nat.le_of_ble_eq_true rfl) (fun z16 S16 A16 i16 p16 => ?_)
        obtain ⟨rfl, rfl, hF16⟩ := p16
        have hP := pi_fr hP hF16
        refine r_ladd C dL_receivedOfAll_19 ?_
        refine r_lstore_n C dL_receivedOfAll_20 (ls2_1 rfl (cat_R _ _ _)) ?_
        refine r_iinc C dL_receivedOfAll_21 lg_3 (ls1_3 rfl trivial) ?_
        refine r_goto C (tgt := 4) dL_receivedOfAll_24 (by decide) ?_
        have hb9 := (wk_b (d := 364) hP ⟨h1, (by omega : k ≤ 5)⟩).1
        exact ih (k + 1) _ _ (by omega) (by omega) (hF1.tr hF16) (by rw [sumI_s _ h1, ← he]) (by omega) (by omega)
  refine r_lconst C dL_receivedOfAll_0 0 rfl ?_
  refine r_lstore_n C dL_receivedOfAll_1 (ls2_1 rfl (cat_R _ _ _)) ?_
  refine r_iconst C dL_receivedOfAll_2 ?_
  refine r_istore_n C dL_receivedOfAll_3 (ls1_3 rfl trivial) ?_
  exact lp 7 0 0 S (by omega) (by omega) Fr.rf rfl (by omega) (by omega)
