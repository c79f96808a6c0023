/-! the law: what is refused -/
theorem ref6 {z a : Int} {GA B C D : Prop} {S S' : ST} {A A' : AB} (h : (z = a ∧ (GA ∧ B) ∧ C) ∨ (z = -6 ∧ ¬ GA ∧ S = S' ∧ A = A') ∨ (z = -7 ∧ (GA ∧ D) ∧ S = S' ∧ A = A')) (hn : ¬ GA) : -6 = z ∧ S = S' ∧ A = A' := by
  rcases h with h | h | h
  · exact absurd h.2.1.1 hn
  · exact ⟨h.1.symm, h.2.2⟩
  · exact absurd h.2.1.1 hn
theorem ref6L {z a : Int} {GA BT B C D : Prop} {S S' : ST} {A A' : AB} (h : (z = a ∧ (GA ∧ BT ∧ B) ∧ C) ∨ (z = -6 ∧ ¬ GA ∧ S = S' ∧ A = A') ∨ (z = -5 ∧ (GA ∧ ¬ BT) ∧ S = S' ∧ A = A') ∨ (z = -7 ∧ (GA ∧ BT ∧ D) ∧ S = S' ∧ A = A')) (hn : ¬ GA) : -6 = z ∧ S = S' ∧ A = A' := by
  rcases h with h | h | h | h
  · exact absurd h.2.1.1 hn
  · exact ⟨h.1.symm, h.2.2⟩
  · exact absurd h.2.1.1 hn
  · exact absurd h.2.1.1 hn
theorem ref5L {z a : Int} {GA BT B C D : Prop} {S S' : ST} {A A' : AB} (h : (z = a ∧ (GA ∧ BT ∧ B) ∧ C) ∨ (z = -6 ∧ ¬ GA ∧ S = S' ∧ A = A') ∨ (z = -5 ∧ (GA ∧ ¬ BT) ∧ S = S' ∧ A = A') ∨ (z = -7 ∧ (GA ∧ BT ∧ D) ∧ S = S' ∧ A = A')) (hg : GA) (hn : ¬ BT) : -5 = z ∧ S = S' ∧ A = A' := by
  rcases h with h | h | h | h
  · exact absurd h.2.1.2.1 hn
  · exact absurd hg h.2.1
  · exact ⟨h.1.symm, h.2.2⟩
  · exact absurd h.2.1.2.1 hn
theorem ref5C {z a : Int} {IN B C D : Prop} {S S' : ST} (h : (z = a ∧ (IN ∧ B) ∧ C) ∨ (z = -5 ∧ ¬ IN ∧ S = S') ∨ (z = -7 ∧ (IN ∧ D) ∧ S = S')) (hn : ¬ IN) : -5 = z ∧ S = S' := by
  rcases h with h | h | h
  · exact absurd h.2.1.1 hn
  · exact ⟨h.1.symm, h.2.2⟩
  · exact absurd h.2.1.1 hn
theorem ref6C {z a : Int} {GA B C D : Prop} {S S' : ST} (h : (z = a ∧ (GA ∧ B) ∧ C) ∨ (z = -6 ∧ ¬ GA ∧ S = S') ∨ (z = -7 ∧ (GA ∧ D) ∧ S = S')) (hn : ¬ GA) : -6 = z ∧ S = S' := by
  rcases h with h | h | h
  · exact absurd h.2.1.1 hn
  · exact ⟨h.1.symm, h.2.2⟩
  · exact absurd h.2.1.1 hn
theorem ref6W {z a : Int} {GA C : Prop} {S S' : ST} (h : (z = a ∧ GA ∧ C) ∨ (z = -6 ∧ ¬ GA ∧ S = S')) (hn : ¬ GA) : -6 = z ∧ S = S' := by
  rcases h with h | h
  · exact absurd h.2.1 hn
  · exact ⟨h.1.symm, h.2.2⟩
theorem top_b : hasB (-9223372036854775808) 63 := by
  unfold hasB
  decide +kernel
theorem shl_b {m : Int} (h0 : 0 ≤ m) (h1 : m < 64) : hasB (fLshl 1 m) m := by
  rw [has_bit h0 h1]
  unfold bitB
  have e2 : (lI (fLshl 1 m)).toBitVec = 1#64 <<< m.toNat := by
    unfold fLshl
    rw [← (lI_of _).1, lshl_bv h0 h1]
    rfl
  rw [e2, BitVec.getLsbD_shiftLeft, BitVec.getLsbD_one]
  simp
  omega
theorem not_allR {s n j : Int} (h0 : n ≤ j) (h1 : j < 64) (hb : hasB s j) : ¬ allR n 64 (fun m => ¬ hasB s m) := fun h => h j h0 h1 hb
theorem shl_nz {m : Int} (h0 : 0 ≤ m) (h1 : m < 64) : ¬ fLshl 1 m = 0 := fun e => bit_z h0 h1 (e ▸ shl_b h0 h1)
set_option maxRecDepth 20000 in
theorem cQ_isRefused {G : GT} {l : Launch} (hfl : l.stackTraces = false) {S : ST} {A : AB} {x : Int} {R : RW} (hP : PI R S A) (hx : 0 ≤ x ∧ x ≤ 2147483647) (hwt : ∀ i, 0 ≤ i → i ≤ 5 → 0 ≤ S 288 i ∧ S 288 i ≤ 100) (hA5 : A.2 5 ≤ 100000) : CT G l yL_isRefused cL_isRefused 11 (some .boolean) (rmk 12 640 3200 229) S A [vR A 6 0, vI x] (oZ fun z S' A' => 1 = z ∧ A = A' ∧ Fr QF S S') (noX) := by
  have hl6 := hP.1.1.1
  refine ct_ofN (own := RL) (mn := "isRefused") rfl rfl (by decide) hfl (lv0 := [some (vR A 6 0), some (vI x), none, none, none, none, none, none, none, none, none]) (ent_1 (cat_R _ _ _) (ent_1 rfl (ent_n (ent_n (ent_n (ent_n (ent_n (ent_n (ent_n (ent_n (ent_n ent_0))))))))))) rfl ?_
  intro J X C F FX FT FU hW hA
  have hP0 := hP
  have hn := hP.2.1.1
  have hx50 : 0 ≤ x % 50 ∧ x % 50 < 50 := by omega
  have hx2 : 0 ≤ x % 2 ∧ x % 2 < 2 := by omega
  by_cases hev : x % 2 = 0
  · have hFc : Fr QF S S := Fr.rf
    have lp : ∀ (N : Nat) (k : Int) (S1 : ST) (k9 n9 : Nat) (h1 : 0 ≤ k) (h2 : k ≤ 12) (hF1 : Fr QF S S1) (hk9 : k9 ≤ 512 + 10 * k) (hn9 : n9 ≤ 2400 + 60 * k) (hN : 12 - k < N), J 453 [some (vR A 6 0), some (vI x), some (vI (-1 - x % 50)), some (vI (-1 - x % 50)), some (vI 0), some (vI (-1)), some (vI R.n), some (vL (wL (allF R))), none, some (vI 1), some (vI k)] [] S1 A k9 n9 := by
      intro N
      induction N with
      | zero => intro k S1 k9 n9 h1 h2 hF1 hk9 hn9 hN; omega
      | succ N ih =>
        intro k S1 k9 n9 h1 h2 hF1 hk9 hn9 hN
        have hP := pi_fr hP0 hF1
        have hFc := hF1
        have hn1 : ¬ akOk (-1 - x % 50) 0 := fun q => by have := q.1; omega
        have hn2 : ¬ akOk 0 (-1 - x % 50) := fun q => by have := q.2; omega
        have hn3 : ¬ akOk 5 (-1 - x % 50) := fun q => by have := q.2; omega
        refine r_iload C dL_isRefused_453 lg_10 ?_
        refine r_bipush C dL_isRefused_455 (by decide) ?_
        refine r_icge C (tgt := 547) dL_isRefused_457 (by decide) (by omega) (by omega) (fun c457 => ?_) (fun c457 => ?_)
        · refine r_iload C dL_isRefused_547 lg_9 ?_
          refine r_ifeq C (tgt := 566) dL_isRefused_549 (by decide) (by omega) (fun c549 => ?_) (fun c549 => ?_)
          · exfalso; omega
          · refine r_aload_n C dL_isRefused_552 lg_0 ?_
            refine q_S1J C (cQ_all hfl hP) dL_isRefused_553 lk_L_146 ⟨Nat.le_of_ble_eq_true rfl, Nat.le_of_ble_eq_true rfl⟩ (catLe (Nat.le_of_ble_eq_true rfl)) ⟨rfl, rfl⟩ rfl (show _ ≤ 640 by omega) (show _ ≤ 3200 by omega) (fun z553 S553 A553 i553 p553 => ?_)
            obtain ⟨rfl, rfl, hF553⟩ := p553
            have hP := pi_fr hP hF553
            have hFc := hFc.tr hF553
            refine r_lload C dL_isRefused_556 lg_7 ?_
            refine r_lcne C (tgt := 566) dL_isRefused_558 dL_isRefused_559 (by decide) (wL_r _) (wL_r _) (fun c558 => ?_) (fun c558 => ?_)
            · exfalso; omega
            · refine r_iconst C dL_isRefused_562 ?_
              refine r_goto C (tgt := 567) dL_isRefused_563 (by decide) ?_
              exact f_Z F dL_isRefused_567 (by omega) ⟨rfl, rfl, hFc⟩ (show _ ≤ 640 by omega) (show _ ≤ 3200 by omega)
        · refine r_iload C dL_isRefused_460 lg_9 ?_
          refine r_ifeq C (tgt := 547) dL_isRefused_462 (by decide) (by omega) (fun c462 => ?_) (fun c462 => ?_)
          · exfalso; omega
          · refine r_aload_n C dL_isRefused_465 lg_0 ?_
            refine r_iload_n C dL_isRefused_466 lg_3 ?_
            refine r_iconst C dL_isRefused_467 ?_
            refine r_iload C dL_isRefused_468 lg_10 ?_
            refine r_W4J C (cQ_askX hfl hP (by omega) (by omega) hn1 (by omega)) dL_isRefused_470 lk_L_110 ⟨Nat.le_of_ble_eq_true rfl, Nat.le_of_ble_eq_true rfl⟩ (catLe (Nat.le_of_ble_eq_true rfl)) 2 12 ⟨rfl, rfl⟩ (show _ ≤ 640 by omega) (show _ ≤ 3200 by omega) (fun _ _ _ h9 => h9.elim) (fun z470 S470 A470 i470 p470 => ?_)
            obtain ⟨rfl, rfl, rfl⟩ := p470
            refine r_ldc2 C dL_isRefused_473 cs_L_106 (-900000000000) (by decide) ?_
            refine r_lcne C (tgt := 538) dL_isRefused_476 dL_isRefused_477 (by decide) (by omega) (by omega) (fun c476 => ?_) (fun c476 => ?_)
            · exfalso; omega
            · refine r_aload_n C dL_isRefused_480 lg_0 ?_
              refine r_iconst C dL_isRefused_481 ?_
              refine r_iload_n C dL_isRefused_482 lg_2 ?_
              refine r_iload C dL_isRefused_483 lg_10 ?_
              refine r_W4J C (cQ_askX hfl hP (by omega) (by omega) hn2 (by omega)) dL_isRefused_485 lk_L_110 ⟨Nat.le_of_ble_eq_true rfl, Nat.le_of_ble_eq_true rfl⟩ (catLe (Nat.le_of_ble_eq_true rfl)) 2 12 ⟨rfl, rfl⟩ (show _ ≤ 640 by omega) (show _ ≤ 3200 by omega) (fun _ _ _ h9 => h9.elim) (fun z485 S485 A485 i485 p485 => ?_)
              obtain ⟨rfl, rfl, rfl⟩ := p485
              refine r_ldc2 C dL_isRefused_488 cs_L_106 (-900000000000) (by decide) ?_
              refine r_lcne C (tgt := 538) dL_isRefused_491 dL_isRefused_492 (by decide) (by omega) (by omega) (fun c491 => ?_) (fun c491 => ?_)
              · exfalso; omega
              · refine r_iload C dL_isRefused_495 lg_10 ?_
                refine r_iconst C dL_isRefused_497 ?_
                refine r_icgt C (tgt := 534) dL_isRefused_498 (by decide) (by omega) (by omega) (fun c498 => ?_) (fun c498 => ?_)
                · refine r_iconst C dL_isRefused_534 ?_
                  refine r_goto C (tgt := 539) dL_isRefused_535 (by decide) ?_
                  refine r_istore C dL_isRefused_539 (ls1_9 rfl trivial) ?_
                  refine r_iinc C dL_isRefused_541 lg_10 (ls1_10 rfl rfl) ?_
                  refine r_goto C (tgt := 453) dL_isRefused_544 (by decide) ?_
                  exact ih (k + 1) _ _ _ (by omega) (by omega) hFc (by omega) (by omega) (by omega)
                · refine r_aload_n C dL_isRefused_501 lg_0 ?_
                  refine r_iload_n C dL_isRefused_502 lg_3 ?_
                  refine r_iconst C dL_isRefused_503 ?_
                  refine r_iconst C dL_isRefused_504 ?_
                  refine r_iload C dL_isRefused_505 lg_10 ?_
                  refine r_W5J C (cQ_layer hfl hP (by omega) (by omega) (by omega) (by omega) (fun q => absurd q hn1)) dL_isRefused_507 lk_L_132 ⟨Nat.le_of_ble_eq_true rfl, Nat.le_of_ble_eq_true rfl⟩ (catLe (Nat.le_of_ble_eq_true rfl)) 3 18 ⟨rfl, rfl⟩ (show _ ≤ 640 by omega) (show _ ≤ 3200 by omega) (fun _ _ _ h9 => h9.elim) (fun z507 S507 A507 i507 p507 => ?_)
                  obtain ⟨e507, rfl, hF507⟩ := p507
                  have hP := pi_fr hP hF507
                  have hFc := hFc.tr hF507
                  have e507 : z507 = -6 := by
                    rcases e507 with ⟨h, _⟩ | ⟨_, h⟩
                    · exact h
                    · exact absurd h hn1
                  subst e507
                  refine r_ldc2 C dL_isRefused_510 cs_L_78 (-6) (by decide) ?_
                  refine r_lcne C (tgt := 538) dL_isRefused_513 dL_isRefused_514 (by decide) (by omega) (by omega) (fun c513 => ?_) (fun c513 => ?_)
                  · exfalso; omega
                  · refine r_aload_n C dL_isRefused_517 lg_0 ?_
                    refine r_iconst C dL_isRefused_518 ?_
                    refine r_iload_n C dL_isRefused_519 lg_2 ?_
                    refine r_bipush C dL_isRefused_520 (by decide) ?_
                    refine r_iload C dL_isRefused_522 lg_10 ?_
                    refine r_W5J C (cQ_layer hfl hP (by omega) (by omega) (by omega) (by omega) (fun q => absurd q hn3)) dL_isRefused_524 lk_L_132 ⟨Nat.le_of_ble_eq_true rfl, Nat.le_of_ble_eq_true rfl⟩ (catLe (Nat.le_of_ble_eq_true rfl)) 3 18 ⟨rfl, rfl⟩ (show _ ≤ 640 by omega) (show _ ≤ 3200 by omega) (fun _ _ _ h9 => h9.elim) (fun z524 S524 A524 i524 p524 => ?_)
                    obtain ⟨e524, rfl, hF524⟩ := p524
                    have hP := pi_fr hP hF524
                    have hFc := hFc.tr hF524
                    have e524 : z524 = -6 := by
                      rcases e524 with ⟨h, _⟩ | ⟨_, h⟩
                      · exact h
                      · exact absurd h hn3
                    subst e524
                    refine r_ldc2 C dL_isRefused_527 cs_L_78 (-6) (by decide) ?_
                    refine r_lcne C (tgt := 538) dL_isRefused_530 dL_isRefused_531 (by decide) (by omega) (by omega) (fun c530 => ?_) (fun c530 => ?_)
                    · exfalso; omega
                    · refine r_iconst C dL_isRefused_534 ?_
                      refine r_goto C (tgt := 539) dL_isRefused_535 (by decide) ?_
                      refine r_istore C dL_isRefused_539 (ls1_9 rfl trivial) ?_
                      refine r_iinc C dL_isRefused_541 lg_10 (ls1_10 rfl rfl) ?_
                      refine r_goto C (tgt := 453) dL_isRefused_544 (by decide) ?_
                      exact ih (k + 1) _ _ _ (by omega) (by omega) hFc (by omega) (by omega) (by omega)
    refine r_iload_n C dL_isRefused_0 lg_1 ?_
    refine r_iconst C dL_isRefused_1 ?_
    refine r_irem C dL_isRefused_2 (by omega) (by omega) (by omega) (by omega) ?_
    refine r_ifne C (tgt := 15) dL_isRefused_3 (by decide) (by omega) (fun c3 => ?_) (fun c3 => ?_)
    · exfalso; omega
    · refine r_iconst C dL_isRefused_6 ?_
      refine r_iload_n C dL_isRefused_7 lg_1 ?_
      refine r_bipush C dL_isRefused_8 (by decide) ?_
      refine r_irem C dL_isRefused_10 (by omega) (by omega) (by omega) (by omega) ?_
      refine r_isub C dL_isRefused_11 ?_
      refine r_goto C (tgt := 23) dL_isRefused_12 (by decide) ?_
      refine r_istore_n C dL_isRefused_23 (ls1_2 rfl rfl) ?_
      refine r_iload_n C dL_isRefused_24 lg_1 ?_
      refine r_iconst C dL_isRefused_25 ?_
      refine r_irem C dL_isRefused_26 (by omega) (by omega) (by omega) (by omega) ?_
      refine r_ifne C (tgt := 39) dL_isRefused_27 (by decide) (by omega) (fun c27 => ?_) (fun c27 => ?_)
      · exfalso; omega
      · refine r_iconst C dL_isRefused_30 ?_
        refine r_iload_n C dL_isRefused_31 lg_1 ?_
        refine r_bipush C dL_isRefused_32 (by decide) ?_
        refine r_irem C dL_isRefused_34 (by omega) (by omega) (by omega) (by omega) ?_
        refine r_isub C dL_isRefused_35 ?_
        refine r_goto C (tgt := 46) dL_isRefused_36 (by decide) ?_
        refine r_istore_n C dL_isRefused_46 (ls1_3 rfl rfl) ?_
        refine r_iload_n C dL_isRefused_47 lg_1 ?_
        refine r_iconst C dL_isRefused_48 ?_
        refine r_irem C dL_isRefused_49 (by omega) (by omega) (by omega) (by omega) ?_
        refine r_ifne C (tgt := 57) dL_isRefused_50 (by decide) (by omega) (fun c50 => ?_) (fun c50 => ?_)
        · exfalso; omega
        · refine r_iconst C dL_isRefused_53 ?_
          refine r_goto C (tgt := 65) dL_isRefused_54 (by decide) ?_
          refine r_istore C dL_isRefused_65 (ls1_4 rfl rfl) ?_
          refine r_iload_n C dL_isRefused_67 lg_1 ?_
          refine r_iconst C dL_isRefused_68 ?_
          refine r_irem C dL_isRefused_69 (by omega) (by omega) (by omega) (by omega) ?_
          refine r_ifne C (tgt := 77) dL_isRefused_70 (by decide) (by omega) (fun c70 => ?_) (fun c70 => ?_)
          · exfalso; omega
          · refine r_iconst C dL_isRefused_73 ?_
            refine r_goto C (tgt := 84) dL_isRefused_74 (by decide) ?_
            refine r_istore C dL_isRefused_84 (ls1_5 rfl rfl) ?_
            refine r_aload_n C dL_isRefused_86 lg_0 ?_
            refine q_V0I C (cZ_movements hfl hP) dL_isRefused_87 lk_L_116 hl6 ⟨Nat.le_of_ble_eq_true rfl, Nat.le_of_ble_eq_true rfl⟩ (catLe (Nat.le_of_ble_eq_true rfl)) ⟨rfl, rfl⟩ rfl (show _ ≤ 640 by omega) (show _ ≤ 3200 by omega) (fun z87 S87 A87 i87 p87 => ?_)
            obtain ⟨rfl, rfl, rfl⟩ := p87
            refine r_istore C dL_isRefused_90 (ls1_6 rfl rfl) ?_
            refine r_aload_n C dL_isRefused_92 lg_0 ?_
            refine q_S1J C (cQ_all hfl hP) dL_isRefused_93 lk_L_146 ⟨Nat.le_of_ble_eq_true rfl, Nat.le_of_ble_eq_true rfl⟩ (catLe (Nat.le_of_ble_eq_true rfl)) ⟨rfl, rfl⟩ rfl (show _ ≤ 640 by omega) (show _ ≤ 3200 by omega) (fun z93 S93 A93 i93 p93 => ?_)
            obtain ⟨rfl, rfl, hF93⟩ := p93
            have hP := pi_fr hP hF93
            have hFc := hFc.tr hF93
            have hw93 : ∀ i, 0 ≤ i → i ≤ 5 → 0 ≤ S93 288 i ∧ S93 288 i ≤ 100 := fun i i0 i1 => by rw [hF93 288 i (by decide)]; exact hwt i i0 i1
            refine r_lstore C dL_isRefused_96 (ls2_7 rfl rfl) ?_
            refine r_aload_n C dL_isRefused_98 lg_0 ?_
            refine r_iload_n C dL_isRefused_99 lg_2 ?_
            refine r_iconst C dL_isRefused_100 ?_
            refine r_iconst C dL_isRefused_101 ?_
            refine r_iconst C dL_isRefused_102 ?_
            refine r_W5I C (cQ_receive hfl hP (by omega) (by omega) (by omega) (by omega)) dL_isRefused_103 lk_L_150 ⟨Nat.le_of_ble_eq_true rfl, Nat.le_of_ble_eq_true rfl⟩ (catLe (Nat.le_of_ble_eq_true rfl)) 8 51 ⟨rfl, rfl⟩ (show _ ≤ 640 by omega) (show _ ≤ 3200 by omega) (fun _ _ _ h9 => h9.elim) (fun z103 S103 A103 i103 p103 => ?_)
            obtain h103 := p103
            obtain ⟨rfl, rfl, rfl⟩ := ref6 p103 (fun q => by obtain ⟨⟨⟨a1, a2⟩, a3, a4⟩, ⟨a5, a6⟩, a7, a8⟩ := q; omega)
            refine r_bipush C dL_isRefused_106 (by decide) ?_
            refine r_icne C (tgt := 253) dL_isRefused_108 (by decide) (by omega) (by omega) (fun c108 => ?_) (fun c108 => ?_)
            · exfalso; omega
            · refine r_aload_n C dL_isRefused_111 lg_0 ?_
              refine r_sipush C dL_isRefused_112 (by decide) ?_
              refine r_iload_n C dL_isRefused_115 lg_3 ?_
              refine r_iconst C dL_isRefused_116 ?_
              refine r_iconst C dL_isRefused_117 ?_
              refine r_W5I C (cQ_receive hfl hP (by omega) (by omega) (by omega) (by omega)) dL_isRefused_118 lk_L_150 ⟨Nat.le_of_ble_eq_true rfl, Nat.le_of_ble_eq_true rfl⟩ (catLe (Nat.le_of_ble_eq_true rfl)) 8 51 ⟨rfl, rfl⟩ (show _ ≤ 640 by omega) (show _ ≤ 3200 by omega) (fun _ _ _ h9 => h9.elim) (fun z118 S118 A118 i118 p118 => ?_)
              obtain h118 := p118
              obtain ⟨rfl, rfl, rfl⟩ := ref6 p118 (fun q => by obtain ⟨⟨⟨a1, a2⟩, a3, a4⟩, ⟨a5, a6⟩, a7, a8⟩ := q; omega)
              refine r_bipush C dL_isRefused_121 (by decide) ?_
              refine r_icne C (tgt := 253) dL_isRefused_123 (by decide) (by omega) (by omega) (fun c123 => ?_) (fun c123 => ?_)
              · exfalso; omega
              · refine r_aload_n C dL_isRefused_126 lg_0 ?_
                refine r_sipush C dL_isRefused_127 (by decide) ?_
                refine r_iconst C dL_isRefused_130 ?_
                refine r_iload C dL_isRefused_131 lg_4 ?_
                refine r_iconst C dL_isRefused_133 ?_
                refine r_W5I C (cQ_receive hfl hP (by omega) (by omega) (by omega) (by omega)) dL_isRefused_134 lk_L_150 ⟨Nat.le_of_ble_eq_true rfl, Nat.le_of_ble_eq_true rfl⟩ (catLe (Nat.le_of_ble_eq_true rfl)) 8 51 ⟨rfl, rfl⟩ (show _ ≤ 640 by omega) (show _ ≤ 3200 by omega) (fun _ _ _ h9 => h9.elim) (fun z134 S134 A134 i134 p134 => ?_)
                obtain h134 := p134
                obtain ⟨rfl, rfl, rfl⟩ := ref6 p134 (fun q => by obtain ⟨⟨⟨a1, a2⟩, a3, a4⟩, ⟨a5, a6⟩, a7, a8⟩ := q; omega)
                refine r_bipush C dL_isRefused_137 (by decide) ?_
                refine r_icne C (tgt := 253) dL_isRefused_139 (by decide) (by omega) (by omega) (fun c139 => ?_) (fun c139 => ?_)
                · exfalso; omega
                · refine r_aload_n C dL_isRefused_142 lg_0 ?_
                  refine r_sipush C dL_isRefused_143 (by decide) ?_
                  refine r_iconst C dL_isRefused_146 ?_
                  refine r_iconst C dL_isRefused_147 ?_
                  refine r_iload C dL_isRefused_148 lg_5 ?_
                  refine r_W5I C (cQ_receive hfl hP (by omega) (by omega) (by omega) (by omega)) dL_isRefused_150 lk_L_150 ⟨Nat.le_of_ble_eq_true rfl, Nat.le_of_ble_eq_true rfl⟩ (catLe (Nat.le_of_ble_eq_true rfl)) 8 51 ⟨rfl, rfl⟩ (show _ ≤ 640 by omega) (show _ ≤ 3200 by omega) (fun _ _ _ h9 => h9.elim) (fun z150 S150 A150 i150 p150 => ?_)
                  obtain h150 := p150
                  obtain ⟨rfl, rfl, rfl⟩ := ref6 p150 (fun q => by obtain ⟨⟨⟨a1, a2⟩, a3, a4⟩, ⟨a5, a6⟩, a7, a8⟩ := q; omega)
                  refine r_bipush C dL_isRefused_153 (by decide) ?_
                  refine r_icne C (tgt := 253) dL_isRefused_155 (by decide) (by omega) (by omega) (fun c155 => ?_) (fun c155 => ?_)
                  · exfalso; omega
                  · refine r_aload_n C dL_isRefused_158 lg_0 ?_
                    refine r_iload_n C dL_isRefused_159 lg_2 ?_
                    refine r_iconst C dL_isRefused_160 ?_
                    refine r_iconst C dL_isRefused_161 ?_
                    refine r_W4I C (cQ_issue hfl hP (by omega) (by omega) (by omega)) dL_isRefused_162 lk_L_153 ⟨Nat.le_of_ble_eq_true rfl, Nat.le_of_ble_eq_true rfl⟩ (catLe (Nat.le_of_ble_eq_true rfl)) 8 51 ⟨rfl, rfl⟩ (show _ ≤ 640 by omega) (show _ ≤ 3200 by omega) (fun _ _ _ h9 => h9.elim) (fun z162 S162 A162 i162 p162 => ?_)
                    obtain h162 := p162
                    obtain ⟨rfl, rfl, rfl⟩ := ref6 p162 (fun q => by obtain ⟨⟨⟨a1, a2⟩, a3, a4⟩, a5, a6⟩ := q; omega)
                    refine r_bipush C dL_isRefused_165 (by decide) ?_
                    refine r_icne C (tgt := 253) dL_isRefused_167 (by decide) (by omega) (by omega) (fun c167 => ?_) (fun c167 => ?_)
                    · exfalso; omega
                    · refine r_aload_n C dL_isRefused_170 lg_0 ?_
                      refine r_iconst C dL_isRefused_171 ?_
                      refine r_iload_n C dL_isRefused_172 lg_3 ?_
                      refine r_iconst C dL_isRefused_173 ?_
                      refine r_W4I C (cQ_issue hfl hP (by omega) (by omega) (by omega)) dL_isRefused_174 lk_L_153 ⟨Nat.le_of_ble_eq_true rfl, Nat.le_of_ble_eq_true rfl⟩ (catLe (Nat.le_of_ble_eq_true rfl)) 8 51 ⟨rfl, rfl⟩ (show _ ≤ 640 by omega) (show _ ≤ 3200 by omega) (fun _ _ _ h9 => h9.elim) (fun z174 S174 A174 i174 p174 => ?_)
                      obtain h174 := p174
                      obtain ⟨rfl, rfl, rfl⟩ := ref6 p174 (fun q => by obtain ⟨⟨⟨a1, a2⟩, a3, a4⟩, a5, a6⟩ := q; omega)
                      refine r_bipush C dL_isRefused_177 (by decide) ?_
                      refine r_icne C (tgt := 253) dL_isRefused_179 (by decide) (by omega) (by omega) (fun c179 => ?_) (fun c179 => ?_)
                      · exfalso; omega
                      · refine r_aload_n C dL_isRefused_182 lg_0 ?_
                        refine r_iconst C dL_isRefused_183 ?_
                        refine r_iconst C dL_isRefused_184 ?_
                        refine r_iload C dL_isRefused_185 lg_4 ?_
                        refine r_W4I C (cQ_issue hfl hP (by omega) (by omega) (by omega)) dL_isRefused_187 lk_L_153 ⟨Nat.le_of_ble_eq_true rfl, Nat.le_of_ble_eq_true rfl⟩ (catLe (Nat.le_of_ble_eq_true rfl)) 8 51 ⟨rfl, rfl⟩ (show _ ≤ 640 by omega) (show _ ≤ 3200 by omega) (fun _ _ _ h9 => h9.elim) (fun z187 S187 A187 i187 p187 => ?_)
                        obtain h187 := p187
                        obtain ⟨rfl, rfl, rfl⟩ := ref6 p187 (fun q => by obtain ⟨⟨⟨a1, a2⟩, a3, a4⟩, a5, a6⟩ := q; omega)
                        refine r_bipush C dL_isRefused_190 (by decide) ?_
                        refine r_icne C (tgt := 253) dL_isRefused_192 (by decide) (by omega) (by omega) (fun c192 => ?_) (fun c192 => ?_)
                        · exfalso; omega
                        · refine r_aload_n C dL_isRefused_195 lg_0 ?_
                          refine r_iload_n C dL_isRefused_196 lg_2 ?_
                          refine r_iconst C dL_isRefused_197 ?_
                          refine r_iconst C dL_isRefused_198 ?_
                          refine r_iconst C dL_isRefused_199 ?_
                          refine r_W5I C (cQ_revalue hfl hP (by omega) (by omega) (by omega) (by omega)) dL_isRefused_200 lk_L_156 ⟨Nat.le_of_ble_eq_true rfl, Nat.le_of_ble_eq_true rfl⟩ (catLe (Nat.le_of_ble_eq_true rfl)) 9 57 ⟨rfl, rfl⟩ (show _ ≤ 640 by omega) (show _ ≤ 3200 by omega) (fun _ _ _ h9 => h9.elim) (fun z200 S200 A200 i200 p200 => ?_)
                          obtain h200 := p200
                          obtain ⟨rfl, rfl, rfl⟩ := ref6 p200 (fun q => by obtain ⟨⟨⟨a1, a2⟩, a3, a4⟩, ⟨a5, a6⟩, a7, a8⟩ := q; omega)
                          refine r_bipush C dL_isRefused_203 (by decide) ?_
                          refine r_icne C (tgt := 253) dL_isRefused_205 (by decide) (by omega) (by omega) (fun c205 => ?_) (fun c205 => ?_)
                          · exfalso; omega
                          · refine r_aload_n C dL_isRefused_208 lg_0 ?_
                            refine r_iconst C dL_isRefused_209 ?_
                            refine r_iload_n C dL_isRefused_210 lg_3 ?_
                            refine r_iconst C dL_isRefused_211 ?_
                            refine r_iconst C dL_isRefused_212 ?_
                            refine r_W5I C (cQ_revalue hfl hP (by omega) (by omega) (by omega) (by omega)) dL_isRefused_213 lk_L_156 ⟨Nat.le_of_ble_eq_true rfl, Nat.le_of_ble_eq_true rfl⟩ (catLe (Nat.le_of_ble_eq_true rfl)) 9 57 ⟨rfl, rfl⟩ (show _ ≤ 640 by omega) (show _ ≤ 3200 by omega) (fun _ _ _ h9 => h9.elim) (fun z213 S213 A213 i213 p213 => ?_)
                            obtain h213 := p213
                            obtain ⟨rfl, rfl, rfl⟩ := ref6 p213 (fun q => by obtain ⟨⟨⟨a1, a2⟩, a3, a4⟩, ⟨a5, a6⟩, a7, a8⟩ := q; omega)
                            refine r_bipush C dL_isRefused_216 (by decide) ?_
                            refine r_icne C (tgt := 253) dL_isRefused_218 (by decide) (by omega) (by omega) (fun c218 => ?_) (fun c218 => ?_)
                            · exfalso; omega
                            · refine r_aload_n C dL_isRefused_221 lg_0 ?_
                              refine r_iconst C dL_isRefused_222 ?_
                              refine r_iconst C dL_isRefused_223 ?_
                              refine r_iload C dL_isRefused_224 lg_4 ?_
                              refine r_iconst C dL_isRefused_226 ?_
                              refine r_W5I C (cQ_revalue hfl hP (by omega) (by omega) (by omega) (by omega)) dL_isRefused_227 lk_L_156 ⟨Nat.le_of_ble_eq_true rfl, Nat.le_of_ble_eq_true rfl⟩ (catLe (Nat.le_of_ble_eq_true rfl)) 9 57 ⟨rfl, rfl⟩ (show _ ≤ 640 by omega) (show _ ≤ 3200 by omega) (fun _ _ _ h9 => h9.elim) (fun z227 S227 A227 i227 p227 => ?_)
                              obtain h227 := p227
                              obtain ⟨rfl, rfl, rfl⟩ := ref6 p227 (fun q => by obtain ⟨⟨⟨a1, a2⟩, a3, a4⟩, ⟨a5, a6⟩, a7, a8⟩ := q; omega)
                              refine r_bipush C dL_isRefused_230 (by decide) ?_
                              refine r_icne C (tgt := 253) dL_isRefused_232 (by decide) (by omega) (by omega) (fun c232 => ?_) (fun c232 => ?_)
                              · exfalso; omega
                              · refine r_aload_n C dL_isRefused_235 lg_0 ?_
                                refine r_iconst C dL_isRefused_236 ?_
                                refine r_iconst C dL_isRefused_237 ?_
                                refine r_iconst C dL_isRefused_238 ?_
                                refine r_iload C dL_isRefused_239 lg_5 ?_
                                refine r_W5I C (cQ_revalue hfl hP (by omega) (by omega) (by omega) (by omega)) dL_isRefused_241 lk_L_156 ⟨Nat.le_of_ble_eq_true rfl, Nat.le_of_ble_eq_true rfl⟩ (catLe (Nat.le_of_ble_eq_true rfl)) 9 57 ⟨rfl, rfl⟩ (show _ ≤ 640 by omega) (show _ ≤ 3200 by omega) (fun _ _ _ h9 => h9.elim) (fun z241 S241 A241 i241 p241 => ?_)
                                obtain h241 := p241
                                obtain ⟨rfl, rfl, rfl⟩ := ref6 p241 (fun q => by obtain ⟨⟨⟨a1, a2⟩, a3, a4⟩, ⟨a5, a6⟩, a7, a8⟩ := q; omega)
                                refine r_bipush C dL_isRefused_244 (by decide) ?_
                                refine r_icne C (tgt := 253) dL_isRefused_246 (by decide) (by omega) (by omega) (fun c246 => ?_) (fun c246 => ?_)
                                · exfalso; omega
                                · refine r_iconst C dL_isRefused_249 ?_
                                  refine r_goto C (tgt := 254) dL_isRefused_250 (by decide) ?_
                                  refine r_istore C dL_isRefused_254 (ls1_9 rfl trivial) ?_
                                  refine r_iload C dL_isRefused_256 lg_9 ?_
                                  refine r_ifeq C (tgt := 447) dL_isRefused_258 (by decide) (by omega) (fun c258 => ?_) (fun c258 => ?_)
                                  · exfalso; omega
                                  · refine r_aload_n C dL_isRefused_261 lg_0 ?_
                                    refine r_iload_n C dL_isRefused_262 lg_2 ?_
                                    refine r_iconst C dL_isRefused_263 ?_
                                    refine r_iconst C dL_isRefused_264 ?_
                                    refine r_ldc2 C dL_isRefused_265 cs_L_158 (-9223372036854775808) (by decide) ?_
                                    refine r_W5I C (cQ_land hfl hP (by omega) (by omega) (by omega) (by omega) hw93 hA5) dL_isRefused_268 lk_L_160 ⟨Nat.le_of_ble_eq_true rfl, Nat.le_of_ble_eq_true rfl⟩ (catLe (Nat.le_of_ble_eq_true rfl)) 68 291 ⟨rfl, rfl⟩ (show _ ≤ 640 by omega) (show _ ≤ 3200 by omega) (fun _ _ _ h9 => h9.elim) (fun z268 S268 A268 i268 p268 => ?_)
                                    obtain h268 := p268
                                    obtain ⟨rfl, rfl, rfl⟩ := ref6L p268 (fun q => by obtain ⟨⟨a1, a2⟩, ⟨a3, a4⟩, ⟨a5, a6⟩, a7⟩ := q; omega)
                                    refine r_bipush C dL_isRefused_271 (by decide) ?_
                                    refine r_icne C (tgt := 447) dL_isRefused_273 (by decide) (by omega) (by omega) (fun c273 => ?_) (fun c273 => ?_)
                                    · exfalso; omega
                                    · refine r_aload_n C dL_isRefused_276 lg_0 ?_
                                      refine r_iconst C dL_isRefused_277 ?_
                                      refine r_iload_n C dL_isRefused_278 lg_1 ?_
                                      refine r_iconst C dL_isRefused_279 ?_
                                      refine r_irem C dL_isRefused_280 (by omega) (by omega) (by omega) (by omega) ?_
                                      refine r_ifne C (tgt := 288) dL_isRefused_281 (by decide) (by omega) (fun c281 => ?_) (fun c281 => ?_)
                                      · exfalso; omega
                                      · refine r_iconst C dL_isRefused_284 ?_
                                        refine r_goto C (tgt := 290) dL_isRefused_285 (by decide) ?_
                                        refine r_iconst C dL_isRefused_290 ?_
                                        refine r_lconst C dL_isRefused_291 1 rfl ?_
                                        refine r_W5I C (cQ_land hfl hP (by omega) (by omega) (by omega) (by omega) hw93 hA5) dL_isRefused_292 lk_L_160 ⟨Nat.le_of_ble_eq_true rfl, Nat.le_of_ble_eq_true rfl⟩ (catLe (Nat.le_of_ble_eq_true rfl)) 68 291 ⟨rfl, rfl⟩ (show _ ≤ 640 by omega) (show _ ≤ 3200 by omega) (fun _ _ _ h9 => h9.elim) (fun z292 S292 A292 i292 p292 => ?_)
                                        obtain h292 := p292
                                        obtain ⟨rfl, rfl, rfl⟩ := ref6L p292 (fun q => by obtain ⟨⟨a1, a2⟩, ⟨a3, a4⟩, ⟨a5, a6⟩, a7⟩ := q; omega)
                                        refine r_bipush C dL_isRefused_295 (by decide) ?_
                                        refine r_icne C (tgt := 447) dL_isRefused_297 (by decide) (by omega) (by omega) (fun c297 => ?_) (fun c297 => ?_)
                                        · exfalso; omega
                                        · refine r_aload_n C dL_isRefused_300 lg_0 ?_
                                          refine r_iconst C dL_isRefused_301 ?_
                                          refine r_iconst C dL_isRefused_302 ?_
                                          refine r_iload_n C dL_isRefused_303 lg_1 ?_
                                          refine r_iconst C dL_isRefused_304 ?_
                                          refine r_irem C dL_isRefused_305 (by omega) (by omega) (by omega) (by omega) ?_
                                          refine r_ifne C (tgt := 313) dL_isRefused_306 (by decide) (by omega) (fun c306 => ?_) (fun c306 => ?_)
                                          · exfalso; omega
                                          · refine r_iconst C dL_isRefused_309 ?_
                                            refine r_goto C (tgt := 314) dL_isRefused_310 (by decide) ?_
                                            refine r_lconst C dL_isRefused_314 1 rfl ?_
                                            refine r_W5I C (cQ_land hfl hP (by omega) (by omega) (by omega) (by omega) hw93 hA5) dL_isRefused_315 lk_L_160 ⟨Nat.le_of_ble_eq_true rfl, Nat.le_of_ble_eq_true rfl⟩ (catLe (Nat.le_of_ble_eq_true rfl)) 68 291 ⟨rfl, rfl⟩ (show _ ≤ 640 by omega) (show _ ≤ 3200 by omega) (fun _ _ _ h9 => h9.elim) (fun z315 S315 A315 i315 p315 => ?_)
                                            obtain h315 := p315
                                            obtain ⟨rfl, rfl, rfl⟩ := ref6L p315 (fun q => by obtain ⟨⟨a1, a2⟩, ⟨a3, a4⟩, ⟨a5, a6⟩, a7⟩ := q; omega)
                                            refine r_bipush C dL_isRefused_318 (by decide) ?_
                                            refine r_icne C (tgt := 447) dL_isRefused_320 (by decide) (by omega) (by omega) (fun c320 => ?_) (fun c320 => ?_)
                                            · exfalso; omega
                                            · refine r_aload_n C dL_isRefused_323 lg_0 ?_
                                              refine r_sipush C dL_isRefused_324 (by decide) ?_
                                              refine r_iconst C dL_isRefused_327 ?_
                                              refine r_iconst C dL_isRefused_328 ?_
                                              refine r_lconst C dL_isRefused_329 0 rfl ?_
                                              refine r_W5I C (cQ_land hfl hP (by omega) (by omega) (by omega) (by omega) hw93 hA5) dL_isRefused_330 lk_L_160 ⟨Nat.le_of_ble_eq_true rfl, Nat.le_of_ble_eq_true rfl⟩ (catLe (Nat.le_of_ble_eq_true rfl)) 68 291 ⟨rfl, rfl⟩ (show _ ≤ 640 by omega) (show _ ≤ 3200 by omega) (fun _ _ _ h9 => h9.elim) (fun z330 S330 A330 i330 p330 => ?_)
                                              obtain h330 := p330
                                              obtain ⟨rfl, rfl, rfl⟩ := ref6L p330 (fun q => by obtain ⟨⟨a1, a2⟩, ⟨a3, a4⟩, ⟨a5, a6⟩, a7⟩ := q; omega)
                                              refine r_bipush C dL_isRefused_333 (by decide) ?_
                                              refine r_icne C (tgt := 447) dL_isRefused_335 (by decide) (by omega) (by omega) (fun c335 => ?_) (fun c335 => ?_)
                                              · exfalso; omega
                                              · refine r_aload_n C dL_isRefused_338 lg_0 ?_
                                                refine r_iconst C dL_isRefused_339 ?_
                                                refine r_iconst C dL_isRefused_340 ?_
                                                refine r_iconst C dL_isRefused_341 ?_
                                                refine r_ldc2 C dL_isRefused_342 cs_L_158 (-9223372036854775808) (by decide) ?_
                                                refine r_W5I C (cQ_land hfl hP (by omega) (by omega) (by omega) (by omega) hw93 hA5) dL_isRefused_345 lk_L_160 ⟨Nat.le_of_ble_eq_true rfl, Nat.le_of_ble_eq_true rfl⟩ (catLe (Nat.le_of_ble_eq_true rfl)) 68 291 ⟨rfl, rfl⟩ (show _ ≤ 640 by omega) (show _ ≤ 3200 by omega) (fun _ _ _ h9 => h9.elim) (fun z345 S345 A345 i345 p345 => ?_)
                                                obtain h345 := p345
                                                obtain ⟨rfl, rfl, rfl⟩ := ref5L p345 ⟨⟨by omega, by omega⟩, ⟨by omega, by omega⟩, ⟨by omega, by omega⟩, by omega⟩ (not_allR (by omega) (by omega) top_b)
                                                refine r_bipush C dL_isRefused_348 (by decide) ?_
                                                refine r_icne C (tgt := 447) dL_isRefused_350 (by decide) (by omega) (by omega) (fun c350 => ?_) (fun c350 => ?_)
                                                · exfalso; omega
                                                · refine r_aload_n C dL_isRefused_353 lg_0 ?_
                                                  refine r_iconst C dL_isRefused_354 ?_
                                                  refine r_iconst C dL_isRefused_355 ?_
                                                  refine r_iconst C dL_isRefused_356 ?_
                                                  refine r_lconst C dL_isRefused_357 1 rfl ?_
                                                  refine r_iload C dL_isRefused_358 lg_6 ?_
                                                  refine r_lshl C dL_isRefused_360 (fun b360 => ?_)
                                                  refine r_W5I C (cQ_land hfl hP (by omega) (by omega) (by omega) (by omega) hw93 hA5) dL_isRefused_361 lk_L_160 ⟨Nat.le_of_ble_eq_true rfl, Nat.le_of_ble_eq_true rfl⟩ (catLe (Nat.le_of_ble_eq_true rfl)) 68 291 ⟨rfl, rfl⟩ (show _ ≤ 640 by omega) (show _ ≤ 3200 by omega) (fun _ _ _ h9 => h9.elim) (fun z361 S361 A361 i361 p361 => ?_)
                                                  obtain h361 := p361
                                                  obtain ⟨rfl, rfl, rfl⟩ := ref5L p361 ⟨⟨by omega, by omega⟩, ⟨by omega, by omega⟩, ⟨by omega, by omega⟩, shl_nz (by omega) (by omega)⟩ (not_allR (by omega) (by omega) (shl_b (by omega) (by omega)))
                                                  refine r_bipush C dL_isRefused_364 (by decide) ?_
                                                  refine r_icne C (tgt := 447) dL_isRefused_366 (by decide) (by omega) (by omega) (fun c366 => ?_) (fun c366 => ?_)
                                                  · exfalso; omega
                                                  · refine r_aload_n C dL_isRefused_369 lg_0 ?_
                                                    refine r_iload_n C dL_isRefused_370 lg_1 ?_
                                                    refine r_iconst C dL_isRefused_371 ?_
                                                    refine r_irem C dL_isRefused_372 (by omega) (by omega) (by omega) (by omega) ?_
                                                    refine r_ifne C (tgt := 385) dL_isRefused_373 (by decide) (by omega) (fun c373 => ?_) (fun c373 => ?_)
                                                    · exfalso; omega
                                                    · refine r_iconst C dL_isRefused_376 ?_
                                                      refine r_iload_n C dL_isRefused_377 lg_1 ?_
                                                      refine r_bipush C dL_isRefused_378 (by decide) ?_
                                                      refine r_irem C dL_isRefused_380 (by omega) (by omega) (by omega) (by omega) ?_
                                                      refine r_isub C dL_isRefused_381 ?_
                                                      refine r_goto C (tgt := 392) dL_isRefused_382 (by decide) ?_
                                                      refine r_W2I C (cQ_cancel hfl hP (by omega)) dL_isRefused_392 lk_L_163 ⟨Nat.le_of_ble_eq_true rfl, Nat.le_of_ble_eq_true rfl⟩ (catLe (Nat.le_of_ble_eq_true rfl)) 4 24 ⟨rfl, rfl⟩ (show _ ≤ 640 by omega) (show _ ≤ 3200 by omega) (fun _ _ _ h9 => h9.elim) (fun z392 S392 A392 i392 p392 => ?_)
                                                      obtain ⟨rfl, e392⟩ := p392
                                                      obtain ⟨rfl, rfl⟩ := ref5C e392 (fun q => by omega)
                                                      refine r_bipush C dL_isRefused_395 (by decide) ?_
                                                      refine r_icne C (tgt := 447) dL_isRefused_397 (by decide) (by omega) (by omega) (fun c397 => ?_) (fun c397 => ?_)
                                                      · exfalso; omega
                                                      · refine r_aload_n C dL_isRefused_400 lg_0 ?_
                                                        refine r_iload_n C dL_isRefused_401 lg_2 ?_
                                                        refine r_W2I C (cQ_close hfl hP (by omega)) dL_isRefused_402 lk_L_166 ⟨Nat.le_of_ble_eq_true rfl, Nat.le_of_ble_eq_true rfl⟩ (catLe (Nat.le_of_ble_eq_true rfl)) 2 12 ⟨rfl, rfl⟩ (show _ ≤ 640 by omega) (show _ ≤ 3200 by omega) (fun _ _ _ h9 => h9.elim) (fun z402 S402 A402 i402 p402 => ?_)
                                                        obtain ⟨rfl, e402⟩ := p402
                                                        obtain ⟨rfl, rfl⟩ := ref6C e402 (fun q => by omega)
                                                        refine r_bipush C dL_isRefused_405 (by decide) ?_
                                                        refine r_icne C (tgt := 447) dL_isRefused_407 (by decide) (by omega) (by omega) (fun c407 => ?_) (fun c407 => ?_)
                                                        · exfalso; omega
                                                        · refine r_aload_n C dL_isRefused_410 lg_0 ?_
                                                          refine r_iload_n C dL_isRefused_411 lg_3 ?_
                                                          refine r_iconst C dL_isRefused_412 ?_
                                                          refine r_W3I C (cQ_setWeight hfl hP (by omega) (by omega)) dL_isRefused_413 lk_L_168 ⟨Nat.le_of_ble_eq_true rfl, Nat.le_of_ble_eq_true rfl⟩ (catLe (Nat.le_of_ble_eq_true rfl)) 2 12 ⟨rfl, rfl⟩ (show _ ≤ 640 by omega) (show _ ≤ 3200 by omega) (fun _ _ _ h9 => h9.elim) (fun z413 S413 A413 i413 p413 => ?_)
                                                          obtain ⟨rfl, e413⟩ := p413
                                                          obtain ⟨rfl, rfl⟩ := ref6W e413 (fun q => by omega)
                                                          refine r_bipush C dL_isRefused_416 (by decide) ?_
                                                          refine r_icne C (tgt := 447) dL_isRefused_418 (by decide) (by omega) (by omega) (fun c418 => ?_) (fun c418 => ?_)
                                                          · exfalso; omega
                                                          · refine r_aload_n C dL_isRefused_421 lg_0 ?_
                                                            refine r_iconst C dL_isRefused_422 ?_
                                                            refine r_iload_n C dL_isRefused_423 lg_1 ?_
                                                            refine r_iconst C dL_isRefused_424 ?_
                                                            refine r_irem C dL_isRefused_425 (by omega) (by omega) (by omega) (by omega) ?_
                                                            refine r_ifne C (tgt := 433) dL_isRefused_426 (by decide) (by omega) (fun c426 => ?_) (fun c426 => ?_)
                                                            · exfalso; omega
                                                            · refine r_iconst C dL_isRefused_429 ?_
                                                              refine r_goto C (tgt := 435) dL_isRefused_430 (by decide) ?_
                                                              refine r_W3I C (cQ_setWeight hfl hP (by omega) (by omega)) dL_isRefused_435 lk_L_168 ⟨Nat.le_of_ble_eq_true rfl, Nat.le_of_ble_eq_true rfl⟩ (catLe (Nat.le_of_ble_eq_true rfl)) 2 12 ⟨rfl, rfl⟩ (show _ ≤ 640 by omega) (show _ ≤ 3200 by omega) (fun _ _ _ h9 => h9.elim) (fun z435 S435 A435 i435 p435 => ?_)
                                                              obtain ⟨rfl, e435⟩ := p435
                                                              obtain ⟨rfl, rfl⟩ := ref6W e435 (fun q => by omega)
                                                              refine r_bipush C dL_isRefused_438 (by decide) ?_
                                                              refine r_icne C (tgt := 447) dL_isRefused_440 (by decide) (by omega) (by omega) (fun c440 => ?_) (fun c440 => ?_)
                                                              · exfalso; omega
                                                              · refine r_iconst C dL_isRefused_443 ?_
                                                                refine r_goto C (tgt := 448) dL_isRefused_444 (by decide) ?_
                                                                refine r_istore C dL_isRefused_448 (ls1_9 rfl trivial) ?_
                                                                refine r_iconst C dL_isRefused_450 ?_
                                                                refine r_istore C dL_isRefused_451 (ls1_10 rfl rfl) ?_
                                                                exact lp 13 0 _ _ _ (by omega) (by omega) hFc (by omega) (by omega) (by omega)
  · have hFc : Fr QF S S := Fr.rf
    have lp : ∀ (N : Nat) (k : Int) (S1 : ST) (k9 n9 : Nat) (h1 : 0 ≤ k) (h2 : k ≤ 12) (hF1 : Fr QF S S1) (hk9 : k9 ≤ 512 + 10 * k) (hn9 : n9 ≤ 2400 + 60 * k) (hN : 12 - k < N), J 453 [some (vR A 6 0), some (vI x), some (vI (365 + x % 50)), some (vI (6 + x % 50)), some (vI (1001 + x % 50)), some (vI (1000001 + x % 50)), some (vI R.n), some (vL (wL (allF R))), none, some (vI 1), some (vI k)] [] S1 A k9 n9 := by
      intro N
      induction N with
      | zero => intro k S1 k9 n9 h1 h2 hF1 hk9 hn9 hN; omega
      | succ N ih =>
        intro k S1 k9 n9 h1 h2 hF1 hk9 hn9 hN
        have hP := pi_fr hP0 hF1
        have hFc := hF1
        have hn1 : ¬ akOk (6 + x % 50) 0 := fun q => by have := q.1; omega
        have hn2 : ¬ akOk 0 (365 + x % 50) := fun q => by have := q.2; omega
        have hn3 : ¬ akOk 5 (365 + x % 50) := fun q => by have := q.2; omega
        refine r_iload C dL_isRefused_453 lg_10 ?_
        refine r_bipush C dL_isRefused_455 (by decide) ?_
        refine r_icge C (tgt := 547) dL_isRefused_457 (by decide) (by omega) (by omega) (fun c457 => ?_) (fun c457 => ?_)
        · refine r_iload C dL_isRefused_547 lg_9 ?_
          refine r_ifeq C (tgt := 566) dL_isRefused_549 (by decide) (by omega) (fun c549 => ?_) (fun c549 => ?_)
          · exfalso; omega
          · refine r_aload_n C dL_isRefused_552 lg_0 ?_
            refine q_S1J C (cQ_all hfl hP) dL_isRefused_553 lk_L_146 ⟨Nat.le_of_ble_eq_true rfl, Nat.le_of_ble_eq_true rfl⟩ (catLe (Nat.le_of_ble_eq_true rfl)) ⟨rfl, rfl⟩ rfl (show _ ≤ 640 by omega) (show _ ≤ 3200 by omega) (fun z553 S553 A553 i553 p553 => ?_)
            obtain ⟨rfl, rfl, hF553⟩ := p553
            have hP := pi_fr hP hF553
            have hFc := hFc.tr hF553
            refine r_lload C dL_isRefused_556 lg_7 ?_
            refine r_lcne C (tgt := 566) dL_isRefused_558 dL_isRefused_559 (by decide) (wL_r _) (wL_r _) (fun c558 => ?_) (fun c558 => ?_)
            · exfalso; omega
            · refine r_iconst C dL_isRefused_562 ?_
              refine r_goto C (tgt := 567) dL_isRefused_563 (by decide) ?_
              exact f_Z F dL_isRefused_567 (by omega) ⟨rfl, rfl, hFc⟩ (show _ ≤ 640 by omega) (show _ ≤ 3200 by omega)
        · refine r_iload C dL_isRefused_460 lg_9 ?_
          refine r_ifeq C (tgt := 547) dL_isRefused_462 (by decide) (by omega) (fun c462 => ?_) (fun c462 => ?_)
          · exfalso; omega
          · refine r_aload_n C dL_isRefused_465 lg_0 ?_
            refine r_iload_n C dL_isRefused_466 lg_3 ?_
            refine r_iconst C dL_isRefused_467 ?_
            refine r_iload C dL_isRefused_468 lg_10 ?_
            refine r_W4J C (cQ_askX hfl hP (by omega) (by omega) hn1 (by omega)) dL_isRefused_470 lk_L_110 ⟨Nat.le_of_ble_eq_true rfl, Nat.le_of_ble_eq_true rfl⟩ (catLe (Nat.le_of_ble_eq_true rfl)) 2 12 ⟨rfl, rfl⟩ (show _ ≤ 640 by omega) (show _ ≤ 3200 by omega) (fun _ _ _ h9 => h9.elim) (fun z470 S470 A470 i470 p470 => ?_)
            obtain ⟨rfl, rfl, rfl⟩ := p470
            refine r_ldc2 C dL_isRefused_473 cs_L_106 (-900000000000) (by decide) ?_
            refine r_lcne C (tgt := 538) dL_isRefused_476 dL_isRefused_477 (by decide) (by omega) (by omega) (fun c476 => ?_) (fun c476 => ?_)
            · exfalso; omega
            · refine r_aload_n C dL_isRefused_480 lg_0 ?_
              refine r_iconst C dL_isRefused_481 ?_
              refine r_iload_n C dL_isRefused_482 lg_2 ?_
              refine r_iload C dL_isRefused_483 lg_10 ?_
              refine r_W4J C (cQ_askX hfl hP (by omega) (by omega) hn2 (by omega)) dL_isRefused_485 lk_L_110 ⟨Nat.le_of_ble_eq_true rfl, Nat.le_of_ble_eq_true rfl⟩ (catLe (Nat.le_of_ble_eq_true rfl)) 2 12 ⟨rfl, rfl⟩ (show _ ≤ 640 by omega) (show _ ≤ 3200 by omega) (fun _ _ _ h9 => h9.elim) (fun z485 S485 A485 i485 p485 => ?_)
              obtain ⟨rfl, rfl, rfl⟩ := p485
              refine r_ldc2 C dL_isRefused_488 cs_L_106 (-900000000000) (by decide) ?_
              refine r_lcne C (tgt := 538) dL_isRefused_491 dL_isRefused_492 (by decide) (by omega) (by omega) (fun c491 => ?_) (fun c491 => ?_)
              · exfalso; omega
              · refine r_iload C dL_isRefused_495 lg_10 ?_
                refine r_iconst C dL_isRefused_497 ?_
                refine r_icgt C (tgt := 534) dL_isRefused_498 (by decide) (by omega) (by omega) (fun c498 => ?_) (fun c498 => ?_)
                · refine r_iconst C dL_isRefused_534 ?_
                  refine r_goto C (tgt := 539) dL_isRefused_535 (by decide) ?_
                  refine r_istore C dL_isRefused_539 (ls1_9 rfl trivial) ?_
                  refine r_iinc C dL_isRefused_541 lg_10 (ls1_10 rfl rfl) ?_
                  refine r_goto C (tgt := 453) dL_isRefused_544 (by decide) ?_
                  exact ih (k + 1) _ _ _ (by omega) (by omega) hFc (by omega) (by omega) (by omega)
                · refine r_aload_n C dL_isRefused_501 lg_0 ?_
                  refine r_iload_n C dL_isRefused_502 lg_3 ?_
                  refine r_iconst C dL_isRefused_503 ?_
                  refine r_iconst C dL_isRefused_504 ?_
                  refine r_iload C dL_isRefused_505 lg_10 ?_
                  refine r_W5J C (cQ_layer hfl hP (by omega) (by omega) (by omega) (by omega) (fun q => absurd q hn1)) dL_isRefused_507 lk_L_132 ⟨Nat.le_of_ble_eq_true rfl, Nat.le_of_ble_eq_true rfl⟩ (catLe (Nat.le_of_ble_eq_true rfl)) 3 18 ⟨rfl, rfl⟩ (show _ ≤ 640 by omega) (show _ ≤ 3200 by omega) (fun _ _ _ h9 => h9.elim) (fun z507 S507 A507 i507 p507 => ?_)
                  obtain ⟨e507, rfl, hF507⟩ := p507
                  have hP := pi_fr hP hF507
                  have hFc := hFc.tr hF507
                  have e507 : z507 = -6 := by
                    rcases e507 with ⟨h, _⟩ | ⟨_, h⟩
                    · exact h
                    · exact absurd h hn1
                  subst e507
                  refine r_ldc2 C dL_isRefused_510 cs_L_78 (-6) (by decide) ?_
                  refine r_lcne C (tgt := 538) dL_isRefused_513 dL_isRefused_514 (by decide) (by omega) (by omega) (fun c513 => ?_) (fun c513 => ?_)
                  · exfalso; omega
                  · refine r_aload_n C dL_isRefused_517 lg_0 ?_
                    refine r_iconst C dL_isRefused_518 ?_
                    refine r_iload_n C dL_isRefused_519 lg_2 ?_
                    refine r_bipush C dL_isRefused_520 (by decide) ?_
                    refine r_iload C dL_isRefused_522 lg_10 ?_
                    refine r_W5J C (cQ_layer hfl hP (by omega) (by omega) (by omega) (by omega) (fun q => absurd q hn3)) dL_isRefused_524 lk_L_132 ⟨Nat.le_of_ble_eq_true rfl, Nat.le_of_ble_eq_true rfl⟩ (catLe (Nat.le_of_ble_eq_true rfl)) 3 18 ⟨rfl, rfl⟩ (show _ ≤ 640 by omega) (show _ ≤ 3200 by omega) (fun _ _ _ h9 => h9.elim) (fun z524 S524 A524 i524 p524 => ?_)
                    obtain ⟨e524, rfl, hF524⟩ := p524
                    have hP := pi_fr hP hF524
                    have hFc := hFc.tr hF524
                    have e524 : z524 = -6 := by
                      rcases e524 with ⟨h, _⟩ | ⟨_, h⟩
                      · exact h
                      · exact absurd h hn3
                    subst e524
                    refine r_ldc2 C dL_isRefused_527 cs_L_78 (-6) (by decide) ?_
                    refine r_lcne C (tgt := 538) dL_isRefused_530 dL_isRefused_531 (by decide) (by omega) (by omega) (fun c530 => ?_) (fun c530 => ?_)
                    · exfalso; omega
                    · refine r_iconst C dL_isRefused_534 ?_
                      refine r_goto C (tgt := 539) dL_isRefused_535 (by decide) ?_
                      refine r_istore C dL_isRefused_539 (ls1_9 rfl trivial) ?_
                      refine r_iinc C dL_isRefused_541 lg_10 (ls1_10 rfl rfl) ?_
                      refine r_goto C (tgt := 453) dL_isRefused_544 (by decide) ?_
                      exact ih (k + 1) _ _ _ (by omega) (by omega) hFc (by omega) (by omega) (by omega)
    refine r_iload_n C dL_isRefused_0 lg_1 ?_
    refine r_iconst C dL_isRefused_1 ?_
    refine r_irem C dL_isRefused_2 (by omega) (by omega) (by omega) (by omega) ?_
    refine r_ifne C (tgt := 15) dL_isRefused_3 (by decide) (by omega) (fun c3 => ?_) (fun c3 => ?_)
    · refine r_sipush C dL_isRefused_15 (by decide) ?_
      refine r_iload_n C dL_isRefused_18 lg_1 ?_
      refine r_bipush C dL_isRefused_19 (by decide) ?_
      refine r_irem C dL_isRefused_21 (by omega) (by omega) (by omega) (by omega) ?_
      refine r_iadd C dL_isRefused_22 ?_
      refine r_istore_n C dL_isRefused_23 (ls1_2 rfl rfl) ?_
      refine r_iload_n C dL_isRefused_24 lg_1 ?_
      refine r_iconst C dL_isRefused_25 ?_
      refine r_irem C dL_isRefused_26 (by omega) (by omega) (by omega) (by omega) ?_
      refine r_ifne C (tgt := 39) dL_isRefused_27 (by decide) (by omega) (fun c27 => ?_) (fun c27 => ?_)
      · refine r_bipush C dL_isRefused_39 (by decide) ?_
        refine r_iload_n C dL_isRefused_41 lg_1 ?_
        refine r_bipush C dL_isRefused_42 (by decide) ?_
        refine r_irem C dL_isRefused_44 (by omega) (by omega) (by omega) (by omega) ?_
        refine r_iadd C dL_isRefused_45 ?_
        refine r_istore_n C dL_isRefused_46 (ls1_3 rfl rfl) ?_
        refine r_iload_n C dL_isRefused_47 lg_1 ?_
        refine r_iconst C dL_isRefused_48 ?_
        refine r_irem C dL_isRefused_49 (by omega) (by omega) (by omega) (by omega) ?_
        refine r_ifne C (tgt := 57) dL_isRefused_50 (by decide) (by omega) (fun c50 => ?_) (fun c50 => ?_)
        · refine r_sipush C dL_isRefused_57 (by decide) ?_
          refine r_iload_n C dL_isRefused_60 lg_1 ?_
          refine r_bipush C dL_isRefused_61 (by decide) ?_
          refine r_irem C dL_isRefused_63 (by omega) (by omega) (by omega) (by omega) ?_
          refine r_iadd C dL_isRefused_64 ?_
          refine r_istore C dL_isRefused_65 (ls1_4 rfl rfl) ?_
          refine r_iload_n C dL_isRefused_67 lg_1 ?_
          refine r_iconst C dL_isRefused_68 ?_
          refine r_irem C dL_isRefused_69 (by omega) (by omega) (by omega) (by omega) ?_
          refine r_ifne C (tgt := 77) dL_isRefused_70 (by decide) (by omega) (fun c70 => ?_) (fun c70 => ?_)
          · refine r_ldc C dL_isRefused_77 cs_L_145 1000001 (by decide) ?_
            refine r_iload_n C dL_isRefused_79 lg_1 ?_
            refine r_bipush C dL_isRefused_80 (by decide) ?_
            refine r_irem C dL_isRefused_82 (by omega) (by omega) (by omega) (by omega) ?_
            refine r_iadd C dL_isRefused_83 ?_
            refine r_istore C dL_isRefused_84 (ls1_5 rfl rfl) ?_
            refine r_aload_n C dL_isRefused_86 lg_0 ?_
            refine q_V0I C (cZ_movements hfl hP) dL_isRefused_87 lk_L_116 hl6 ⟨Nat.le_of_ble_eq_true rfl, Nat.le_of_ble_eq_true rfl⟩ (catLe (Nat.le_of_ble_eq_true rfl)) ⟨rfl, rfl⟩ rfl (show _ ≤ 640 by omega) (show _ ≤ 3200 by omega) (fun z87 S87 A87 i87 p87 => ?_)
            obtain ⟨rfl, rfl, rfl⟩ := p87
            refine r_istore C dL_isRefused_90 (ls1_6 rfl rfl) ?_
            refine r_aload_n C dL_isRefused_92 lg_0 ?_
            refine q_S1J C (cQ_all hfl hP) dL_isRefused_93 lk_L_146 ⟨Nat.le_of_ble_eq_true rfl, Nat.le_of_ble_eq_true rfl⟩ (catLe (Nat.le_of_ble_eq_true rfl)) ⟨rfl, rfl⟩ rfl (show _ ≤ 640 by omega) (show _ ≤ 3200 by omega) (fun z93 S93 A93 i93 p93 => ?_)
            obtain ⟨rfl, rfl, hF93⟩ := p93
            have hP := pi_fr hP hF93
            have hFc := hFc.tr hF93
            have hw93 : ∀ i, 0 ≤ i → i ≤ 5 → 0 ≤ S93 288 i ∧ S93 288 i ≤ 100 := fun i i0 i1 => by rw [hF93 288 i (by decide)]; exact hwt i i0 i1
            refine r_lstore C dL_isRefused_96 (ls2_7 rfl rfl) ?_
            refine r_aload_n C dL_isRefused_98 lg_0 ?_
            refine r_iload_n C dL_isRefused_99 lg_2 ?_
            refine r_iconst C dL_isRefused_100 ?_
            refine r_iconst C dL_isRefused_101 ?_
            refine r_iconst C dL_isRefused_102 ?_
            refine r_W5I C (cQ_receive hfl hP (by omega) (by omega) (by omega) (by omega)) dL_isRefused_103 lk_L_150 ⟨Nat.le_of_ble_eq_true rfl, Nat.le_of_ble_eq_true rfl⟩ (catLe (Nat.le_of_ble_eq_true rfl)) 8 51 ⟨rfl, rfl⟩ (show _ ≤ 640 by omega) (show _ ≤ 3200 by omega) (fun _ _ _ h9 => h9.elim) (fun z103 S103 A103 i103 p103 => ?_)
            obtain h103 := p103
            obtain ⟨rfl, rfl, rfl⟩ := ref6 p103 (fun q => by obtain ⟨⟨⟨a1, a2⟩, a3, a4⟩, ⟨a5, a6⟩, a7, a8⟩ := q; omega)
            refine r_bipush C dL_isRefused_106 (by decide) ?_
            refine r_icne C (tgt := 253) dL_isRefused_108 (by decide) (by omega) (by omega) (fun c108 => ?_) (fun c108 => ?_)
            · exfalso; omega
            · refine r_aload_n C dL_isRefused_111 lg_0 ?_
              refine r_sipush C dL_isRefused_112 (by decide) ?_
              refine r_iload_n C dL_isRefused_115 lg_3 ?_
              refine r_iconst C dL_isRefused_116 ?_
              refine r_iconst C dL_isRefused_117 ?_
              refine r_W5I C (cQ_receive hfl hP (by omega) (by omega) (by omega) (by omega)) dL_isRefused_118 lk_L_150 ⟨Nat.le_of_ble_eq_true rfl, Nat.le_of_ble_eq_true rfl⟩ (catLe (Nat.le_of_ble_eq_true rfl)) 8 51 ⟨rfl, rfl⟩ (show _ ≤ 640 by omega) (show _ ≤ 3200 by omega) (fun _ _ _ h9 => h9.elim) (fun z118 S118 A118 i118 p118 => ?_)
              obtain h118 := p118
              obtain ⟨rfl, rfl, rfl⟩ := ref6 p118 (fun q => by obtain ⟨⟨⟨a1, a2⟩, a3, a4⟩, ⟨a5, a6⟩, a7, a8⟩ := q; omega)
              refine r_bipush C dL_isRefused_121 (by decide) ?_
              refine r_icne C (tgt := 253) dL_isRefused_123 (by decide) (by omega) (by omega) (fun c123 => ?_) (fun c123 => ?_)
              · exfalso; omega
              · refine r_aload_n C dL_isRefused_126 lg_0 ?_
                refine r_sipush C dL_isRefused_127 (by decide) ?_
                refine r_iconst C dL_isRefused_130 ?_
                refine r_iload C dL_isRefused_131 lg_4 ?_
                refine r_iconst C dL_isRefused_133 ?_
                refine r_W5I C (cQ_receive hfl hP (by omega) (by omega) (by omega) (by omega)) dL_isRefused_134 lk_L_150 ⟨Nat.le_of_ble_eq_true rfl, Nat.le_of_ble_eq_true rfl⟩ (catLe (Nat.le_of_ble_eq_true rfl)) 8 51 ⟨rfl, rfl⟩ (show _ ≤ 640 by omega) (show _ ≤ 3200 by omega) (fun _ _ _ h9 => h9.elim) (fun z134 S134 A134 i134 p134 => ?_)
                obtain h134 := p134
                obtain ⟨rfl, rfl, rfl⟩ := ref6 p134 (fun q => by obtain ⟨⟨⟨a1, a2⟩, a3, a4⟩, ⟨a5, a6⟩, a7, a8⟩ := q; omega)
                refine r_bipush C dL_isRefused_137 (by decide) ?_
                refine r_icne C (tgt := 253) dL_isRefused_139 (by decide) (by omega) (by omega) (fun c139 => ?_) (fun c139 => ?_)
                · exfalso; omega
                · refine r_aload_n C dL_isRefused_142 lg_0 ?_
                  refine r_sipush C dL_isRefused_143 (by decide) ?_
                  refine r_iconst C dL_isRefused_146 ?_
                  refine r_iconst C dL_isRefused_147 ?_
                  refine r_iload C dL_isRefused_148 lg_5 ?_
                  refine r_W5I C (cQ_receive hfl hP (by omega) (by omega) (by omega) (by omega)) dL_isRefused_150 lk_L_150 ⟨Nat.le_of_ble_eq_true rfl, Nat.le_of_ble_eq_true rfl⟩ (catLe (Nat.le_of_ble_eq_true rfl)) 8 51 ⟨rfl, rfl⟩ (show _ ≤ 640 by omega) (show _ ≤ 3200 by omega) (fun _ _ _ h9 => h9.elim) (fun z150 S150 A150 i150 p150 => ?_)
                  obtain h150 := p150
                  obtain ⟨rfl, rfl, rfl⟩ := ref6 p150 (fun q => by obtain ⟨⟨⟨a1, a2⟩, a3, a4⟩, ⟨a5, a6⟩, a7, a8⟩ := q; omega)
                  refine r_bipush C dL_isRefused_153 (by decide) ?_
                  refine r_icne C (tgt := 253) dL_isRefused_155 (by decide) (by omega) (by omega) (fun c155 => ?_) (fun c155 => ?_)
                  · exfalso; omega
                  · refine r_aload_n C dL_isRefused_158 lg_0 ?_
                    refine r_iload_n C dL_isRefused_159 lg_2 ?_
                    refine r_iconst C dL_isRefused_160 ?_
                    refine r_iconst C dL_isRefused_161 ?_
                    refine r_W4I C (cQ_issue hfl hP (by omega) (by omega) (by omega)) dL_isRefused_162 lk_L_153 ⟨Nat.le_of_ble_eq_true rfl, Nat.le_of_ble_eq_true rfl⟩ (catLe (Nat.le_of_ble_eq_true rfl)) 8 51 ⟨rfl, rfl⟩ (show _ ≤ 640 by omega) (show _ ≤ 3200 by omega) (fun _ _ _ h9 => h9.elim) (fun z162 S162 A162 i162 p162 => ?_)
                    obtain h162 := p162
                    obtain ⟨rfl, rfl, rfl⟩ := ref6 p162 (fun q => by obtain ⟨⟨⟨a1, a2⟩, a3, a4⟩, a5, a6⟩ := q; omega)
                    refine r_bipush C dL_isRefused_165 (by decide) ?_
                    refine r_icne C (tgt := 253) dL_isRefused_167 (by decide) (by omega) (by omega) (fun c167 => ?_) (fun c167 => ?_)
                    · exfalso; omega
                    · refine r_aload_n C dL_isRefused_170 lg_0 ?_
                      refine r_iconst C dL_isRefused_171 ?_
                      refine r_iload_n C dL_isRefused_172 lg_3 ?_
                      refine r_iconst C dL_isRefused_173 ?_
                      refine r_W4I C (cQ_issue hfl hP (by omega) (by omega) (by omega)) dL_isRefused_174 lk_L_153 ⟨Nat.le_of_ble_eq_true rfl, Nat.le_of_ble_eq_true rfl⟩ (catLe (Nat.le_of_ble_eq_true rfl)) 8 51 ⟨rfl, rfl⟩ (show _ ≤ 640 by omega) (show _ ≤ 3200 by omega) (fun _ _ _ h9 => h9.elim) (fun z174 S174 A174 i174 p174 => ?_)
                      obtain h174 := p174
                      obtain ⟨rfl, rfl, rfl⟩ := ref6 p174 (fun q => by obtain ⟨⟨⟨a1, a2⟩, a3, a4⟩, a5, a6⟩ := q; omega)
                      refine r_bipush C dL_isRefused_177 (by decide) ?_
                      refine r_icne C (tgt := 253) dL_isRefused_179 (by decide) (by omega) (by omega) (fun c179 => ?_) (fun c179 => ?_)
                      · exfalso; omega
                      · refine r_aload_n C dL_isRefused_182 lg_0 ?_
                        refine r_iconst C dL_isRefused_183 ?_
                        refine r_iconst C dL_isRefused_184 ?_
                        refine r_iload C dL_isRefused_185 lg_4 ?_
                        refine r_W4I C (cQ_issue hfl hP (by omega) (by omega) (by omega)) dL_isRefused_187 lk_L_153 ⟨Nat.le_of_ble_eq_true rfl, Nat.le_of_ble_eq_true rfl⟩ (catLe (Nat.le_of_ble_eq_true rfl)) 8 51 ⟨rfl, rfl⟩ (show _ ≤ 640 by omega) (show _ ≤ 3200 by omega) (fun _ _ _ h9 => h9.elim) (fun z187 S187 A187 i187 p187 => ?_)
                        obtain h187 := p187
                        obtain ⟨rfl, rfl, rfl⟩ := ref6 p187 (fun q => by obtain ⟨⟨⟨a1, a2⟩, a3, a4⟩, a5, a6⟩ := q; omega)
                        refine r_bipush C dL_isRefused_190 (by decide) ?_
                        refine r_icne C (tgt := 253) dL_isRefused_192 (by decide) (by omega) (by omega) (fun c192 => ?_) (fun c192 => ?_)
                        · exfalso; omega
                        · refine r_aload_n C dL_isRefused_195 lg_0 ?_
                          refine r_iload_n C dL_isRefused_196 lg_2 ?_
                          refine r_iconst C dL_isRefused_197 ?_
                          refine r_iconst C dL_isRefused_198 ?_
                          refine r_iconst C dL_isRefused_199 ?_
                          refine r_W5I C (cQ_revalue hfl hP (by omega) (by omega) (by omega) (by omega)) dL_isRefused_200 lk_L_156 ⟨Nat.le_of_ble_eq_true rfl, Nat.le_of_ble_eq_true rfl⟩ (catLe (Nat.le_of_ble_eq_true rfl)) 9 57 ⟨rfl, rfl⟩ (show _ ≤ 640 by omega) (show _ ≤ 3200 by omega) (fun _ _ _ h9 => h9.elim) (fun z200 S200 A200 i200 p200 => ?_)
                          obtain h200 := p200
                          obtain ⟨rfl, rfl, rfl⟩ := ref6 p200 (fun q => by obtain ⟨⟨⟨a1, a2⟩, a3, a4⟩, ⟨a5, a6⟩, a7, a8⟩ := q; omega)
                          refine r_bipush C dL_isRefused_203 (by decide) ?_
                          refine r_icne C (tgt := 253) dL_isRefused_205 (by decide) (by omega) (by omega) (fun c205 => ?_) (fun c205 => ?_)
                          · exfalso; omega
                          · refine r_aload_n C dL_isRefused_208 lg_0 ?_
                            refine r_iconst C dL_isRefused_209 ?_
                            refine r_iload_n C dL_isRefused_210 lg_3 ?_
                            refine r_iconst C dL_isRefused_211 ?_
                            refine r_iconst C dL_isRefused_212 ?_
                            refine r_W5I C (cQ_revalue hfl hP (by omega) (by omega) (by omega) (by omega)) dL_isRefused_213 lk_L_156 ⟨Nat.le_of_ble_eq_true rfl, Nat.le_of_ble_eq_true rfl⟩ (catLe (Nat.le_of_ble_eq_true rfl)) 9 57 ⟨rfl, rfl⟩ (show _ ≤ 640 by omega) (show _ ≤ 3200 by omega) (fun _ _ _ h9 => h9.elim) (fun z213 S213 A213 i213 p213 => ?_)
                            obtain h213 := p213
                            obtain ⟨rfl, rfl, rfl⟩ := ref6 p213 (fun q => by obtain ⟨⟨⟨a1, a2⟩, a3, a4⟩, ⟨a5, a6⟩, a7, a8⟩ := q; omega)
                            refine r_bipush C dL_isRefused_216 (by decide) ?_
                            refine r_icne C (tgt := 253) dL_isRefused_218 (by decide) (by omega) (by omega) (fun c218 => ?_) (fun c218 => ?_)
                            · exfalso; omega
                            · refine r_aload_n C dL_isRefused_221 lg_0 ?_
                              refine r_iconst C dL_isRefused_222 ?_
                              refine r_iconst C dL_isRefused_223 ?_
                              refine r_iload C dL_isRefused_224 lg_4 ?_
                              refine r_iconst C dL_isRefused_226 ?_
                              refine r_W5I C (cQ_revalue hfl hP (by omega) (by omega) (by omega) (by omega)) dL_isRefused_227 lk_L_156 ⟨Nat.le_of_ble_eq_true rfl, Nat.le_of_ble_eq_true rfl⟩ (catLe (Nat.le_of_ble_eq_true rfl)) 9 57 ⟨rfl, rfl⟩ (show _ ≤ 640 by omega) (show _ ≤ 3200 by omega) (fun _ _ _ h9 => h9.elim) (fun z227 S227 A227 i227 p227 => ?_)
                              obtain h227 := p227
                              obtain ⟨rfl, rfl, rfl⟩ := ref6 p227 (fun q => by obtain ⟨⟨⟨a1, a2⟩, a3, a4⟩, ⟨a5, a6⟩, a7, a8⟩ := q; omega)
                              refine r_bipush C dL_isRefused_230 (by decide) ?_
                              refine r_icne C (tgt := 253) dL_isRefused_232 (by decide) (by omega) (by omega) (fun c232 => ?_) (fun c232 => ?_)
                              · exfalso; omega
                              · refine r_aload_n C dL_isRefused_235 lg_0 ?_
                                refine r_iconst C dL_isRefused_236 ?_
                                refine r_iconst C dL_isRefused_237 ?_
                                refine r_iconst C dL_isRefused_238 ?_
                                refine r_iload C dL_isRefused_239 lg_5 ?_
                                refine r_W5I C (cQ_revalue hfl hP (by omega) (by omega) (by omega) (by omega)) dL_isRefused_241 lk_L_156 ⟨Nat.le_of_ble_eq_true rfl, Nat.le_of_ble_eq_true rfl⟩ (catLe (Nat.le_of_ble_eq_true rfl)) 9 57 ⟨rfl, rfl⟩ (show _ ≤ 640 by omega) (show _ ≤ 3200 by omega) (fun _ _ _ h9 => h9.elim) (fun z241 S241 A241 i241 p241 => ?_)
                                obtain h241 := p241
                                obtain ⟨rfl, rfl, rfl⟩ := ref6 p241 (fun q => by obtain ⟨⟨⟨a1, a2⟩, a3, a4⟩, ⟨a5, a6⟩, a7, a8⟩ := q; omega)
                                refine r_bipush C dL_isRefused_244 (by decide) ?_
                                refine r_icne C (tgt := 253) dL_isRefused_246 (by decide) (by omega) (by omega) (fun c246 => ?_) (fun c246 => ?_)
                                · exfalso; omega
                                · refine r_iconst C dL_isRefused_249 ?_
                                  refine r_goto C (tgt := 254) dL_isRefused_250 (by decide) ?_
                                  refine r_istore C dL_isRefused_254 (ls1_9 rfl trivial) ?_
                                  refine r_iload C dL_isRefused_256 lg_9 ?_
                                  refine r_ifeq C (tgt := 447) dL_isRefused_258 (by decide) (by omega) (fun c258 => ?_) (fun c258 => ?_)
                                  · exfalso; omega
                                  · refine r_aload_n C dL_isRefused_261 lg_0 ?_
                                    refine r_iload_n C dL_isRefused_262 lg_2 ?_
                                    refine r_iconst C dL_isRefused_263 ?_
                                    refine r_iconst C dL_isRefused_264 ?_
                                    refine r_ldc2 C dL_isRefused_265 cs_L_158 (-9223372036854775808) (by decide) ?_
                                    refine r_W5I C (cQ_land hfl hP (by omega) (by omega) (by omega) (by omega) hw93 hA5) dL_isRefused_268 lk_L_160 ⟨Nat.le_of_ble_eq_true rfl, Nat.le_of_ble_eq_true rfl⟩ (catLe (Nat.le_of_ble_eq_true rfl)) 68 291 ⟨rfl, rfl⟩ (show _ ≤ 640 by omega) (show _ ≤ 3200 by omega) (fun _ _ _ h9 => h9.elim) (fun z268 S268 A268 i268 p268 => ?_)
                                    obtain h268 := p268
                                    obtain ⟨rfl, rfl, rfl⟩ := ref6L p268 (fun q => by obtain ⟨⟨a1, a2⟩, ⟨a3, a4⟩, ⟨a5, a6⟩, a7⟩ := q; omega)
                                    refine r_bipush C dL_isRefused_271 (by decide) ?_
                                    refine r_icne C (tgt := 447) dL_isRefused_273 (by decide) (by omega) (by omega) (fun c273 => ?_) (fun c273 => ?_)
                                    · exfalso; omega
                                    · refine r_aload_n C dL_isRefused_276 lg_0 ?_
                                      refine r_iconst C dL_isRefused_277 ?_
                                      refine r_iload_n C dL_isRefused_278 lg_1 ?_
                                      refine r_iconst C dL_isRefused_279 ?_
                                      refine r_irem C dL_isRefused_280 (by omega) (by omega) (by omega) (by omega) ?_
                                      refine r_ifne C (tgt := 288) dL_isRefused_281 (by decide) (by omega) (fun c281 => ?_) (fun c281 => ?_)
                                      · refine r_iload C dL_isRefused_288 lg_5 ?_
                                        refine r_iconst C dL_isRefused_290 ?_
                                        refine r_lconst C dL_isRefused_291 1 rfl ?_
                                        refine r_W5I C (cQ_land hfl hP (by omega) (by omega) (by omega) (by omega) hw93 hA5) dL_isRefused_292 lk_L_160 ⟨Nat.le_of_ble_eq_true rfl, Nat.le_of_ble_eq_true rfl⟩ (catLe (Nat.le_of_ble_eq_true rfl)) 68 291 ⟨rfl, rfl⟩ (show _ ≤ 640 by omega) (show _ ≤ 3200 by omega) (fun _ _ _ h9 => h9.elim) (fun z292 S292 A292 i292 p292 => ?_)
                                        obtain h292 := p292
                                        obtain ⟨rfl, rfl, rfl⟩ := ref6L p292 (fun q => by obtain ⟨⟨a1, a2⟩, ⟨a3, a4⟩, ⟨a5, a6⟩, a7⟩ := q; omega)
                                        refine r_bipush C dL_isRefused_295 (by decide) ?_
                                        refine r_icne C (tgt := 447) dL_isRefused_297 (by decide) (by omega) (by omega) (fun c297 => ?_) (fun c297 => ?_)
                                        · exfalso; omega
                                        · refine r_aload_n C dL_isRefused_300 lg_0 ?_
                                          refine r_iconst C dL_isRefused_301 ?_
                                          refine r_iconst C dL_isRefused_302 ?_
                                          refine r_iload_n C dL_isRefused_303 lg_1 ?_
                                          refine r_iconst C dL_isRefused_304 ?_
                                          refine r_irem C dL_isRefused_305 (by omega) (by omega) (by omega) (by omega) ?_
                                          refine r_ifne C (tgt := 313) dL_isRefused_306 (by decide) (by omega) (fun c306 => ?_) (fun c306 => ?_)
                                          · refine r_iconst C dL_isRefused_313 ?_
                                            refine r_lconst C dL_isRefused_314 1 rfl ?_
                                            refine r_W5I C (cQ_land hfl hP (by omega) (by omega) (by omega) (by omega) hw93 hA5) dL_isRefused_315 lk_L_160 ⟨Nat.le_of_ble_eq_true rfl, Nat.le_of_ble_eq_true rfl⟩ (catLe (Nat.le_of_ble_eq_true rfl)) 68 291 ⟨rfl, rfl⟩ (show _ ≤ 640 by omega) (show _ ≤ 3200 by omega) (fun _ _ _ h9 => h9.elim) (fun z315 S315 A315 i315 p315 => ?_)
                                            obtain h315 := p315
                                            obtain ⟨rfl, rfl, rfl⟩ := ref6L p315 (fun q => by obtain ⟨⟨a1, a2⟩, ⟨a3, a4⟩, ⟨a5, a6⟩, a7⟩ := q; omega)
                                            refine r_bipush C dL_isRefused_318 (by decide) ?_
                                            refine r_icne C (tgt := 447) dL_isRefused_320 (by decide) (by omega) (by omega) (fun c320 => ?_) (fun c320 => ?_)
                                            · exfalso; omega
                                            · refine r_aload_n C dL_isRefused_323 lg_0 ?_
                                              refine r_sipush C dL_isRefused_324 (by decide) ?_
                                              refine r_iconst C dL_isRefused_327 ?_
                                              refine r_iconst C dL_isRefused_328 ?_
                                              refine r_lconst C dL_isRefused_329 0 rfl ?_
                                              refine r_W5I C (cQ_land hfl hP (by omega) (by omega) (by omega) (by omega) hw93 hA5) dL_isRefused_330 lk_L_160 ⟨Nat.le_of_ble_eq_true rfl, Nat.le_of_ble_eq_true rfl⟩ (catLe (Nat.le_of_ble_eq_true rfl)) 68 291 ⟨rfl, rfl⟩ (show _ ≤ 640 by omega) (show _ ≤ 3200 by omega) (fun _ _ _ h9 => h9.elim) (fun z330 S330 A330 i330 p330 => ?_)
                                              obtain h330 := p330
                                              obtain ⟨rfl, rfl, rfl⟩ := ref6L p330 (fun q => by obtain ⟨⟨a1, a2⟩, ⟨a3, a4⟩, ⟨a5, a6⟩, a7⟩ := q; omega)
                                              refine r_bipush C dL_isRefused_333 (by decide) ?_
                                              refine r_icne C (tgt := 447) dL_isRefused_335 (by decide) (by omega) (by omega) (fun c335 => ?_) (fun c335 => ?_)
                                              · exfalso; omega
                                              · refine r_aload_n C dL_isRefused_338 lg_0 ?_
                                                refine r_iconst C dL_isRefused_339 ?_
                                                refine r_iconst C dL_isRefused_340 ?_
                                                refine r_iconst C dL_isRefused_341 ?_
                                                refine r_ldc2 C dL_isRefused_342 cs_L_158 (-9223372036854775808) (by decide) ?_
                                                refine r_W5I C (cQ_land hfl hP (by omega) (by omega) (by omega) (by omega) hw93 hA5) dL_isRefused_345 lk_L_160 ⟨Nat.le_of_ble_eq_true rfl, Nat.le_of_ble_eq_true rfl⟩ (catLe (Nat.le_of_ble_eq_true rfl)) 68 291 ⟨rfl, rfl⟩ (show _ ≤ 640 by omega) (show _ ≤ 3200 by omega) (fun _ _ _ h9 => h9.elim) (fun z345 S345 A345 i345 p345 => ?_)
                                                obtain h345 := p345
                                                obtain ⟨rfl, rfl, rfl⟩ := ref5L p345 ⟨⟨by omega, by omega⟩, ⟨by omega, by omega⟩, ⟨by omega, by omega⟩, by omega⟩ (not_allR (by omega) (by omega) top_b)
                                                refine r_bipush C dL_isRefused_348 (by decide) ?_
                                                refine r_icne C (tgt := 447) dL_isRefused_350 (by decide) (by omega) (by omega) (fun c350 => ?_) (fun c350 => ?_)
                                                · exfalso; omega
                                                · refine r_aload_n C dL_isRefused_353 lg_0 ?_
                                                  refine r_iconst C dL_isRefused_354 ?_
                                                  refine r_iconst C dL_isRefused_355 ?_
                                                  refine r_iconst C dL_isRefused_356 ?_
                                                  refine r_lconst C dL_isRefused_357 1 rfl ?_
                                                  refine r_iload C dL_isRefused_358 lg_6 ?_
                                                  refine r_lshl C dL_isRefused_360 (fun b360 => ?_)
                                                  refine r_W5I C (cQ_land hfl hP (by omega) (by omega) (by omega) (by omega) hw93 hA5) dL_isRefused_361 lk_L_160 ⟨Nat.le_of_ble_eq_true rfl, Nat.le_of_ble_eq_true rfl⟩ (catLe (Nat.le_of_ble_eq_true rfl)) 68 291 ⟨rfl, rfl⟩ (show _ ≤ 640 by omega) (show _ ≤ 3200 by omega) (fun _ _ _ h9 => h9.elim) (fun z361 S361 A361 i361 p361 => ?_)
                                                  obtain h361 := p361
                                                  obtain ⟨rfl, rfl, rfl⟩ := ref5L p361 ⟨⟨by omega, by omega⟩, ⟨by omega, by omega⟩, ⟨by omega, by omega⟩, shl_nz (by omega) (by omega)⟩ (not_allR (by omega) (by omega) (shl_b (by omega) (by omega)))
                                                  refine r_bipush C dL_isRefused_364 (by decide) ?_
                                                  refine r_icne C (tgt := 447) dL_isRefused_366 (by decide) (by omega) (by omega) (fun c366 => ?_) (fun c366 => ?_)
                                                  · exfalso; omega
                                                  · refine r_aload_n C dL_isRefused_369 lg_0 ?_
                                                    refine r_iload_n C dL_isRefused_370 lg_1 ?_
                                                    refine r_iconst C dL_isRefused_371 ?_
                                                    refine r_irem C dL_isRefused_372 (by omega) (by omega) (by omega) (by omega) ?_
                                                    refine r_ifne C (tgt := 385) dL_isRefused_373 (by decide) (by omega) (fun c373 => ?_) (fun c373 => ?_)
                                                    · refine r_iload C dL_isRefused_385 lg_6 ?_
                                                      refine r_iload_n C dL_isRefused_387 lg_1 ?_
                                                      refine r_bipush C dL_isRefused_388 (by decide) ?_
                                                      refine r_irem C dL_isRefused_390 (by omega) (by omega) (by omega) (by omega) ?_
                                                      refine r_iadd C dL_isRefused_391 ?_
                                                      refine r_W2I C (cQ_cancel hfl hP (by omega)) dL_isRefused_392 lk_L_163 ⟨Nat.le_of_ble_eq_true rfl, Nat.le_of_ble_eq_true rfl⟩ (catLe (Nat.le_of_ble_eq_true rfl)) 4 24 ⟨rfl, rfl⟩ (show _ ≤ 640 by omega) (show _ ≤ 3200 by omega) (fun _ _ _ h9 => h9.elim) (fun z392 S392 A392 i392 p392 => ?_)
                                                      obtain ⟨rfl, e392⟩ := p392
                                                      obtain ⟨rfl, rfl⟩ := ref5C e392 (fun q => by omega)
                                                      refine r_bipush C dL_isRefused_395 (by decide) ?_
                                                      refine r_icne C (tgt := 447) dL_isRefused_397 (by decide) (by omega) (by omega) (fun c397 => ?_) (fun c397 => ?_)
                                                      · exfalso; omega
                                                      · refine r_aload_n C dL_isRefused_400 lg_0 ?_
                                                        refine r_iload_n C dL_isRefused_401 lg_2 ?_
                                                        refine r_W2I C (cQ_close hfl hP (by omega)) dL_isRefused_402 lk_L_166 ⟨Nat.le_of_ble_eq_true rfl, Nat.le_of_ble_eq_true rfl⟩ (catLe (Nat.le_of_ble_eq_true rfl)) 2 12 ⟨rfl, rfl⟩ (show _ ≤ 640 by omega) (show _ ≤ 3200 by omega) (fun _ _ _ h9 => h9.elim) (fun z402 S402 A402 i402 p402 => ?_)
                                                        obtain ⟨rfl, e402⟩ := p402
                                                        obtain ⟨rfl, rfl⟩ := ref6C e402 (fun q => by omega)
                                                        refine r_bipush C dL_isRefused_405 (by decide) ?_
                                                        refine r_icne C (tgt := 447) dL_isRefused_407 (by decide) (by omega) (by omega) (fun c407 => ?_) (fun c407 => ?_)
                                                        · exfalso; omega
                                                        · refine r_aload_n C dL_isRefused_410 lg_0 ?_
                                                          refine r_iload_n C dL_isRefused_411 lg_3 ?_
                                                          refine r_iconst C dL_isRefused_412 ?_
                                                          refine r_W3I C (cQ_setWeight hfl hP (by omega) (by omega)) dL_isRefused_413 lk_L_168 ⟨Nat.le_of_ble_eq_true rfl, Nat.le_of_ble_eq_true rfl⟩ (catLe (Nat.le_of_ble_eq_true rfl)) 2 12 ⟨rfl, rfl⟩ (show _ ≤ 640 by omega) (show _ ≤ 3200 by omega) (fun _ _ _ h9 => h9.elim) (fun z413 S413 A413 i413 p413 => ?_)
                                                          obtain ⟨rfl, e413⟩ := p413
                                                          obtain ⟨rfl, rfl⟩ := ref6W e413 (fun q => by omega)
                                                          refine r_bipush C dL_isRefused_416 (by decide) ?_
                                                          refine r_icne C (tgt := 447) dL_isRefused_418 (by decide) (by omega) (by omega) (fun c418 => ?_) (fun c418 => ?_)
                                                          · exfalso; omega
                                                          · refine r_aload_n C dL_isRefused_421 lg_0 ?_
                                                            refine r_iconst C dL_isRefused_422 ?_
                                                            refine r_iload_n C dL_isRefused_423 lg_1 ?_
                                                            refine r_iconst C dL_isRefused_424 ?_
                                                            refine r_irem C dL_isRefused_425 (by omega) (by omega) (by omega) (by omega) ?_
                                                            refine r_ifne C (tgt := 433) dL_isRefused_426 (by decide) (by omega) (fun c426 => ?_) (fun c426 => ?_)
                                                            · refine r_bipush C dL_isRefused_433 (by decide) ?_
                                                              refine r_W3I C (cQ_setWeight hfl hP (by omega) (by omega)) dL_isRefused_435 lk_L_168 ⟨Nat.le_of_ble_eq_true rfl, Nat.le_of_ble_eq_true rfl⟩ (catLe (Nat.le_of_ble_eq_true rfl)) 2 12 ⟨rfl, rfl⟩ (show _ ≤ 640 by omega) (show _ ≤ 3200 by omega) (fun _ _ _ h9 => h9.elim) (fun z435 S435 A435 i435 p435 => ?_)
                                                              obtain ⟨rfl, e435⟩ := p435
                                                              obtain ⟨rfl, rfl⟩ := ref6W e435 (fun q => by omega)
                                                              refine r_bipush C dL_isRefused_438 (by decide) ?_
                                                              refine r_icne C (tgt := 447) dL_isRefused_440 (by decide) (by omega) (by omega) (fun c440 => ?_) (fun c440 => ?_)
                                                              · exfalso; omega
                                                              · refine r_iconst C dL_isRefused_443 ?_
                                                                refine r_goto C (tgt := 448) dL_isRefused_444 (by decide) ?_
                                                                refine r_istore C dL_isRefused_448 (ls1_9 rfl trivial) ?_
                                                                refine r_iconst C dL_isRefused_450 ?_
                                                                refine r_istore C dL_isRefused_451 (ls1_10 rfl rfl) ?_
                                                                exact lp 13 0 _ _ _ (by omega) (by omega) hFc (by omega) (by omega) (by omega)
                                                            · exfalso; omega
                                                    · exfalso; omega
                                          · exfalso; omega
                                      · exfalso; omega
          · exfalso; omega
        · exfalso; omega
      · exfalso; omega
    · exfalso; omega
