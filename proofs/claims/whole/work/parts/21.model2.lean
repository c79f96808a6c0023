/-! loops of the reference: sums, tests, the order -/
set_option maxRecDepth 20000 in
theorem cM_sumOf {G : GT} {l : Launch} (hfl : l.stackTraces = false) {S : ST} {A : AB} {s b : Int} (M : RM S A) (hs : rL s) (hb : rI b) (hm0 : 0 ≤ S 232 0) (hm1 : S 232 0 ≤ 60) (hqt : ∀ m, 0 ≤ m → m < S 232 0 → 0 ≤ S 416 m ∧ S 416 m ≤ 1000) (hct : ∀ m, 0 ≤ m → m < S 232 0 → 0 ≤ S 448 m ∧ S 448 m ≤ 1000000) (hit : ∀ m, 0 ≤ m → m < S 232 0 → hasB s m → (0 ≤ S 384 m ∧ S 384 m ≤ 5) ∧ True) (hwt : ∀ i, 0 ≤ i → i ≤ 5 → 0 ≤ S 640 i ∧ S 640 i ≤ 100) : CT G l yX8_sumOf cX8_sumOf 7 (some .long) (rmk 1 0 0 22) S A [vR A 7 0, vL s, vI b] (oJ fun z S' A' => sumI (fun m => cI (hasB s m) (basM S b m) 0) (S 232 0) = z ∧ S = S' ∧ A = A') (noX) := by
  have hbas : ∀ m, 0 ≤ m → m < S 232 0 → hasB s m → 0 ≤ basM S b m ∧ basM S b m ≤ 1000000 := by
    intro m g0 g1 g2
    have e1 := hqt m g0 g1
    have e2 := hct m g0 g1
    have e3 := (hit m g0 g1 g2).1
    have e4 := hwt _ e3.1 e3.2
    have e5 := mul_b e1.1 e1.2 e4.1 e4.2
    unfold basM
    split
    · omega
    · split <;> omega
  refine ct_ofN (own := RX8) (mn := "sumOf") rfl rfl (by decide) hfl (lv0 := [some (vR A 7 0), some (vL s), none, some (vI b), none, none, none]) (ent_1 (cat_R _ _ _) (ent_2 rfl (ent_1 rfl (ent_n (ent_n (ent_n ent_0)))))) rfl ?_
  intro J X C F FX FT FU hW hA
  have lp : ∀ (N : Nat) (i acc : Int) (h1 : 0 ≤ i) (h2 : i ≤ S 232 0) (h4 : acc = sumI (fun m => cI (hasB s m) (basM S b m) 0) i) (h5 : 0 ≤ acc ∧ acc ≤ i * 1000000) (hN : S 232 0 - i < N), J 6 [some (vR A 7 0), some (vL s), none, some (vI b), some (vL acc), none, some (vI i)] [] S A 0 0 := by
    intro N
    induction N with
    | zero => intro i acc h1 h2 h4 h5 hN; omega
    | succ N ih =>
      intro i acc h1 h2 h4 h5 hN
      refine r_iload C dX8_sumOf_6 lg_6 ?_
      refine r_aload_n C dX8_sumOf_8 lg_0 ?_
      refine r_getI C 232 dX8_sumOf_9 fg_X8_77_7 rfl rfl M.1 (fun g9 => ?_)
      refine r_icge C (tgt := 46) dX8_sumOf_12 (by decide) (by omega) (by omega) (fun c12 => ?_) (fun c12 => ?_)
      · refine r_lload C dX8_sumOf_46 lg_4 ?_
        exact f_J F dX8_sumOf_48 (by omega) ⟨by rw [h4, show i = S 232 0 by omega], rfl, rfl⟩ (Nat.le_of_ble_eq_true rfl) (Nat.le_of_ble_eq_true rfl)
      · refine r_lload C dX8_sumOf_15 lg_4 ?_
        refine r_lload_n C dX8_sumOf_17 lg_1 ?_
        refine r_iload C dX8_sumOf_18 lg_6 ?_
        refine q_S2Z C (cM_has hfl (by omega)) dX8_sumOf_20 lk_X8_123 ⟨Nat.le_of_ble_eq_true rfl, Nat.le_of_ble_eq_true rfl⟩ (catLe (Nat.le_of_ble_eq_true rfl)) ⟨rfl, rfl⟩ rfl (Nat.le_of_ble_eq_true rfl) (Nat.le_of_ble_eq_true rfl) (fun z20 S20 A20 i20 p20 => ?_)
        obtain ⟨rfl, rfl, rfl⟩ := p20
        refine rb_ifeq C (tgt := 36) dX8_sumOf_23 (by decide) (fun c23 => ?_) (fun c23 => ?_)
        · refine r_lconst C dX8_sumOf_36 0 rfl ?_
          refine r_ladd C dX8_sumOf_37 ?_
          refine r_lstore C dX8_sumOf_38 (ls2_4 rfl rfl) ?_
          refine r_iinc C dX8_sumOf_40 lg_6 (ls1_6 rfl trivial) ?_
          refine r_goto C (tgt := 6) dX8_sumOf_43 (by decide) ?_
          exact ih (i + 1) _ (by omega) (by omega) (by rw [sumI_s _ h1, h4]; first | (rw [cI_t c23]; done) | (rw [cI_f c23]; done)) (by omega) (by omega)
        · refine r_aload_n C dX8_sumOf_26 lg_0 ?_
          refine r_iload C dX8_sumOf_27 lg_6 ?_
          refine r_iload_n C dX8_sumOf_29 lg_3 ?_
          refine q_V2J C (cM_basisOf hfl (by assumption) (by omega) (by omega) (by omega) (hqt i h1 (by omega)) (hit i h1 (by omega) c23).1 (hwt _ (hit i h1 (by omega) c23).1.1 (hit i h1 (by omega) c23).1.2)) dX8_sumOf_30 lk_X8_127 M.1 ⟨Nat.le_of_ble_eq_true rfl, Nat.le_of_ble_eq_true rfl⟩ (catLe (Nat.le_of_ble_eq_true rfl)) ⟨rfl, rfl⟩ rfl (Nat.le_of_ble_eq_true rfl) (Nat.le_of_ble_eq_true rfl) (fun z30 S30 A30 i30 p30 => ?_)
          obtain ⟨rfl, rfl, rfl⟩ := p30
          have hb9 := hbas i h1 (by omega) c23
          refine r_goto C (tgt := 37) dX8_sumOf_33 (by decide) ?_
          refine r_ladd C dX8_sumOf_37 ?_
          refine r_lstore C dX8_sumOf_38 (ls2_4 rfl rfl) ?_
          refine r_iinc C dX8_sumOf_40 lg_6 (ls1_6 rfl trivial) ?_
          refine r_goto C (tgt := 6) dX8_sumOf_43 (by decide) ?_
          exact ih (i + 1) _ (by omega) (by omega) (by rw [sumI_s _ h1, h4]; first | (rw [cI_t c23]; done) | (rw [cI_f c23]; done)) (by omega) (by omega)
  refine r_lconst C dX8_sumOf_0 0 rfl ?_
  refine r_lstore C dX8_sumOf_1 (ls2_4 rfl rfl) ?_
  refine r_iconst C dX8_sumOf_3 ?_
  refine r_istore C dX8_sumOf_4 (ls1_6 rfl trivial) ?_
  exact lp (S 232 0 + 1).toNat 0 0 (by omega) (by omega) rfl (by omega) (by omega)
