/-! the class: sums over what is chosen -/
def bsC (S : ST) (b m : Int) : Int := if b = 1 then S 101 m else if b = 2 then S 100 m * S 288 (S 99 m) else S 100 m
set_option maxRecDepth 20000 in
theorem cB_basis {G : GT} {l : Launch} (hfl : l.stackTraces = false) {S : ST} {A : AB} {m b : Int} (hl6 : lv1 A 6 0) (hl9 : lv1 A 9 0) (h196 : S 196 0 = 0) (hm : lv1 A 3 m) (hb : rI b) (hq : 0 ≤ S 100 m ∧ S 100 m ≤ 1000) (hc : 0 ≤ S 101 m ∧ S 101 m ≤ 1000000) (hi : 0 ≤ S 99 m ∧ S 99 m ≤ 5) (hw : 0 ≤ S 288 (S 99 m) ∧ S 288 (S 99 m) ≤ 100) : CT G l yX7_basisOf cX7_basisOf 3 (some .long) (rmk 1 0 0 21) S A [vR A 6 0, vR A 3 m, vI b] (oJ fun z S' A' => bsC S b m = z ∧ S = S' ∧ A = A') (noX) := by
  refine ct_ofN (own := RX7) (mn := "basisOf") rfl rfl (by decide) hfl (lv0 := [some (vR A 6 0), some (vR A 3 m), some (vI b)]) (ent_1 (cat_R _ _ _) (ent_1 (cat_R _ _ _) (ent_1 rfl ent_0))) rfl ?_
  intro J X C F FX FT FU hW hA
  refine r_iload_n C dX7_basisOf_0 lg_2 ?_
  refine r_iconst C dX7_basisOf_1 ?_
  refine r_icne C (tgt := 11) dX7_basisOf_2 (by decide) (by omega) (by omega) (fun c2 => ?_) (fun c2 => ?_)
  · refine r_iload_n C dX7_basisOf_11 lg_2 ?_
    refine r_iconst C dX7_basisOf_12 ?_
    refine r_icne C (tgt := 33) dX7_basisOf_13 (by decide) (by omega) (by omega) (fun c13 => ?_) (fun c13 => ?_)
    · refine r_aload_n C dX7_basisOf_33 lg_1 ?_
      refine r_getI C 100 dX7_basisOf_34 fg_X7_240_3 rfl rfl hm (fun g34 => ?_)
      refine r_i2l C dX7_basisOf_37 (by omega) ?_
      exact f_J F dX7_basisOf_38 (by omega) ⟨by unfold bsC; first | (rw [if_pos (by omega)]; done) | (rw [if_neg (by omega), if_pos (by omega)]; done) | (rw [if_neg (by omega), if_neg (by omega)]; done), rfl, rfl⟩ (Nat.le_of_ble_eq_true rfl) (Nat.le_of_ble_eq_true rfl)
    · refine r_aload_n C dX7_basisOf_16 lg_1 ?_
      refine r_getI C 100 dX7_basisOf_17 fg_X7_240_3 rfl rfl hm (fun g17 => ?_)
      refine r_aload_n C dX7_basisOf_20 lg_0 ?_
      refine r_aload_n C dX7_basisOf_21 lg_1 ?_
      refine r_getI C 99 dX7_basisOf_22 fg_X7_160_3 rfl rfl hm (fun g22 => ?_)
      refine q_V1I C (cB_weight hfl hl6 hl9 h196 (by omega)) dX7_basisOf_25 lk_X7_140 hl6 ⟨Nat.le_of_ble_eq_true rfl, Nat.le_of_ble_eq_true rfl⟩ (catLe (Nat.le_of_ble_eq_true rfl)) ⟨rfl, rfl⟩ rfl (Nat.le_of_ble_eq_true rfl) (Nat.le_of_ble_eq_true rfl) (fun z25 S25 A25 i25 p25 => ?_)
      obtain ⟨rfl, rfl, rfl⟩ := p25
      rw [cI_t hi]
      have h9 := mul_b hq.1 hq.2 hw.1 hw.2
      refine r_imul C dX7_basisOf_28 ?_
      refine r_i2l C dX7_basisOf_29 (by omega) ?_
      refine r_goto C (tgt := 38) dX7_basisOf_30 (by decide) ?_
      exact f_J F dX7_basisOf_38 (by omega) ⟨by unfold bsC; first | (rw [if_pos (by omega)]; done) | (rw [if_neg (by omega), if_pos (by omega)]; done) | (rw [if_neg (by omega), if_neg (by omega)]; done), rfl, rfl⟩ (Nat.le_of_ble_eq_true rfl) (Nat.le_of_ble_eq_true rfl)
  · refine r_aload_n C dX7_basisOf_5 lg_1 ?_
    refine r_getI C 101 dX7_basisOf_6 fg_X7_258_3 rfl rfl hm (fun g6 => ?_)
    refine r_i2l C dX7_basisOf_9 (by omega) ?_
    exact f_J F dX7_basisOf_10 (by omega) ⟨by unfold bsC; first | (rw [if_pos (by omega)]; done) | (rw [if_neg (by omega), if_pos (by omega)]; done) | (rw [if_neg (by omega), if_neg (by omega)]; done), rfl, rfl⟩ (Nat.le_of_ble_eq_true rfl) (Nat.le_of_ble_eq_true rfl)
set_option maxRecDepth 20000 in
theorem cB_sum {G : GT} {l : Launch} (hfl : l.stackTraces = false) {S : ST} {A : AB} {s b : Int} {R : RW} (hCK : CK R S A) (hn : 0 ≤ R.n ∧ R.n ≤ 60) (hrw : ∀ m, 0 ≤ m → m < R.n → hasB s m → (0 ≤ S 100 m ∧ S 100 m ≤ 1000) ∧ (0 ≤ S 101 m ∧ S 101 m ≤ 1000000) ∧ (0 ≤ S 99 m ∧ S 99 m ≤ 5) ∧ (0 ≤ S 288 (S 99 m) ∧ S 288 (S 99 m) ≤ 100)) (hs : rL s) (hb : rI b) : CT G l yX7_sumOfBasis cX7_sumOfBasis 8 (some .long) (rmk 2 0 0 43) S A [vR A 6 0, vL s, vI b] (oJ fun z S' A' => sumI (fun m => cI (hasB s m ∧ m < R.n) (bsC S b m) 0) 60 = z ∧ S = S' ∧ A = A') (noX) := by
  refine ct_ofN (own := RX7) (mn := "sumOfBasis") rfl rfl (by decide) hfl (lv0 := [some (vR A 6 0), some (vL s), none, some (vI b), none, none, none, none]) (ent_1 (cat_R _ _ _) (ent_2 rfl (ent_1 rfl (ent_n (ent_n (ent_n (ent_n ent_0))))))) rfl ?_
  intro J X C F FX FT FU hW hA
  have hCK0 := hCK
  obtain ⟨⟨hl6, l2, l0, l4, hl8, l9⟩, ⟨h192, h193, _, _, h196⟩, ⟨hcn, hA3, hA1⟩, hpo, hrows, _, _⟩ := hCK
  have hbb : ∀ m, 0 ≤ m → m < R.n → hasB s m → 0 ≤ bsC S b m ∧ bsC S b m ≤ 1000000 := fun m m0 m1 mb => by
    obtain ⟨e1, e2, e3, e4⟩ := hrw m m0 m1 mb
    have e5 := mul_b e1.1 e1.2 e4.1 e4.2
    unfold bsC
    split
    · omega
    · split <;> omega
  have lp : ∀ (N : Nat) (i acc : Int) (h1 : 0 ≤ i) (h2 : i ≤ 60) (h4 : acc = sumI (fun m => cI (hasB s m ∧ m < R.n) (bsC S b m) 0) i) (h5 : 0 ≤ acc ∧ acc ≤ i * 1000000) (hN : 60 - i < N), J 6 [some (vR A 6 0), some (vL s), none, some (vI b), some (vL acc), none, some (vI i), none] [] S A 0 0 := by
    intro N
    induction N with
    | zero => intro i acc h1 h2 h4 h5 hN; omega
    | succ N ih =>
      intro i acc h1 h2 h4 h5 hN
      have hz9 : (hasB s i ∧ i < R.n) ∨ ¬ (hasB s i ∧ i < R.n) := Classical.em _
      have hcz : (hasB s i ∧ i < R.n ∧ chZ R s i = i) ∨ (¬ (hasB s i ∧ i < R.n) ∧ chZ R s i = -1) := by
        rcases hz9 with h | h
        · exact Or.inl ⟨h.1, h.2, cI_t h⟩
        · exact Or.inr ⟨h, cI_f h⟩
      refine r_iload C dX7_sumOfBasis_6 lg_6 ?_
      refine r_bipush C dX7_sumOfBasis_8 (by decide) ?_
      refine r_icge C (tgt := 45) dX7_sumOfBasis_10 (by decide) (by omega) (by omega) (fun c10 => ?_) (fun c10 => ?_)
      · refine r_lload C dX7_sumOfBasis_45 lg_4 ?_
        exact f_J F dX7_sumOfBasis_47 (by omega) ⟨by rw [h4, show i = 60 by omega], rfl, rfl⟩ (Nat.le_of_ble_eq_true rfl) (Nat.le_of_ble_eq_true rfl)
      · refine r_aload_n C dX7_sumOfBasis_13 lg_0 ?_
        refine r_lload_n C dX7_sumOfBasis_14 lg_1 ?_
        refine r_iload C dX7_sumOfBasis_15 lg_6 ?_
        refine q_V2A C (cB_chosen hfl hCK0 hn ⟨h1, by omega⟩) dX7_sumOfBasis_17 lk_X7_228 hl6 ⟨Nat.le_of_ble_eq_true rfl, Nat.le_of_ble_eq_true rfl⟩ (catLe (Nat.le_of_ble_eq_true rfl)) ⟨rfl, rfl⟩ rfl (Nat.le_of_ble_eq_true rfl) (Nat.le_of_ble_eq_true rfl) (fun z17 S17 A17 i17 p17 => ?_)
        obtain ⟨rfl, rfl, rfl⟩ := p17
        refine r_astore C dX7_sumOfBasis_20 (ls1_7 (cat_R _ _ _) rfl) ?_
        refine r_aload C dX7_sumOfBasis_22 lg_7 ?_
        refine r_ifnull C (tgt := 39) dX7_sumOfBasis_24 (by decide) (fun c24 => ?_) (fun c24 => ?_)
        · have hno : ¬ (hasB s i ∧ i < R.n) := by
            rcases hcz with ⟨a1, a2, a3⟩ | ⟨a1, a2⟩
            · exfalso; omega
            · exact a1
          have hstep : cI (hasB s i ∧ i < R.n) (bsC S b i) 0 = 0 := cI_f hno
          refine r_iinc C dX7_sumOfBasis_39 lg_6 (ls1_6 rfl trivial) ?_
          refine r_goto C (tgt := 6) dX7_sumOfBasis_42 (by decide) ?_
          refine r_le C (lle_k (lle_k (lle_k (lle_k (lle_k (lle_k (lle_k (lle_f lle_0)))))))) ?_
          exact ih (i + 1) _ (by omega) (by omega) (by rw [sumI_s _ h1, h4]; show _ = _ + cI _ _ _; rw [hstep]; try rw [Int.add_zero]) (by omega) (by omega)
        · have hq9 : hasB s i ∧ i < R.n ∧ chZ R s i = i := by
            rcases hcz with h | ⟨h, e⟩
            · exact h
            · exfalso; omega
          obtain ⟨hbi, hin, hzi⟩ := hq9
          have hb9 := hbb i h1 hin hbi
          have hstep : cI (hasB s i ∧ i < R.n) (bsC S b i) 0 = bsC S b i := cI_t ⟨hbi, hin⟩
          refine r_lload C dX7_sumOfBasis_27 lg_4 ?_
          refine r_aload_n C dX7_sumOfBasis_29 lg_0 ?_
          refine r_aload C dX7_sumOfBasis_30 lg_7 ?_
          refine r_iload_n C dX7_sumOfBasis_32 lg_3 ?_
          refine q_V2J C (cB_basis hfl hl6 l9 h196 (by rw [hzi]; exact ⟨h1, by omega⟩) hb (by rw [hzi]; exact (hrw i h1 hin hbi).1) (by rw [hzi]; exact (hrw i h1 hin hbi).2.1) (by rw [hzi]; exact (hrw i h1 hin hbi).2.2.1) (by rw [hzi]; exact (hrw i h1 hin hbi).2.2.2)) dX7_sumOfBasis_33 lk_X7_260 hl6 ⟨Nat.le_of_ble_eq_true rfl, Nat.le_of_ble_eq_true rfl⟩ (catLe (Nat.le_of_ble_eq_true rfl)) ⟨rfl, rfl⟩ rfl (Nat.le_of_ble_eq_true rfl) (Nat.le_of_ble_eq_true rfl) (fun z33 S33 A33 i33 p33 => ?_)
          obtain ⟨rfl, rfl, rfl⟩ := p33
          rw [hzi]
          refine r_ladd C dX7_sumOfBasis_36 ?_
          refine r_lstore C dX7_sumOfBasis_37 (ls2_4 rfl rfl) ?_
          refine r_iinc C dX7_sumOfBasis_39 lg_6 (ls1_6 rfl trivial) ?_
          refine r_goto C (tgt := 6) dX7_sumOfBasis_42 (by decide) ?_
          refine r_le C (lle_k (lle_k (lle_k (lle_k (lle_k (lle_k (lle_k (lle_f lle_0)))))))) ?_
          exact ih (i + 1) _ (by omega) (by omega) (by rw [sumI_s _ h1, h4]; show _ = _ + cI _ _ _; rw [hstep]; try rw [Int.add_zero]) (by omega) (by omega)
  refine r_lconst C dX7_sumOfBasis_0 0 rfl ?_
  refine r_lstore C dX7_sumOfBasis_1 (ls2_4 rfl rfl) ?_
  refine r_iconst C dX7_sumOfBasis_3 ?_
  refine r_istore C dX7_sumOfBasis_4 (ls1_6 rfl trivial) ?_
  exact lp 61 0 0 (by omega) (by omega) rfl (by omega) (by omega)
