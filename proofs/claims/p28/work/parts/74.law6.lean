/-! the law: places, costs of issues, parts -/
def amR (R : RW) (m : Int) : Int := if R.kd m = 3 then R.co m else 0
theorem fst_s : ∀ (L : List Int), L.Nodup → ∀ j : Nat, j < L.length → ∃ x ∈ L, fst x L = j
  | [], _, j, h => absurd h (Nat.not_lt_zero _)
  | x :: t, hn, 0, _ => ⟨x, List.mem_cons_self, by show (if x = x then 0 else 1 + fst x t) = ((0 : Nat) : Int); rw [if_pos rfl]; rfl⟩
  | x :: t, hn, j + 1, h => by
    obtain ⟨n1, n2⟩ := List.nodup_cons.mp hn
    obtain ⟨y, hy, e⟩ := fst_s t n2 j (by rw [List.length_cons] at h; omega)
    refine ⟨y, List.mem_cons_of_mem _ hy, ?_⟩
    show (if x = y then 0 else 1 + fst y t) = ((j + 1 : Nat) : Int)
    rw [if_neg (fun q => n1 (by rw [q]; exact hy)), e]
    omega
theorem bit_or0 {s j : Int} (j0 : 0 ≤ j) (j1 : j < 64) : hasB (fLor s 0) j ↔ hasB s j := by
  rw [has_bit j0 j1, has_bit j0 j1]
  unfold bitB fLor
  rw [← (lI_of _).1]
  have e : (lI s ||| lI 0).toBitVec = (lI s).toBitVec ||| 0#64 := rfl
  rw [e, BitVec.or_zero]
/-- the places that are taken -/
def PB (R : RW) (P k : Int) : Prop := ∀ j, 0 ≤ j → j < 64 → (hasB P j ↔ ∃ i, (0 ≤ i ∧ i < k) ∧ R.gn i = 0 ∧ fst i (LdR R) = j)
theorem pb_0 (R : RW) : PB R 0 0 := fun j j0 j1 => ⟨fun h => absurd h (bit_z j0 j1), fun ⟨i, ⟨i0, i1⟩, _⟩ => by omega⟩
theorem pb_s {R : RW} {P k : Int} (hk : 0 ≤ k) (hg : R.gn k = 0) (hp : 0 ≤ fst k (LdR R) ∧ fst k (LdR R) < 64) (h : PB R P k) : PB R (fLor P (fLshl 1 (fst k (LdR R)))) (k + 1) := by
  intro j j0 j1
  rw [bit_or hp.1 hp.2 j0 j1, h j j0 j1]
  constructor
  · rintro (⟨i, ⟨i0, i1⟩, i2, i3⟩ | e)
    · exact ⟨i, ⟨i0, by omega⟩, i2, i3⟩
    · exact ⟨k, ⟨hk, by omega⟩, hg, e.symm⟩
  · rintro ⟨i, ⟨i0, i1⟩, i2, i3⟩
    by_cases e : i = k
    · subst e; exact Or.inr i3.symm
    · exact Or.inl ⟨i, ⟨i0, by omega⟩, i2, i3⟩
theorem pb_n {R : RW} {P k : Int} (hg : ¬ R.gn k = 0) (h : PB R P k) : PB R (fLor P 0) (k + 1) := by
  intro j j0 j1
  rw [bit_or0 j0 j1, h j j0 j1]
  constructor
  · rintro ⟨i, ⟨i0, i1⟩, i2, i3⟩
    exact ⟨i, ⟨i0, by omega⟩, i2, i3⟩
  · rintro ⟨i, ⟨i0, i1⟩, i2, i3⟩
    by_cases e : i = k
    · subst e; exact absurd i2 hg
    · exact ⟨i, ⟨i0, by omega⟩, i2, i3⟩
theorem pb_has {R : RW} (hR : RG R) {P k : Int} (hk : 0 ≤ k ∧ k < R.n) (hg : R.gn k = 0) (hp : 0 ≤ fst k (LdR R) ∧ fst k (LdR R) < 64) (h : PB R P k) : ¬ hasB P (fst k (LdR R)) := by
  intro hb
  have hn := hR.1
  obtain ⟨i, ⟨i0, i1⟩, i2, i3⟩ := (h _ hp.1 hp.2).mp hb
  have := fst_i (LdR R) ((led_mem R.dy R.gn R.n.toNat).mpr ⟨by omega, i2⟩) ((led_mem R.dy R.gn R.n.toNat).mpr ⟨by omega, hg⟩) i3
  omega
def cnt9 (R : RW) : Int → Int := fun m => if R.gn m = 0 then 1 else 0
theorem cnt9_n {R : RW} (hR : RG R) : sumI (cnt9 R) R.n = ((LdR R).length : Int) := (led_cnt R.dy R.gn R.n.toNat).symm
theorem pb_all {R : RW} (hR : RG R) {P : Int} (hP : rL P) (h : PB R P R.n) : P = fLshl 1 (sumI (cnt9 R) R.n) - 1 := by
  have hn := hR.1
  have hl : (LdR R).length ≤ R.n.toNat := led_len R.dy R.gn R.n.toNat
  rw [cnt9_n hR]
  refine bits_all hP ⟨by omega, by omega⟩ (fun j j0 j1 => ?_)
  rw [h j j0 j1]
  constructor
  · rintro ⟨i, ⟨i0, i1⟩, i2, i3⟩
    have := (fst_b (m := i) (LdR R)).2.2 ((led_mem R.dy R.gn R.n.toNat).mpr ⟨by omega, i2⟩)
    omega
  · intro hj
    obtain ⟨x, hx, e⟩ := fst_s (LdR R) (led_nd R.dy R.gn R.n.toNat) j.toNat (by omega)
    have h9 := (led_mem R.dy R.gn R.n.toNat).mp hx
    exact ⟨x, ⟨h9.1.1, by omega⟩, h9.2, by omega⟩
theorem cost_is {R : RW} {m y z : Int} (h : (z = cI (y = 0) (c0R R m) (c1R R m) ∧ ((0 ≤ m ∧ m < R.n) ∧ (R.kd m = 1 ∧ R.gn m = 0))) ∨ (z = -5 ∧ ¬ (0 ≤ m ∧ m < R.n)) ∨ (z = -7 ∧ (0 ≤ m ∧ m < R.n) ∧ ¬ (R.kd m = 1 ∧ R.gn m = 0))) (hm : 0 ≤ m ∧ m < R.n) (hI : R.kd m = 1 ∧ R.gn m = 0) : z = cI (y = 0) (c0R R m) (c1R R m) := by
  rcases h with h | h | h
  · exact h.1
  · exact absurd hm h.2
  · exact absurd hI h.2.2
theorem cost_no {R : RW} {m y z : Int} (h : (z = cI (y = 0) (c0R R m) (c1R R m) ∧ ((0 ≤ m ∧ m < R.n) ∧ (R.kd m = 1 ∧ R.gn m = 0))) ∨ (z = -5 ∧ ¬ (0 ≤ m ∧ m < R.n)) ∨ (z = -7 ∧ (0 ≤ m ∧ m < R.n) ∧ ¬ (R.kd m = 1 ∧ R.gn m = 0))) (hm : 0 ≤ m ∧ m < R.n) (hI : ¬ (R.kd m = 1 ∧ R.gn m = 0)) : z = -7 := by
  rcases h with h | h | h
  · exact absurd h.2.2 hI
  · exact absurd hm h.2
  · exact h.1
theorem cost_bad {R : RW} {m y z : Int} (h : (z = cI (y = 0) (c0R R m) (c1R R m) ∧ ((0 ≤ m ∧ m < R.n) ∧ (R.kd m = 1 ∧ R.gn m = 0))) ∨ (z = -5 ∧ ¬ (0 ≤ m ∧ m < R.n)) ∨ (z = -7 ∧ (0 ≤ m ∧ m < R.n) ∧ ¬ (R.kd m = 1 ∧ R.gn m = 0))) (hm : ¬ (0 ≤ m ∧ m < R.n)) : z = -5 := by
  rcases h with h | h | h
  · exact absurd h.2.1 hm
  · exact h.1
  · exact absurd h.2.1 hm
theorem part_3 {R : RW} {a b z : Int} (h : (z = R.pt (60 * a + b) ∧ ((0 ≤ a ∧ a < R.n) ∧ (0 ≤ b ∧ b < R.n)) ∧ R.kd a = 3) ∨ (z = -5 ∧ ¬ ((0 ≤ a ∧ a < R.n) ∧ (0 ≤ b ∧ b < R.n))) ∨ (z = -7 ∧ ((0 ≤ a ∧ a < R.n) ∧ (0 ≤ b ∧ b < R.n)) ∧ ¬ R.kd a = 3)) (ha : 0 ≤ a ∧ a < R.n) (hb : 0 ≤ b ∧ b < R.n) : (R.kd a = 3 → z = R.pt (60 * a + b)) ∧ (¬ R.kd a = 3 → z = -7) := by
  rcases h with h | h | h
  · exact ⟨fun _ => h.1, fun q => absurd h.2.2 q⟩
  · exact absurd ⟨ha, hb⟩ h.2
  · exact ⟨fun q => absurd q h.2.2, fun _ => h.1⟩
theorem part_bad {R : RW} {a b z : Int} (h : (z = R.pt (60 * a + b) ∧ ((0 ≤ a ∧ a < R.n) ∧ (0 ≤ b ∧ b < R.n)) ∧ R.kd a = 3) ∨ (z = -5 ∧ ¬ ((0 ≤ a ∧ a < R.n) ∧ (0 ≤ b ∧ b < R.n))) ∨ (z = -7 ∧ ((0 ≤ a ∧ a < R.n) ∧ (0 ≤ b ∧ b < R.n)) ∧ ¬ R.kd a = 3)) (ha : ¬ ((0 ≤ a ∧ a < R.n) ∧ (0 ≤ b ∧ b < R.n))) : z = -5 := by
  rcases h with h | h | h
  · exact absurd h.2.1 ha
  · exact h.1
  · exact absurd h.2.1 ha
/-- a landed cost's parts, one by one -/
theorem part_f {R : RW} (hR : RG R) (hX : RX R) {k j : Int} (hk : 0 ≤ k ∧ k < R.n) (k3 : R.kd k = 3) (hj : 0 ≤ j ∧ j < R.n) : (0 ≤ R.pt (60 * k + j) ∧ R.pt (60 * k + j) ≤ 2000000) ∧ (¬ R.pt (60 * k + j) = 0 → R.kd j = 0 ∧ j < k ∧ R.dy j ≤ R.dy k) := by
  have hn := hR.1
  have h1 := ((hR.2 k hk.1 hk.2).2 k3).2.2 j hj.1 (by omega)
  have h2 := (hX k hk.1 hk.2 k3).1 j hj.1 (by omega)
  refine ⟨h1.1, fun q => ?_⟩
  have hb : hasB (R.sp k) j := Classical.byContradiction fun z => q (h2.1 z)
  exact ⟨(h1.2 hb).2, (h1.2 hb).1, h2.2 hb⟩
theorem part_n {R : RW} (hR : RG R) (hR2 : RG2 R) (hX : RX R) {k : Int} (hk : 0 ≤ k ∧ k < R.n) (k3 : R.kd k = 3) : sumI (fun r => R.pt (60 * k + r)) R.n = R.co k := by
  have hn := hR.1
  rw [← (hX k hk.1 hk.2 k3).2]
  have e5 := sumN_z (f := fun r => R.pt (60 * k + r)) (n := R.n.toNat) (60 - R.n.toNat) (fun r k0 k1 => ((hX k hk.1 hk.2 k3).1 r (by omega) (by omega)).1 (hR2.2.1 k hk.1 hk.2 k3 r (by omega) (by omega)))
  rw [show R.n.toNat + (60 - R.n.toNat) = 60 by omega] at e5
  exact e5.symm
set_option maxRecDepth 20000 in
theorem cQ_areMovements {G : GT} {l : Launch} (hfl : l.stackTraces = false) {S : ST} {A : AB} {R : RW} (hP : PI R S A) (hX : RX R) (h41 : lv1 A 41 0) (ham : ∀ m, 0 ≤ m → m < R.n → S 1312 m = amR R m) : CT G l yL_areMovements cL_areMovements 17 (some .boolean) (rmk 9 11300 67800 171) S A [vR A 6 0, vR A 41 0] (oZ fun z S' A' => 1 = z ∧ A = A' ∧ Fr QF S S') (noX) := by
  have hl6 := hP.1.1.1
  refine ct_ofN (own := RL) (mn := "areMovements") rfl rfl (by decide) hfl (lv0 := [some (vR A 6 0), some (vR A 41 0), none, none, none, none, none, none, none, none, none, none, none, none, none, none, none]) (ent_1 (cat_R _ _ _) (ent_1 (cat_R _ _ _) (ent_n (ent_n (ent_n (ent_n (ent_n (ent_n (ent_n (ent_n (ent_n (ent_n (ent_n (ent_n (ent_n (ent_n (ent_n ent_0))))))))))))))))) rfl ?_
  intro J X C F FX FT FU hW hA
  have hP0 := hP
  obtain ⟨hCK0, hR, hR2, hV⟩ := id hP
  have hn := hR.1
  obtain ⟨cs1, cs2⟩ := cost_sum hR hV
  have lpC : ∀ (N : Nat) (j f g : Int) (S1 : ST) (k9 n9 : Nat) (h1 : 0 ≤ j) (h2 : j ≤ 6) (hF1 : Fr QF S S1) (hf : f = sumI (fun m => if R.kd m = 1 ∧ R.gn m = 0 then c0R R m else 0) R.n - sumI (fun i => (wk R i 364).i0) j) (hg : g = sumI (fun m => if R.kd m = 1 ∧ R.gn m = 0 then c1R R m else 0) R.n - sumI (fun i => (wk R i 364).i1) j) (hk9 : k9 ≤ 11280) (hn9 : n9 ≤ 67680) (hN : 6 - j < N), J 514 [some (vR A 6 0), some (vR A 41 0), none, none, some (vI R.n), none, some (vL f), none, some (vL g), none, some (vI 1), some (vI j), none, none, none, none, none] [] S1 A k9 n9 := by
    intro N
    induction N with
    | zero => intro j f g S1 k9 n9 h1 h2 hF1 hf hg hk9 hn9 hN; omega
    | succ N ih =>
      intro j f g S1 k9 n9 h1 h2 hF1 hf hg hk9 hn9 hN
      have hP := pi_fr hP0 hF1
      have hFc := hF1
      refine r_iload C dL_areMovements_514 lg_11 ?_
      refine r_bipush C dL_areMovements_516 (by decide) ?_
      refine r_icge C (tgt := 557) dL_areMovements_518 (by decide) (by omega) (by omega) (fun c518 => ?_) (fun c518 => ?_)
      · have hj6 : j = 6 := by omega
        rw [hj6] at hf hg
        have hf0 : f = 0 := by omega
        have hg0 : g = 0 := by omega
        refine r_iload C dL_areMovements_557 lg_10 ?_
        refine r_ifeq C (tgt := 634) dL_areMovements_559 (by decide) (by omega) (fun c559 => ?_) (fun c559 => ?_)
        · exfalso; omega
        · refine r_lload C dL_areMovements_562 lg_6 ?_
          refine r_lconst C dL_areMovements_564 0 rfl ?_
          refine r_lcne C (tgt := 634) dL_areMovements_565 dL_areMovements_566 (by decide) (by omega) (by omega) (fun c565 => ?_) (fun c565 => ?_)
          · exfalso; omega
          · refine r_lload C dL_areMovements_569 lg_8 ?_
            refine r_lconst C dL_areMovements_571 0 rfl ?_
            refine r_lcne C (tgt := 634) dL_areMovements_572 dL_areMovements_573 (by decide) (by omega) (by omega) (fun c572 => ?_) (fun c572 => ?_)
            · exfalso; omega
            · refine r_aload_n C dL_areMovements_576 lg_0 ?_
              refine r_iload C dL_areMovements_577 lg_4 ?_
              refine r_iload C dL_areMovements_579 lg_4 ?_
              refine r_iconst C dL_areMovements_581 ?_
              refine r_irem C dL_areMovements_582 (by omega) (by omega) (by omega) (by omega) ?_
              refine r_W3I C (cQ_movement hfl hP (by omega) (by omega) (by omega)) dL_areMovements_583 lk_L_142 ⟨Nat.le_of_ble_eq_true rfl, Nat.le_of_ble_eq_true rfl⟩ (catLe (Nat.le_of_ble_eq_true rfl)) 1 6 ⟨rfl, rfl⟩ (show _ ≤ 11300 by omega) (show _ ≤ 67800 by omega) (fun _ _ _ h9 => h9.elim) (fun z583 S583 A583 i583 p583 => ?_)
              obtain ⟨rfl, rfl, rfl⟩ := p583
              refine r_bipush C dL_areMovements_586 (by decide) ?_
              refine r_icne C (tgt := 634) dL_areMovements_588 (by decide) (by omega) (by omega) (fun c588 => ?_) (fun c588 => ?_)
              · exfalso; omega
              · refine r_aload_n C dL_areMovements_591 lg_0 ?_
                refine r_iconst C dL_areMovements_592 ?_
                refine r_iload C dL_areMovements_593 lg_4 ?_
                refine r_iconst C dL_areMovements_595 ?_
                refine r_irem C dL_areMovements_596 (by omega) (by omega) (by omega) (by omega) ?_
                refine r_W3I C (cQ_movement hfl hP (by omega) (by omega) (by omega)) dL_areMovements_597 lk_L_142 ⟨Nat.le_of_ble_eq_true rfl, Nat.le_of_ble_eq_true rfl⟩ (catLe (Nat.le_of_ble_eq_true rfl)) 1 6 ⟨rfl, rfl⟩ (show _ ≤ 11300 by omega) (show _ ≤ 67800 by omega) (fun _ _ _ h9 => h9.elim) (fun z597 S597 A597 i597 p597 => ?_)
                obtain ⟨rfl, rfl, rfl⟩ := p597
                refine r_bipush C dL_areMovements_600 (by decide) ?_
                refine r_icne C (tgt := 634) dL_areMovements_602 (by decide) (by omega) (by omega) (fun c602 => ?_) (fun c602 => ?_)
                · exfalso; omega
                · refine r_aload_n C dL_areMovements_605 lg_0 ?_
                  refine r_iload C dL_areMovements_606 lg_4 ?_
                  refine r_iconst C dL_areMovements_608 ?_
                  refine r_W3I C (cQ_partOf hfl hP hX (by omega) (by omega)) dL_areMovements_609 lk_L_139 ⟨Nat.le_of_ble_eq_true rfl, Nat.le_of_ble_eq_true rfl⟩ (catLe (Nat.le_of_ble_eq_true rfl)) 3 18 ⟨rfl, rfl⟩ (show _ ≤ 11300 by omega) (show _ ≤ 67800 by omega) (fun _ _ _ h9 => h9.elim) (fun z609 S609 A609 i609 p609 => ?_)
                  obtain ⟨e609, rfl, rfl⟩ := p609
                  have e609 := part_bad e609 (by omega)
                  subst e609
                  refine r_bipush C dL_areMovements_612 (by decide) ?_
                  refine r_icne C (tgt := 634) dL_areMovements_614 (by decide) (by omega) (by omega) (fun c614 => ?_) (fun c614 => ?_)
                  · exfalso; omega
                  · refine r_aload_n C dL_areMovements_617 lg_0 ?_
                    refine r_iconst C dL_areMovements_618 ?_
                    refine r_iconst C dL_areMovements_619 ?_
                    refine r_W3J C (cQ_costOf hfl hP (by omega) (by omega)) dL_areMovements_620 lk_L_136 ⟨Nat.le_of_ble_eq_true rfl, Nat.le_of_ble_eq_true rfl⟩ (catLe (Nat.le_of_ble_eq_true rfl)) 2 12 ⟨rfl, rfl⟩ (show _ ≤ 11300 by omega) (show _ ≤ 67800 by omega) (fun _ _ _ h9 => h9.elim) (fun z620 S620 A620 i620 p620 => ?_)
                    obtain ⟨e620, rfl, hF620⟩ := p620
                    have hP := pi_fr hP hF620
                    have hFc := hFc.tr hF620
                    have e620 := cost_bad e620 (by omega)
                    subst e620
                    refine r_ldc2 C dL_areMovements_623 cs_L_64 (-5) (by decide) ?_
                    refine r_lcne C (tgt := 634) dL_areMovements_626 dL_areMovements_627 (by decide) (by omega) (by omega) (fun c626 => ?_) (fun c626 => ?_)
                    · exfalso; omega
                    · refine r_iconst C dL_areMovements_630 ?_
                      refine r_goto C (tgt := 635) dL_areMovements_631 (by decide) ?_
                      exact f_Z F dL_areMovements_635 (by omega) ⟨rfl, rfl, hFc⟩ (show _ ≤ 11300 by omega) (show _ ≤ 67800 by omega)
      · refine r_lload C dL_areMovements_521 lg_6 ?_
        refine r_aload_n C dL_areMovements_523 lg_0 ?_
        refine r_iload C dL_areMovements_524 lg_11 ?_
        refine r_sipush C dL_areMovements_526 (by decide) ?_
        refine r_iconst C dL_areMovements_529 ?_
        refine q_V3J C (cZ_issued hfl hP ⟨⟨h1, by omega⟩, by omega⟩ (Or.inl rfl)) dL_areMovements_530 lk_L_97 hl6 ⟨Nat.le_of_ble_eq_true rfl, Nat.le_of_ble_eq_true rfl⟩ (catLe (Nat.le_of_ble_eq_true rfl)) ⟨rfl, rfl⟩ rfl (show _ ≤ 11300 by omega) (show _ ≤ 67800 by omega) (fun z530 S530 A530 i530 p530 => ?_)
        obtain ⟨rfl, rfl, hF530⟩ := p530
        have hP := pi_fr hP hF530
        have hFc := hFc.tr hF530
        rw [cI_t rfl]
        refine r_lsub C dL_areMovements_533 ?_
        refine r_lstore C dL_areMovements_534 (ls2_6 rfl trivial) ?_
        refine r_lload C dL_areMovements_536 lg_8 ?_
        refine r_aload_n C dL_areMovements_538 lg_0 ?_
        refine r_iload C dL_areMovements_539 lg_11 ?_
        refine r_sipush C dL_areMovements_541 (by decide) ?_
        refine r_iconst C dL_areMovements_544 ?_
        refine q_V3J C (cZ_issued hfl hP ⟨⟨h1, by omega⟩, by omega⟩ (Or.inr rfl)) dL_areMovements_545 lk_L_97 hl6 ⟨Nat.le_of_ble_eq_true rfl, Nat.le_of_ble_eq_true rfl⟩ (catLe (Nat.le_of_ble_eq_true rfl)) ⟨rfl, rfl⟩ rfl (show _ ≤ 11300 by omega) (show _ ≤ 67800 by omega) (fun z545 S545 A545 i545 p545 => ?_)
        obtain ⟨rfl, rfl, hF545⟩ := p545
        have hP := pi_fr hP hF545
        have hFc := hFc.tr hF545
        rw [cI_f (show ¬ (1 : Int) = 0 by decide)]
        refine r_lsub C dL_areMovements_548 ?_
        refine r_lstore C dL_areMovements_549 (ls2_8 rfl trivial) ?_
        refine r_iinc C dL_areMovements_551 lg_11 (ls1_11 rfl rfl) ?_
        refine r_goto C (tgt := 514) dL_areMovements_554 (by decide) ?_
        exact ih (j + 1) _ _ _ _ _ (by omega) (by omega) hFc (by rw [sumI_s _ h1]; omega) (by rw [sumI_s _ h1]; omega) hk9 hn9 (by omega)
  have lp : ∀ (N : Nat) (k P c fi me : Int) (S1 : ST) (k9 n9 : Nat) (h1 : 0 ≤ k) (h2 : k ≤ R.n) (hF1 : Fr QF S S1) (hPr : rL P) (hbit : PB R P k) (hc : c = sumI (cnt9 R) k) (hfi : fi = sumI (fun m => if R.kd m = 1 ∧ R.gn m = 0 then c0R R m else 0) k) (hme : me = sumI (fun m => if R.kd m = 1 ∧ R.gn m = 0 then c1R R m else 0) k) (hk9 : k9 ≤ 188 * k) (hn9 : n9 ≤ 1128 * k) (hN : R.n - k < N), J 23 [some (vR A 6 0), some (vR A 41 0), some (vL P), none, some (vI R.n), some (vI c), some (vL fi), none, some (vL me), none, some (vI 1), some (vI k), none, none, none, none, none] [] S1 A k9 n9 := by
    intro N
    induction N with
    | zero => intro k P c fi me S1 k9 n9 h1 h2 hF1 hPr hbit hc hfi hme hk9 hn9 hN; omega
    | succ N ih =>
      intro k P c fi me S1 k9 n9 h1 h2 hF1 hPr hbit hc hfi hme hk9 hn9 hN
      have hP := pi_fr hP0 hF1
      have hFc := hF1
      have ihO := ih
      have body : ∀ (hk : 0 ≤ k ∧ k < R.n), J 35 [some (vR A 6 0), some (vR A 41 0), some (vL P), none, some (vI R.n), some (vI c), some (vL fi), none, some (vL me), none, some (vI 1), some (vI k), none, none, none, none, none] [] S1 A k9 n9 := by
        intro hk
        have hfb := fst_b (m := k) (LdR R)
        have hll : (LdR R).length ≤ R.n.toNat := led_len R.dy R.gn R.n.toNat
        have j212 : ∀ (P1 c1 p : Int) (hpr : -1 ≤ p ∧ p ≤ 60) (hp0 : R.gn k = 0 → 0 ≤ p) (hpI : R.kd k = 1 → 0 ≤ p → R.kd k = 1 ∧ R.gn k = 0) (hPr1 : rL P1) (hb1 : PB R P1 (k + 1)) (hc1 : c1 = sumI (cnt9 R) (k + 1)), J 212 [some (vR A 6 0), some (vR A 41 0), some (vL P1), none, some (vI R.n), some (vI c1), some (vL fi), none, some (vL me), none, some (vI 1), some (vI k), some (vI p), none, none, none, none] [] S1 A k9 n9 := by
          intro P1 c1 p hpr hp0 hpI hPr1 hb1 hc1
          have hrk := (hR.2 k hk.1 hk.2).1
          clear ih
          have lp3 : ∀ (N : Nat) (j lf f1 g1 : Int) (S2 : ST) (k8 n8 : Nat) (j0 : 0 ≤ j) (j1 : j ≤ R.n) (hF2 : Fr QF S S2) (hf1 : f1 = sumI (fun m => if R.kd m = 1 ∧ R.gn m = 0 then c0R R m else 0) (k + 1)) (hg1 : g1 = sumI (fun m => if R.kd m = 1 ∧ R.gn m = 0 then c1R R m else 0) (k + 1)) (k3 : R.kd k = 3) (hlf : lf = R.co k - sumI (fun r => R.pt (60 * k + r)) j) (hlb : -(2000000 * j) ≤ lf ∧ lf ≤ 1000000) (hk8 : k8 ≤ 188 * k + 8 + 3 * j) (hn8 : n8 ≤ 1128 * k + 48 + 18 * j) (hN : R.n - j < N), J 343 [some (vR A 6 0), some (vR A 41 0), some (vL P1), none, some (vI R.n), some (vI c1), some (vL f1), none, some (vL g1), none, some (vI 1), some (vI k), none, none, some (vI lf), some (vI j), none] [] S2 A k8 n8 := by
            intro N
            induction N with
            | zero => intro j lf f1 g1 S2 k8 n8 j0 j1 hF2 hf1 hg1 k3 hlf hlb hk8 hn8 hN; omega
            | succ N ih =>
              intro j lf f1 g1 S2 k8 n8 j0 j1 hF2 hf1 hg1 k3 hlf hlb hk8 hn8 hN
              have hP := pi_fr hP0 hF2
              have hFc := hF2
              refine r_iload C dL_areMovements_343 lg_15 ?_
              refine r_iload C dL_areMovements_345 lg_4 ?_
              refine r_icge C (tgt := 465) dL_areMovements_347 (by decide) (by omega) (by omega) (fun c347 => ?_) (fun c347 => ?_)
              · have hj9 : j = R.n := by omega
                rw [hj9, part_n hR hR2 hX hk k3] at hlf
                refine r_iload C dL_areMovements_465 lg_10 ?_
                refine r_ifeq C (tgt := 479) dL_areMovements_467 (by decide) (by omega) (fun c467 => ?_) (fun c467 => ?_)
                · exfalso; omega
                · refine r_iload C dL_areMovements_470 lg_14 ?_
                  refine r_ifne C (tgt := 479) dL_areMovements_472 (by decide) (by omega) (fun c472 => ?_) (fun c472 => ?_)
                  · exfalso; omega
                  · refine r_iconst C dL_areMovements_475 ?_
                    refine r_goto C (tgt := 480) dL_areMovements_476 (by decide) ?_
                    refine r_istore C dL_areMovements_480 (ls1_10 rfl trivial) ?_
                    refine r_iinc C dL_areMovements_482 lg_11 (ls1_11 rfl rfl) ?_
                    refine r_goto C (tgt := 23) dL_areMovements_485 (by decide) ?_
                    refine r_le C (lle_k (lle_k (lle_k (lle_k (lle_k (lle_k (lle_k (lle_k (lle_k (lle_k (lle_k (lle_k (lle_k (lle_k (lle_f (lle_f (lle_k lle_0))))))))))))))))) ?_
                    exact ihO (k + 1) _ _ _ _ _ _ _ (by omega) (by omega) hFc hPr1 hb1 hc1 hf1 hg1 (by omega) (by omega) (by omega)
              · refine r_iload C dL_areMovements_350 lg_10 ?_
                refine r_ifeq C (tgt := 465) dL_areMovements_352 (by decide) (by omega) (fun c352 => ?_) (fun c352 => ?_)
                · exfalso; omega
                · refine r_aload_n C dL_areMovements_355 lg_0 ?_
                  refine r_iload C dL_areMovements_356 lg_11 ?_
                  refine r_iload C dL_areMovements_358 lg_15 ?_
                  refine r_W3I C (cQ_partOf hfl hP hX (by omega) (by omega)) dL_areMovements_360 lk_L_139 ⟨Nat.le_of_ble_eq_true rfl, Nat.le_of_ble_eq_true rfl⟩ (catLe (Nat.le_of_ble_eq_true rfl)) 3 18 ⟨rfl, rfl⟩ (show _ ≤ 11300 by omega) (show _ ≤ 67800 by omega) (fun _ _ _ h9 => h9.elim) (fun z360 S360 A360 i360 p360 => ?_)
                  obtain ⟨e360, rfl, rfl⟩ := p360
                  have e360 := (part_3 e360 hk ⟨j0, by omega⟩).1 k3
                  subst e360
                  obtain ⟨⟨t1, t2⟩, t3⟩ := part_f hR hX hk k3 ⟨j0, (by omega : j < R.n)⟩
                  refine r_istore C dL_areMovements_363 (ls1_16 rfl rfl) ?_
                  refine r_aload_n C dL_areMovements_365 lg_0 ?_
                  refine r_iload C dL_areMovements_366 lg_11 ?_
                  refine q_V1I C (cZ_kindOf hfl hP (by omega)) dL_areMovements_368 lk_L_44 hl6 ⟨Nat.le_of_ble_eq_true rfl, Nat.le_of_ble_eq_true rfl⟩ (catLe (Nat.le_of_ble_eq_true rfl)) ⟨rfl, rfl⟩ rfl (show _ ≤ 11300 by omega) (show _ ≤ 67800 by omega) (fun z368 S368 A368 i368 p368 => ?_)
                  obtain ⟨rfl, rfl, rfl⟩ := p368
                  refine r_iconst C dL_areMovements_371 ?_
                  refine r_icne C (tgt := 424) dL_areMovements_372 (by decide) (by omega) (by omega) (fun c372 => ?_) (fun c372 => ?_)
                  · exfalso; omega
                  · refine r_iload C dL_areMovements_375 lg_16 ?_
                    refine r_iflt C (tgt := 420) dL_areMovements_377 (by decide) (by omega) (fun c377 => ?_) (fun c377 => ?_)
                    · exfalso; omega
                    · refine r_iload C dL_areMovements_380 lg_16 ?_
                      refine r_ifeq C (tgt := 416) dL_areMovements_382 (by decide) (by omega) (fun c382 => ?_) (fun c382 => ?_)
                      · refine r_iconst C dL_areMovements_416 ?_
                        refine r_goto C (tgt := 436) dL_areMovements_417 (by decide) ?_
                        refine r_istore C dL_areMovements_436 (ls1_10 rfl trivial) ?_
                        refine r_iload C dL_areMovements_438 lg_14 ?_
                        refine r_iload C dL_areMovements_440 lg_10 ?_
                        refine r_ifeq C (tgt := 455) dL_areMovements_442 (by decide) (by omega) (fun c442 => ?_) (fun c442 => ?_)
                        · exfalso; omega
                        · refine r_iload C dL_areMovements_445 lg_16 ?_
                          refine r_ifle C (tgt := 455) dL_areMovements_447 (by decide) (by omega) (fun c447 => ?_) (fun c447 => ?_)
                          · refine r_iconst C dL_areMovements_455 ?_
                            refine r_isub C dL_areMovements_456 ?_
                            refine r_istore C dL_areMovements_457 (ls1_14 rfl trivial) ?_
                            refine r_iinc C dL_areMovements_459 lg_15 (ls1_15 rfl rfl) ?_
                            refine r_goto C (tgt := 343) dL_areMovements_462 (by decide) ?_
                            refine r_le C (lle_k (lle_k (lle_k (lle_k (lle_k (lle_k (lle_k (lle_k (lle_k (lle_k (lle_k (lle_k (lle_k (lle_k (lle_k (lle_k (lle_f lle_0))))))))))))))))) ?_
                            exact ih (j + 1) _ _ _ _ _ _ (by omega) (by omega) hFc hf1 hg1 k3 (by rw [sumI_s _ j0]; omega) (by omega) (by omega) (by omega) (by omega)
                          · refine r_iload C dL_areMovements_450 lg_16 ?_
                            refine r_goto C (tgt := 456) dL_areMovements_452 (by decide) ?_
                            refine r_isub C dL_areMovements_456 ?_
                            refine r_istore C dL_areMovements_457 (ls1_14 rfl trivial) ?_
                            refine r_iinc C dL_areMovements_459 lg_15 (ls1_15 rfl rfl) ?_
                            refine r_goto C (tgt := 343) dL_areMovements_462 (by decide) ?_
                            refine r_le C (lle_k (lle_k (lle_k (lle_k (lle_k (lle_k (lle_k (lle_k (lle_k (lle_k (lle_k (lle_k (lle_k (lle_k (lle_k (lle_k (lle_f lle_0))))))))))))))))) ?_
                            exact ih (j + 1) _ _ _ _ _ _ (by omega) (by omega) hFc hf1 hg1 k3 (by rw [sumI_s _ j0]; omega) (by omega) (by omega) (by omega) (by omega)
                      · refine r_aload_n C dL_areMovements_385 lg_0 ?_
                        refine r_iload C dL_areMovements_386 lg_15 ?_
                        refine q_V1I C (cZ_kindOf hfl hP (by omega)) dL_areMovements_388 lk_L_44 hl6 ⟨Nat.le_of_ble_eq_true rfl, Nat.le_of_ble_eq_true rfl⟩ (catLe (Nat.le_of_ble_eq_true rfl)) ⟨rfl, rfl⟩ rfl (show _ ≤ 11300 by omega) (show _ ≤ 67800 by omega) (fun z388 S388 A388 i388 p388 => ?_)
                        obtain ⟨rfl, rfl, rfl⟩ := p388
                        refine r_ifne C (tgt := 420) dL_areMovements_391 (by decide) (by omega) (fun c391 => ?_) (fun c391 => ?_)
                        · exfalso; omega
                        · refine r_iload C dL_areMovements_394 lg_15 ?_
                          refine r_iload C dL_areMovements_396 lg_11 ?_
                          refine r_icge C (tgt := 420) dL_areMovements_398 (by decide) (by omega) (by omega) (fun c398 => ?_) (fun c398 => ?_)
                          · exfalso; omega
                          · refine r_aload_n C dL_areMovements_401 lg_0 ?_
                            refine r_iload C dL_areMovements_402 lg_15 ?_
                            refine q_V1I C (cZ_dayOf hfl hP (by omega)) dL_areMovements_404 lk_L_47 hl6 ⟨Nat.le_of_ble_eq_true rfl, Nat.le_of_ble_eq_true rfl⟩ (catLe (Nat.le_of_ble_eq_true rfl)) ⟨rfl, rfl⟩ rfl (show _ ≤ 11300 by omega) (show _ ≤ 67800 by omega) (fun z404 S404 A404 i404 p404 => ?_)
                            obtain ⟨rfl, rfl, rfl⟩ := p404
                            refine r_aload_n C dL_areMovements_407 lg_0 ?_
                            refine r_iload C dL_areMovements_408 lg_11 ?_
                            refine q_V1I C (cZ_dayOf hfl hP (by omega)) dL_areMovements_410 lk_L_47 hl6 ⟨Nat.le_of_ble_eq_true rfl, Nat.le_of_ble_eq_true rfl⟩ (catLe (Nat.le_of_ble_eq_true rfl)) ⟨rfl, rfl⟩ rfl (show _ ≤ 11300 by omega) (show _ ≤ 67800 by omega) (fun z410 S410 A410 i410 p410 => ?_)
                            obtain ⟨rfl, rfl, rfl⟩ := p410
                            refine r_icgt C (tgt := 420) dL_areMovements_413 (by decide) (by omega) (by omega) (fun c413 => ?_) (fun c413 => ?_)
                            · exfalso; omega
                            · refine r_iconst C dL_areMovements_416 ?_
                              refine r_goto C (tgt := 436) dL_areMovements_417 (by decide) ?_
                              refine r_istore C dL_areMovements_436 (ls1_10 rfl trivial) ?_
                              refine r_iload C dL_areMovements_438 lg_14 ?_
                              refine r_iload C dL_areMovements_440 lg_10 ?_
                              refine r_ifeq C (tgt := 455) dL_areMovements_442 (by decide) (by omega) (fun c442 => ?_) (fun c442 => ?_)
                              · exfalso; omega
                              · refine r_iload C dL_areMovements_445 lg_16 ?_
                                refine r_ifle C (tgt := 455) dL_areMovements_447 (by decide) (by omega) (fun c447 => ?_) (fun c447 => ?_)
                                · refine r_iconst C dL_areMovements_455 ?_
                                  refine r_isub C dL_areMovements_456 ?_
                                  refine r_istore C dL_areMovements_457 (ls1_14 rfl trivial) ?_
                                  refine r_iinc C dL_areMovements_459 lg_15 (ls1_15 rfl rfl) ?_
                                  refine r_goto C (tgt := 343) dL_areMovements_462 (by decide) ?_
                                  refine r_le C (lle_k (lle_k (lle_k (lle_k (lle_k (lle_k (lle_k (lle_k (lle_k (lle_k (lle_k (lle_k (lle_k (lle_k (lle_k (lle_k (lle_f lle_0))))))))))))))))) ?_
                                  exact ih (j + 1) _ _ _ _ _ _ (by omega) (by omega) hFc hf1 hg1 k3 (by rw [sumI_s _ j0]; omega) (by omega) (by omega) (by omega) (by omega)
                                · refine r_iload C dL_areMovements_450 lg_16 ?_
                                  refine r_goto C (tgt := 456) dL_areMovements_452 (by decide) ?_
                                  refine r_isub C dL_areMovements_456 ?_
                                  refine r_istore C dL_areMovements_457 (ls1_14 rfl trivial) ?_
                                  refine r_iinc C dL_areMovements_459 lg_15 (ls1_15 rfl rfl) ?_
                                  refine r_goto C (tgt := 343) dL_areMovements_462 (by decide) ?_
                                  refine r_le C (lle_k (lle_k (lle_k (lle_k (lle_k (lle_k (lle_k (lle_k (lle_k (lle_k (lle_k (lle_k (lle_k (lle_k (lle_k (lle_k (lle_f lle_0))))))))))))))))) ?_
                                  exact ih (j + 1) _ _ _ _ _ _ (by omega) (by omega) hFc hf1 hg1 k3 (by rw [sumI_s _ j0]; omega) (by omega) (by omega) (by omega) (by omega)
          have lpn : ∀ (N : Nat) (j lf f1 g1 : Int) (S2 : ST) (k8 n8 : Nat) (j0 : 0 ≤ j) (j1 : j ≤ R.n) (hF2 : Fr QF S S2) (hf1 : f1 = sumI (fun m => if R.kd m = 1 ∧ R.gn m = 0 then c0R R m else 0) (k + 1)) (hg1 : g1 = sumI (fun m => if R.kd m = 1 ∧ R.gn m = 0 then c1R R m else 0) (k + 1)) (k3 : ¬ R.kd k = 3) (hlf : lf = 0) (hlb : -(2000000 * j) ≤ lf ∧ lf ≤ 1000000) (hk8 : k8 ≤ 188 * k + 8 + 3 * j) (hn8 : n8 ≤ 1128 * k + 48 + 18 * j) (hN : R.n - j < N), J 343 [some (vR A 6 0), some (vR A 41 0), some (vL P1), none, some (vI R.n), some (vI c1), some (vL f1), none, some (vL g1), none, some (vI 1), some (vI k), none, none, some (vI lf), some (vI j), none] [] S2 A k8 n8 := by
            intro N
            induction N with
            | zero => intro j lf f1 g1 S2 k8 n8 j0 j1 hF2 hf1 hg1 k3 hlf hlb hk8 hn8 hN; omega
            | succ N ih =>
              intro j lf f1 g1 S2 k8 n8 j0 j1 hF2 hf1 hg1 k3 hlf hlb hk8 hn8 hN
              have hP := pi_fr hP0 hF2
              have hFc := hF2
              refine r_iload C dL_areMovements_343 lg_15 ?_
              refine r_iload C dL_areMovements_345 lg_4 ?_
              refine r_icge C (tgt := 465) dL_areMovements_347 (by decide) (by omega) (by omega) (fun c347 => ?_) (fun c347 => ?_)
              · skip
                refine r_iload C dL_areMovements_465 lg_10 ?_
                refine r_ifeq C (tgt := 479) dL_areMovements_467 (by decide) (by omega) (fun c467 => ?_) (fun c467 => ?_)
                · exfalso; omega
                · refine r_iload C dL_areMovements_470 lg_14 ?_
                  refine r_ifne C (tgt := 479) dL_areMovements_472 (by decide) (by omega) (fun c472 => ?_) (fun c472 => ?_)
                  · exfalso; omega
                  · refine r_iconst C dL_areMovements_475 ?_
                    refine r_goto C (tgt := 480) dL_areMovements_476 (by decide) ?_
                    refine r_istore C dL_areMovements_480 (ls1_10 rfl trivial) ?_
                    refine r_iinc C dL_areMovements_482 lg_11 (ls1_11 rfl rfl) ?_
                    refine r_goto C (tgt := 23) dL_areMovements_485 (by decide) ?_
                    refine r_le C (lle_k (lle_k (lle_k (lle_k (lle_k (lle_k (lle_k (lle_k (lle_k (lle_k (lle_k (lle_k (lle_k (lle_k (lle_f (lle_f (lle_k lle_0))))))))))))))))) ?_
                    exact ihO (k + 1) _ _ _ _ _ _ _ (by omega) (by omega) hFc hPr1 hb1 hc1 hf1 hg1 (by omega) (by omega) (by omega)
              · refine r_iload C dL_areMovements_350 lg_10 ?_
                refine r_ifeq C (tgt := 465) dL_areMovements_352 (by decide) (by omega) (fun c352 => ?_) (fun c352 => ?_)
                · exfalso; omega
                · refine r_aload_n C dL_areMovements_355 lg_0 ?_
                  refine r_iload C dL_areMovements_356 lg_11 ?_
                  refine r_iload C dL_areMovements_358 lg_15 ?_
                  refine r_W3I C (cQ_partOf hfl hP hX (by omega) (by omega)) dL_areMovements_360 lk_L_139 ⟨Nat.le_of_ble_eq_true rfl, Nat.le_of_ble_eq_true rfl⟩ (catLe (Nat.le_of_ble_eq_true rfl)) 3 18 ⟨rfl, rfl⟩ (show _ ≤ 11300 by omega) (show _ ≤ 67800 by omega) (fun _ _ _ h9 => h9.elim) (fun z360 S360 A360 i360 p360 => ?_)
                  obtain ⟨e360, rfl, rfl⟩ := p360
                  have e360 := (part_3 e360 hk ⟨j0, by omega⟩).2 k3
                  subst e360
                  refine r_istore C dL_areMovements_363 (ls1_16 rfl rfl) ?_
                  refine r_aload_n C dL_areMovements_365 lg_0 ?_
                  refine r_iload C dL_areMovements_366 lg_11 ?_
                  refine q_V1I C (cZ_kindOf hfl hP (by omega)) dL_areMovements_368 lk_L_44 hl6 ⟨Nat.le_of_ble_eq_true rfl, Nat.le_of_ble_eq_true rfl⟩ (catLe (Nat.le_of_ble_eq_true rfl)) ⟨rfl, rfl⟩ rfl (show _ ≤ 11300 by omega) (show _ ≤ 67800 by omega) (fun z368 S368 A368 i368 p368 => ?_)
                  obtain ⟨rfl, rfl, rfl⟩ := p368
                  refine r_iconst C dL_areMovements_371 ?_
                  refine r_icne C (tgt := 424) dL_areMovements_372 (by decide) (by omega) (by omega) (fun c372 => ?_) (fun c372 => ?_)
                  · refine r_iload C dL_areMovements_424 lg_16 ?_
                    refine r_bipush C dL_areMovements_426 (by decide) ?_
                    refine r_icne C (tgt := 435) dL_areMovements_428 (by decide) (by omega) (by omega) (fun c428 => ?_) (fun c428 => ?_)
                    · exfalso; omega
                    · refine r_iconst C dL_areMovements_431 ?_
                      refine r_goto C (tgt := 436) dL_areMovements_432 (by decide) ?_
                      refine r_istore C dL_areMovements_436 (ls1_10 rfl trivial) ?_
                      refine r_iload C dL_areMovements_438 lg_14 ?_
                      refine r_iload C dL_areMovements_440 lg_10 ?_
                      refine r_ifeq C (tgt := 455) dL_areMovements_442 (by decide) (by omega) (fun c442 => ?_) (fun c442 => ?_)
                      · exfalso; omega
                      · refine r_iload C dL_areMovements_445 lg_16 ?_
                        refine r_ifle C (tgt := 455) dL_areMovements_447 (by decide) (by omega) (fun c447 => ?_) (fun c447 => ?_)
                        · refine r_iconst C dL_areMovements_455 ?_
                          refine r_isub C dL_areMovements_456 ?_
                          refine r_istore C dL_areMovements_457 (ls1_14 rfl trivial) ?_
                          refine r_iinc C dL_areMovements_459 lg_15 (ls1_15 rfl rfl) ?_
                          refine r_goto C (tgt := 343) dL_areMovements_462 (by decide) ?_
                          refine r_le C (lle_k (lle_k (lle_k (lle_k (lle_k (lle_k (lle_k (lle_k (lle_k (lle_k (lle_k (lle_k (lle_k (lle_k (lle_k (lle_k (lle_f lle_0))))))))))))))))) ?_
                          exact ih (j + 1) _ _ _ _ _ _ (by omega) (by omega) hFc hf1 hg1 k3 (by omega) (by omega) (by omega) (by omega) (by omega)
                        · refine r_iload C dL_areMovements_450 lg_16 ?_
                          refine r_goto C (tgt := 456) dL_areMovements_452 (by decide) ?_
                          refine r_isub C dL_areMovements_456 ?_
                          refine r_istore C dL_areMovements_457 (ls1_14 rfl trivial) ?_
                          refine r_iinc C dL_areMovements_459 lg_15 (ls1_15 rfl rfl) ?_
                          refine r_goto C (tgt := 343) dL_areMovements_462 (by decide) ?_
                          refine r_le C (lle_k (lle_k (lle_k (lle_k (lle_k (lle_k (lle_k (lle_k (lle_k (lle_k (lle_k (lle_k (lle_k (lle_k (lle_k (lle_k (lle_f lle_0))))))))))))))))) ?_
                          exact ih (j + 1) _ _ _ _ _ _ (by omega) (by omega) hFc hf1 hg1 k3 (by omega) (by omega) (by omega) (by omega) (by omega)
                  · exfalso; omega
          by_cases hI : R.kd k = 1 ∧ R.gn k = 0
          · have hI1 := hI.1
            have hI2 := hp0 hI.2
            obtain ⟨cn1, cn2⟩ := cost_nn hR hV hk.1 hk.2 hI.1 hI.2
            refine r_aload_n C dL_areMovements_212 lg_0 ?_
            refine r_iload C dL_areMovements_213 lg_11 ?_
            refine q_V1I C (cZ_kindOf hfl hP (by omega)) dL_areMovements_215 lk_L_44 hl6 ⟨Nat.le_of_ble_eq_true rfl, Nat.le_of_ble_eq_true rfl⟩ (catLe (Nat.le_of_ble_eq_true rfl)) ⟨rfl, rfl⟩ rfl (show _ ≤ 11300 by omega) (show _ ≤ 67800 by omega) (fun z215 S215 A215 i215 p215 => ?_)
            obtain ⟨rfl, rfl, rfl⟩ := p215
            refine r_iconst C dL_areMovements_218 ?_
            refine r_icne C (tgt := 231) dL_areMovements_219 (by decide) (by omega) (by omega) (fun c219 => ?_) (fun c219 => ?_)
            · exfalso; omega
            · refine r_iload C dL_areMovements_222 lg_12 ?_
              refine r_iflt C (tgt := 231) dL_areMovements_224 (by decide) (by omega) (fun c224 => ?_) (fun c224 => ?_)
              · exfalso; omega
              · refine r_iconst C dL_areMovements_227 ?_
                refine r_goto C (tgt := 232) dL_areMovements_228 (by decide) ?_
                refine r_istore C dL_areMovements_232 (ls1_13 rfl rfl) ?_
                refine r_iload C dL_areMovements_234 lg_10 ?_
                refine r_ifeq C (tgt := 289) dL_areMovements_236 (by decide) (by omega) (fun c236 => ?_) (fun c236 => ?_)
                · exfalso; omega
                · refine r_iload C dL_areMovements_239 lg_13 ?_
                  refine r_ifeq C (tgt := 271) dL_areMovements_241 (by decide) (by omega) (fun c241 => ?_) (fun c241 => ?_)
                  · exfalso; omega
                  · refine r_aload_n C dL_areMovements_244 lg_0 ?_
                    refine r_iload C dL_areMovements_245 lg_11 ?_
                    refine r_iconst C dL_areMovements_247 ?_
                    refine r_W3J C (cQ_costOf hfl hP (by omega) (by omega)) dL_areMovements_248 lk_L_136 ⟨Nat.le_of_ble_eq_true rfl, Nat.le_of_ble_eq_true rfl⟩ (catLe (Nat.le_of_ble_eq_true rfl)) 2 12 ⟨rfl, rfl⟩ (show _ ≤ 11300 by omega) (show _ ≤ 67800 by omega) (fun _ _ _ h9 => h9.elim) (fun z248 S248 A248 i248 p248 => ?_)
                    obtain ⟨e248, rfl, hF248⟩ := p248
                    have hP := pi_fr hP hF248
                    have hFc := hFc.tr hF248
                    have e248 := cost_is e248 hk hI
                    rw [cI_t rfl] at e248
                    subst e248
                    refine r_lconst C dL_areMovements_251 0 rfl ?_
                    refine r_lclt C (tgt := 289) dL_areMovements_252 dL_areMovements_253 (by decide) (by omega) (by omega) (fun c252 => ?_) (fun c252 => ?_)
                    · exfalso; omega
                    · refine r_aload_n C dL_areMovements_256 lg_0 ?_
                      refine r_iload C dL_areMovements_257 lg_11 ?_
                      refine r_iconst C dL_areMovements_259 ?_
                      refine r_W3J C (cQ_costOf hfl hP (by omega) (by omega)) dL_areMovements_260 lk_L_136 ⟨Nat.le_of_ble_eq_true rfl, Nat.le_of_ble_eq_true rfl⟩ (catLe (Nat.le_of_ble_eq_true rfl)) 2 12 ⟨rfl, rfl⟩ (show _ ≤ 11300 by omega) (show _ ≤ 67800 by omega) (fun _ _ _ h9 => h9.elim) (fun z260 S260 A260 i260 p260 => ?_)
                      obtain ⟨e260, rfl, hF260⟩ := p260
                      have hP := pi_fr hP hF260
                      have hFc := hFc.tr hF260
                      have e260 := cost_is e260 hk hI
                      rw [cI_f (show ¬ (1 : Int) = 0 by decide)] at e260
                      subst e260
                      refine r_lconst C dL_areMovements_263 0 rfl ?_
                      refine r_lclt C (tgt := 289) dL_areMovements_264 dL_areMovements_265 (by decide) (by omega) (by omega) (fun c264 => ?_) (fun c264 => ?_)
                      · exfalso; omega
                      · refine r_goto C (tgt := 285) dL_areMovements_268 (by decide) ?_
                        refine r_iconst C dL_areMovements_285 ?_
                        refine r_goto C (tgt := 290) dL_areMovements_286 (by decide) ?_
                        refine r_istore C dL_areMovements_290 (ls1_10 rfl trivial) ?_
                        refine r_lload C dL_areMovements_292 lg_6 ?_
                        refine r_iload C dL_areMovements_294 lg_13 ?_
                        refine r_ifeq C (tgt := 309) dL_areMovements_296 (by decide) (by omega) (fun c296 => ?_) (fun c296 => ?_)
                        · exfalso; omega
                        · refine r_aload_n C dL_areMovements_299 lg_0 ?_
                          refine r_iload C dL_areMovements_300 lg_11 ?_
                          refine r_iconst C dL_areMovements_302 ?_
                          refine r_W3J C (cQ_costOf hfl hP (by omega) (by omega)) dL_areMovements_303 lk_L_136 ⟨Nat.le_of_ble_eq_true rfl, Nat.le_of_ble_eq_true rfl⟩ (catLe (Nat.le_of_ble_eq_true rfl)) 2 12 ⟨rfl, rfl⟩ (show _ ≤ 11300 by omega) (show _ ≤ 67800 by omega) (fun _ _ _ h9 => h9.elim) (fun z303 S303 A303 i303 p303 => ?_)
                          obtain ⟨e303, rfl, hF303⟩ := p303
                          have hP := pi_fr hP hF303
                          have hFc := hFc.tr hF303
                          have e303 := cost_is e303 hk hI
                          rw [cI_t rfl] at e303
                          subst e303
                          refine r_goto C (tgt := 310) dL_areMovements_306 (by decide) ?_
                          refine r_ladd C dL_areMovements_310 ?_
                          refine r_lstore C dL_areMovements_311 (ls2_6 rfl rfl) ?_
                          refine r_lload C dL_areMovements_313 lg_8 ?_
                          refine r_iload C dL_areMovements_315 lg_13 ?_
                          refine r_ifeq C (tgt := 330) dL_areMovements_317 (by decide) (by omega) (fun c317 => ?_) (fun c317 => ?_)
                          · exfalso; omega
                          · refine r_aload_n C dL_areMovements_320 lg_0 ?_
                            refine r_iload C dL_areMovements_321 lg_11 ?_
                            refine r_iconst C dL_areMovements_323 ?_
                            refine r_W3J C (cQ_costOf hfl hP (by omega) (by omega)) dL_areMovements_324 lk_L_136 ⟨Nat.le_of_ble_eq_true rfl, Nat.le_of_ble_eq_true rfl⟩ (catLe (Nat.le_of_ble_eq_true rfl)) 2 12 ⟨rfl, rfl⟩ (show _ ≤ 11300 by omega) (show _ ≤ 67800 by omega) (fun _ _ _ h9 => h9.elim) (fun z324 S324 A324 i324 p324 => ?_)
                            obtain ⟨e324, rfl, hF324⟩ := p324
                            have hP := pi_fr hP hF324
                            have hFc := hFc.tr hF324
                            have e324 := cost_is e324 hk hI
                            rw [cI_f (show ¬ (1 : Int) = 0 by decide)] at e324
                            subst e324
                            refine r_goto C (tgt := 331) dL_areMovements_327 (by decide) ?_
                            refine r_ladd C dL_areMovements_331 ?_
                            refine r_lstore C dL_areMovements_332 (ls2_8 rfl trivial) ?_
                            refine r_aload_n C dL_areMovements_334 lg_1 ?_
                            refine r_iload C dL_areMovements_335 lg_11 ?_
                            refine r_iald C (N := 60) 1312 dL_areMovements_337 (by decide) rfl rfl h41 (by omega) (by omega) (by omega) (fun g337 => ?_)
                            rw [hFc 1312 k (by decide), ham k hk.1 hk.2]
                            refine r_istore C dL_areMovements_338 (ls1_14 rfl rfl) ?_
                            refine r_iconst C dL_areMovements_340 ?_
                            refine r_istore C dL_areMovements_341 (ls1_15 rfl rfl) ?_
                            refine r_le C (lle_k (lle_k (lle_k (lle_k (lle_k (lle_k (lle_k (lle_k (lle_k (lle_k (lle_k (lle_k (lle_f (lle_f (lle_k (lle_k (lle_k lle_0))))))))))))))))) ?_
                            by_cases k3 : R.kd k = 3
                            · exact lp3 (R.n.toNat + 1) 0 (amR R k) (fi + c0R R k) (me + c1R R k) _ _ _ (by omega) (by omega) hFc (by rw [sumI_s _ hk.1, ← hfi]; show _ = _ + (if _ then _ else _); rw [if_pos hI]) (by rw [sumI_s _ hk.1, ← hme]; show _ = _ + (if _ then _ else _); rw [if_pos hI]) k3 (by unfold amR; rw [if_pos k3, sumI_0]; omega) (by unfold amR; rw [if_pos k3]; omega) (by omega) (by omega) (by omega)
                            · exact lpn (R.n.toNat + 1) 0 (amR R k) (fi + c0R R k) (me + c1R R k) _ _ _ (by omega) (by omega) hFc (by rw [sumI_s _ hk.1, ← hfi]; show _ = _ + (if _ then _ else _); rw [if_pos hI]) (by rw [sumI_s _ hk.1, ← hme]; show _ = _ + (if _ then _ else _); rw [if_pos hI]) k3 (by unfold amR; rw [if_neg k3]) (by unfold amR; rw [if_neg k3]; omega) (by omega) (by omega) (by omega)
          · skip
            refine r_aload_n C dL_areMovements_212 lg_0 ?_
            refine r_iload C dL_areMovements_213 lg_11 ?_
            refine q_V1I C (cZ_kindOf hfl hP (by omega)) dL_areMovements_215 lk_L_44 hl6 ⟨Nat.le_of_ble_eq_true rfl, Nat.le_of_ble_eq_true rfl⟩ (catLe (Nat.le_of_ble_eq_true rfl)) ⟨rfl, rfl⟩ rfl (show _ ≤ 11300 by omega) (show _ ≤ 67800 by omega) (fun z215 S215 A215 i215 p215 => ?_)
            obtain ⟨rfl, rfl, rfl⟩ := p215
            refine r_iconst C dL_areMovements_218 ?_
            refine r_icne C (tgt := 231) dL_areMovements_219 (by decide) (by omega) (by omega) (fun c219 => ?_) (fun c219 => ?_)
            · refine r_iconst C dL_areMovements_231 ?_
              refine r_istore C dL_areMovements_232 (ls1_13 rfl rfl) ?_
              refine r_iload C dL_areMovements_234 lg_10 ?_
              refine r_ifeq C (tgt := 289) dL_areMovements_236 (by decide) (by omega) (fun c236 => ?_) (fun c236 => ?_)
              · exfalso; omega
              · refine r_iload C dL_areMovements_239 lg_13 ?_
                refine r_ifeq C (tgt := 271) dL_areMovements_241 (by decide) (by omega) (fun c241 => ?_) (fun c241 => ?_)
                · refine r_aload_n C dL_areMovements_271 lg_0 ?_
                  refine r_iload C dL_areMovements_272 lg_11 ?_
                  refine r_iconst C dL_areMovements_274 ?_
                  refine r_W3J C (cQ_costOf hfl hP (by omega) (by omega)) dL_areMovements_275 lk_L_136 ⟨Nat.le_of_ble_eq_true rfl, Nat.le_of_ble_eq_true rfl⟩ (catLe (Nat.le_of_ble_eq_true rfl)) 2 12 ⟨rfl, rfl⟩ (show _ ≤ 11300 by omega) (show _ ≤ 67800 by omega) (fun _ _ _ h9 => h9.elim) (fun z275 S275 A275 i275 p275 => ?_)
                  obtain ⟨e275, rfl, hF275⟩ := p275
                  have hP := pi_fr hP hF275
                  have hFc := hFc.tr hF275
                  have e275 := cost_no e275 hk hI
                  subst e275
                  refine r_ldc2 C dL_areMovements_278 cs_L_66 (-7) (by decide) ?_
                  refine r_lcne C (tgt := 289) dL_areMovements_281 dL_areMovements_282 (by decide) (by omega) (by omega) (fun c281 => ?_) (fun c281 => ?_)
                  · exfalso; omega
                  · refine r_iconst C dL_areMovements_285 ?_
                    refine r_goto C (tgt := 290) dL_areMovements_286 (by decide) ?_
                    refine r_istore C dL_areMovements_290 (ls1_10 rfl trivial) ?_
                    refine r_lload C dL_areMovements_292 lg_6 ?_
                    refine r_iload C dL_areMovements_294 lg_13 ?_
                    refine r_ifeq C (tgt := 309) dL_areMovements_296 (by decide) (by omega) (fun c296 => ?_) (fun c296 => ?_)
                    · refine r_lconst C dL_areMovements_309 0 rfl ?_
                      refine r_ladd C dL_areMovements_310 ?_
                      refine r_lstore C dL_areMovements_311 (ls2_6 rfl rfl) ?_
                      refine r_lload C dL_areMovements_313 lg_8 ?_
                      refine r_iload C dL_areMovements_315 lg_13 ?_
                      refine r_ifeq C (tgt := 330) dL_areMovements_317 (by decide) (by omega) (fun c317 => ?_) (fun c317 => ?_)
                      · refine r_lconst C dL_areMovements_330 0 rfl ?_
                        refine r_ladd C dL_areMovements_331 ?_
                        refine r_lstore C dL_areMovements_332 (ls2_8 rfl trivial) ?_
                        refine r_aload_n C dL_areMovements_334 lg_1 ?_
                        refine r_iload C dL_areMovements_335 lg_11 ?_
                        refine r_iald C (N := 60) 1312 dL_areMovements_337 (by decide) rfl rfl h41 (by omega) (by omega) (by omega) (fun g337 => ?_)
                        rw [hFc 1312 k (by decide), ham k hk.1 hk.2]
                        refine r_istore C dL_areMovements_338 (ls1_14 rfl rfl) ?_
                        refine r_iconst C dL_areMovements_340 ?_
                        refine r_istore C dL_areMovements_341 (ls1_15 rfl rfl) ?_
                        refine r_le C (lle_k (lle_k (lle_k (lle_k (lle_k (lle_k (lle_k (lle_k (lle_k (lle_k (lle_k (lle_k (lle_f (lle_f (lle_k (lle_k (lle_k lle_0))))))))))))))))) ?_
                        by_cases k3 : R.kd k = 3
                        · exact lp3 (R.n.toNat + 1) 0 (amR R k) (fi + 0) (me + 0) _ _ _ (by omega) (by omega) hFc (by rw [sumI_s _ hk.1, ← hfi]; show _ = _ + (if _ then _ else _); rw [if_neg hI]) (by rw [sumI_s _ hk.1, ← hme]; show _ = _ + (if _ then _ else _); rw [if_neg hI]) k3 (by unfold amR; rw [if_pos k3, sumI_0]; omega) (by unfold amR; rw [if_pos k3]; omega) (by omega) (by omega) (by omega)
                        · exact lpn (R.n.toNat + 1) 0 (amR R k) (fi + 0) (me + 0) _ _ _ (by omega) (by omega) hFc (by rw [sumI_s _ hk.1, ← hfi]; show _ = _ + (if _ then _ else _); rw [if_neg hI]) (by rw [sumI_s _ hk.1, ← hme]; show _ = _ + (if _ then _ else _); rw [if_neg hI]) k3 (by unfold amR; rw [if_neg k3]) (by unfold amR; rw [if_neg k3]; omega) (by omega) (by omega) (by omega)
                      · exfalso; omega
                    · exfalso; omega
                · exfalso; omega
            · refine r_iload C dL_areMovements_222 lg_12 ?_
              refine r_iflt C (tgt := 231) dL_areMovements_224 (by decide) (by omega) (fun c224 => ?_) (fun c224 => ?_)
              · refine r_iconst C dL_areMovements_231 ?_
                refine r_istore C dL_areMovements_232 (ls1_13 rfl rfl) ?_
                refine r_iload C dL_areMovements_234 lg_10 ?_
                refine r_ifeq C (tgt := 289) dL_areMovements_236 (by decide) (by omega) (fun c236 => ?_) (fun c236 => ?_)
                · exfalso; omega
                · refine r_iload C dL_areMovements_239 lg_13 ?_
                  refine r_ifeq C (tgt := 271) dL_areMovements_241 (by decide) (by omega) (fun c241 => ?_) (fun c241 => ?_)
                  · refine r_aload_n C dL_areMovements_271 lg_0 ?_
                    refine r_iload C dL_areMovements_272 lg_11 ?_
                    refine r_iconst C dL_areMovements_274 ?_
                    refine r_W3J C (cQ_costOf hfl hP (by omega) (by omega)) dL_areMovements_275 lk_L_136 ⟨Nat.le_of_ble_eq_true rfl, Nat.le_of_ble_eq_true rfl⟩ (catLe (Nat.le_of_ble_eq_true rfl)) 2 12 ⟨rfl, rfl⟩ (show _ ≤ 11300 by omega) (show _ ≤ 67800 by omega) (fun _ _ _ h9 => h9.elim) (fun z275 S275 A275 i275 p275 => ?_)
                    obtain ⟨e275, rfl, hF275⟩ := p275
                    have hP := pi_fr hP hF275
                    have hFc := hFc.tr hF275
                    have e275 := cost_no e275 hk hI
                    subst e275
                    refine r_ldc2 C dL_areMovements_278 cs_L_66 (-7) (by decide) ?_
                    refine r_lcne C (tgt := 289) dL_areMovements_281 dL_areMovements_282 (by decide) (by omega) (by omega) (fun c281 => ?_) (fun c281 => ?_)
                    · exfalso; omega
                    · refine r_iconst C dL_areMovements_285 ?_
                      refine r_goto C (tgt := 290) dL_areMovements_286 (by decide) ?_
                      refine r_istore C dL_areMovements_290 (ls1_10 rfl trivial) ?_
                      refine r_lload C dL_areMovements_292 lg_6 ?_
                      refine r_iload C dL_areMovements_294 lg_13 ?_
                      refine r_ifeq C (tgt := 309) dL_areMovements_296 (by decide) (by omega) (fun c296 => ?_) (fun c296 => ?_)
                      · refine r_lconst C dL_areMovements_309 0 rfl ?_
                        refine r_ladd C dL_areMovements_310 ?_
                        refine r_lstore C dL_areMovements_311 (ls2_6 rfl rfl) ?_
                        refine r_lload C dL_areMovements_313 lg_8 ?_
                        refine r_iload C dL_areMovements_315 lg_13 ?_
                        refine r_ifeq C (tgt := 330) dL_areMovements_317 (by decide) (by omega) (fun c317 => ?_) (fun c317 => ?_)
                        · refine r_lconst C dL_areMovements_330 0 rfl ?_
                          refine r_ladd C dL_areMovements_331 ?_
                          refine r_lstore C dL_areMovements_332 (ls2_8 rfl trivial) ?_
                          refine r_aload_n C dL_areMovements_334 lg_1 ?_
                          refine r_iload C dL_areMovements_335 lg_11 ?_
                          refine r_iald C (N := 60) 1312 dL_areMovements_337 (by decide) rfl rfl h41 (by omega) (by omega) (by omega) (fun g337 => ?_)
                          rw [hFc 1312 k (by decide), ham k hk.1 hk.2]
                          refine r_istore C dL_areMovements_338 (ls1_14 rfl rfl) ?_
                          refine r_iconst C dL_areMovements_340 ?_
                          refine r_istore C dL_areMovements_341 (ls1_15 rfl rfl) ?_
                          refine r_le C (lle_k (lle_k (lle_k (lle_k (lle_k (lle_k (lle_k (lle_k (lle_k (lle_k (lle_k (lle_k (lle_f (lle_f (lle_k (lle_k (lle_k lle_0))))))))))))))))) ?_
                          by_cases k3 : R.kd k = 3
                          · exact lp3 (R.n.toNat + 1) 0 (amR R k) (fi + 0) (me + 0) _ _ _ (by omega) (by omega) hFc (by rw [sumI_s _ hk.1, ← hfi]; show _ = _ + (if _ then _ else _); rw [if_neg hI]) (by rw [sumI_s _ hk.1, ← hme]; show _ = _ + (if _ then _ else _); rw [if_neg hI]) k3 (by unfold amR; rw [if_pos k3, sumI_0]; omega) (by unfold amR; rw [if_pos k3]; omega) (by omega) (by omega) (by omega)
                          · exact lpn (R.n.toNat + 1) 0 (amR R k) (fi + 0) (me + 0) _ _ _ (by omega) (by omega) hFc (by rw [sumI_s _ hk.1, ← hfi]; show _ = _ + (if _ then _ else _); rw [if_neg hI]) (by rw [sumI_s _ hk.1, ← hme]; show _ = _ + (if _ then _ else _); rw [if_neg hI]) k3 (by unfold amR; rw [if_neg k3]) (by unfold amR; rw [if_neg k3]; omega) (by omega) (by omega) (by omega)
                        · exfalso; omega
                      · exfalso; omega
                  · exfalso; omega
              · exact absurd (hpI (by omega) (by omega)) hI
        by_cases hg : R.gn k = 0
        · have hfp := hfb.2.2 ((led_mem R.dy R.gn R.n.toNat).mpr ⟨by omega, hg⟩)
          have lpA : ∀ (P1 c1 : Int) (hPr1 : rL P1) (hb1 : PB R P1 (k + 1)) (hc1 : c1 = sumI (cnt9 R) (k + 1)) (N : Nat) (j : Int) (j0 : 0 ≤ j) (j1 : j ≤ k) (hN : k - j < N), J 134 [some (vR A 6 0), some (vR A 41 0), some (vL P1), none, some (vI R.n), some (vI c1), some (vL fi), none, some (vL me), none, some (vI 1), some (vI k), some (vI (fst k (LdR R))), some (vI j), none, none, none] [] S1 A k9 n9 := by
            intro P1 c1 hPr1 hb1 hc1
            have lpA : ∀ (N : Nat) (j : Int) (j0 : 0 ≤ j) (j1 : j ≤ k) (hN : k - j < N), J 134 [some (vR A 6 0), some (vR A 41 0), some (vL P1), none, some (vI R.n), some (vI c1), some (vL fi), none, some (vL me), none, some (vI 1), some (vI k), some (vI (fst k (LdR R))), some (vI j), none, none, none] [] S1 A k9 n9 := by
              intro N
              induction N with
              | zero => intro j j0 j1 hN; omega
              | succ N ih =>
                intro j j0 j1 hN
                refine r_iload C dL_areMovements_134 lg_13 ?_
                refine r_iload C dL_areMovements_136 lg_11 ?_
                refine r_icge C (tgt := 212) dL_areMovements_138 (by decide) (by omega) (by omega) (fun c138 => ?_) (fun c138 => ?_)
                · refine r_le C (lle_k (lle_k (lle_k (lle_k (lle_k (lle_k (lle_k (lle_k (lle_k (lle_k (lle_k (lle_k (lle_k (lle_f (lle_k (lle_k (lle_k lle_0))))))))))))))))) ?_
                  exact j212 _ _ _ (by omega) (fun _ => by omega) (fun q _ => ⟨q, hg⟩) hPr1 hb1 hc1
                · refine r_iload C dL_areMovements_141 lg_10 ?_
                  refine r_ifeq C (tgt := 212) dL_areMovements_143 (by decide) (by omega) (fun c143 => ?_) (fun c143 => ?_)
                  · exfalso; omega
                  · refine r_iload C dL_areMovements_146 lg_12 ?_
                    refine r_iflt C (tgt := 212) dL_areMovements_148 (by decide) (by omega) (fun c148 => ?_) (fun c148 => ?_)
                    · exfalso; omega
                    · refine r_aload_n C dL_areMovements_151 lg_0 ?_
                      refine r_iload C dL_areMovements_152 lg_13 ?_
                      refine q_V1I C (cZ_placeOf hfl hP (by omega)) dL_areMovements_154 lk_L_50 hl6 ⟨Nat.le_of_ble_eq_true rfl, Nat.le_of_ble_eq_true rfl⟩ (catLe (Nat.le_of_ble_eq_true rfl)) ⟨rfl, rfl⟩ rfl (show _ ≤ 11300 by omega) (show _ ≤ 67800 by omega) (fun z154 S154 A154 i154 p154 => ?_)
                      obtain ⟨rfl, rfl, rfl⟩ := p154
                      obtain ⟨pj, hpj, hpj2, hpj3⟩ : ∃ pj : Int, pj = cI (R.gn j = 0) (fst j (LdR R)) (-1) ∧ (0 ≤ pj → (R.dy j ≤ R.dy k ↔ pj < fst k (LdR R))) ∧ (-1 ≤ pj ∧ pj ≤ 60) := by
                        refine ⟨_, rfl, ?_, ?_⟩
                        · by_cases hgj : R.gn j = 0
                          · rw [cI_t hgj]
                            exact fun _ => place_lt ((led_mem R.dy R.gn R.n.toNat).mpr ⟨by omega, hgj⟩) ((led_mem R.dy R.gn R.n.toNat).mpr ⟨by omega, hg⟩) (by omega)
                          · rw [cI_f hgj]; exact fun q => by omega
                        · have hfb := fst_b (m := j) (LdR R)
                          by_cases hgj : R.gn j = 0
                          · rw [cI_t hgj]; omega
                          · rw [cI_f hgj]; omega
                      rw [← hpj]
                      have hdj := (hR.2 j j0 (by omega)).1.2.1
                      refine r_iflt C (tgt := 199) dL_areMovements_157 (by decide) (by omega) (fun c157 => ?_) (fun c157 => ?_)
                      · refine r_iconst C dL_areMovements_199 ?_
                        refine r_goto C (tgt := 204) dL_areMovements_200 (by decide) ?_
                        refine r_istore C dL_areMovements_204 (ls1_10 rfl trivial) ?_
                        refine r_iinc C dL_areMovements_206 lg_13 (ls1_13 rfl rfl) ?_
                        refine r_goto C (tgt := 134) dL_areMovements_209 (by decide) ?_
                        exact ih (j + 1) (by omega) (by omega) (by omega)
                      · refine r_aload_n C dL_areMovements_160 lg_0 ?_
                        refine r_iload C dL_areMovements_161 lg_13 ?_
                        refine q_V1I C (cZ_dayOf hfl hP (by omega)) dL_areMovements_163 lk_L_47 hl6 ⟨Nat.le_of_ble_eq_true rfl, Nat.le_of_ble_eq_true rfl⟩ (catLe (Nat.le_of_ble_eq_true rfl)) ⟨rfl, rfl⟩ rfl (show _ ≤ 11300 by omega) (show _ ≤ 67800 by omega) (fun z163 S163 A163 i163 p163 => ?_)
                        obtain ⟨rfl, rfl, rfl⟩ := p163
                        refine r_aload_n C dL_areMovements_166 lg_0 ?_
                        refine r_iload C dL_areMovements_167 lg_11 ?_
                        refine q_V1I C (cZ_dayOf hfl hP (by omega)) dL_areMovements_169 lk_L_47 hl6 ⟨Nat.le_of_ble_eq_true rfl, Nat.le_of_ble_eq_true rfl⟩ (catLe (Nat.le_of_ble_eq_true rfl)) ⟨rfl, rfl⟩ rfl (show _ ≤ 11300 by omega) (show _ ≤ 67800 by omega) (fun z169 S169 A169 i169 p169 => ?_)
                        obtain ⟨rfl, rfl, rfl⟩ := p169
                        refine r_icgt C (tgt := 179) dL_areMovements_172 (by decide) (by omega) (by omega) (fun c172 => ?_) (fun c172 => ?_)
                        · refine r_iconst C dL_areMovements_179 ?_
                          refine r_aload_n C dL_areMovements_180 lg_0 ?_
                          refine r_iload C dL_areMovements_181 lg_13 ?_
                          refine q_V1I C (cZ_placeOf hfl hP (by omega)) dL_areMovements_183 lk_L_50 hl6 ⟨Nat.le_of_ble_eq_true rfl, Nat.le_of_ble_eq_true rfl⟩ (catLe (Nat.le_of_ble_eq_true rfl)) ⟨rfl, rfl⟩ rfl (show _ ≤ 11300 by omega) (show _ ≤ 67800 by omega) (fun z183 S183 A183 i183 p183 => ?_)
                          obtain ⟨rfl, rfl, rfl⟩ := p183
                          rw [← hpj]
                          refine r_iload C dL_areMovements_186 lg_12 ?_
                          refine r_icge C (tgt := 195) dL_areMovements_188 (by decide) (by omega) (by omega) (fun c188 => ?_) (fun c188 => ?_)
                          · refine r_iconst C dL_areMovements_195 ?_
                            refine r_icne C (tgt := 203) dL_areMovements_196 (by decide) (by omega) (by omega) (fun c196 => ?_) (fun c196 => ?_)
                            · exfalso; omega
                            · refine r_iconst C dL_areMovements_199 ?_
                              refine r_goto C (tgt := 204) dL_areMovements_200 (by decide) ?_
                              refine r_istore C dL_areMovements_204 (ls1_10 rfl trivial) ?_
                              refine r_iinc C dL_areMovements_206 lg_13 (ls1_13 rfl rfl) ?_
                              refine r_goto C (tgt := 134) dL_areMovements_209 (by decide) ?_
                              exact ih (j + 1) (by omega) (by omega) (by omega)
                          · refine r_iconst C dL_areMovements_191 ?_
                            refine r_goto C (tgt := 196) dL_areMovements_192 (by decide) ?_
                            refine r_icne C (tgt := 203) dL_areMovements_196 (by decide) (by omega) (by omega) (fun c196 => ?_) (fun c196 => ?_)
                            · exfalso; omega
                            · refine r_iconst C dL_areMovements_199 ?_
                              refine r_goto C (tgt := 204) dL_areMovements_200 (by decide) ?_
                              refine r_istore C dL_areMovements_204 (ls1_10 rfl trivial) ?_
                              refine r_iinc C dL_areMovements_206 lg_13 (ls1_13 rfl rfl) ?_
                              refine r_goto C (tgt := 134) dL_areMovements_209 (by decide) ?_
                              exact ih (j + 1) (by omega) (by omega) (by omega)
                        · refine r_iconst C dL_areMovements_175 ?_
                          refine r_goto C (tgt := 180) dL_areMovements_176 (by decide) ?_
                          refine r_aload_n C dL_areMovements_180 lg_0 ?_
                          refine r_iload C dL_areMovements_181 lg_13 ?_
                          refine q_V1I C (cZ_placeOf hfl hP (by omega)) dL_areMovements_183 lk_L_50 hl6 ⟨Nat.le_of_ble_eq_true rfl, Nat.le_of_ble_eq_true rfl⟩ (catLe (Nat.le_of_ble_eq_true rfl)) ⟨rfl, rfl⟩ rfl (show _ ≤ 11300 by omega) (show _ ≤ 67800 by omega) (fun z183 S183 A183 i183 p183 => ?_)
                          obtain ⟨rfl, rfl, rfl⟩ := p183
                          rw [← hpj]
                          refine r_iload C dL_areMovements_186 lg_12 ?_
                          refine r_icge C (tgt := 195) dL_areMovements_188 (by decide) (by omega) (by omega) (fun c188 => ?_) (fun c188 => ?_)
                          · refine r_iconst C dL_areMovements_195 ?_
                            refine r_icne C (tgt := 203) dL_areMovements_196 (by decide) (by omega) (by omega) (fun c196 => ?_) (fun c196 => ?_)
                            · exfalso; omega
                            · refine r_iconst C dL_areMovements_199 ?_
                              refine r_goto C (tgt := 204) dL_areMovements_200 (by decide) ?_
                              refine r_istore C dL_areMovements_204 (ls1_10 rfl trivial) ?_
                              refine r_iinc C dL_areMovements_206 lg_13 (ls1_13 rfl rfl) ?_
                              refine r_goto C (tgt := 134) dL_areMovements_209 (by decide) ?_
                              exact ih (j + 1) (by omega) (by omega) (by omega)
                          · refine r_iconst C dL_areMovements_191 ?_
                            refine r_goto C (tgt := 196) dL_areMovements_192 (by decide) ?_
                            refine r_icne C (tgt := 203) dL_areMovements_196 (by decide) (by omega) (by omega) (fun c196 => ?_) (fun c196 => ?_)
                            · exfalso; omega
                            · refine r_iconst C dL_areMovements_199 ?_
                              refine r_goto C (tgt := 204) dL_areMovements_200 (by decide) ?_
                              refine r_istore C dL_areMovements_204 (ls1_10 rfl trivial) ?_
                              refine r_iinc C dL_areMovements_206 lg_13 (ls1_13 rfl rfl) ?_
                              refine r_goto C (tgt := 134) dL_areMovements_209 (by decide) ?_
                              exact ih (j + 1) (by omega) (by omega) (by omega)
            exact lpA
          refine r_aload_n C dL_areMovements_35 lg_0 ?_
          refine r_iload C dL_areMovements_36 lg_11 ?_
          refine q_V1I C (cZ_placeOf hfl hP hk) dL_areMovements_38 lk_L_50 hl6 ⟨Nat.le_of_ble_eq_true rfl, Nat.le_of_ble_eq_true rfl⟩ (catLe (Nat.le_of_ble_eq_true rfl)) ⟨rfl, rfl⟩ rfl (show _ ≤ 11300 by omega) (show _ ≤ 67800 by omega) (fun z38 S38 A38 i38 p38 => ?_)
          obtain ⟨rfl, rfl, rfl⟩ := p38
          rw [cI_t hg]
          refine r_istore C dL_areMovements_41 (ls1_12 rfl rfl) ?_
          refine r_iload C dL_areMovements_43 lg_5 ?_
          refine r_aload_n C dL_areMovements_45 lg_0 ?_
          refine r_iload C dL_areMovements_46 lg_11 ?_
          refine q_V1Z C (cZ_isCancelled hfl hP hk) dL_areMovements_48 lk_L_53 hl6 ⟨Nat.le_of_ble_eq_true rfl, Nat.le_of_ble_eq_true rfl⟩ (catLe (Nat.le_of_ble_eq_true rfl)) ⟨rfl, rfl⟩ rfl (show _ ≤ 11300 by omega) (show _ ≤ 67800 by omega) (fun z48 S48 A48 i48 p48 => ?_)
          obtain ⟨rfl, rfl, rfl⟩ := p48
          refine r_ifeq C (tgt := 58) dL_areMovements_51 (by decide) (by omega) (fun c51 => ?_) (fun c51 => ?_)
          · refine r_iconst C dL_areMovements_58 ?_
            refine r_iadd C dL_areMovements_59 ?_
            refine r_istore C dL_areMovements_60 (ls1_5 rfl rfl) ?_
            refine r_aload_n C dL_areMovements_62 lg_0 ?_
            refine r_iload C dL_areMovements_63 lg_11 ?_
            refine q_V1Z C (cZ_isCancelled hfl hP hk) dL_areMovements_65 lk_L_53 hl6 ⟨Nat.le_of_ble_eq_true rfl, Nat.le_of_ble_eq_true rfl⟩ (catLe (Nat.le_of_ble_eq_true rfl)) ⟨rfl, rfl⟩ rfl (show _ ≤ 11300 by omega) (show _ ≤ 67800 by omega) (fun z65 S65 A65 i65 p65 => ?_)
            obtain ⟨rfl, rfl, rfl⟩ := p65
            refine r_ifeq C (tgt := 85) dL_areMovements_68 (by decide) (by omega) (fun c68 => ?_) (fun c68 => ?_)
            · refine r_iload C dL_areMovements_85 lg_12 ?_
              refine r_iflt C (tgt := 112) dL_areMovements_87 (by decide) (by omega) (fun c87 => ?_) (fun c87 => ?_)
              · exfalso; omega
              · refine r_iload C dL_areMovements_90 lg_12 ?_
                refine r_iload C dL_areMovements_92 lg_4 ?_
                refine r_icge C (tgt := 112) dL_areMovements_94 (by decide) (by omega) (by omega) (fun c94 => ?_) (fun c94 => ?_)
                · exfalso; omega
                · refine r_lload_n C dL_areMovements_97 lg_2 ?_
                  refine r_iload C dL_areMovements_98 lg_12 ?_
                  refine r_lshr C dL_areMovements_100 (fun b100 => ?_)
                  refine r_lconst C dL_areMovements_101 1 rfl ?_
                  refine r_land C dL_areMovements_102 (fun b102 => ?_)
                  refine r_lconst C dL_areMovements_103 0 rfl ?_
                  have hz104 := not_has (pb_has hR hk hg ⟨by omega, by omega⟩ hbit)
                  refine r_lcne C (tgt := 112) dL_areMovements_104 dL_areMovements_105 (by decide) (by omega) (by omega) (fun c104 => ?_) (fun c104 => ?_)
                  · exfalso; omega
                  · refine r_iconst C dL_areMovements_108 ?_
                    refine r_goto C (tgt := 113) dL_areMovements_109 (by decide) ?_
                    refine r_istore C dL_areMovements_113 (ls1_10 rfl trivial) ?_
                    refine r_lload_n C dL_areMovements_115 lg_2 ?_
                    refine r_iload C dL_areMovements_116 lg_12 ?_
                    refine r_ifge C (tgt := 125) dL_areMovements_118 (by decide) (by omega) (fun c118 => ?_) (fun c118 => ?_)
                    · refine r_lconst C dL_areMovements_125 1 rfl ?_
                      refine r_iload C dL_areMovements_126 lg_12 ?_
                      refine r_lshl C dL_areMovements_128 (fun b128 => ?_)
                      refine r_lor C dL_areMovements_129 (fun b129 => ?_)
                      refine r_lstore_n C dL_areMovements_130 (ls2_2 rfl (cat_R _ _ _)) ?_
                      refine r_iconst C dL_areMovements_131 ?_
                      refine r_istore C dL_areMovements_132 (ls1_13 rfl rfl) ?_
                      have hc1 : c + 1 = sumI (cnt9 R) (k + 1) := by rw [sumI_s _ hk.1, hc]; show _ = _ + (if _ then _ else _); rw [if_pos hg]
                      exact lpA _ _ (by assumption) (pb_s hk.1 hg ⟨by omega, by omega⟩ hbit) hc1 (k.toNat + 1) 0 (by omega) (by omega) (by omega)
                    · exfalso; omega
            · exfalso; omega
          · exfalso; omega
        · skip
          refine r_aload_n C dL_areMovements_35 lg_0 ?_
          refine r_iload C dL_areMovements_36 lg_11 ?_
          refine q_V1I C (cZ_placeOf hfl hP hk) dL_areMovements_38 lk_L_50 hl6 ⟨Nat.le_of_ble_eq_true rfl, Nat.le_of_ble_eq_true rfl⟩ (catLe (Nat.le_of_ble_eq_true rfl)) ⟨rfl, rfl⟩ rfl (show _ ≤ 11300 by omega) (show _ ≤ 67800 by omega) (fun z38 S38 A38 i38 p38 => ?_)
          obtain ⟨rfl, rfl, rfl⟩ := p38
          rw [cI_f hg]
          refine r_istore C dL_areMovements_41 (ls1_12 rfl rfl) ?_
          refine r_iload C dL_areMovements_43 lg_5 ?_
          refine r_aload_n C dL_areMovements_45 lg_0 ?_
          refine r_iload C dL_areMovements_46 lg_11 ?_
          refine q_V1Z C (cZ_isCancelled hfl hP hk) dL_areMovements_48 lk_L_53 hl6 ⟨Nat.le_of_ble_eq_true rfl, Nat.le_of_ble_eq_true rfl⟩ (catLe (Nat.le_of_ble_eq_true rfl)) ⟨rfl, rfl⟩ rfl (show _ ≤ 11300 by omega) (show _ ≤ 67800 by omega) (fun z48 S48 A48 i48 p48 => ?_)
          obtain ⟨rfl, rfl, rfl⟩ := p48
          refine r_ifeq C (tgt := 58) dL_areMovements_51 (by decide) (by omega) (fun c51 => ?_) (fun c51 => ?_)
          · exfalso; omega
          · refine r_iconst C dL_areMovements_54 ?_
            refine r_goto C (tgt := 59) dL_areMovements_55 (by decide) ?_
            refine r_iadd C dL_areMovements_59 ?_
            refine r_istore C dL_areMovements_60 (ls1_5 rfl rfl) ?_
            refine r_aload_n C dL_areMovements_62 lg_0 ?_
            refine r_iload C dL_areMovements_63 lg_11 ?_
            refine q_V1Z C (cZ_isCancelled hfl hP hk) dL_areMovements_65 lk_L_53 hl6 ⟨Nat.le_of_ble_eq_true rfl, Nat.le_of_ble_eq_true rfl⟩ (catLe (Nat.le_of_ble_eq_true rfl)) ⟨rfl, rfl⟩ rfl (show _ ≤ 11300 by omega) (show _ ≤ 67800 by omega) (fun z65 S65 A65 i65 p65 => ?_)
            obtain ⟨rfl, rfl, rfl⟩ := p65
            refine r_ifeq C (tgt := 85) dL_areMovements_68 (by decide) (by omega) (fun c68 => ?_) (fun c68 => ?_)
            · exfalso; omega
            · refine r_iload C dL_areMovements_71 lg_12 ?_
              refine r_iconst C dL_areMovements_73 ?_
              refine r_icne C (tgt := 81) dL_areMovements_74 (by decide) (by omega) (by omega) (fun c74 => ?_) (fun c74 => ?_)
              · exfalso; omega
              · refine r_iconst C dL_areMovements_77 ?_
                refine r_goto C (tgt := 113) dL_areMovements_78 (by decide) ?_
                refine r_istore C dL_areMovements_113 (ls1_10 rfl trivial) ?_
                refine r_lload_n C dL_areMovements_115 lg_2 ?_
                refine r_iload C dL_areMovements_116 lg_12 ?_
                refine r_ifge C (tgt := 125) dL_areMovements_118 (by decide) (by omega) (fun c118 => ?_) (fun c118 => ?_)
                · exfalso; omega
                · refine r_lconst C dL_areMovements_121 0 rfl ?_
                  refine r_goto C (tgt := 129) dL_areMovements_122 (by decide) ?_
                  refine r_lor C dL_areMovements_129 (fun b129 => ?_)
                  refine r_lstore_n C dL_areMovements_130 (ls2_2 rfl (cat_R _ _ _)) ?_
                  refine r_iconst C dL_areMovements_131 ?_
                  refine r_istore C dL_areMovements_132 (ls1_13 rfl rfl) ?_
                  refine r_iload C dL_areMovements_134 lg_13 ?_
                  refine r_iload C dL_areMovements_136 lg_11 ?_
                  refine r_icge C (tgt := 212) dL_areMovements_138 (by decide) (by omega) (by omega) (fun c138 => ?_) (fun c138 => ?_)
                  · refine r_le C (lle_k (lle_k (lle_k (lle_k (lle_k (lle_k (lle_k (lle_k (lle_k (lle_k (lle_k (lle_k (lle_k (lle_f (lle_k (lle_k (lle_k lle_0))))))))))))))))) ?_
                    exact j212 _ _ _ (by omega) (fun q => absurd q hg) (fun _ q => by omega) (by assumption) (pb_n hg hbit) (by rw [sumI_s _ hk.1, hc]; show _ = _ + (if _ then _ else _); rw [if_neg hg])
                  · refine r_iload C dL_areMovements_141 lg_10 ?_
                    refine r_ifeq C (tgt := 212) dL_areMovements_143 (by decide) (by omega) (fun c143 => ?_) (fun c143 => ?_)
                    · exfalso; omega
                    · refine r_iload C dL_areMovements_146 lg_12 ?_
                      refine r_iflt C (tgt := 212) dL_areMovements_148 (by decide) (by omega) (fun c148 => ?_) (fun c148 => ?_)
                      · refine r_le C (lle_k (lle_k (lle_k (lle_k (lle_k (lle_k (lle_k (lle_k (lle_k (lle_k (lle_k (lle_k (lle_k (lle_f (lle_k (lle_k (lle_k lle_0))))))))))))))))) ?_
                        exact j212 _ _ _ (by omega) (fun q => absurd q hg) (fun _ q => by omega) (by assumption) (pb_n hg hbit) (by rw [sumI_s _ hk.1, hc]; show _ = _ + (if _ then _ else _); rw [if_neg hg])
                      · exfalso; omega
      refine r_iload C dL_areMovements_23 lg_11 ?_
      refine r_iload C dL_areMovements_25 lg_4 ?_
      refine r_icge C (tgt := 488) dL_areMovements_27 (by decide) (by omega) (by omega) (fun c27 => ?_) (fun c27 => ?_)
      · have hkn : k = R.n := by omega
        rw [hkn] at hbit hc
        have hpe := pb_all hR hPr hbit
        rw [← hc] at hpe
        have hcb : 0 ≤ c ∧ c ≤ 60 := by
          rw [hc, cnt9_n hR]
          have hll : (LdR R).length ≤ R.n.toNat := led_len R.dy R.gn R.n.toNat
          omega
        have hlr := low_r hcb
        refine r_iload C dL_areMovements_488 lg_10 ?_
        refine r_ifeq C (tgt := 508) dL_areMovements_490 (by decide) (by omega) (fun c490 => ?_) (fun c490 => ?_)
        · exfalso; omega
        · refine r_lload_n C dL_areMovements_493 lg_2 ?_
          refine r_lconst C dL_areMovements_494 1 rfl ?_
          refine r_iload C dL_areMovements_495 lg_5 ?_
          refine r_lshl C dL_areMovements_497 (fun b497 => ?_)
          refine r_lconst C dL_areMovements_498 1 rfl ?_
          refine r_lsub C dL_areMovements_499 ?_
          refine r_lcne C (tgt := 508) dL_areMovements_500 dL_areMovements_501 (by decide) (by omega) (by omega) (fun c500 => ?_) (fun c500 => ?_)
          · exfalso; omega
          · refine r_iconst C dL_areMovements_504 ?_
            refine r_goto C (tgt := 509) dL_areMovements_505 (by decide) ?_
            refine r_istore C dL_areMovements_509 (ls1_10 rfl trivial) ?_
            refine r_iconst C dL_areMovements_511 ?_
            refine r_istore C dL_areMovements_512 (ls1_11 rfl rfl) ?_
            refine r_le C (lle_k (lle_k (lle_f (lle_k (lle_k (lle_f (lle_k (lle_k (lle_k (lle_k (lle_k (lle_k (lle_k (lle_k (lle_k (lle_k (lle_k lle_0))))))))))))))))) ?_
            exact lpC 7 0 _ _ _ _ _ (by omega) (by omega) hFc (by rw [hfi, hkn, sumI_0, Int.sub_zero]) (by rw [hme, hkn, sumI_0, Int.sub_zero]) (by omega) (by omega) (by omega)
      · refine r_iload C dL_areMovements_30 lg_10 ?_
        refine r_ifeq C (tgt := 488) dL_areMovements_32 (by decide) (by omega) (fun c32 => ?_) (fun c32 => ?_)
        · exfalso; omega
        · exact body ⟨h1, by omega⟩
  refine r_lconst C dL_areMovements_0 0 rfl ?_
  refine r_lstore_n C dL_areMovements_1 (ls2_2 rfl (cat_R _ _ _)) ?_
  refine r_aload_n C dL_areMovements_2 lg_0 ?_
  refine q_V0I C (cZ_movements hfl hP) dL_areMovements_3 lk_L_116 hl6 ⟨Nat.le_of_ble_eq_true rfl, Nat.le_of_ble_eq_true rfl⟩ (catLe (Nat.le_of_ble_eq_true rfl)) ⟨rfl, rfl⟩ rfl (show _ ≤ 11300 by omega) (show _ ≤ 67800 by omega) (fun z3 S3 A3 i3 p3 => ?_)
  obtain ⟨rfl, rfl, rfl⟩ := p3
  refine r_istore C dL_areMovements_6 (ls1_4 rfl trivial) ?_
  refine r_iconst C dL_areMovements_8 ?_
  refine r_istore C dL_areMovements_9 (ls1_5 rfl rfl) ?_
  refine r_lconst C dL_areMovements_11 0 rfl ?_
  refine r_lstore C dL_areMovements_12 (ls2_6 rfl rfl) ?_
  refine r_lconst C dL_areMovements_14 0 rfl ?_
  refine r_lstore C dL_areMovements_15 (ls2_8 rfl trivial) ?_
  refine r_iconst C dL_areMovements_17 ?_
  refine r_istore C dL_areMovements_18 (ls1_10 rfl trivial) ?_
  refine r_iconst C dL_areMovements_20 ?_
  refine r_istore C dL_areMovements_21 (ls1_11 rfl rfl) ?_
  exact lp (R.n.toNat + 1) 0 0 0 0 0 S 0 0 (by omega) (by omega) Fr.rf (by omega) (pb_0 R) rfl rfl rfl (by omega) (by omega) (by omega)
