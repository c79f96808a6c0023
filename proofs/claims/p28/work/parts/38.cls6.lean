/-! the class: the rest of the queue, the moving average -/
set_option maxRecDepth 20000 in
theorem cF_back {G : GT} {l : Launch} (hfl : l.stackTraces = false) {S : ST} {A : AB} {m : Int} {q : QL3} (hl0 : lv1 A 0 0) (hm : lv1 A 3 m) (hl1 : lv1 A 1 m) (h102 : S 102 m = m) (hq : FQ9 S q) (hmq : m ∉ og q) (hog : ∀ x ∈ og q, lv1 A 1 x) (hA1 : A.2 1 ≤ 60) : CT G l yX0_bringBack cX0_bringBack 3 none (rmk 1 0 0 24) S A [vR A 0 0, vR A 3 m] (oV fun S' A' => A = A' ∧ Fr [33, 34, 35, 5, 6] S S' ∧ FQ9 S' ((S 100 m, S 101 m, m) :: q) ∧ (∀ r, r ≠ m → S' 33 r = S 33 r)) (noX) := by
  refine ct_ofN (own := RX0) (mn := "bringBack") rfl rfl (by decide) hfl (lv0 := [some (vR A 0 0), some (vR A 3 m), none]) (ent_1 (cat_R _ _ _) (ent_1 (cat_R _ _ _) (ent_n ent_0))) rfl ?_
  intro J X C F FX FT FU hW hA
  have w5 := (hW 5 0).1
  have w5b : S 5 0 < A.2 1 := (hW 5 0).2.2.2 (by decide)
  refine r_aload_n C dX0_bringBack_0 lg_1 ?_
  refine r_getA C 102 1 dX0_bringBack_1 fg_X0_16_3 rfl rfl hm (fun g1 => ?_)
  rw [h102]
  refine r_astore_n C dX0_bringBack_4 (ls1_2 (cat_R _ _ _) (cat_R _ _ _)) ?_
  refine r_aload_n C dX0_bringBack_5 lg_2 ?_
  refine r_aload_n C dX0_bringBack_6 lg_1 ?_
  refine r_getI C 100 dX0_bringBack_7 fg_X0_21_3 rfl rfl hm (fun g7 => ?_)
  refine r_aload_n C dX0_bringBack_10 lg_1 ?_
  refine r_getI C 101 dX0_bringBack_11 fg_X0_25_3 rfl rfl hm (fun g11 => ?_)
  refine r_i2l C dX0_bringBack_14 (by omega) ?_
  refine r_aload_n C dX0_bringBack_15 lg_0 ?_
  refine r_getA C 5 1 dX0_bringBack_16 fg_X0_7_0 rfl rfl hl0 (fun g16 => ?_)
  refine q_V3V C (cY_fill hfl hl1 (by omega) (by omega) (by omega) (by omega)) dX0_bringBack_19 lk_X0_28 hl1 ⟨Nat.le_of_ble_eq_true rfl, Nat.le_of_ble_eq_true rfl⟩ (catLe (Nat.le_of_ble_eq_true rfl)) ⟨rfl, rfl⟩ rfl (Nat.le_of_ble_eq_true rfl) (Nat.le_of_ble_eq_true rfl) (fun S19 A19 p19 => ?_)
  obtain ⟨rfl, rfl⟩ := p19
  refine r_gS (fun S1 h1 => ?_)
  have f1 : Fr [33, 34, 35] S S1 := by rw [h1]; exact ((Fr.up (by decide)).tr (Fr.up (by decide))).tr (Fr.up (by decide))
  have e5 := f1 5 0 (by decide)
  have e6 := f1 6 0 (by decide)
  have x33 : ∀ r, r ≠ m → S1 33 r = S 33 r := fun r hr => by rw [h1, upS_c _ _ (by decide), upS_c _ _ (by decide), upS_z _ _ hr]
  have x34 : ∀ r, r ≠ m → S1 34 r = S 34 r := fun r hr => by rw [h1, upS_c _ _ (by decide), upS_z _ _ hr, upS_c _ _ (by decide)]
  have x35 : ∀ r, r ≠ m → S1 35 r = S 35 r := fun r hr => by rw [h1, upS_z _ _ hr, upS_c _ _ (by decide), upS_c _ _ (by decide)]
  have y33 : S1 33 m = S 100 m := by rw [h1, upS_c _ _ (by decide), upS_c _ _ (by decide), upS_self]
  have y34 : S1 34 m = S 101 m := by rw [h1, upS_c _ _ (by decide), upS_self]
  have y35 : S1 35 m = S 5 0 := by rw [h1, upS_self]
  refine r_aload_n C dX0_bringBack_22 lg_0 ?_
  refine r_aload_n C dX0_bringBack_23 lg_2 ?_
  refine r_putA C 5 1 dX0_bringBack_24 fg_X0_7_0 rfl rfl hl0 (fun q h => by cases h; exact Or.inl rfl) (by omega) (by omega) ?_
  refine r_aload_n C dX0_bringBack_27 lg_0 ?_
  refine r_getA C 6 1 dX0_bringBack_28 fg_X0_13_0 rfl rfl hl0 (fun g28 => ?_)
  refine r_ifnonnull C (tgt := 39) dX0_bringBack_31 (by decide) (fun c31 => ?_) (fun c31 => ?_)
  · exact f_V F dX0_bringBack_39 (by
      first
      | (have hne : q ≠ [] := fun e => by
           subst e
           have h9 : S 6 0 = -1 := hq.2
           rw [upS_c _ _ (by decide), e6] at c31
           omega
         refine ⟨rfl, (f1.sub (by decide)).tr (Fr.up (by decide)), ⟨?_, ?_⟩, fun r hr => by rw [upS_c _ _ (by decide)]; exact x33 r hr⟩
         · rw [upS_self]
           refine ⟨rfl, by rw [upS_c _ _ (by decide)]; exact y33, by rw [upS_c _ _ (by decide)]; exact y34, ?_⟩
           rw [upS_c _ _ (by decide), y35]
           exact hq.1.fr (fun z hz => by
             have hzm : z ≠ m := fun e => hmq (e ▸ hz)
             exact ⟨by rw [upS_c _ _ (by decide)]; exact x33 z hzm, by rw [upS_c _ _ (by decide)]; exact x34 z hzm, by rw [upS_c _ _ (by decide)]; exact x35 z hzm⟩)
         · rw [upS_c _ _ (by decide), e6, hq.2]
           exact (lo2_og (q := (S 100 m, S 101 m, m) :: q) (qf := q) (p := [m]) (d := -1) (d' := -1) rfl hne).symm)
      | (have hqe : q = [] := by
           cases q with
           | nil => rfl
           | cons x t =>
             exfalso
             have h9 := hq.2
             rw [upS_c _ _ (by decide), e6] at c31
             have h8 := hog x.2.2 List.mem_cons_self
             have h7 : lo2 (-1) (x :: t) = lo2 x.2.2 t := rfl
             rcases lo2_mem t x.2.2 with h6 | h6
             · have := h8.1; omega
             · have := (hog _ (List.mem_cons_of_mem _ h6)).1; omega
         subst hqe
         refine ⟨rfl, ((f1.sub (by decide)).tr (Fr.up (by decide))).tr (Fr.up (by decide)), ⟨?_, ?_⟩, fun r hr => by rw [upS_c _ _ (by decide), upS_c _ _ (by decide)]; exact x33 r hr⟩
         · rw [upS_c _ _ (by decide), upS_self]
           refine ⟨rfl, by rw [upS_c _ _ (by decide), upS_c _ _ (by decide)]; exact y33, by rw [upS_c _ _ (by decide), upS_c _ _ (by decide)]; exact y34, ?_⟩
           rw [upS_c _ _ (by decide), upS_c _ _ (by decide), y35]
           exact hq.1
         · rw [upS_self]; rfl)) (Nat.le_of_ble_eq_true rfl) (Nat.le_of_ble_eq_true rfl)
  · refine r_aload_n C dX0_bringBack_34 lg_0 ?_
    refine r_aload_n C dX0_bringBack_35 lg_2 ?_
    refine r_putA C 6 1 dX0_bringBack_36 fg_X0_13_0 rfl rfl hl0 (fun q h => by cases h; exact Or.inl rfl) (by omega) (by omega) ?_
    exact f_V F dX0_bringBack_39 (by
      first
      | (have hne : q ≠ [] := fun e => by
           subst e
           have h9 : S 6 0 = -1 := hq.2
           rw [upS_c _ _ (by decide), e6] at c31
           omega
         refine ⟨rfl, (f1.sub (by decide)).tr (Fr.up (by decide)), ⟨?_, ?_⟩, fun r hr => by rw [upS_c _ _ (by decide)]; exact x33 r hr⟩
         · rw [upS_self]
           refine ⟨rfl, by rw [upS_c _ _ (by decide)]; exact y33, by rw [upS_c _ _ (by decide)]; exact y34, ?_⟩
           rw [upS_c _ _ (by decide), y35]
           exact hq.1.fr (fun z hz => by
             have hzm : z ≠ m := fun e => hmq (e ▸ hz)
             exact ⟨by rw [upS_c _ _ (by decide)]; exact x33 z hzm, by rw [upS_c _ _ (by decide)]; exact x34 z hzm, by rw [upS_c _ _ (by decide)]; exact x35 z hzm⟩)
         · rw [upS_c _ _ (by decide), e6, hq.2]
           exact (lo2_og (q := (S 100 m, S 101 m, m) :: q) (qf := q) (p := [m]) (d := -1) (d' := -1) rfl hne).symm)
      | (have hqe : q = [] := by
           cases q with
           | nil => rfl
           | cons x t =>
             exfalso
             have h9 := hq.2
             rw [upS_c _ _ (by decide), e6] at c31
             have h8 := hog x.2.2 List.mem_cons_self
             have h7 : lo2 (-1) (x :: t) = lo2 x.2.2 t := rfl
             rcases lo2_mem t x.2.2 with h6 | h6
             · have := h8.1; omega
             · have := (hog _ (List.mem_cons_of_mem _ h6)).1; omega
         subst hqe
         refine ⟨rfl, ((f1.sub (by decide)).tr (Fr.up (by decide))).tr (Fr.up (by decide)), ⟨?_, ?_⟩, fun r hr => by rw [upS_c _ _ (by decide), upS_c _ _ (by decide)]; exact x33 r hr⟩
         · rw [upS_c _ _ (by decide), upS_self]
           refine ⟨rfl, by rw [upS_c _ _ (by decide), upS_c _ _ (by decide)]; exact y33, by rw [upS_c _ _ (by decide), upS_c _ _ (by decide)]; exact y34, ?_⟩
           rw [upS_c _ _ (by decide), upS_c _ _ (by decide), y35]
           exact hq.1
         · rw [upS_self]; rfl)) (Nat.le_of_ble_eq_true rfl) (Nat.le_of_ble_eq_true rfl)
set_option maxRecDepth 20000 in
theorem cF_absorb {G : GT} {l : Launch} (hfl : l.stackTraces = false) {S : ST} {A : AB} {m p : Int} (hl0 : lv1 A 0 0) (hm : lv1 A 3 m) (hl1 : lv1 A 1 m) (h102 : S 102 m = m) (hp : 0 ≤ p ∧ p ≤ 2000000) (hu : 0 ≤ S 33 m ∧ S 33 m ≤ 1000) (hc : rL (S 34 m + p * S 33 m / S 100 m)) (hq : 1 ≤ S 100 m ∧ S 100 m ≤ 1000) : CT G l yX0_absorb cX0_absorb 6 (some .long) (rmk 1 0 0 22) S A [vR A 0 0, vR A 3 m, vI p] (oJ fun z S' A' => p * S 33 m / S 100 m = z ∧ A = A' ∧ upS S 34 m (S 34 m + p * S 33 m / S 100 m) = S') (noX) := by
  have h1 := mul_b (a := p) (b := S 33 m) hp.1 hp.2 hu.1 hu.2
  have h2 : 0 ≤ p * S 33 m / S 100 m := Int.ediv_nonneg h1.1 (by omega)
  have h3 : p * S 33 m / S 100 m ≤ p * S 33 m := Int.ediv_le_self _ h1.1
  refine ct_ofN (own := RX0) (mn := "absorb") rfl rfl (by decide) hfl (lv0 := [some (vR A 0 0), some (vR A 3 m), some (vI p), none, none, none]) (ent_1 (cat_R _ _ _) (ent_1 (cat_R _ _ _) (ent_1 rfl (ent_n (ent_n (ent_n ent_0)))))) rfl ?_
  intro J X C F FX FT FU hW hA
  refine r_aload_n C dX0_absorb_0 lg_1 ?_
  refine r_getA C 102 1 dX0_absorb_1 fg_X0_16_3 rfl rfl hm (fun g1 => ?_)
  rw [h102]
  refine r_astore_n C dX0_absorb_4 (ls1_3 (cat_R _ _ _) rfl) ?_
  refine r_aload_n C dX0_absorb_5 lg_1 ?_
  refine r_iload_n C dX0_absorb_6 lg_2 ?_
  refine r_aload_n C dX0_absorb_7 lg_3 ?_
  refine r_getI C 33 dX0_absorb_8 fg_X0_37_1 rfl rfl hl1 (fun g8 => ?_)
  refine q_O3J C (cP_portion hfl hm hp (by omega) hq) dX0_absorb_11 lk_X0_50 ⟨Nat.le_of_ble_eq_true rfl, Nat.le_of_ble_eq_true rfl⟩ (catLe (Nat.le_of_ble_eq_true rfl)) ⟨rfl, rfl⟩ rfl (Nat.le_of_ble_eq_true rfl) (Nat.le_of_ble_eq_true rfl) (fun z11 S11 A11 i11 p11 => ?_)
  obtain ⟨rfl, rfl, rfl⟩ := p11
  refine r_lstore C dX0_absorb_14 (ls2_4 rfl (cat_R _ _ _)) ?_
  refine r_aload_n C dX0_absorb_16 lg_3 ?_
  refine r_dup C dX0_absorb_17 (cat_R _ _ _) ?_
  refine r_getJ C 34 dX0_absorb_18 fg_X0_54_1 rfl rfl hl1 (fun g18 => ?_)
  refine r_lload C dX0_absorb_21 lg_4 ?_
  refine r_ladd C dX0_absorb_23 ?_
  refine r_putJ C 34 dX0_absorb_24 fg_X0_54_1 rfl rfl hl1 (fun q h => by cases h; exact Or.inl rfl) hc ?_
  refine r_lload C dX0_absorb_27 lg_4 ?_
  exact f_J F dX0_absorb_29 (by omega) ⟨rfl, rfl, rfl⟩ (Nat.le_of_ble_eq_true rfl) (Nat.le_of_ble_eq_true rfl)
set_option maxRecDepth 20000 in
theorem cF_worth {G : GT} {l : Launch} (hfl : l.stackTraces = false) {S : ST} {A : AB} {q : QL3} (hl0 : lv1 A 0 0) (hq : QCH S (S 5 0) q) (hog : ∀ x ∈ og q, lv1 A 1 x) (hc : 0 ≤ qc q ∧ qc q ≤ 1000000000000000) : CT G l yX0_worth cX0_worth 4 (some .long) (rmk 0 0 0 0) S A [vR A 0 0] (oJ fun z S' A' => qc q = z ∧ S = S' ∧ A = A') (noX) := by
  refine ct_ofN (own := RX0) (mn := "worth") rfl rfl (by decide) hfl (lv0 := [some (vR A 0 0), none, none, none]) (ent_1 (cat_R _ _ _) (ent_n (ent_n (ent_n ent_0)))) rfl ?_
  intro J X C F FX FT FU hW hA
  have lp : ∀ (b : QL3) (s acc : Int) (hs : QCH S s b) (hb : ∀ x ∈ og b, lv1 A 1 x) (hG : acc + qc b = qc q), J 7 [some (vR A 0 0), some (vL acc), none, some (vR A 1 s)] [] S A 0 0 := by
    intro b
    induction b with
    | nil =>
      intro s acc hs hb hG
      have hs : s = -1 := hs
      have hG : acc + 0 = qc q := hG
      refine r_aload_n C dX0_worth_7 lg_3 ?_
      refine r_ifnull C (tgt := 26) dX0_worth_8 (by decide) (fun c8 => ?_) (fun c8 => ?_)
      · refine r_lload_n C dX0_worth_26 lg_1 ?_
        exact f_J F dX0_worth_27 (by omega) ⟨by omega, rfl, rfl⟩ (Nat.le_of_ble_eq_true rfl) (Nat.le_of_ble_eq_true rfl)
      · exfalso; omega
    | cons x t ih =>
      intro s acc hs hb hG
      obtain ⟨rfl, e33, e34, hs⟩ := hs
      have hz : lv1 A 1 x.2.2 := hb _ List.mem_cons_self
      have hG : acc + (x.2.1 + qc t) = qc q := hG
      refine r_aload_n C dX0_worth_7 lg_3 ?_
      refine r_ifnull C (tgt := 26) dX0_worth_8 (by decide) (fun c8 => ?_) (fun c8 => ?_)
      · exfalso; omega
      · refine r_lload_n C dX0_worth_11 lg_1 ?_
        refine r_aload_n C dX0_worth_12 lg_3 ?_
        refine r_getJ C 34 dX0_worth_13 fg_X0_54_1 rfl rfl hz (fun g13 => ?_)
        rw [e34]
        refine r_ladd C dX0_worth_16 ?_
        refine r_lstore_n C dX0_worth_17 (ls2_1 rfl (cat_R _ _ _)) ?_
        refine r_aload_n C dX0_worth_18 lg_3 ?_
        refine r_getA C 35 1 dX0_worth_19 fg_X0_34_1 rfl rfl hz (fun g19 => ?_)
        refine r_astore_n C dX0_worth_22 (ls1_3 (cat_R _ _ _) trivial) ?_
        refine r_goto C (tgt := 7) dX0_worth_23 (by decide) ?_
        exact ih _ _ hs (fun y hy => hb y (List.mem_cons_of_mem _ hy)) (by omega)
  refine r_lconst C dX0_worth_0 0 rfl ?_
  refine r_lstore_n C dX0_worth_1 (ls2_1 rfl (cat_R _ _ _)) ?_
  refine r_aload_n C dX0_worth_2 lg_0 ?_
  refine r_getA C 5 1 dX0_worth_3 fg_X0_7_0 rfl rfl hl0 (fun g3 => ?_)
  refine r_astore_n C dX0_worth_6 (ls1_3 (cat_R _ _ _) trivial) ?_
  exact lp q _ 0 hq hog (by omega)
set_option maxRecDepth 20000 in
theorem cF_length {G : GT} {l : Launch} (hfl : l.stackTraces = false) {S : ST} {A : AB} {q : QL3} (hl0 : lv1 A 0 0) (hq : QCH S (S 5 0) q) (hog : ∀ x ∈ og q, lv1 A 1 x) (hl : q.length ≤ 60) : CT G l yX0_length cX0_length 3 (some .int) (rmk 0 0 0 0) S A [vR A 0 0] (oI fun z S' A' => (q.length : Int) = z ∧ S = S' ∧ A = A') (noX) := by
  refine ct_ofN (own := RX0) (mn := "length") rfl rfl (by decide) hfl (lv0 := [some (vR A 0 0), none, none]) (ent_1 (cat_R _ _ _) (ent_n (ent_n ent_0))) rfl ?_
  intro J X C F FX FT FU hW hA
  have lp : ∀ (b : QL3) (s i : Int) (hs : QCH S s b) (hb : ∀ x ∈ og b, lv1 A 1 x) (hG : i + b.length = q.length), J 7 [some (vR A 0 0), some (vI i), some (vR A 1 s)] [] S A 0 0 := by
    intro b
    induction b with
    | nil =>
      intro s i hs hb hG
      have hs : s = -1 := hs
      have hG : i + 0 = q.length := hG
      refine r_aload_n C dX0_length_7 lg_2 ?_
      refine r_ifnull C (tgt := 22) dX0_length_8 (by decide) (fun c8 => ?_) (fun c8 => ?_)
      · refine r_iload_n C dX0_length_22 lg_1 ?_
        exact f_I F dX0_length_23 (by omega) ⟨by omega, rfl, rfl⟩ (Nat.le_of_ble_eq_true rfl) (Nat.le_of_ble_eq_true rfl)
      · exfalso; omega
    | cons x t ih =>
      intro s i hs hb hG
      obtain ⟨rfl, e33, e34, hs⟩ := hs
      have hz : lv1 A 1 x.2.2 := hb _ List.mem_cons_self
      rw [List.length_cons] at hG
      refine r_aload_n C dX0_length_7 lg_2 ?_
      refine r_ifnull C (tgt := 22) dX0_length_8 (by decide) (fun c8 => ?_) (fun c8 => ?_)
      · exfalso; omega
      · refine r_iinc C dX0_length_11 lg_1 (ls1_1 rfl (cat_R _ _ _)) ?_
        refine r_aload_n C dX0_length_14 lg_2 ?_
        refine r_getA C 35 1 dX0_length_15 fg_X0_34_1 rfl rfl hz (fun g15 => ?_)
        refine r_astore_n C dX0_length_18 (ls1_2 (cat_R _ _ _) rfl) ?_
        refine r_goto C (tgt := 7) dX0_length_19 (by decide) ?_
        exact ih _ _ hs (fun y hy => hb y (List.mem_cons_of_mem _ hy)) (by omega)
  refine r_iconst C dX0_length_0 ?_
  refine r_istore_n C dX0_length_1 (ls1_1 rfl (cat_R _ _ _)) ?_
  refine r_aload_n C dX0_length_2 lg_0 ?_
  refine r_getA C 5 1 dX0_length_3 fg_X0_7_0 rfl rfl hl0 (fun g3 => ?_)
  refine r_astore_n C dX0_length_6 (ls1_2 (cat_R _ _ _) rfl) ?_
  exact lp q _ 0 hq hog (by omega)
/-- the layer of a place in the queue -/
def laF (S : ST) (n1 : Int) (q : QL3) (i z : Int) : Prop := (¬ (0 ≤ i ∧ i < q.length) ∧ z = -1) ∨ (0 ≤ i ∧ i < q.length ∧ (0 ≤ z ∧ z < n1) ∧ S 33 z = (qat q i).1 ∧ S 34 z = (qat q i).2.1 ∧ z = (qat q i).2.2)
set_option maxRecDepth 20000 in
theorem cF_at {G : GT} {l : Launch} (hfl : l.stackTraces = false) {S : ST} {A : AB} {i : Int} {q : QL3} (hl0 : lv1 A 0 0) (hq : QCH S (S 5 0) q) (hog : ∀ x ∈ og q, lv1 A 1 x) (hl : q.length ≤ 60) (hi : rI i) : CT G l yX0_layerAt cX0_layerAt 4 (some (.object "Layerbook$Layer")) (rmk 0 0 0 0) S A [vR A 0 0, vI i] (oA 1 fun z S' A' => laF S (A.2 1) q i z ∧ S = S' ∧ A = A') (noX) := by
  refine ct_ofN (own := RX0) (mn := "layerAt") rfl rfl (by decide) hfl (lv0 := [some (vR A 0 0), some (vI i), none, none]) (ent_1 (cat_R _ _ _) (ent_1 rfl (ent_n (ent_n ent_0)))) rfl ?_
  intro J X C F FX FT FU hW hA
  have lp : ∀ (b a : QL3) (s : Int) (hab : q = a ++ b) (hs : QCH S s b) (hi : (a.length : Int) ≤ i), J 15 [some (vR A 0 0), some (vI i), some (vR A 1 s), some (vI (a.length : Int))] [] S A 0 0 := by
    intro b
    induction b with
    | nil =>
      intro a s hab hs hi
      have hs : s = -1 := hs
      have hla : q.length = a.length := by rw [hab, List.append_nil]
      refine r_iload_n C dX0_layerAt_15 lg_3 ?_
      refine r_iload_n C dX0_layerAt_16 lg_1 ?_
      refine r_icge C (tgt := 35) dX0_layerAt_17 (by decide) (by omega) (by omega) (fun c17 => ?_) (fun c17 => ?_)
      · refine r_aload_n C dX0_layerAt_35 lg_2 ?_
        exact f_A F dX0_layerAt_36 (by have := hA.2.2 1; omega) ⟨Or.inl ⟨by omega, hs⟩, rfl, rfl⟩ (Nat.le_of_ble_eq_true rfl) (Nat.le_of_ble_eq_true rfl)
      · refine r_aload_n C dX0_layerAt_20 lg_2 ?_
        refine r_ifnull C (tgt := 35) dX0_layerAt_21 (by decide) (fun c21 => ?_) (fun c21 => ?_)
        · refine r_aload_n C dX0_layerAt_35 lg_2 ?_
          exact f_A F dX0_layerAt_36 (by have := hA.2.2 1; omega) ⟨Or.inl ⟨by omega, hs⟩, rfl, rfl⟩ (Nat.le_of_ble_eq_true rfl) (Nat.le_of_ble_eq_true rfl)
        · exfalso; omega
    | cons x t ih =>
      intro a s hab hs hi
      obtain ⟨rfl, e33, e34, hs⟩ := hs
      have hz := hog x.2.2 (by rw [hab]; simp)
      have hlq : q.length = a.length + (t.length + 1) := by rw [hab, List.length_append, List.length_cons]
      refine r_iload_n C dX0_layerAt_15 lg_3 ?_
      refine r_iload_n C dX0_layerAt_16 lg_1 ?_
      refine r_icge C (tgt := 35) dX0_layerAt_17 (by decide) (by omega) (by omega) (fun c17 => ?_) (fun c17 => ?_)
      · refine r_aload_n C dX0_layerAt_35 lg_2 ?_
        exact f_A F dX0_layerAt_36 hz.2 ⟨Or.inr ⟨by omega, by omega, by
            have e : i.toNat = a.length := by omega
            have e2 : qat q i = x := by
              unfold qat
              rw [e, hab, List.getElem?_append_right (by omega), Nat.sub_self]
              rfl
            rw [e2]
            exact ⟨hz, e33, e34, rfl⟩⟩, rfl, rfl⟩ (Nat.le_of_ble_eq_true rfl) (Nat.le_of_ble_eq_true rfl)
      · refine r_aload_n C dX0_layerAt_20 lg_2 ?_
        refine r_ifnull C (tgt := 35) dX0_layerAt_21 (by decide) (fun c21 => ?_) (fun c21 => ?_)
        · exfalso; omega
        · refine r_aload_n C dX0_layerAt_24 lg_2 ?_
          refine r_getA C 35 1 dX0_layerAt_25 fg_X0_34_1 rfl rfl hz (fun g25 => ?_)
          refine r_astore_n C dX0_layerAt_28 (ls1_2 (cat_R _ _ _) rfl) ?_
          refine r_iinc C dX0_layerAt_29 lg_3 (ls1_3 rfl (cat_R _ _ _)) ?_
          refine r_goto C (tgt := 15) dX0_layerAt_32 (by decide) ?_
          have h9 := ih (a ++ [x]) (S 35 x.2.2) (by rw [hab]; simp) hs (by rw [List.length_append, List.length_singleton]; omega)
          rw [List.length_append, List.length_singleton] at h9
          exact h9
  have ng : ∀ (s : Int) (hs : s = -1) (hi : i < 0), J 15 [some (vR A 0 0), some (vI i), some (vR A 1 s), some (vI 0)] [] S A 0 0 := by
    intro s hs hi
    refine r_iload_n C dX0_layerAt_15 lg_3 ?_
    refine r_iload_n C dX0_layerAt_16 lg_1 ?_
    refine r_icge C (tgt := 35) dX0_layerAt_17 (by decide) (by omega) (by omega) (fun c17 => ?_) (fun c17 => ?_)
    · refine r_aload_n C dX0_layerAt_35 lg_2 ?_
      exact f_A F dX0_layerAt_36 (by have := hA.2.2 1; omega) ⟨Or.inl ⟨by omega, hs⟩, rfl, rfl⟩ (Nat.le_of_ble_eq_true rfl) (Nat.le_of_ble_eq_true rfl)
    · exfalso; omega
  refine r_iload_n C dX0_layerAt_0 lg_1 ?_
  refine r_ifge C (tgt := 8) dX0_layerAt_1 (by decide) (by omega) (fun c1 => ?_) (fun c1 => ?_)
  · refine r_aload_n C dX0_layerAt_8 lg_0 ?_
    refine r_getA C 5 1 dX0_layerAt_9 fg_X0_7_0 rfl rfl hl0 (fun g9 => ?_)
    refine r_astore_n C dX0_layerAt_12 (ls1_2 (cat_R _ _ _) rfl) ?_
    refine r_iconst C dX0_layerAt_13 ?_
    refine r_istore_n C dX0_layerAt_14 (ls1_3 rfl (cat_R _ _ _)) ?_
    first
    | exact lp q [] (S 5 0) rfl hq (by simp; omega)
    | exact ng (-1) rfl (by omega)
  · skip
    refine r_null C 1 dX0_layerAt_4 ?_
    refine r_goto C (tgt := 12) dX0_layerAt_5 (by decide) ?_
    refine r_astore_n C dX0_layerAt_12 (ls1_2 (cat_R _ _ _) rfl) ?_
    refine r_iconst C dX0_layerAt_13 ?_
    refine r_istore_n C dX0_layerAt_14 (ls1_3 rfl (cat_R _ _ _)) ?_
    first
    | exact lp q [] (S 5 0) rfl hq (by simp; omega)
    | exact ng (-1) rfl (by omega)
set_option maxRecDepth 20000 in
theorem cA_empty {G : GT} {l : Launch} (hfl : l.stackTraces = false) {S : ST} {A : AB} (hl4 : lv1 A 4 0) : CT G l yX4_empty cX4_empty 1 none (rmk 0 0 0 0) S A [vR A 4 0] (oV fun S' A' => A = A' ∧ upS S 133 0 0 = S') (noX) := by
  refine ct_ofN (own := RX4) (mn := "empty") rfl rfl (by decide) hfl (lv0 := [some (vR A 4 0)]) (ent_1 (cat_R _ _ _) ent_0) rfl ?_
  intro J X C F FX FT FU hW hA
  refine r_aload_n C dX4_empty_0 lg_0 ?_
  refine r_lconst C dX4_empty_1 0 rfl ?_
  refine r_putJ C 133 dX4_empty_2 fg_X4_7_4 rfl rfl hl4 (fun q h => by cases h; exact Or.inl rfl) (by omega) ?_
  exact f_V F dX4_empty_5 ⟨rfl, rfl⟩ (Nat.le_of_ble_eq_true rfl) (Nat.le_of_ble_eq_true rfl)
set_option maxRecDepth 20000 in
theorem cA_bring {G : GT} {l : Launch} (hfl : l.stackTraces = false) {S : ST} {A : AB} {m : Int} (hl4 : lv1 A 4 0) (hm : lv1 A 3 m) (hb : 0 ≤ S 133 0 ∧ S 133 0 ≤ 1000000000000000) (hc : 0 ≤ S 101 m ∧ S 101 m ≤ 1000000) : CT G l yX4_bring cX4_bring 2 none (rmk 0 0 0 0) S A [vR A 4 0, vR A 3 m] (oV fun S' A' => A = A' ∧ upS S 133 0 (S 133 0 + S 101 m) = S') (noX) := by
  refine ct_ofN (own := RX4) (mn := "bring") rfl rfl (by decide) hfl (lv0 := [some (vR A 4 0), some (vR A 3 m)]) (ent_1 (cat_R _ _ _) (ent_1 (cat_R _ _ _) ent_0)) rfl ?_
  intro J X C F FX FT FU hW hA
  refine r_aload_n C dX4_bring_0 lg_0 ?_
  refine r_dup C dX4_bring_1 (cat_R _ _ _) ?_
  refine r_getJ C 133 dX4_bring_2 fg_X4_7_4 rfl rfl hl4 (fun g2 => ?_)
  refine r_aload_n C dX4_bring_5 lg_1 ?_
  refine r_getI C 101 dX4_bring_6 fg_X4_13_3 rfl rfl hm (fun g6 => ?_)
  refine r_i2l C dX4_bring_9 (by omega) ?_
  refine r_ladd C dX4_bring_10 ?_
  refine r_putJ C 133 dX4_bring_11 fg_X4_7_4 rfl rfl hl4 (fun q h => by cases h; exact Or.inl rfl) (by omega) ?_
  exact f_V F dX4_bring_14 ⟨rfl, rfl⟩ (Nat.le_of_ble_eq_true rfl) (Nat.le_of_ble_eq_true rfl)
set_option maxRecDepth 20000 in
theorem cA_bringBack {G : GT} {l : Launch} (hfl : l.stackTraces = false) {S : ST} {A : AB} {m : Int} (hl4 : lv1 A 4 0) (hm : lv1 A 3 m) (hb : 0 ≤ S 133 0 ∧ S 133 0 ≤ 1000000000000000) (hc : 0 ≤ S 101 m ∧ S 101 m ≤ 1000000) : CT G l yX4_bringBack cX4_bringBack 2 none (rmk 0 0 0 0) S A [vR A 4 0, vR A 3 m] (oV fun S' A' => A = A' ∧ upS S 133 0 (S 133 0 + S 101 m) = S') (noX) := by
  refine ct_ofN (own := RX4) (mn := "bringBack") rfl rfl (by decide) hfl (lv0 := [some (vR A 4 0), some (vR A 3 m)]) (ent_1 (cat_R _ _ _) (ent_1 (cat_R _ _ _) ent_0)) rfl ?_
  intro J X C F FX FT FU hW hA
  refine r_aload_n C dX4_bringBack_0 lg_0 ?_
  refine r_dup C dX4_bringBack_1 (cat_R _ _ _) ?_
  refine r_getJ C 133 dX4_bringBack_2 fg_X4_7_4 rfl rfl hl4 (fun g2 => ?_)
  refine r_aload_n C dX4_bringBack_5 lg_1 ?_
  refine r_getI C 101 dX4_bringBack_6 fg_X4_13_3 rfl rfl hm (fun g6 => ?_)
  refine r_i2l C dX4_bringBack_9 (by omega) ?_
  refine r_ladd C dX4_bringBack_10 ?_
  refine r_putJ C 133 dX4_bringBack_11 fg_X4_7_4 rfl rfl hl4 (fun q h => by cases h; exact Or.inl rfl) (by omega) ?_
  exact f_V F dX4_bringBack_14 ⟨rfl, rfl⟩ (Nat.le_of_ble_eq_true rfl) (Nat.le_of_ble_eq_true rfl)
set_option maxRecDepth 20000 in
theorem cA_take {G : GT} {l : Launch} (hfl : l.stackTraces = false) {S : ST} {A : AB} {u : Int} (hl4 : lv1 A 4 0) (hb : 0 ≤ S 133 0 ∧ S 133 0 ≤ 1000000000000000) (hu : 1 ≤ u ∧ u ≤ 1000) (hh : u ≤ S 128 0 ∧ S 128 0 ≤ 100000000) : CT G l yX4_take cX4_take 4 (some .long) (rmk 0 0 0 0) S A [vR A 4 0, vI u] (oJ fun z S' A' => S 133 0 * u / S 128 0 = z ∧ A = A' ∧ upS S 133 0 (S 133 0 - S 133 0 * u / S 128 0) = S') (noX) := by
  have h1 := mul_b (a := S 133 0) (b := u) (x := 1000000000000000) (y := 1000) hb.1 hb.2 (by omega) hu.2
  have h2 := quo_b (a := S 133 0) (b := u) (s := S 128 0) hb.1 (by omega) (by omega) hh.1
  refine ct_ofN (own := RX4) (mn := "take") rfl rfl (by decide) hfl (lv0 := [some (vR A 4 0), some (vI u), none, none]) (ent_1 (cat_R _ _ _) (ent_1 rfl (ent_n (ent_n ent_0)))) rfl ?_
  intro J X C F FX FT FU hW hA
  refine r_aload_n C dX4_take_0 lg_0 ?_
  refine r_getI C 128 dX4_take_1 fg_X4_19_4 rfl rfl hl4 (fun g1 => ?_)
  refine r_ifle C (tgt := 23) dX4_take_4 (by decide) (by omega) (fun c4 => ?_) (fun c4 => ?_)
  · exfalso; omega
  · refine r_aload_n C dX4_take_7 lg_0 ?_
    refine r_getJ C 133 dX4_take_8 fg_X4_7_4 rfl rfl hl4 (fun g8 => ?_)
    refine r_iload_n C dX4_take_11 lg_1 ?_
    refine r_i2l C dX4_take_12 (by omega) ?_
    refine r_lmul C dX4_take_13 ?_
    refine r_aload_n C dX4_take_14 lg_0 ?_
    refine r_getI C 128 dX4_take_15 fg_X4_19_4 rfl rfl hl4 (fun g15 => ?_)
    refine r_i2l C dX4_take_18 (by omega) ?_
    refine r_ldiv C dX4_take_19 (by omega) (by omega) (by omega) (by omega) ?_
    refine r_goto C (tgt := 24) dX4_take_20 (by decide) ?_
    refine r_lstore_n C dX4_take_24 (ls2_2 rfl rfl) ?_
    refine r_aload_n C dX4_take_25 lg_0 ?_
    refine r_dup C dX4_take_26 (cat_R _ _ _) ?_
    refine r_getJ C 133 dX4_take_27 fg_X4_7_4 rfl rfl hl4 (fun g27 => ?_)
    refine r_lload_n C dX4_take_30 lg_2 ?_
    refine r_lsub C dX4_take_31 ?_
    refine r_putJ C 133 dX4_take_32 fg_X4_7_4 rfl rfl hl4 (fun q h => by cases h; exact Or.inl rfl) (by omega) ?_
    refine r_lload_n C dX4_take_35 lg_2 ?_
    exact f_J F dX4_take_36 (by omega) ⟨rfl, rfl, rfl⟩ (Nat.le_of_ble_eq_true rfl) (Nat.le_of_ble_eq_true rfl)
set_option maxRecDepth 20000 in
theorem cA_worth {G : GT} {l : Launch} (hfl : l.stackTraces = false) {S : ST} {A : AB} (hl4 : lv1 A 4 0) : CT G l yX4_worth cX4_worth 1 (some .long) (rmk 0 0 0 0) S A [vR A 4 0] (oJ fun z S' A' => S 133 0 = z ∧ S = S' ∧ A = A') (noX) := by
  refine ct_ofN (own := RX4) (mn := "worth") rfl rfl (by decide) hfl (lv0 := [some (vR A 4 0)]) (ent_1 (cat_R _ _ _) ent_0) rfl ?_
  intro J X C F FX FT FU hW hA
  refine r_aload_n C dX4_worth_0 lg_0 ?_
  refine r_getJ C 133 dX4_worth_1 fg_X4_7_4 rfl rfl hl4 (fun g1 => ?_)
  exact f_J F dX4_worth_4 g1 ⟨rfl, rfl, rfl⟩ (Nat.le_of_ble_eq_true rfl) (Nat.le_of_ble_eq_true rfl)
set_option maxRecDepth 20000 in
theorem cA_absorb {G : GT} {l : Launch} (hfl : l.stackTraces = false) {S : ST} {A : AB} {m p : Int} (hl4 : lv1 A 4 0) (hm : lv1 A 3 m) (hp : 0 ≤ p ∧ p ≤ 2000000) (hb : 0 ≤ S 133 0 ∧ S 133 0 ≤ 1000000000000000) (hh : 0 ≤ S 128 0 ∧ S 128 0 ≤ 100000000) (hq : 1 ≤ S 100 m ∧ S 100 m ≤ 1000) : CT G l yX4_absorb cX4_absorb 5 (some .long) (rmk 1 0 0 30) S A [vR A 4 0, vR A 3 m, vI p] (oJ fun z S' A' => p * mn (S 128 0) (S 100 m) / S 100 m = z ∧ A = A' ∧ upS S 133 0 (S 133 0 + p * mn (S 128 0) (S 100 m) / S 100 m) = S') (noX) := by
  have hmn : 0 ≤ mn (S 128 0) (S 100 m) ∧ mn (S 128 0) (S 100 m) ≤ S 100 m := by unfold mn; split <;> omega
  have h2 := quo_b (a := p) (b := mn (S 128 0) (S 100 m)) (s := S 100 m) hp.1 hmn.1 (by omega) hmn.2
  have emn : (if S 100 m < S 128 0 then S 100 m else S 128 0) = mn (S 128 0) (S 100 m) := by unfold mn; split <;> split <;> omega
  refine ct_ofN (own := RX4) (mn := "absorb") rfl rfl (by decide) hfl (lv0 := [some (vR A 4 0), some (vR A 3 m), some (vI p), none, none]) (ent_1 (cat_R _ _ _) (ent_1 (cat_R _ _ _) (ent_1 rfl (ent_n (ent_n ent_0))))) rfl ?_
  intro J X C F FX FT FU hW hA
  refine r_aload_n C dX4_absorb_0 lg_1 ?_
  refine r_iload_n C dX4_absorb_1 lg_2 ?_
  refine r_aload_n C dX4_absorb_2 lg_0 ?_
  refine r_getI C 128 dX4_absorb_3 fg_X4_19_4 rfl rfl hl4 (fun g3 => ?_)
  refine r_aload_n C dX4_absorb_6 lg_1 ?_
  refine r_getI C 100 dX4_absorb_7 fg_X4_22_3 rfl rfl hm (fun g7 => ?_)
  refine r_min C dX4_absorb_10 lk_X4_25 wMin2 wMin3 wMin4 (Nat.le_of_ble_eq_true rfl) (Nat.le_trans (Nat.add_le_add_right (catLe (Nat.le_of_ble_eq_true rfl)) 13) (Nat.le_of_ble_eq_true rfl)) (Nat.le_of_ble_eq_true rfl) (Nat.le_of_ble_eq_true rfl) (by omega) (by omega) ?_
  rw [emn]
  refine q_O3J C (cP_portion hfl hm hp (by omega) hq) dX4_absorb_13 lk_X4_31 ⟨Nat.le_of_ble_eq_true rfl, Nat.le_of_ble_eq_true rfl⟩ (catLe (Nat.le_of_ble_eq_true rfl)) ⟨rfl, rfl⟩ rfl (Nat.le_of_ble_eq_true rfl) (Nat.le_of_ble_eq_true rfl) (fun z13 S13 A13 i13 p13 => ?_)
  obtain ⟨rfl, rfl, rfl⟩ := p13
  refine r_lstore_n C dX4_absorb_16 (ls2_3 rfl rfl) ?_
  refine r_aload_n C dX4_absorb_17 lg_0 ?_
  refine r_dup C dX4_absorb_18 (cat_R _ _ _) ?_
  refine r_getJ C 133 dX4_absorb_19 fg_X4_7_4 rfl rfl hl4 (fun g19 => ?_)
  refine r_lload_n C dX4_absorb_22 lg_3 ?_
  refine r_ladd C dX4_absorb_23 ?_
  refine r_putJ C 133 dX4_absorb_24 fg_X4_7_4 rfl rfl hl4 (fun q h => by cases h; exact Or.inl rfl) (by omega) ?_
  refine r_lload_n C dX4_absorb_27 lg_3 ?_
  exact f_J F dX4_absorb_28 (by omega) ⟨rfl, rfl, rfl⟩ (Nat.le_of_ble_eq_true rfl) (Nat.le_of_ble_eq_true rfl)
