/-! the class: a movement valued -/
def FV (S : ST) (w : WS) : Prop := S 0 0 = w.hand ∧ S 1 0 = w.rcv ∧ S 2 0 = w.i0 ∧ S 3 0 = w.v0 ∧ S 4 0 = w.e0 ∧ FQ9 S w.q ∧ ∀ r, S 106 r = w.ic (2 * r)
def AV (S : ST) (w : WS) : Prop := S 128 0 = w.hand ∧ S 129 0 = w.rcv ∧ S 130 0 = w.i1 ∧ S 131 0 = w.v1 ∧ S 132 0 = w.e1 ∧ S 133 0 = w.avg ∧ ∀ r, S 106 r = w.ic (2 * r + 1)
theorem FQ9.fr {S S' : ST} {q : QL3} {cs : List Nat} (h : FQ9 S q) (hF : Fr cs S S') (hc : ∀ c ∈ [33, 34, 35, 5, 6], c ∉ cs) : FQ9 S' q := by
  refine ⟨?_, (hF 6 0 (hc 6 (by decide))).trans h.2⟩
  rw [hF 5 0 (hc 5 (by decide))]
  exact h.1.fr (fun z hz => ⟨hF _ _ (hc 33 (by decide)), hF _ _ (hc 34 (by decide)), hF _ _ (hc 35 (by decide))⟩)
theorem QCH.set {S : ST} {x : Int × Int × Int} {v : Int} : ∀ {a b : QL3} {s : Int}, QCH S s (a ++ x :: b) → (og (a ++ x :: b)).Nodup → QCH (upS S 34 x.2.2 v) s (a ++ (x.1, v, x.2.2) :: b)
  | [], b, s, ⟨h1, h2, h3, h4⟩, hn => by
    have n1 : x.2.2 ∉ og b := (List.nodup_cons.mp hn).1
    refine ⟨h1, by rw [upS_c _ _ (by decide)]; exact h2, by rw [h1, upS_self], ?_⟩
    rw [upS_c _ _ (by decide)]
    exact h4.fr (fun z hz => ⟨upS_c _ _ (by decide), upS_z _ _ (fun e => n1 (e ▸ hz)), upS_c _ _ (by decide)⟩)
  | y :: a, b, s, ⟨h1, h2, h3, h4⟩, hn => by
    have n1 : y.2.2 ∉ og (a ++ x :: b) := (List.nodup_cons.mp hn).1
    have hne : s ≠ x.2.2 := fun e => n1 (by rw [← h1, e]; simp)
    refine ⟨h1, by rw [upS_c _ _ (by decide)]; exact h2, by rw [upS_z _ _ hne]; exact h3, ?_⟩
    rw [upS_c _ _ (by decide)]
    exact QCH.set h4 (List.nodup_cons.mp hn).2
theorem qch_at {S : ST} {x : Int × Int × Int} : ∀ {a b : QL3} {s : Int}, QCH S s (a ++ x :: b) → S 33 x.2.2 = x.1 ∧ S 34 x.2.2 = x.2.1
  | [], b, s, ⟨h1, h2, h3, h4⟩ => by rw [← h1]; exact ⟨h2, h3⟩
  | y :: a, b, s, ⟨h1, h2, h3, h4⟩ => qch_at h4
theorem absL {S : ST} {q : QL3} {r p d : Int} (h : FQ9 S q) (hn : (og q).Nodup) (h0 : r ∉ og q → S 33 r = 0) : p * S 33 r / d = qmore r p d q ∧ FQ9 (upS S 34 r (S 34 r + p * S 33 r / d)) (qadd r p d q) := by
  by_cases hr : r ∈ og q
  · obtain ⟨a, x, b, rfl, rfl⟩ := q_split q hr
    have hxa : x.2.2 ∉ a.map (fun x => x.2.2) := fun h9 => by
      have hn2 := hn
      rw [show og (a ++ x :: b) = og a ++ x.2.2 :: og b by simp [og], List.nodup_append] at hn2
      exact hn2.2.2 _ h9 _ List.mem_cons_self rfl
    obtain ⟨e1, e2⟩ := qmore_y (p := p) (d := d) x a b hxa
    obtain ⟨e3, e4⟩ := qch_at h.1
    rw [e1, e2, e3, e4]
    refine ⟨rfl, ?_, ?_⟩
    · rw [upS_c _ _ (by decide)]; exact QCH.set h.1 hn
    · rw [upS_c _ _ (by decide), h.2, lo2_3, lo2_3]; simp [og]
  · obtain ⟨e1, e2⟩ := qmore_n (p := p) (d := d) q hr
    rw [e1, e2, h0 hr, Int.mul_zero, Int.zero_ediv, Int.add_zero]
    refine ⟨rfl, ?_, ?_⟩
    · rw [upS_c _ _ (by decide)]
      exact h.1.fr (fun z hz => ⟨upS_c _ _ (by decide), upS_z _ _ (fun e => hr (e ▸ hz)), upS_c _ _ (by decide)⟩)
    · rw [upS_c _ _ (by decide)]; exact h.2
/-- the reference's rows are the class's at m -/
def RA (S : ST) (R : RW) (m : Int) : Prop := S 97 m = R.kd m ∧ S 99 m = R.it m ∧ S 100 m = R.qt m ∧ S 101 m = R.co m
set_option maxRecDepth 20000 in
theorem cV0_apply {G : GT} {l : Launch} (hfl : l.stackTraces = false) {S : ST} {A : AB} {m item t : Int} {R : RW} {a : List Int} {w : WS} (hl0 : lv1 A 0 0) (hV : FV S w) (hR : WI R item a t w) (ht : 0 ≤ t ∧ t ≤ 4000) (hm : lv1 A 3 m) (hma : m ∉ a) (hra : RA S R m) (hkd : R.kd m = 0 ∨ R.kd m = 1 ∨ R.kd m = 2) (hqt : 1 ≤ R.qt m ∧ R.qt m ≤ 1000) (hco : 0 ≤ R.co m ∧ R.co m ≤ 1000000) (hv : ¬ R.kd m = 0 → R.qt m ≤ w.hand) (hl1 : lv1 A 1 m) (h102 : S 102 m = m) (hog : ∀ x ∈ og w.q, lv1 A 1 x) (hA1 : A.2 1 ≤ 60) : CT G l yX6_apply cX6_apply 2 none (rmk 2 0 0 56) S A [vR A 0 0, vR A 3 m] (oV fun S' A' => A = A' ∧ Fr [33, 34, 35, 5, 6, 0, 1, 2, 3, 4, 106] S S' ∧ FV S' (moveW R w m) ∧ ∀ r, r ≠ m → r ∉ og (moveW R w m).q → (r ∉ og w.q → S' 33 r = S 33 r) ∧ (r ∈ og w.q → S' 33 r = 0)) (noX) := by
  refine ct_ofN (own := RX6) (mn := "apply") rfl rfl (by decide) hfl (lv0 := [some (vR A 0 0), some (vR A 3 m)]) (ent_1 (cat_R _ _ _) (ent_1 (cat_R _ _ _) ent_0)) rfl ?_
  intro J X C F FX FT FU hW hA
  obtain ⟨ho, hnd, hmem, hlq, hqu, hhand, b1, b2, b3, b4, b5, b6, b7, b8, b9, b10⟩ := hR
  unfold bt at *
  obtain ⟨ra1, ra2, ra3, ra4⟩ := hra
  obtain ⟨x0, x1, x2, x3, x4, hq, hic⟩ := hV
  have hF : Fr [33, 34, 35, 5, 6, 0, 1, 2, 3, 4, 106] S S := Fr.rf
  have hmq : m ∉ og w.q := fun q => by
    obtain ⟨x, hx, e⟩ := List.mem_map.mp q
    exact hma (e ▸ hmem x hx)
  have hdl : dlt (S 97) (S 100) m = dlt R.kd R.qt m := by unfold dlt; rw [ra1, ra3]
  by_cases hk : R.kd m = 0
  · have hdk : dlt R.kd R.qt m = R.qt m := by unfold dlt; rw [if_pos hk]
    refine r_aload_n C dX6_apply_0 lg_1 ?_
    refine r_getI C 97 dX6_apply_1 fg_X6_36_3 rfl rfl hm (fun g1 => ?_)
    rw [hF 97 m (by decide), ra1, hk]
    refine r_ifne C (tgt := 29) dX6_apply_4 (by decide) (by omega) (fun c4 => ?_) (fun c4 => ?_)
    · exfalso; omega
    · refine r_aload_n C dX6_apply_7 lg_0 ?_
      refine r_aload_n C dX6_apply_8 lg_1 ?_
      refine q_U1V C (cF_bring hfl hl0 hm hl1 h102 hq hnd hmq hog hA1) dX6_apply_9 lk_X6_54_0 hl0 ⟨Nat.le_of_ble_eq_true rfl, Nat.le_of_ble_eq_true rfl⟩ (catLe (Nat.le_of_ble_eq_true rfl)) ⟨rfl, rfl⟩ rfl (Nat.le_of_ble_eq_true rfl) (Nat.le_of_ble_eq_true rfl) (fun S9 A9 p9 => ?_)
      obtain ⟨rfl, hF9, hq9, hu9⟩ := p9
      have hF : Fr [33, 34, 35, 5, 6, 0, 1, 2, 3, 4, 106] S S9 := hF.tr (hF9.sub (by decide))
      have x0 := (hF9 0 0 (by decide)).trans x0
      have x1 := (hF9 1 0 (by decide)).trans x1
      have x2 := (hF9 2 0 (by decide)).trans x2
      have x3 := (hF9 3 0 (by decide)).trans x3
      have x4 := (hF9 4 0 (by decide)).trans x4
      have hic := fun r => (hF9 106 r (by decide)).trans (hic r)
      have hq := hq9
      rw [ra3, ra4] at hq
      have hu : ∀ r, r ≠ m → r ∉ og (moveW R w m).q → (r ∉ og w.q → S9 33 r = S 33 r) ∧ (r ∈ og w.q → S9 33 r = 0) := fun r hr hr2 => ⟨fun _ => hu9 r hr, fun a => absurd (by unfold moveW; rw [if_pos hk]; show r ∈ og (w.q ++ [(R.qt m, R.co m, m)]); rw [show og (w.q ++ [(R.qt m, R.co m, m)]) = og w.q ++ [m] by simp [og]]; exact List.mem_append_left _ a) hr2⟩
      refine r_aload_n C dX6_apply_12 lg_0 ?_
      refine r_dup C dX6_apply_13 (cat_R _ _ _) ?_
      refine r_getJ C 1 dX6_apply_14 fg_X6_15_0 rfl rfl hl0 (fun g14 => ?_)
      rw [x1]
      refine r_aload_n C dX6_apply_17 lg_1 ?_
      refine r_getI C 101 dX6_apply_18 fg_X6_57_3 rfl rfl hm (fun g18 => ?_)
      rw [hF 101 m (by decide), ra4]
      refine r_i2l C dX6_apply_21 (by omega) ?_
      refine r_ladd C dX6_apply_22 ?_
      refine r_putJ C 1 dX6_apply_23 fg_X6_15_0 rfl rfl hl0 (fun q h => by cases h; exact Or.inl rfl) (by omega) ?_
      refine r_gS (fun S23 h23 => ?_)
      have hF : Fr [33, 34, 35, 5, 6, 0, 1, 2, 3, 4, 106] S S23 := hF.tr (by rw [h23]; exact Fr.up (by decide))
      have x0 := (congrFun (congrFun h23 0) 0).trans ((upS_c _ _ (by decide)).trans x0)
      have x1 := (congrFun (congrFun h23 1) 0).trans (upS_self _ _ _ _)
      have x2 := (congrFun (congrFun h23 2) 0).trans ((upS_c _ _ (by decide)).trans x2)
      have x3 := (congrFun (congrFun h23 3) 0).trans ((upS_c _ _ (by decide)).trans x3)
      have x4 := (congrFun (congrFun h23 4) 0).trans ((upS_c _ _ (by decide)).trans x4)
      have hq := hq.fr (show Fr [1] _ S23 by rw [h23]; exact Fr.up (by decide)) (by decide)
      have hu := fun r (hr : r ≠ m) (hr2 : r ∉ og (moveW R w m).q) => (⟨fun a => (congrFun (congrFun h23 33) r).trans ((upS_c _ _ (by decide)).trans ((hu r hr hr2).1 a)), fun a => (congrFun (congrFun h23 33) r).trans ((upS_c _ _ (by decide)).trans ((hu r hr hr2).2 a))⟩ : (r ∉ og w.q → S23 33 r = S 33 r) ∧ (r ∈ og w.q → S23 33 r = 0))
      have hic := fun r => (congrFun (congrFun h23 106) r).trans ((upS_c _ _ (by decide)).trans (hic r))
      refine r_goto C (tgt := 93) dX6_apply_26 (by decide) ?_
      refine r_aload_n C dX6_apply_93 lg_0 ?_
      refine r_dup C dX6_apply_94 (cat_R _ _ _) ?_
      refine r_getI C 0 dX6_apply_95 fg_X6_9_0 rfl rfl hl0 (fun g95 => ?_)
      rw [x0]
      refine r_aload_n C dX6_apply_98 lg_1 ?_
      refine q_V0I C (cV_change hfl hm (by rw [hF 100 m (by decide), ra3]; omega)) dX6_apply_99 lk_X6_73 hm ⟨Nat.le_of_ble_eq_true rfl, Nat.le_of_ble_eq_true rfl⟩ (catLe (Nat.le_of_ble_eq_true rfl)) ⟨rfl, rfl⟩ rfl (Nat.le_of_ble_eq_true rfl) (Nat.le_of_ble_eq_true rfl) (fun z99 S99 A99 i99 p99 => ?_)
      obtain ⟨rfl, rfl, rfl⟩ := p99
      rw [show dlt (S23 97) (S23 100) m = dlt R.kd R.qt m from by rw [show S23 97 = S 97 from hF.fn (by decide), show S23 100 = S 100 from hF.fn (by decide)]; exact hdl, hdk]
      refine r_iadd C dX6_apply_102 ?_
      refine r_putI C 0 dX6_apply_103 fg_X6_9_0 rfl rfl hl0 (fun q h => by cases h; exact Or.inl rfl) (by omega) ?_
      refine r_gS (fun S103 h103 => ?_)
      have hF : Fr [33, 34, 35, 5, 6, 0, 1, 2, 3, 4, 106] S S103 := hF.tr (by rw [h103]; exact Fr.up (by decide))
      have x0 := (congrFun (congrFun h103 0) 0).trans (upS_self _ _ _ _)
      have x1 := (congrFun (congrFun h103 1) 0).trans ((upS_c _ _ (by decide)).trans x1)
      have x2 := (congrFun (congrFun h103 2) 0).trans ((upS_c _ _ (by decide)).trans x2)
      have x3 := (congrFun (congrFun h103 3) 0).trans ((upS_c _ _ (by decide)).trans x3)
      have x4 := (congrFun (congrFun h103 4) 0).trans ((upS_c _ _ (by decide)).trans x4)
      have hq := hq.fr (show Fr [0] _ S103 by rw [h103]; exact Fr.up (by decide)) (by decide)
      have hu := fun r (hr : r ≠ m) (hr2 : r ∉ og (moveW R w m).q) => (⟨fun a => (congrFun (congrFun h103 33) r).trans ((upS_c _ _ (by decide)).trans ((hu r hr hr2).1 a)), fun a => (congrFun (congrFun h103 33) r).trans ((upS_c _ _ (by decide)).trans ((hu r hr hr2).2 a))⟩ : (r ∉ og w.q → S103 33 r = S 33 r) ∧ (r ∈ og w.q → S103 33 r = 0))
      have hic := fun r => (congrFun (congrFun h103 106) r).trans ((upS_c _ _ (by decide)).trans (hic r))
      exact f_V F dX6_apply_106 (by
        refine ⟨rfl, hF, ?_, hu⟩
        have hic9 := hic
        unfold FV
        unfold moveW
        rw [if_pos hk]
        exact ⟨x0, x1, x2, x3, x4, hq, hic9⟩) (Nat.le_of_ble_eq_true rfl) (Nat.le_of_ble_eq_true rfl)
  · have hk0 := hk
    have hv := hv hk0
    have htk := tk_ok w.q (R.qt m) ho
    have hqn := qc_nn htk.1
    have hqn2 := qc_nn ho
    by_cases hk1 : R.kd m = 1
    · have hdk : dlt R.kd R.qt m = -(R.qt m) := by unfold dlt; rw [if_neg hk0, if_pos hk1]
      clear hk
      have hk := hk1
      refine r_aload_n C dX6_apply_0 lg_1 ?_
      refine r_getI C 97 dX6_apply_1 fg_X6_36_3 rfl rfl hm (fun g1 => ?_)
      rw [hF 97 m (by decide), ra1, hk]
      refine r_ifne C (tgt := 29) dX6_apply_4 (by decide) (by omega) (fun c4 => ?_) (fun c4 => ?_)
      · refine r_aload_n C dX6_apply_29 lg_1 ?_
        refine r_getI C 97 dX6_apply_30 fg_X6_36_3 rfl rfl hm (fun g30 => ?_)
        rw [hF 97 m (by decide), ra1, hk]
        refine r_iconst C dX6_apply_33 ?_
        refine r_icne C (tgt := 65) dX6_apply_34 (by decide) (by omega) (by omega) (fun c34 => ?_) (fun c34 => ?_)
        · exfalso; omega
        · refine r_aload_n C dX6_apply_37 lg_1 ?_
          refine r_aload_n C dX6_apply_38 lg_0 ?_
          refine r_aload_n C dX6_apply_39 lg_1 ?_
          refine r_getI C 100 dX6_apply_40 fg_X6_60_3 rfl rfl hm (fun g40 => ?_)
          rw [hF 100 m (by decide), ra3]
          refine q_U1J C (cF_take hfl hl0 hq ho hnd hog (by omega) (by omega) (by omega) (by omega) hA1) dX6_apply_43 lk_X6_63_0 hl0 ⟨Nat.le_of_ble_eq_true rfl, Nat.le_of_ble_eq_true rfl⟩ (catLe (Nat.le_of_ble_eq_true rfl)) ⟨rfl, rfl⟩ rfl (Nat.le_of_ble_eq_true rfl) (Nat.le_of_ble_eq_true rfl) (fun z43 S43 A43 i43 p43 => ?_)
          obtain ⟨rfl, rfl, hF43, hq43, hu43, hz43⟩ := p43
          have hF : Fr [33, 34, 35, 5, 6, 0, 1, 2, 3, 4, 106] S S43 := hF.tr (hF43.sub (by decide))
          have x0 := (hF43 0 0 (by decide)).trans x0
          have x1 := (hF43 1 0 (by decide)).trans x1
          have x2 := (hF43 2 0 (by decide)).trans x2
          have x3 := (hF43 3 0 (by decide)).trans x3
          have x4 := (hF43 4 0 (by decide)).trans x4
          have hic := fun r => (hF43 106 r (by decide)).trans (hic r)
          have hq := hq43
          have hu : ∀ r, r ≠ m → r ∉ og (moveW R w m).q → (r ∉ og w.q → S43 33 r = S 33 r) ∧ (r ∈ og w.q → S43 33 r = 0) := fun r hr hr2 => ⟨fun a => hu43 r a, fun a => hz43 r a (by have h9 : (moveW R w m).q = (tk w.q (R.qt m)).2 := (by unfold moveW; rw [if_neg hk0, if_pos hk]; rfl); rw [h9] at hr2; exact hr2)⟩
          have ic9 : ∀ r, fu (S43 106) m (tk w.q (R.qt m)).1 r = (moveW R w m).ic (2 * r) := fun r => by
            have h9 : (moveW R w m).ic = fu (fu w.ic (2 * m) (tk w.q (R.qt m)).1) (2 * m + 1) (w.avg * R.qt m / w.hand) := by unfold moveW; rw [if_neg hk0, if_pos hk]; rfl
            rw [h9, fu_ne _ _ (show 2 * r ≠ 2 * m + 1 by omega)]
            by_cases e : r = m
            · rw [e, fu_self, fu_self]
            · rw [fu_ne _ _ e, fu_ne _ _ (show 2 * r ≠ 2 * m by omega)]; exact hic r
          refine r_putJ C 106 dX6_apply_46 fg_X6_67_3 rfl rfl hm (fun q h => by cases h; exact Or.inl rfl) (by omega) ?_
          refine r_gS (fun S46 h46 => ?_)
          have hF : Fr [33, 34, 35, 5, 6, 0, 1, 2, 3, 4, 106] S S46 := hF.tr (by rw [h46]; exact Fr.up (by decide))
          have x0 := (congrFun (congrFun h46 0) 0).trans ((upS_c _ _ (by decide)).trans x0)
          have x1 := (congrFun (congrFun h46 1) 0).trans ((upS_c _ _ (by decide)).trans x1)
          have x2 := (congrFun (congrFun h46 2) 0).trans ((upS_c _ _ (by decide)).trans x2)
          have x3 := (congrFun (congrFun h46 3) 0).trans ((upS_c _ _ (by decide)).trans x3)
          have x4 := (congrFun (congrFun h46 4) 0).trans ((upS_c _ _ (by decide)).trans x4)
          have hq := hq.fr (show Fr [106] _ S46 by rw [h46]; exact Fr.up (by decide)) (by decide)
          have hu := fun r (hr : r ≠ m) (hr2 : r ∉ og (moveW R w m).q) => (⟨fun a => (congrFun (congrFun h46 33) r).trans ((upS_c _ _ (by decide)).trans ((hu r hr hr2).1 a)), fun a => (congrFun (congrFun h46 33) r).trans ((upS_c _ _ (by decide)).trans ((hu r hr hr2).2 a))⟩ : (r ∉ og w.q → S46 33 r = S 33 r) ∧ (r ∈ og w.q → S46 33 r = 0))
          have hic := (fun r => by rw [h46, upS_fu]; exact ic9 r : ∀ r, S46 106 r = (moveW R w m).ic (2 * r))
          have g106 := (congrFun (congrFun h46 106) m).trans (upS_self _ _ _ _)
          refine r_aload_n C dX6_apply_49 lg_0 ?_
          refine r_dup C dX6_apply_50 (cat_R _ _ _) ?_
          refine r_getJ C 2 dX6_apply_51 fg_X6_19_0 rfl rfl hl0 (fun g51 => ?_)
          rw [x2]
          refine r_aload_n C dX6_apply_54 lg_1 ?_
          refine r_getJ C 106 dX6_apply_55 fg_X6_67_3 rfl rfl hm (fun g55 => ?_)
          rw [g106]
          refine r_ladd C dX6_apply_58 ?_
          refine r_putJ C 2 dX6_apply_59 fg_X6_19_0 rfl rfl hl0 (fun q h => by cases h; exact Or.inl rfl) (by omega) ?_
          refine r_gS (fun S59 h59 => ?_)
          have hF : Fr [33, 34, 35, 5, 6, 0, 1, 2, 3, 4, 106] S S59 := hF.tr (by rw [h59]; exact Fr.up (by decide))
          have x0 := (congrFun (congrFun h59 0) 0).trans ((upS_c _ _ (by decide)).trans x0)
          have x1 := (congrFun (congrFun h59 1) 0).trans ((upS_c _ _ (by decide)).trans x1)
          have x2 := (congrFun (congrFun h59 2) 0).trans (upS_self _ _ _ _)
          have x3 := (congrFun (congrFun h59 3) 0).trans ((upS_c _ _ (by decide)).trans x3)
          have x4 := (congrFun (congrFun h59 4) 0).trans ((upS_c _ _ (by decide)).trans x4)
          have hq := hq.fr (show Fr [2] _ S59 by rw [h59]; exact Fr.up (by decide)) (by decide)
          have hu := fun r (hr : r ≠ m) (hr2 : r ∉ og (moveW R w m).q) => (⟨fun a => (congrFun (congrFun h59 33) r).trans ((upS_c _ _ (by decide)).trans ((hu r hr hr2).1 a)), fun a => (congrFun (congrFun h59 33) r).trans ((upS_c _ _ (by decide)).trans ((hu r hr hr2).2 a))⟩ : (r ∉ og w.q → S59 33 r = S 33 r) ∧ (r ∈ og w.q → S59 33 r = 0))
          have hic := fun r => (congrFun (congrFun h59 106) r).trans ((upS_c _ _ (by decide)).trans (hic r))
          refine r_goto C (tgt := 93) dX6_apply_62 (by decide) ?_
          refine r_aload_n C dX6_apply_93 lg_0 ?_
          refine r_dup C dX6_apply_94 (cat_R _ _ _) ?_
          refine r_getI C 0 dX6_apply_95 fg_X6_9_0 rfl rfl hl0 (fun g95 => ?_)
          rw [x0]
          refine r_aload_n C dX6_apply_98 lg_1 ?_
          refine q_V0I C (cV_change hfl hm (by rw [hF 100 m (by decide), ra3]; omega)) dX6_apply_99 lk_X6_73 hm ⟨Nat.le_of_ble_eq_true rfl, Nat.le_of_ble_eq_true rfl⟩ (catLe (Nat.le_of_ble_eq_true rfl)) ⟨rfl, rfl⟩ rfl (Nat.le_of_ble_eq_true rfl) (Nat.le_of_ble_eq_true rfl) (fun z99 S99 A99 i99 p99 => ?_)
          obtain ⟨rfl, rfl, rfl⟩ := p99
          rw [show dlt (S59 97) (S59 100) m = dlt R.kd R.qt m from by rw [show S59 97 = S 97 from hF.fn (by decide), show S59 100 = S 100 from hF.fn (by decide)]; exact hdl, hdk]
          refine r_iadd C dX6_apply_102 ?_
          refine r_putI C 0 dX6_apply_103 fg_X6_9_0 rfl rfl hl0 (fun q h => by cases h; exact Or.inl rfl) (by omega) ?_
          refine r_gS (fun S103 h103 => ?_)
          have hF : Fr [33, 34, 35, 5, 6, 0, 1, 2, 3, 4, 106] S S103 := hF.tr (by rw [h103]; exact Fr.up (by decide))
          have x0 := (congrFun (congrFun h103 0) 0).trans (upS_self _ _ _ _)
          have x1 := (congrFun (congrFun h103 1) 0).trans ((upS_c _ _ (by decide)).trans x1)
          have x2 := (congrFun (congrFun h103 2) 0).trans ((upS_c _ _ (by decide)).trans x2)
          have x3 := (congrFun (congrFun h103 3) 0).trans ((upS_c _ _ (by decide)).trans x3)
          have x4 := (congrFun (congrFun h103 4) 0).trans ((upS_c _ _ (by decide)).trans x4)
          have hq := hq.fr (show Fr [0] _ S103 by rw [h103]; exact Fr.up (by decide)) (by decide)
          have hu := fun r (hr : r ≠ m) (hr2 : r ∉ og (moveW R w m).q) => (⟨fun a => (congrFun (congrFun h103 33) r).trans ((upS_c _ _ (by decide)).trans ((hu r hr hr2).1 a)), fun a => (congrFun (congrFun h103 33) r).trans ((upS_c _ _ (by decide)).trans ((hu r hr hr2).2 a))⟩ : (r ∉ og w.q → S103 33 r = S 33 r) ∧ (r ∈ og w.q → S103 33 r = 0))
          have hic := fun r => (congrFun (congrFun h103 106) r).trans ((upS_c _ _ (by decide)).trans (hic r))
          exact f_V F dX6_apply_106 (by
            refine ⟨rfl, hF, ?_, hu⟩
            have hic9 := hic
            unfold FV
            unfold moveW
            rw [if_neg hk0, if_pos hk]
            exact ⟨x0.trans (by show w.hand + -(R.qt m) = w.hand - R.qt m; omega), x1, x2, x3, x4, hq, (by unfold moveW at hic9; rw [if_neg hk0, if_pos hk] at hic9; exact hic9)⟩) (Nat.le_of_ble_eq_true rfl) (Nat.le_of_ble_eq_true rfl)
      · exfalso; omega
    · have hdk : dlt R.kd R.qt m = 0 := by unfold dlt; rw [if_neg hk0, if_neg hk1]
      clear hk
      have hk : R.kd m = 2 := by omega
      refine r_aload_n C dX6_apply_0 lg_1 ?_
      refine r_getI C 97 dX6_apply_1 fg_X6_36_3 rfl rfl hm (fun g1 => ?_)
      rw [hF 97 m (by decide), ra1, hk]
      refine r_ifne C (tgt := 29) dX6_apply_4 (by decide) (by omega) (fun c4 => ?_) (fun c4 => ?_)
      · refine r_aload_n C dX6_apply_29 lg_1 ?_
        refine r_getI C 97 dX6_apply_30 fg_X6_36_3 rfl rfl hm (fun g30 => ?_)
        rw [hF 97 m (by decide), ra1, hk]
        refine r_iconst C dX6_apply_33 ?_
        refine r_icne C (tgt := 65) dX6_apply_34 (by decide) (by omega) (by omega) (fun c34 => ?_) (fun c34 => ?_)
        · refine r_aload_n C dX6_apply_65 lg_0 ?_
          refine r_dup C dX6_apply_66 (cat_R _ _ _) ?_
          refine r_getJ C 3 dX6_apply_67 fg_X6_22_0 rfl rfl hl0 (fun g67 => ?_)
          rw [x3]
          refine r_aload_n C dX6_apply_70 lg_1 ?_
          refine r_getI C 101 dX6_apply_71 fg_X6_57_3 rfl rfl hm (fun g71 => ?_)
          rw [hF 101 m (by decide), ra4]
          refine r_i2l C dX6_apply_74 (by omega) ?_
          refine r_aload_n C dX6_apply_75 lg_0 ?_
          refine r_aload_n C dX6_apply_76 lg_1 ?_
          refine r_getI C 100 dX6_apply_77 fg_X6_60_3 rfl rfl hm (fun g77 => ?_)
          rw [hF 100 m (by decide), ra3]
          refine q_U1J C (cF_take hfl hl0 hq ho hnd hog (by omega) (by omega) (by omega) (by omega) hA1) dX6_apply_80 lk_X6_63_0 hl0 ⟨Nat.le_of_ble_eq_true rfl, Nat.le_of_ble_eq_true rfl⟩ (catLe (Nat.le_of_ble_eq_true rfl)) ⟨rfl, rfl⟩ rfl (Nat.le_of_ble_eq_true rfl) (Nat.le_of_ble_eq_true rfl) (fun z80 S80 A80 i80 p80 => ?_)
          obtain ⟨rfl, rfl, hF80, hq80, hu80, hz80⟩ := p80
          have hF : Fr [33, 34, 35, 5, 6, 0, 1, 2, 3, 4, 106] S S80 := hF.tr (hF80.sub (by decide))
          have x0 := (hF80 0 0 (by decide)).trans x0
          have x1 := (hF80 1 0 (by decide)).trans x1
          have x2 := (hF80 2 0 (by decide)).trans x2
          have x3 := (hF80 3 0 (by decide)).trans x3
          have x4 := (hF80 4 0 (by decide)).trans x4
          have hic := fun r => (hF80 106 r (by decide)).trans (hic r)
          have hq := hq80
          have hu : ∀ r, (r ∉ og w.q → S80 33 r = S 33 r) ∧ (r ∈ og w.q → r ∉ og (tk w.q (R.qt m)).2 → S80 33 r = 0) := fun r => ⟨hu80 r, hz80 r⟩
          have hmq2 : m ∉ og (tk w.q (R.qt m)).2 := fun q => by
            obtain ⟨p, hp⟩ := tk_map w.q (R.qt m)
            exact hmq (by show m ∈ w.q.map (fun x => x.2.2); rw [hp]; exact List.mem_append_right _ q)
          have hog2 : ∀ x ∈ og (tk w.q (R.qt m)).2, lv1 A 1 x := fun x q => by
            obtain ⟨p, hp⟩ := tk_map w.q (R.qt m)
            exact hog x (by show x ∈ w.q.map (fun x => x.2.2); rw [hp]; exact List.mem_append_right _ q)
          refine r_lsub C dX6_apply_83 ?_
          refine r_ladd C dX6_apply_84 ?_
          refine r_putJ C 3 dX6_apply_85 fg_X6_22_0 rfl rfl hl0 (fun q h => by cases h; exact Or.inl rfl) (by omega) ?_
          refine r_gS (fun S85 h85 => ?_)
          have hF : Fr [33, 34, 35, 5, 6, 0, 1, 2, 3, 4, 106] S S85 := hF.tr (by rw [h85]; exact Fr.up (by decide))
          have x0 := (congrFun (congrFun h85 0) 0).trans ((upS_c _ _ (by decide)).trans x0)
          have x1 := (congrFun (congrFun h85 1) 0).trans ((upS_c _ _ (by decide)).trans x1)
          have x2 := (congrFun (congrFun h85 2) 0).trans ((upS_c _ _ (by decide)).trans x2)
          have x3 := (congrFun (congrFun h85 3) 0).trans (upS_self _ _ _ _)
          have x4 := (congrFun (congrFun h85 4) 0).trans ((upS_c _ _ (by decide)).trans x4)
          have hq := hq.fr (show Fr [3] _ S85 by rw [h85]; exact Fr.up (by decide)) (by decide)
          have hic := fun r => (congrFun (congrFun h85 106) r).trans ((upS_c _ _ (by decide)).trans (hic r))
          have hu : ∀ r, (r ∉ og w.q → S85 33 r = S 33 r) ∧ (r ∈ og w.q → r ∉ og (tk w.q (R.qt m)).2 → S85 33 r = 0) := fun r => ⟨fun a => (congrFun (congrFun h85 33) r).trans ((upS_c _ _ (by decide)).trans ((hu r).1 a)), fun a b => (congrFun (congrFun h85 33) r).trans ((upS_c _ _ (by decide)).trans ((hu r).2 a b))⟩
          refine r_aload_n C dX6_apply_88 lg_0 ?_
          refine r_aload_n C dX6_apply_89 lg_1 ?_
          refine q_U1V C (cF_back hfl hl0 hm hl1 (by rw [hF 102 m (by decide)]; exact h102) hq hmq2 hog2 hA1) dX6_apply_90 lk_X6_70_0 hl0 ⟨Nat.le_of_ble_eq_true rfl, Nat.le_of_ble_eq_true rfl⟩ (catLe (Nat.le_of_ble_eq_true rfl)) ⟨rfl, rfl⟩ rfl (Nat.le_of_ble_eq_true rfl) (Nat.le_of_ble_eq_true rfl) (fun S90 A90 p90 => ?_)
          obtain ⟨rfl, hF90, hq90, hu90⟩ := p90
          have e100 := hF 100 m (by decide)
          have e101 := hF 101 m (by decide)
          have hF : Fr [33, 34, 35, 5, 6, 0, 1, 2, 3, 4, 106] S S90 := hF.tr (hF90.sub (by decide))
          have x0 := (hF90 0 0 (by decide)).trans x0
          have x1 := (hF90 1 0 (by decide)).trans x1
          have x2 := (hF90 2 0 (by decide)).trans x2
          have x3 := (hF90 3 0 (by decide)).trans x3
          have x4 := (hF90 4 0 (by decide)).trans x4
          have hic := fun r => (hF90 106 r (by decide)).trans (hic r)
          have hq := hq90
          rw [e100, e101, ra3, ra4] at hq
          have hu : ∀ r, r ≠ m → r ∉ og (moveW R w m).q → (r ∉ og w.q → S90 33 r = S 33 r) ∧ (r ∈ og w.q → S90 33 r = 0) := fun r hr hr2 => by
            have h9 : (moveW R w m).q = (R.qt m, R.co m, m) :: (tk w.q (R.qt m)).2 := by unfold moveW; rw [if_neg hk0, if_neg hk1]; rfl
            rw [h9] at hr2
            have hr3 : r ∉ og (tk w.q (R.qt m)).2 := fun q => hr2 (List.mem_cons_of_mem _ q)
            exact ⟨fun a => (hu90 r hr).trans ((hu r).1 a), fun a => (hu90 r hr).trans ((hu r).2 a hr3)⟩
          refine r_aload_n C dX6_apply_93 lg_0 ?_
          refine r_dup C dX6_apply_94 (cat_R _ _ _) ?_
          refine r_getI C 0 dX6_apply_95 fg_X6_9_0 rfl rfl hl0 (fun g95 => ?_)
          rw [x0]
          refine r_aload_n C dX6_apply_98 lg_1 ?_
          refine q_V0I C (cV_change hfl hm (by rw [hF 100 m (by decide), ra3]; omega)) dX6_apply_99 lk_X6_73 hm ⟨Nat.le_of_ble_eq_true rfl, Nat.le_of_ble_eq_true rfl⟩ (catLe (Nat.le_of_ble_eq_true rfl)) ⟨rfl, rfl⟩ rfl (Nat.le_of_ble_eq_true rfl) (Nat.le_of_ble_eq_true rfl) (fun z99 S99 A99 i99 p99 => ?_)
          obtain ⟨rfl, rfl, rfl⟩ := p99
          rw [show dlt (S90 97) (S90 100) m = dlt R.kd R.qt m from by rw [show S90 97 = S 97 from hF.fn (by decide), show S90 100 = S 100 from hF.fn (by decide)]; exact hdl, hdk]
          refine r_iadd C dX6_apply_102 ?_
          refine r_putI C 0 dX6_apply_103 fg_X6_9_0 rfl rfl hl0 (fun q h => by cases h; exact Or.inl rfl) (by omega) ?_
          refine r_gS (fun S103 h103 => ?_)
          have hF : Fr [33, 34, 35, 5, 6, 0, 1, 2, 3, 4, 106] S S103 := hF.tr (by rw [h103]; exact Fr.up (by decide))
          have x0 := (congrFun (congrFun h103 0) 0).trans (upS_self _ _ _ _)
          have x1 := (congrFun (congrFun h103 1) 0).trans ((upS_c _ _ (by decide)).trans x1)
          have x2 := (congrFun (congrFun h103 2) 0).trans ((upS_c _ _ (by decide)).trans x2)
          have x3 := (congrFun (congrFun h103 3) 0).trans ((upS_c _ _ (by decide)).trans x3)
          have x4 := (congrFun (congrFun h103 4) 0).trans ((upS_c _ _ (by decide)).trans x4)
          have hq := hq.fr (show Fr [0] _ S103 by rw [h103]; exact Fr.up (by decide)) (by decide)
          have hu := fun r (hr : r ≠ m) (hr2 : r ∉ og (moveW R w m).q) => (⟨fun a => (congrFun (congrFun h103 33) r).trans ((upS_c _ _ (by decide)).trans ((hu r hr hr2).1 a)), fun a => (congrFun (congrFun h103 33) r).trans ((upS_c _ _ (by decide)).trans ((hu r hr hr2).2 a))⟩ : (r ∉ og w.q → S103 33 r = S 33 r) ∧ (r ∈ og w.q → S103 33 r = 0))
          have hic := fun r => (congrFun (congrFun h103 106) r).trans ((upS_c _ _ (by decide)).trans (hic r))
          exact f_V F dX6_apply_106 (by
            refine ⟨rfl, hF, ?_, hu⟩
            have hic9 := hic
            unfold FV
            unfold moveW
            rw [if_neg hk0, if_neg hk1]
            exact ⟨x0.trans (by show w.hand + 0 = w.hand; omega), x1, x2, x3, x4, hq, hic9⟩) (Nat.le_of_ble_eq_true rfl) (Nat.le_of_ble_eq_true rfl)
        · exfalso; omega
      · exfalso; omega
