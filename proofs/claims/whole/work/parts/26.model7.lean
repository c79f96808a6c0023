/-! the reference: the queue of layers -/
abbrev QL3 := List (Int × Int × Int)
def QD (S : ST) (q : QL3) : Prop := S 244 0 = q.length ∧ ∀ (i : Nat) (x : Int × Int × Int), q[i]? = some x → S 992 i = x.1 ∧ S 1024 i = x.2.1 ∧ S 1056 i = x.2.2
def qc : QL3 → Int
  | [] => 0
  | x :: t => x.2.1 + qc t
def qu : QL3 → Int
  | [] => 0
  | x :: t => x.1 + qu t
def QOK (q : QL3) : Prop := ∀ x ∈ q, (1 ≤ x.1 ∧ x.1 ≤ 1000) ∧ 0 ≤ x.2.1
theorem qc_nn : ∀ {q : QL3}, QOK q → 0 ≤ qc q
  | [], _ => Int.le_refl _
  | x :: t, h => by
    have h1 := qc_nn (q := t) (fun y hy => h y (List.mem_cons_of_mem _ hy))
    have h2 := h x List.mem_cons_self
    show 0 ≤ x.2.1 + qc t
    omega
theorem qu_nn : ∀ {q : QL3}, QOK q → 0 ≤ qu q
  | [], _ => Int.le_refl _
  | x :: t, h => by
    have h1 := qu_nn (q := t) (fun y hy => h y (List.mem_cons_of_mem _ hy))
    have h2 := h x List.mem_cons_self
    show 0 ≤ x.1 + qu t
    omega
def mn (a b : Int) : Int := if a < b then a else b
/-- units taken from the queue: their cost, what is left -/
def tk : QL3 → Int → Int × QL3
  | [], _ => (0, [])
  | x :: t, u => if u ≤ 0 then (0, x :: t) else
      if x.1 ≤ u then (x.2.1 * x.1 / x.1 + (tk t (u - x.1)).1, (tk t (u - x.1)).2)
      else (x.2.1 * u / x.1, (x.1 - u, x.2.1 - x.2.1 * u / x.1, x.2.2) :: t)
theorem tk_0 (q : QL3) {u : Int} (h : u ≤ 0) : tk q u = (0, q) := by
  cases q with
  | nil => rfl
  | cons x t => show (if u ≤ 0 then _ else _) = _; rw [if_pos h]
theorem tk_1 (x : Int × Int × Int) (t : QL3) {u : Int} (h : 0 < u) (h1 : x.1 ≤ u) : tk (x :: t) u = (x.2.1 * x.1 / x.1 + (tk t (u - x.1)).1, (tk t (u - x.1)).2) := by
  show (if u ≤ 0 then _ else _) = _
  rw [if_neg (by omega), if_pos h1]
theorem tk_2 (x : Int × Int × Int) (t : QL3) {u : Int} (h : 0 < u) (h1 : ¬ x.1 ≤ u) : tk (x :: t) u = (x.2.1 * u / x.1, (x.1 - u, x.2.1 - x.2.1 * u / x.1, x.2.2) :: t) := by
  show (if u ≤ 0 then _ else _) = _
  rw [if_neg (by omega), if_neg h1]
theorem tk_ok : ∀ (q : QL3) (u : Int), QOK q → QOK (tk q u).2 ∧ (tk q u).1 + qc (tk q u).2 = qc q ∧ 0 ≤ (tk q u).1 ∧ (tk q u).2.length ≤ q.length ∧ (0 ≤ u → u ≤ qu q → qu (tk q u).2 = qu q - u) ∧ (∀ y ∈ (tk q u).2, ∃ x ∈ q, y.2.2 = x.2.2 ∧ y.1 ≤ x.1)
  | [], u, h => ⟨h, rfl, Int.le_refl _, Nat.le_refl _, fun h1 h2 => by show (0 : Int) = 0 - u; have : qu [] = 0 := rfl; omega, fun y hy => by cases hy⟩
  | x :: t, u, h => by
    obtain ⟨⟨hx1, hx2⟩, hx3⟩ := h x List.mem_cons_self
    have ht : QOK t := fun y hy => h y (List.mem_cons_of_mem _ hy)
    by_cases h0 : u ≤ 0
    · rw [tk_0 _ h0]
      exact ⟨h, by show 0 + qc (x :: t) = _; omega, Int.le_refl _, Nat.le_refl _, fun h1 h2 => by show qu (x :: t) = _; omega, fun y hy => ⟨y, hy, rfl, Int.le_refl _⟩⟩
    · by_cases h1 : x.1 ≤ u
      · rw [tk_1 _ _ (by omega) h1]
        obtain ⟨i1, i2, i3, i4, i5, i6⟩ := tk_ok t (u - x.1) ht
        have e : x.2.1 * x.1 / x.1 = x.2.1 := Int.mul_ediv_cancel _ (by omega)
        refine ⟨i1, ?_, ?_, ?_, fun q1 q2 => ?_, fun y hy => ?_⟩
        · show x.2.1 * x.1 / x.1 + (tk t (u - x.1)).1 + qc (tk t (u - x.1)).2 = x.2.1 + qc t
          omega
        · show 0 ≤ x.2.1 * x.1 / x.1 + (tk t (u - x.1)).1
          omega
        · show (tk t (u - x.1)).2.length ≤ (x :: t).length
          rw [List.length_cons]; omega
        · show qu (tk t (u - x.1)).2 = x.1 + qu t - u
          have q3 : u ≤ x.1 + qu t := q2
          have := i5 (by omega) (by omega)
          omega
        · obtain ⟨z, hz, e1, e2⟩ := i6 y hy
          exact ⟨z, List.mem_cons_of_mem _ hz, e1, e2⟩
      · rw [tk_2 _ _ (by omega) h1]
        have hq := quo_b (a := x.2.1) (b := u) (s := x.1) hx3 (by omega) (by omega) (by omega)
        refine ⟨fun y hy => ?_, ?_, hq.1, Nat.le_refl _, fun q1 q2 => ?_, fun y hy => ?_⟩
        · rcases List.mem_cons.mp hy with rfl | hy
          · refine ⟨⟨?_, ?_⟩, ?_⟩
            · show 1 ≤ x.1 - u; omega
            · show x.1 - u ≤ 1000; omega
            · show 0 ≤ x.2.1 - x.2.1 * u / x.1; omega
          · exact ht y hy
        · show x.2.1 * u / x.1 + (x.2.1 - x.2.1 * u / x.1 + qc t) = x.2.1 + qc t
          omega
        · show x.1 - u + qu t = x.1 + qu t - u
          omega
        · rcases List.mem_cons.mp hy with rfl | hy
          · exact ⟨x, List.mem_cons_self, rfl, by show x.1 - u ≤ x.1; omega⟩
          · exact ⟨y, List.mem_cons_of_mem _ hy, rfl, Int.le_refl _⟩
set_option maxRecDepth 20000 in
theorem cM_drops {G : GT} {l : Launch} (hfl : l.stackTraces = false) {S : ST} {A : AB} {x : Int × Int × Int} {t : QL3} (M0 : RM S A) (hq : QD S (x :: t)) (hl : t.length + 1 ≤ 60) : CT G l yX8_drops cX8_drops 2 none (rmk 0 0 0 0) S A [vR A 7 0] (oV fun S' A' => A = A' ∧ Fr [244, 992, 1024, 1056] S S' ∧ QD S' t) (noX) := by
  have h244 : S 244 0 = (t.length : Int) + 1 := by have := hq.1; rw [List.length_cons] at this; omega
  refine ct_ofN (own := RX8) (mn := "drops") rfl rfl (by decide) hfl (lv0 := [some (vR A 7 0), none]) (ent_1 (cat_R _ _ _) (ent_n ent_0)) rfl ?_
  intro J X C F FX FT FU hW hA
  have lp : ∀ (N : Nat) (i : Int) (S1 : ST) (h1 : 0 ≤ i) (h2 : i ≤ t.length) (hF : Fr [244, 992, 1024, 1056] S S1) (h244 : S1 244 0 = t.length) (ha : ∀ j, S1 992 j = if 0 ≤ j ∧ j < i then S 992 (j + 1) else S 992 j) (hb : ∀ j, S1 1024 j = if 0 ≤ j ∧ j < i then S 1024 (j + 1) else S 1024 j) (hc : ∀ j, S1 1056 j = if 0 ≤ j ∧ j < i then S 1056 (j + 1) else S 1056 j) (hN : t.length - i < N), J 12 [some (vR A 7 0), some (vI i)] [] S1 A 0 0 := by
    intro N
    induction N with
    | zero => intro i S1 h1 h2 hF h244 ha hb hc hN; omega
    | succ N ih =>
      intro i S1 h1 h2 hF h244 ha hb hc hN
      have M := M0.of hF (by decide)
      refine r_iload_n C dX8_drops_12 lg_1 ?_
      refine r_aload_n C dX8_drops_13 lg_0 ?_
      refine r_getI C 244 dX8_drops_14 fg_X8_161_7 rfl rfl M.1 (fun g14 => ?_)
      refine r_icge C (tgt := 68) dX8_drops_17 (by decide) (by omega) (by omega) (fun c17 => ?_) (fun c17 => ?_)
      · exact f_V F dX8_drops_68 ⟨rfl, hF, h244, fun k y hy => by
            have hk := (List.getElem?_eq_some_iff.mp hy).1
            have h9 := hq.2 (k + 1) y hy
            rw [Int.natCast_add] at h9
            rw [ha, hb, hc, if_pos (by omega), if_pos (by omega), if_pos (by omega)]
            exact h9⟩ (Nat.le_of_ble_eq_true rfl) (Nat.le_of_ble_eq_true rfl)
      · refine r_aload_n C dX8_drops_20 lg_0 ?_
        refine r_getA C 245 31 dX8_drops_21 fg_X8_58_7 rfl rfl M.1 (fun g21 => ?_)
        refine r_iload_n C dX8_drops_24 lg_1 ?_
        refine r_aload_n C dX8_drops_25 lg_0 ?_
        refine r_getA C 245 31 dX8_drops_26 fg_X8_58_7 rfl rfl M.1 (fun g26 => ?_)
        refine r_iload_n C dX8_drops_29 lg_1 ?_
        refine r_iconst C dX8_drops_30 ?_
        refine r_iadd C dX8_drops_31 ?_
        refine r_iald C (N := 60) 992 dX8_drops_32 (by decide) rfl rfl (M.g (j := 21) (by decide)) (by omega) (by omega) (by omega) (fun g32 => ?_)
        refine r_iast C (N := 60) 992 dX8_drops_33 (by decide) rfl rfl (M.g (j := 21) (by decide)) (by omega) (by omega) (by omega) (by omega) ?_
        refine r_gS (fun S33 h33 => ?_)
        have M : RM S33 A := by rw [h33]; exact M.up (by decide)
        refine r_aload_n C dX8_drops_34 lg_0 ?_
        refine r_getA C 246 32 dX8_drops_35 fg_X8_61_7 rfl rfl M.1 (fun g35 => ?_)
        refine r_iload_n C dX8_drops_38 lg_1 ?_
        refine r_aload_n C dX8_drops_39 lg_0 ?_
        refine r_getA C 246 32 dX8_drops_40 fg_X8_61_7 rfl rfl M.1 (fun g40 => ?_)
        refine r_iload_n C dX8_drops_43 lg_1 ?_
        refine r_iconst C dX8_drops_44 ?_
        refine r_iadd C dX8_drops_45 ?_
        refine r_lald C (N := 60) 1024 dX8_drops_46 (by decide) rfl rfl (M.g (j := 22) (by decide)) (by omega) (by omega) (by omega) (fun g46 => ?_)
        refine r_last C (N := 60) 1024 dX8_drops_47 (by decide) rfl rfl (M.g (j := 22) (by decide)) (by omega) (by omega) (by omega) (by omega) ?_
        refine r_gS (fun S47 h47 => ?_)
        have M : RM S47 A := by rw [h47]; exact M.up (by decide)
        refine r_aload_n C dX8_drops_48 lg_0 ?_
        refine r_getA C 247 33 dX8_drops_49 fg_X8_64_7 rfl rfl M.1 (fun g49 => ?_)
        refine r_iload_n C dX8_drops_52 lg_1 ?_
        refine r_aload_n C dX8_drops_53 lg_0 ?_
        refine r_getA C 247 33 dX8_drops_54 fg_X8_64_7 rfl rfl M.1 (fun g54 => ?_)
        refine r_iload_n C dX8_drops_57 lg_1 ?_
        refine r_iconst C dX8_drops_58 ?_
        refine r_iadd C dX8_drops_59 ?_
        refine r_iald C (N := 60) 1056 dX8_drops_60 (by decide) rfl rfl (M.g (j := 23) (by decide)) (by omega) (by omega) (by omega) (fun g60 => ?_)
        refine r_iast C (N := 60) 1056 dX8_drops_61 (by decide) rfl rfl (M.g (j := 23) (by decide)) (by omega) (by omega) (by omega) (by omega) ?_
        refine r_gS (fun S61 h61 => ?_)
        have M : RM S61 A := by rw [h61]; exact M.up (by decide)
        refine r_iinc C dX8_drops_62 lg_1 (ls1_1 rfl (cat_R _ _ _)) ?_
        refine r_goto C (tgt := 12) dX8_drops_65 (by decide) ?_
        have f33 : Fr [244, 992, 1024, 1056] S1 S33 := by rw [h33]; exact Fr.up (by decide)
        have f47 : Fr [244, 992, 1024, 1056] S33 S47 := by rw [h47]; exact Fr.up (by decide)
        have f61 : Fr [244, 992, 1024, 1056] S47 S61 := by rw [h61]; exact Fr.up (by decide)
        refine ih (i + 1) S61 (by omega) (by omega) (((hF.tr f33).tr f47).tr f61) (by rw [h61, upS_c _ _ (by decide), h47, upS_c _ _ (by decide), h33, upS_c _ _ (by decide)]; exact h244) (fun j => ?_) (fun j => ?_) (fun j => ?_) (by omega)
        · rw [h61, upS_c _ _ (by decide), h47, upS_c _ _ (by decide), h33]
          by_cases e : j = i
          · rw [e, upS_self, if_pos (by omega), ha, if_neg (by omega)]
          · rw [upS_z _ _ e, ha]
            by_cases hk : 0 ≤ j ∧ j < i
            · rw [if_pos hk, if_pos (by omega)]
            · rw [if_neg hk, if_neg (by omega)]
        · rw [h61, upS_c _ _ (by decide), h47]
          by_cases e : j = i
          · rw [e, upS_self, h33, upS_c _ _ (by decide), if_pos (by omega), hb, if_neg (by omega)]
          · rw [upS_z _ _ e, h33, upS_c _ _ (by decide), hb]
            by_cases hk : 0 ≤ j ∧ j < i
            · rw [if_pos hk, if_pos (by omega)]
            · rw [if_neg hk, if_neg (by omega)]
        · rw [h61]
          by_cases e : j = i
          · rw [e, upS_self, h47, upS_c _ _ (by decide), h33, upS_c _ _ (by decide), if_pos (by omega), hc, if_neg (by omega)]
          · rw [upS_z _ _ e, h47, upS_c _ _ (by decide), h33, upS_c _ _ (by decide), hc]
            by_cases hk : 0 ≤ j ∧ j < i
            · rw [if_pos hk, if_pos (by omega)]
            · rw [if_neg hk, if_neg (by omega)]
  have M := M0
  refine r_aload_n C dX8_drops_0 lg_0 ?_
  refine r_dup C dX8_drops_1 (cat_R _ _ _) ?_
  refine r_getI C 244 dX8_drops_2 fg_X8_161_7 rfl rfl M.1 (fun g2 => ?_)
  refine r_iconst C dX8_drops_5 ?_
  refine r_isub C dX8_drops_6 ?_
  refine r_putI C 244 dX8_drops_7 fg_X8_161_7 rfl rfl M.1 (fun q h => by cases h; exact Or.inl rfl) (by omega) ?_
  refine r_iconst C dX8_drops_10 ?_
  refine r_istore_n C dX8_drops_11 (ls1_1 rfl (cat_R _ _ _)) ?_
  refine lp ((t.length : Int) + 1).toNat 0 _ (by omega) (by omega) (Fr.up (by decide)) ?_ (fun j => by rw [upS_c _ _ (by decide), if_neg (by omega)]) (fun j => by rw [upS_c _ _ (by decide), if_neg (by omega)]) (fun j => by rw [upS_c _ _ (by decide), if_neg (by omega)]) (by omega)
  rw [upS_self]; omega
set_option maxRecDepth 20000 in
theorem cM_takes {G : GT} {l : Launch} (hfl : l.stackTraces = false) {S : ST} {A : AB} {u : Int} {q : QL3} (M0 : RM S A) (hq : QD S q) (ho : QOK q) (hl : q.length ≤ 60) (hu0 : 0 ≤ u) (hu2 : u ≤ 1000) (hu1 : u ≤ qu q) (hc : qc q ≤ 1000000000000000) : CT G l yX8_takes cX8_takes 8 (some .long) (rmk 1 0 0 21) S A [vR A 7 0, vI u] (oJ fun z S' A' => (tk q u).1 = z ∧ A = A' ∧ Fr [244, 992, 1024, 1056] S S' ∧ QD S' (tk q u).2) (noX) := by
  refine ct_ofN (own := RX8) (mn := "takes") rfl rfl (by decide) hfl (lv0 := [some (vR A 7 0), some (vI u), none, none, none, none, none, none]) (ent_1 (cat_R _ _ _) (ent_1 rfl (ent_n (ent_n (ent_n (ent_n (ent_n (ent_n ent_0)))))))) rfl ?_
  intro J X C F FX FT FU hW hA
  have lp : ∀ (N : Nat) (q1 : QL3) (v acc : Int) (S1 : ST) (hF : Fr [244, 992, 1024, 1056] S S1) (hq1 : QD S1 q1) (ho : QOK q1) (hl1 : q1.length ≤ 60) (hv0 : 0 ≤ v) (hv1 : v ≤ qu q1) (hv2 : v ≤ 1000) (ha0 : 0 ≤ acc) (ha1 : acc + qc q1 ≤ 1000000000000000) (hG : (acc + (tk q1 v).1, (tk q1 v).2) = tk q u) (hN : q1.length + v < N), J 5 [some (vR A 7 0), some (vI u), some (vL acc), none, some (vI v), none, none, none] [] S1 A 0 0 := by
    intro N
    induction N with
    | zero => intro q1 v acc S1 hF hq1 ho hl1 hv0 hv1 hv2 ha0 ha1 hG hN; omega
    | succ N ih =>
      intro q1 v acc S1 hF hq1 ho hl1 hv0 hv1 hv2 ha0 ha1 hG hN
      have M := M0.of hF (by decide)
      have hqc := qc_nn ho
      refine r_iload C dX8_takes_5 lg_4 ?_
      refine r_ifle C (tgt := 104) dX8_takes_7 (by decide) (by omega) (fun c7 => ?_) (fun c7 => ?_)
      · refine r_lload_n C dX8_takes_104 lg_2 ?_
        exact f_J F dX8_takes_105 (by omega) (by
          rw [tk_0 _ (show v ≤ 0 by omega)] at hG
          rw [← hG]
          exact ⟨by show acc + 0 = acc; omega, rfl, hF, hq1⟩) (Nat.le_of_ble_eq_true rfl) (Nat.le_of_ble_eq_true rfl)
      · obtain ⟨x, t, rfl⟩ : ∃ x t, q1 = x :: t := by
          cases q1 with
          | nil => have : qu [] = 0 := rfl; omega
          | cons x t => exact ⟨x, t, rfl⟩
        obtain ⟨⟨hx1, hx2⟩, hx3⟩ := ho x List.mem_cons_self
        have hot : QOK t := fun y hy => ho y (List.mem_cons_of_mem _ hy)
        have hqt := qc_nn hot
        have eqc : qc (x :: t) = x.2.1 + qc t := rfl
        have equ : qu (x :: t) = x.1 + qu t := rfl
        rw [List.length_cons] at hl1 hN
        obtain ⟨y1, y2, y3⟩ := hq1.2 0 x rfl
        have y1 : S1 992 0 = x.1 := y1
        have y2 : S1 1024 0 = x.2.1 := y2
        have y3 : S1 1056 0 = x.2.2 := y3
        refine r_aload_n C dX8_takes_10 lg_0 ?_
        refine r_getA C 245 31 dX8_takes_11 fg_X8_58_7 rfl rfl M.1 (fun g11 => ?_)
        refine r_iconst C dX8_takes_14 ?_
        refine r_iald C (N := 60) 992 dX8_takes_15 (by decide) rfl rfl (M.g (j := 21) (by decide)) (by omega) (by omega) (by omega) (fun g15 => ?_)
        refine r_iload C dX8_takes_16 lg_4 ?_
        rw [y1]
        refine r_icge C (tgt := 30) dX8_takes_18 (by decide) (by omega) (by omega) (fun c18 => ?_) (fun c18 => ?_)
        · have hhu : 0 ≤ v ∧ v ≤ x.1 := by omega
          have hpr := mul_b (a := x.2.1) (b := v) (x := 1000000000000000) (y := 1000) hx3 (by omega) hhu.1 (by omega)
          have hqq := quo_b (a := x.2.1) (b := v) (s := x.1) hx3 hhu.1 (by omega) hhu.2
          refine r_iload C dX8_takes_30 lg_4 ?_
          refine r_istore C dX8_takes_32 (ls1_5 rfl rfl) ?_
          refine r_aload_n C dX8_takes_34 lg_0 ?_
          refine r_getA C 246 32 dX8_takes_35 fg_X8_61_7 rfl rfl M.1 (fun g35 => ?_)
          refine r_iconst C dX8_takes_38 ?_
          refine r_lald C (N := 60) 1024 dX8_takes_39 (by decide) rfl rfl (M.g (j := 22) (by decide)) (by omega) (by omega) (by omega) (fun g39 => ?_)
          refine r_iload C dX8_takes_40 lg_5 ?_
          refine r_i2l C dX8_takes_42 (by omega) ?_
          rw [y2]
          refine r_lmul C dX8_takes_43 ?_
          refine r_aload_n C dX8_takes_44 lg_0 ?_
          refine r_getA C 245 31 dX8_takes_45 fg_X8_58_7 rfl rfl M.1 (fun g45 => ?_)
          refine r_iconst C dX8_takes_48 ?_
          refine r_iald C (N := 60) 992 dX8_takes_49 (by decide) rfl rfl (M.g (j := 21) (by decide)) (by omega) (by omega) (by omega) (fun g49 => ?_)
          rw [y1]
          refine r_i2l C dX8_takes_50 (by omega) ?_
          refine r_ldiv C dX8_takes_51 (by omega) (by omega) (by omega) (by omega) ?_
          refine r_lstore C dX8_takes_52 (ls2_6 rfl rfl) ?_
          refine r_lload_n C dX8_takes_54 lg_2 ?_
          refine r_lload C dX8_takes_55 lg_6 ?_
          refine r_ladd C dX8_takes_57 ?_
          refine r_lstore_n C dX8_takes_58 (ls2_2 rfl rfl) ?_
          refine r_iload C dX8_takes_59 lg_4 ?_
          refine r_iload C dX8_takes_61 lg_5 ?_
          refine r_isub C dX8_takes_63 ?_
          refine r_istore C dX8_takes_64 (ls1_4 rfl trivial) ?_
          refine r_aload_n C dX8_takes_66 lg_0 ?_
          refine r_getA C 246 32 dX8_takes_67 fg_X8_61_7 rfl rfl M.1 (fun g67 => ?_)
          refine r_iconst C dX8_takes_70 ?_
          refine r_dup2 C dX8_takes_71 rfl (cat_R _ _ _) ?_
          refine r_lald C (N := 60) 1024 dX8_takes_72 (by decide) rfl rfl (M.g (j := 22) (by decide)) (by omega) (by omega) (by omega) (fun g72 => ?_)
          refine r_lload C dX8_takes_73 lg_6 ?_
          rw [y2]
          refine r_lsub C dX8_takes_75 ?_
          refine r_last C (N := 60) 1024 dX8_takes_76 (by decide) rfl rfl (M.g (j := 22) (by decide)) (by omega) (by omega) (by omega) (by omega) ?_
          refine r_gS (fun S76 h76 => ?_)
          have M : RM S76 A := by rw [h76]; exact M.up (by decide)
          have y1 : S76 992 0 = x.1 := by rw [h76, upS_c _ _ (by decide)]; exact y1
          refine r_aload_n C dX8_takes_77 lg_0 ?_
          refine r_getA C 245 31 dX8_takes_78 fg_X8_58_7 rfl rfl M.1 (fun g78 => ?_)
          refine r_iconst C dX8_takes_81 ?_
          refine r_dup2 C dX8_takes_82 rfl (cat_R _ _ _) ?_
          refine r_iald C (N := 60) 992 dX8_takes_83 (by decide) rfl rfl (M.g (j := 21) (by decide)) (by omega) (by omega) (by omega) (fun g83 => ?_)
          refine r_iload C dX8_takes_84 lg_5 ?_
          rw [y1]
          refine r_isub C dX8_takes_86 ?_
          refine r_iast C (N := 60) 992 dX8_takes_87 (by decide) rfl rfl (M.g (j := 21) (by decide)) (by omega) (by omega) (by omega) (by omega) ?_
          refine r_gS (fun S87 h87 => ?_)
          have M : RM S87 A := by rw [h87]; exact M.up (by decide)
          have z1 := congrFun (congrFun h87 992) 0
          rw [upS_self] at z1
          have hF87 : Fr [244, 992, 1024, 1056] S S87 := (hF.tr (h76 ▸ Fr.up (by decide) : Fr [244, 992, 1024, 1056] S1 S76)).tr (h87 ▸ Fr.up (by decide))
          have z2 := congrFun (congrFun h87 1024) 0
          rw [upS_c _ _ (by decide), h76, upS_self] at z2
          have z3 : S87 1056 0 = x.2.2 := by rw [h87, upS_c _ _ (by decide), h76, upS_c _ _ (by decide)]; exact y3
          have z4 : S87 244 0 = (t.length : Int) + 1 := by
            rw [h87, upS_c _ _ (by decide), h76, upS_c _ _ (by decide), hq1.1, List.length_cons]; omega
          have z5 : ∀ (k : Nat) (y : Int × Int × Int), t[k]? = some y → S87 992 ((k + 1 : Nat) : Int) = y.1 ∧ S87 1024 ((k + 1 : Nat) : Int) = y.2.1 ∧ S87 1056 ((k + 1 : Nat) : Int) = y.2.2 := by
            intro k y hy
            rw [h87, upS_z _ _ (by omega), upS_c _ _ (by decide), upS_c _ _ (by decide), h76, upS_c _ _ (by decide), upS_z _ _ (by omega), upS_c _ _ (by decide)]
            exact hq1.2 (k + 1) y hy
          refine r_aload_n C dX8_takes_88 lg_0 ?_
          refine r_getA C 245 31 dX8_takes_89 fg_X8_58_7 rfl rfl M.1 (fun g89 => ?_)
          refine r_iconst C dX8_takes_92 ?_
          refine r_iald C (N := 60) 992 dX8_takes_93 (by decide) rfl rfl (M.g (j := 21) (by decide)) (by omega) (by omega) (by omega) (fun g93 => ?_)
          rw [z1]
          refine r_ifne C (tgt := 101) dX8_takes_94 (by decide) (by omega) (fun c94 => ?_) (fun c94 => ?_)
          · refine r_goto C (tgt := 5) dX8_takes_101 (by decide) ?_
            refine r_le C (lle_k (lle_k (lle_k (lle_k (lle_k (lle_f (lle_f (lle_k lle_0)))))))) ?_
            first
            | (exfalso; omega)
            | (have hle : x.1 ≤ v := by omega
               have hqn := qu_nn hot
               have hG' : (acc + x.2.1 * x.1 / x.1 + (tk t (v - x.1)).1, (tk t (v - x.1)).2) = tk q u := by
                 rw [tk_1 _ _ (by omega) hle] at hG
                 rw [← hG]
                 show _ = (acc + (x.2.1 * x.1 / x.1 + (tk t (v - x.1)).1), _)
                 rw [Int.add_assoc]
               have ecc : x.2.1 * x.1 / x.1 = x.2.1 := Int.mul_ediv_cancel _ (by omega)
               first
               | exact ih t (v - x.1) (acc + x.2.1 * x.1 / x.1) S98 (hF87.tr hF98) hq98 hot (by omega) (by omega) (by omega) (by omega) (by omega) (by omega) hG' (by omega)
               | (have ev : v = x.1 := by omega
                  rw [← ev] at hG' ecc
                  have h9 := ih t (v - v) (acc + x.2.1 * v / v) S98 (hF87.tr hF98) hq98 hot (by omega) (by omega) (by omega) (by omega) (by omega) (by omega) hG' (by omega)
                  rw [← ev]
                  exact h9))
            | (have hnl : ¬ x.1 ≤ v := by omega
               have hG' : (acc + x.2.1 * v / x.1 + (tk ((x.1 - v, x.2.1 - x.2.1 * v / x.1, x.2.2) :: t) (v - v)).1, (tk ((x.1 - v, x.2.1 - x.2.1 * v / x.1, x.2.2) :: t) (v - v)).2) = tk q u := by
                 rw [tk_2 _ _ (by omega) hnl] at hG
                 rw [← hG, tk_0 _ (show v - v ≤ 0 by omega)]
                 show (acc + x.2.1 * v / x.1 + 0, _) = (acc + x.2.1 * v / x.1, _)
                 rw [Int.add_zero]
               exact ih ((x.1 - v, x.2.1 - x.2.1 * v / x.1, x.2.2) :: t) (v - v) (acc + x.2.1 * v / x.1) S87 hF87 ⟨by rw [z4, List.length_cons]; omega, fun k y hy => by
                 cases k with
                 | zero => cases hy; exact ⟨z1, z2, z3⟩
                 | succ k => exact z5 k y hy⟩ (fun y hy => by
                 rcases List.mem_cons.mp hy with rfl | hy
                 · exact ⟨⟨by show 1 ≤ x.1 - v; omega, by show x.1 - v ≤ 1000; omega⟩, by show 0 ≤ x.2.1 - x.2.1 * v / x.1; omega⟩
                 · exact hot y hy) (by rw [List.length_cons]; omega) (by omega) (by show v - v ≤ x.1 - v + qu t; have := qu_nn hot; omega) (by omega) (by omega) (by show acc + x.2.1 * v / x.1 + (x.2.1 - x.2.1 * v / x.1 + qc t) ≤ _; omega) hG' (by rw [List.length_cons]; omega))
          · have HQ : QD S87 (((S87 992 0), (S87 1024 0), x.2.2) :: t) := ⟨by rw [z4, List.length_cons]; omega, fun k y hy => by
              cases k with
              | zero => cases hy; exact ⟨rfl, rfl, z3⟩
              | succ k => exact z5 k y hy⟩
            refine r_aload_n C dX8_takes_97 lg_0 ?_
            refine q_V0V C (cM_drops hfl M HQ (by omega)) dX8_takes_98 lk_X8_164 M.1 ⟨Nat.le_of_ble_eq_true rfl, Nat.le_of_ble_eq_true rfl⟩ (catLe (Nat.le_of_ble_eq_true rfl)) ⟨rfl, rfl⟩ rfl (Nat.le_of_ble_eq_true rfl) (Nat.le_of_ble_eq_true rfl) (fun S98 A98 p98 => ?_)
            obtain ⟨rfl, hF98, hq98⟩ := p98
            skip
            refine r_goto C (tgt := 5) dX8_takes_101 (by decide) ?_
            refine r_le C (lle_k (lle_k (lle_k (lle_k (lle_k (lle_f (lle_f (lle_k lle_0)))))))) ?_
            first
            | (exfalso; omega)
            | (have hle : x.1 ≤ v := by omega
               have hqn := qu_nn hot
               have hG' : (acc + x.2.1 * x.1 / x.1 + (tk t (v - x.1)).1, (tk t (v - x.1)).2) = tk q u := by
                 rw [tk_1 _ _ (by omega) hle] at hG
                 rw [← hG]
                 show _ = (acc + (x.2.1 * x.1 / x.1 + (tk t (v - x.1)).1), _)
                 rw [Int.add_assoc]
               have ecc : x.2.1 * x.1 / x.1 = x.2.1 := Int.mul_ediv_cancel _ (by omega)
               first
               | exact ih t (v - x.1) (acc + x.2.1 * x.1 / x.1) S98 (hF87.tr hF98) hq98 hot (by omega) (by omega) (by omega) (by omega) (by omega) (by omega) hG' (by omega)
               | (have ev : v = x.1 := by omega
                  rw [← ev] at hG' ecc
                  have h9 := ih t (v - v) (acc + x.2.1 * v / v) S98 (hF87.tr hF98) hq98 hot (by omega) (by omega) (by omega) (by omega) (by omega) (by omega) hG' (by omega)
                  rw [← ev]
                  exact h9))
            | (have hnl : ¬ x.1 ≤ v := by omega
               have hG' : (acc + x.2.1 * v / x.1 + (tk ((x.1 - v, x.2.1 - x.2.1 * v / x.1, x.2.2) :: t) (v - v)).1, (tk ((x.1 - v, x.2.1 - x.2.1 * v / x.1, x.2.2) :: t) (v - v)).2) = tk q u := by
                 rw [tk_2 _ _ (by omega) hnl] at hG
                 rw [← hG, tk_0 _ (show v - v ≤ 0 by omega)]
                 show (acc + x.2.1 * v / x.1 + 0, _) = (acc + x.2.1 * v / x.1, _)
                 rw [Int.add_zero]
               exact ih ((x.1 - v, x.2.1 - x.2.1 * v / x.1, x.2.2) :: t) (v - v) (acc + x.2.1 * v / x.1) S87 hF87 ⟨by rw [z4, List.length_cons]; omega, fun k y hy => by
                 cases k with
                 | zero => cases hy; exact ⟨z1, z2, z3⟩
                 | succ k => exact z5 k y hy⟩ (fun y hy => by
                 rcases List.mem_cons.mp hy with rfl | hy
                 · exact ⟨⟨by show 1 ≤ x.1 - v; omega, by show x.1 - v ≤ 1000; omega⟩, by show 0 ≤ x.2.1 - x.2.1 * v / x.1; omega⟩
                 · exact hot y hy) (by rw [List.length_cons]; omega) (by omega) (by show v - v ≤ x.1 - v + qu t; have := qu_nn hot; omega) (by omega) (by omega) (by show acc + x.2.1 * v / x.1 + (x.2.1 - x.2.1 * v / x.1 + qc t) ≤ _; omega) hG' (by rw [List.length_cons]; omega))
        · have hhu : 0 ≤ x.1 ∧ x.1 ≤ x.1 := by omega
          have hpr := mul_b (a := x.2.1) (b := x.1) (x := 1000000000000000) (y := 1000) hx3 (by omega) hhu.1 (by omega)
          have hqq := quo_b (a := x.2.1) (b := x.1) (s := x.1) hx3 hhu.1 (by omega) hhu.2
          refine r_aload_n C dX8_takes_21 lg_0 ?_
          refine r_getA C 245 31 dX8_takes_22 fg_X8_58_7 rfl rfl M.1 (fun g22 => ?_)
          refine r_iconst C dX8_takes_25 ?_
          refine r_iald C (N := 60) 992 dX8_takes_26 (by decide) rfl rfl (M.g (j := 21) (by decide)) (by omega) (by omega) (by omega) (fun g26 => ?_)
          rw [y1]
          refine r_goto C (tgt := 32) dX8_takes_27 (by decide) ?_
          refine r_istore C dX8_takes_32 (ls1_5 rfl rfl) ?_
          refine r_aload_n C dX8_takes_34 lg_0 ?_
          refine r_getA C 246 32 dX8_takes_35 fg_X8_61_7 rfl rfl M.1 (fun g35 => ?_)
          refine r_iconst C dX8_takes_38 ?_
          refine r_lald C (N := 60) 1024 dX8_takes_39 (by decide) rfl rfl (M.g (j := 22) (by decide)) (by omega) (by omega) (by omega) (fun g39 => ?_)
          refine r_iload C dX8_takes_40 lg_5 ?_
          refine r_i2l C dX8_takes_42 (by omega) ?_
          rw [y2]
          refine r_lmul C dX8_takes_43 ?_
          refine r_aload_n C dX8_takes_44 lg_0 ?_
          refine r_getA C 245 31 dX8_takes_45 fg_X8_58_7 rfl rfl M.1 (fun g45 => ?_)
          refine r_iconst C dX8_takes_48 ?_
          refine r_iald C (N := 60) 992 dX8_takes_49 (by decide) rfl rfl (M.g (j := 21) (by decide)) (by omega) (by omega) (by omega) (fun g49 => ?_)
          rw [y1]
          refine r_i2l C dX8_takes_50 (by omega) ?_
          refine r_ldiv C dX8_takes_51 (by omega) (by omega) (by omega) (by omega) ?_
          refine r_lstore C dX8_takes_52 (ls2_6 rfl rfl) ?_
          refine r_lload_n C dX8_takes_54 lg_2 ?_
          refine r_lload C dX8_takes_55 lg_6 ?_
          refine r_ladd C dX8_takes_57 ?_
          refine r_lstore_n C dX8_takes_58 (ls2_2 rfl rfl) ?_
          refine r_iload C dX8_takes_59 lg_4 ?_
          refine r_iload C dX8_takes_61 lg_5 ?_
          refine r_isub C dX8_takes_63 ?_
          refine r_istore C dX8_takes_64 (ls1_4 rfl trivial) ?_
          refine r_aload_n C dX8_takes_66 lg_0 ?_
          refine r_getA C 246 32 dX8_takes_67 fg_X8_61_7 rfl rfl M.1 (fun g67 => ?_)
          refine r_iconst C dX8_takes_70 ?_
          refine r_dup2 C dX8_takes_71 rfl (cat_R _ _ _) ?_
          refine r_lald C (N := 60) 1024 dX8_takes_72 (by decide) rfl rfl (M.g (j := 22) (by decide)) (by omega) (by omega) (by omega) (fun g72 => ?_)
          refine r_lload C dX8_takes_73 lg_6 ?_
          rw [y2]
          refine r_lsub C dX8_takes_75 ?_
          refine r_last C (N := 60) 1024 dX8_takes_76 (by decide) rfl rfl (M.g (j := 22) (by decide)) (by omega) (by omega) (by omega) (by omega) ?_
          refine r_gS (fun S76 h76 => ?_)
          have M : RM S76 A := by rw [h76]; exact M.up (by decide)
          have y1 : S76 992 0 = x.1 := by rw [h76, upS_c _ _ (by decide)]; exact y1
          refine r_aload_n C dX8_takes_77 lg_0 ?_
          refine r_getA C 245 31 dX8_takes_78 fg_X8_58_7 rfl rfl M.1 (fun g78 => ?_)
          refine r_iconst C dX8_takes_81 ?_
          refine r_dup2 C dX8_takes_82 rfl (cat_R _ _ _) ?_
          refine r_iald C (N := 60) 992 dX8_takes_83 (by decide) rfl rfl (M.g (j := 21) (by decide)) (by omega) (by omega) (by omega) (fun g83 => ?_)
          refine r_iload C dX8_takes_84 lg_5 ?_
          rw [y1]
          refine r_isub C dX8_takes_86 ?_
          refine r_iast C (N := 60) 992 dX8_takes_87 (by decide) rfl rfl (M.g (j := 21) (by decide)) (by omega) (by omega) (by omega) (by omega) ?_
          refine r_gS (fun S87 h87 => ?_)
          have M : RM S87 A := by rw [h87]; exact M.up (by decide)
          have z1 := congrFun (congrFun h87 992) 0
          rw [upS_self] at z1
          have hF87 : Fr [244, 992, 1024, 1056] S S87 := (hF.tr (h76 ▸ Fr.up (by decide) : Fr [244, 992, 1024, 1056] S1 S76)).tr (h87 ▸ Fr.up (by decide))
          have z2 := congrFun (congrFun h87 1024) 0
          rw [upS_c _ _ (by decide), h76, upS_self] at z2
          have z3 : S87 1056 0 = x.2.2 := by rw [h87, upS_c _ _ (by decide), h76, upS_c _ _ (by decide)]; exact y3
          have z4 : S87 244 0 = (t.length : Int) + 1 := by
            rw [h87, upS_c _ _ (by decide), h76, upS_c _ _ (by decide), hq1.1, List.length_cons]; omega
          have z5 : ∀ (k : Nat) (y : Int × Int × Int), t[k]? = some y → S87 992 ((k + 1 : Nat) : Int) = y.1 ∧ S87 1024 ((k + 1 : Nat) : Int) = y.2.1 ∧ S87 1056 ((k + 1 : Nat) : Int) = y.2.2 := by
            intro k y hy
            rw [h87, upS_z _ _ (by omega), upS_c _ _ (by decide), upS_c _ _ (by decide), h76, upS_c _ _ (by decide), upS_z _ _ (by omega), upS_c _ _ (by decide)]
            exact hq1.2 (k + 1) y hy
          refine r_aload_n C dX8_takes_88 lg_0 ?_
          refine r_getA C 245 31 dX8_takes_89 fg_X8_58_7 rfl rfl M.1 (fun g89 => ?_)
          refine r_iconst C dX8_takes_92 ?_
          refine r_iald C (N := 60) 992 dX8_takes_93 (by decide) rfl rfl (M.g (j := 21) (by decide)) (by omega) (by omega) (by omega) (fun g93 => ?_)
          rw [z1]
          refine r_ifne C (tgt := 101) dX8_takes_94 (by decide) (by omega) (fun c94 => ?_) (fun c94 => ?_)
          · refine r_goto C (tgt := 5) dX8_takes_101 (by decide) ?_
            refine r_le C (lle_k (lle_k (lle_k (lle_k (lle_k (lle_f (lle_f (lle_k lle_0)))))))) ?_
            first
            | (exfalso; omega)
            | (have hle : x.1 ≤ v := by omega
               have hqn := qu_nn hot
               have hG' : (acc + x.2.1 * x.1 / x.1 + (tk t (v - x.1)).1, (tk t (v - x.1)).2) = tk q u := by
                 rw [tk_1 _ _ (by omega) hle] at hG
                 rw [← hG]
                 show _ = (acc + (x.2.1 * x.1 / x.1 + (tk t (v - x.1)).1), _)
                 rw [Int.add_assoc]
               have ecc : x.2.1 * x.1 / x.1 = x.2.1 := Int.mul_ediv_cancel _ (by omega)
               first
               | exact ih t (v - x.1) (acc + x.2.1 * x.1 / x.1) S98 (hF87.tr hF98) hq98 hot (by omega) (by omega) (by omega) (by omega) (by omega) (by omega) hG' (by omega)
               | (have ev : v = x.1 := by omega
                  rw [← ev] at hG' ecc
                  have h9 := ih t (v - v) (acc + x.2.1 * v / v) S98 (hF87.tr hF98) hq98 hot (by omega) (by omega) (by omega) (by omega) (by omega) (by omega) hG' (by omega)
                  rw [← ev]
                  exact h9))
            | (have hnl : ¬ x.1 ≤ v := by omega
               have hG' : (acc + x.2.1 * v / x.1 + (tk ((x.1 - v, x.2.1 - x.2.1 * v / x.1, x.2.2) :: t) (v - v)).1, (tk ((x.1 - v, x.2.1 - x.2.1 * v / x.1, x.2.2) :: t) (v - v)).2) = tk q u := by
                 rw [tk_2 _ _ (by omega) hnl] at hG
                 rw [← hG, tk_0 _ (show v - v ≤ 0 by omega)]
                 show (acc + x.2.1 * v / x.1 + 0, _) = (acc + x.2.1 * v / x.1, _)
                 rw [Int.add_zero]
               exact ih ((x.1 - v, x.2.1 - x.2.1 * v / x.1, x.2.2) :: t) (v - v) (acc + x.2.1 * v / x.1) S87 hF87 ⟨by rw [z4, List.length_cons]; omega, fun k y hy => by
                 cases k with
                 | zero => cases hy; exact ⟨z1, z2, z3⟩
                 | succ k => exact z5 k y hy⟩ (fun y hy => by
                 rcases List.mem_cons.mp hy with rfl | hy
                 · exact ⟨⟨by show 1 ≤ x.1 - v; omega, by show x.1 - v ≤ 1000; omega⟩, by show 0 ≤ x.2.1 - x.2.1 * v / x.1; omega⟩
                 · exact hot y hy) (by rw [List.length_cons]; omega) (by omega) (by show v - v ≤ x.1 - v + qu t; have := qu_nn hot; omega) (by omega) (by omega) (by show acc + x.2.1 * v / x.1 + (x.2.1 - x.2.1 * v / x.1 + qc t) ≤ _; omega) hG' (by rw [List.length_cons]; omega))
          · have HQ : QD S87 (((S87 992 0), (S87 1024 0), x.2.2) :: t) := ⟨by rw [z4, List.length_cons]; omega, fun k y hy => by
              cases k with
              | zero => cases hy; exact ⟨rfl, rfl, z3⟩
              | succ k => exact z5 k y hy⟩
            refine r_aload_n C dX8_takes_97 lg_0 ?_
            refine q_V0V C (cM_drops hfl M HQ (by omega)) dX8_takes_98 lk_X8_164 M.1 ⟨Nat.le_of_ble_eq_true rfl, Nat.le_of_ble_eq_true rfl⟩ (catLe (Nat.le_of_ble_eq_true rfl)) ⟨rfl, rfl⟩ rfl (Nat.le_of_ble_eq_true rfl) (Nat.le_of_ble_eq_true rfl) (fun S98 A98 p98 => ?_)
            obtain ⟨rfl, hF98, hq98⟩ := p98
            skip
            refine r_goto C (tgt := 5) dX8_takes_101 (by decide) ?_
            refine r_le C (lle_k (lle_k (lle_k (lle_k (lle_k (lle_f (lle_f (lle_k lle_0)))))))) ?_
            first
            | (exfalso; omega)
            | (have hle : x.1 ≤ v := by omega
               have hqn := qu_nn hot
               have hG' : (acc + x.2.1 * x.1 / x.1 + (tk t (v - x.1)).1, (tk t (v - x.1)).2) = tk q u := by
                 rw [tk_1 _ _ (by omega) hle] at hG
                 rw [← hG]
                 show _ = (acc + (x.2.1 * x.1 / x.1 + (tk t (v - x.1)).1), _)
                 rw [Int.add_assoc]
               have ecc : x.2.1 * x.1 / x.1 = x.2.1 := Int.mul_ediv_cancel _ (by omega)
               first
               | exact ih t (v - x.1) (acc + x.2.1 * x.1 / x.1) S98 (hF87.tr hF98) hq98 hot (by omega) (by omega) (by omega) (by omega) (by omega) (by omega) hG' (by omega)
               | (have ev : v = x.1 := by omega
                  rw [← ev] at hG' ecc
                  have h9 := ih t (v - v) (acc + x.2.1 * v / v) S98 (hF87.tr hF98) hq98 hot (by omega) (by omega) (by omega) (by omega) (by omega) (by omega) hG' (by omega)
                  rw [← ev]
                  exact h9))
            | (have hnl : ¬ x.1 ≤ v := by omega
               have hG' : (acc + x.2.1 * v / x.1 + (tk ((x.1 - v, x.2.1 - x.2.1 * v / x.1, x.2.2) :: t) (v - v)).1, (tk ((x.1 - v, x.2.1 - x.2.1 * v / x.1, x.2.2) :: t) (v - v)).2) = tk q u := by
                 rw [tk_2 _ _ (by omega) hnl] at hG
                 rw [← hG, tk_0 _ (show v - v ≤ 0 by omega)]
                 show (acc + x.2.1 * v / x.1 + 0, _) = (acc + x.2.1 * v / x.1, _)
                 rw [Int.add_zero]
               exact ih ((x.1 - v, x.2.1 - x.2.1 * v / x.1, x.2.2) :: t) (v - v) (acc + x.2.1 * v / x.1) S87 hF87 ⟨by rw [z4, List.length_cons]; omega, fun k y hy => by
                 cases k with
                 | zero => cases hy; exact ⟨z1, z2, z3⟩
                 | succ k => exact z5 k y hy⟩ (fun y hy => by
                 rcases List.mem_cons.mp hy with rfl | hy
                 · exact ⟨⟨by show 1 ≤ x.1 - v; omega, by show x.1 - v ≤ 1000; omega⟩, by show 0 ≤ x.2.1 - x.2.1 * v / x.1; omega⟩
                 · exact hot y hy) (by rw [List.length_cons]; omega) (by omega) (by show v - v ≤ x.1 - v + qu t; have := qu_nn hot; omega) (by omega) (by omega) (by show acc + x.2.1 * v / x.1 + (x.2.1 - x.2.1 * v / x.1 + qc t) ≤ _; omega) hG' (by rw [List.length_cons]; omega))
  refine r_lconst C dX8_takes_0 0 rfl ?_
  refine r_lstore_n C dX8_takes_1 (ls2_2 rfl rfl) ?_
  refine r_iload_n C dX8_takes_2 lg_1 ?_
  refine r_istore C dX8_takes_3 (ls1_4 rfl trivial) ?_
  exact lp (q.length + u.toNat + 1) q u 0 S Fr.rf hq ho hl (by omega) hu1 (by omega) (by omega) (by omega) (by rw [Int.zero_add]) (by omega)
theorem ins_get {α : Type} (x : α) : ∀ (a b : List α) (k : Nat), (a ++ x :: b)[k]? = if k < a.length then (a ++ b)[k]? else if k = a.length then some x else (a ++ b)[k - 1]?
  | [], b, k => by
    cases k with
    | zero => rfl
    | succ k => show b[k]? = _; rw [if_neg (by show ¬ k + 1 < 0; omega), if_neg (by show ¬ k + 1 = 0; omega)]; rfl
  | y :: t, b, k => by
    cases k with
    | zero => rw [if_pos (by simp)]; rfl
    | succ k =>
      show (t ++ x :: b)[k]? = _
      rw [ins_get x t b k]
      by_cases h1 : k < t.length
      · rw [if_pos h1, if_pos (show k + 1 < (y :: t).length by rw [List.length_cons]; omega)]; rfl
      · rw [if_neg h1, if_neg (show ¬ k + 1 < (y :: t).length by rw [List.length_cons]; omega)]
        by_cases h2 : k = t.length
        · rw [if_pos h2, if_pos (show k + 1 = (y :: t).length by rw [List.length_cons]; omega)]
        · rw [if_neg h2, if_neg (show ¬ k + 1 = (y :: t).length by rw [List.length_cons]; omega)]
          obtain ⟨j, rfl⟩ : ∃ j, k = j + 1 := ⟨k - 1, by omega⟩
          rfl
set_option maxRecDepth 20000 in
theorem cM_lays {G : GT} {l : Launch} (hfl : l.stackTraces = false) {S : ST} {A : AB} {a b : QL3} {m : Int} (M0 : RM S A) (hq : QD S (a ++ b)) (hl : (a ++ b).length < 60) (hm0 : 0 ≤ m) (hm1 : m < 60) : CT G l yX8_lays cX8_lays 4 none (rmk 0 0 0 0) S A [vR A 7 0, vI (a.length : Int), vI m] (oV fun S' A' => A = A' ∧ Fr [244, 992, 1024, 1056] S S' ∧ QD S' (a ++ (S 416 m, S 448 m, m) :: b)) (noX) := by
  refine ct_ofN (own := RX8) (mn := "lays") rfl rfl (by decide) hfl (lv0 := [some (vR A 7 0), some (vI (a.length : Int)), some (vI m), none]) (ent_1 (cat_R _ _ _) (ent_1 rfl (ent_1 rfl (ent_n ent_0)))) rfl ?_
  intro J X C F FX FT FU hW hA
  have lp : ∀ (N : Nat) (k : Int) (S1 : ST) (h1 : a.length ≤ k) (h2 : k ≤ (a ++ b).length) (hF : Fr [244, 992, 1024, 1056] S S1) (h244 : S1 244 0 = (a ++ b).length) (ha : ∀ j, S1 992 j = if k < j ∧ j ≤ (a ++ b).length then S 992 (j - 1) else S 992 j) (hb : ∀ j, S1 1024 j = if k < j ∧ j ≤ (a ++ b).length then S 1024 (j - 1) else S 1024 j) (hc : ∀ j, S1 1056 j = if k < j ∧ j ≤ (a ++ b).length then S 1056 (j - 1) else S 1056 j) (hN : k < N), J 5 [some (vR A 7 0), some (vI (a.length : Int)), some (vI m), some (vI k)] [] S1 A 0 0 := by
    intro N
    induction N with
    | zero => intro k S1 h1 h2 hF h244 ha hb hc hN; omega
    | succ N ih =>
      intro k S1 h1 h2 hF h244 ha hb hc hN
      have M := M0.of hF (by decide)
      refine r_iload_n C dX8_lays_5 lg_3 ?_
      refine r_iload_n C dX8_lays_6 lg_1 ?_
      refine r_icle C (tgt := 58) dX8_lays_7 (by decide) (by omega) (by omega) (fun c7 => ?_) (fun c7 => ?_)
      · have ek : k = a.length := by omega
        subst ek
        have e416 := hF 416 m (by decide)
        have e448 := hF 448 m (by decide)
        refine r_aload_n C dX8_lays_58 lg_0 ?_
        refine r_getA C 245 31 dX8_lays_59 fg_X8_58_7 rfl rfl M.1 (fun g59 => ?_)
        refine r_iload_n C dX8_lays_62 lg_1 ?_
        refine r_aload_n C dX8_lays_63 lg_0 ?_
        refine r_getA C 227 13 dX8_lays_64 fg_X8_19_7 rfl rfl M.1 (fun g64 => ?_)
        refine r_iload_n C dX8_lays_67 lg_2 ?_
        refine r_iald C (N := 60) 416 dX8_lays_68 (by decide) rfl rfl (M.g (j := 3) (by decide)) (by omega) (by omega) (by omega) (fun g68 => ?_)
        refine r_iast C (N := 60) 992 dX8_lays_69 (by decide) rfl rfl (M.g (j := 21) (by decide)) (by omega) (by omega) (by omega) (by omega) ?_
        refine r_gS (fun S69 h69 => ?_)
        have M : RM S69 A := by rw [h69]; exact M.up (by decide)
        refine r_aload_n C dX8_lays_70 lg_0 ?_
        refine r_getA C 246 32 dX8_lays_71 fg_X8_61_7 rfl rfl M.1 (fun g71 => ?_)
        refine r_iload_n C dX8_lays_74 lg_1 ?_
        refine r_aload_n C dX8_lays_75 lg_0 ?_
        refine r_getA C 228 14 dX8_lays_76 fg_X8_22_7 rfl rfl M.1 (fun g76 => ?_)
        refine r_iload_n C dX8_lays_79 lg_2 ?_
        refine r_iald C (N := 60) 448 dX8_lays_80 (by decide) rfl rfl (M.g (j := 4) (by decide)) (by omega) (by omega) (by omega) (fun g80 => ?_)
        refine r_i2l C dX8_lays_81 (by omega) ?_
        refine r_last C (N := 60) 1024 dX8_lays_82 (by decide) rfl rfl (M.g (j := 22) (by decide)) (by omega) (by omega) (by omega) (by omega) ?_
        refine r_gS (fun S82 h82 => ?_)
        have M : RM S82 A := by rw [h82]; exact M.up (by decide)
        refine r_aload_n C dX8_lays_83 lg_0 ?_
        refine r_getA C 247 33 dX8_lays_84 fg_X8_64_7 rfl rfl M.1 (fun g84 => ?_)
        refine r_iload_n C dX8_lays_87 lg_1 ?_
        refine r_iload_n C dX8_lays_88 lg_2 ?_
        refine r_iast C (N := 60) 1056 dX8_lays_89 (by decide) rfl rfl (M.g (j := 23) (by decide)) (by omega) (by omega) (by omega) (by omega) ?_
        refine r_gS (fun S89 h89 => ?_)
        have M : RM S89 A := by rw [h89]; exact M.up (by decide)
        refine r_aload_n C dX8_lays_90 lg_0 ?_
        refine r_dup C dX8_lays_91 (cat_R _ _ _) ?_
        refine r_getI C 244 dX8_lays_92 fg_X8_161_7 rfl rfl M.1 (fun g92 => ?_)
        refine r_iconst C dX8_lays_95 ?_
        refine r_iadd C dX8_lays_96 ?_
        refine r_putI C 244 dX8_lays_97 fg_X8_161_7 rfl rfl M.1 (fun q h => by cases h; exact Or.inl rfl) (by
          have e244 : S89 244 0 = (a ++ b).length := by (rw [h89, upS_c _ _ (by decide), h82, upS_c _ _ (by decide), h69, upS_c _ _ (by decide)]; exact h244)
          omega) ?_
        exact f_V F dX8_lays_100 (by
          have f69 : Fr [244, 992, 1024, 1056] S1 S69 := by rw [h69]; exact Fr.up (by decide)
          have f82 : Fr [244, 992, 1024, 1056] S69 S82 := by rw [h82]; exact Fr.up (by decide)
          have f89 : Fr [244, 992, 1024, 1056] S82 S89 := by rw [h89]; exact Fr.up (by decide)
          have e448' : S69 448 m = S 448 m := (f69 448 m (by decide)).trans e448
          have e244 : S89 244 0 = (a ++ b).length := by rw [h89, upS_c _ _ (by decide), h82, upS_c _ _ (by decide), h69, upS_c _ _ (by decide)]; exact h244
          have g1 : ∀ j, upS S89 244 0 (S89 244 0 + 1) 992 j = if j = (a.length : Int) then S 416 m else S1 992 j := fun j => by
            rw [upS_c _ _ (by decide), h89, upS_c _ _ (by decide), h82, upS_c _ _ (by decide), h69]
            by_cases e : j = (a.length : Int)
            · rw [if_pos e, e, upS_self, e416]
            · rw [if_neg e, upS_z _ _ e]
          have g2 : ∀ j, upS S89 244 0 (S89 244 0 + 1) 1024 j = if j = (a.length : Int) then S 448 m else S1 1024 j := fun j => by
            rw [upS_c _ _ (by decide), h89, upS_c _ _ (by decide), h82]
            by_cases e : j = (a.length : Int)
            · rw [if_pos e, e, upS_self, e448']
            · rw [if_neg e, upS_z _ _ e, h69, upS_c _ _ (by decide)]
          have g3 : ∀ j, upS S89 244 0 (S89 244 0 + 1) 1056 j = if j = (a.length : Int) then m else S1 1056 j := fun j => by
            rw [upS_c _ _ (by decide), h89]
            by_cases e : j = (a.length : Int)
            · rw [if_pos e, e, upS_self]
            · rw [if_neg e, upS_z _ _ e, h82, upS_c _ _ (by decide), h69, upS_c _ _ (by decide)]
          refine ⟨rfl, (((hF.tr f69).tr f82).tr f89).tr (Fr.up (by decide)), ?_, fun k x hx => ?_⟩
          · rw [upS_self, e244, List.length_append, List.length_append, List.length_cons]; omega
          · rw [g1, g2, g3]
            rw [ins_get] at hx
            by_cases h1 : k < a.length
            · rw [if_pos h1] at hx
              have h9 := hq.2 k x hx
              rw [if_neg (by omega), if_neg (by omega), if_neg (by omega), ha, hb, hc, if_neg (by omega), if_neg (by omega), if_neg (by omega)]
              exact h9
            · rw [if_neg h1] at hx
              by_cases h2 : k = a.length
              · rw [if_pos h2] at hx
                cases hx
                rw [if_pos (by omega), if_pos (by omega), if_pos (by omega)]
                exact ⟨rfl, rfl, rfl⟩
              · rw [if_neg h2] at hx
                have h8 := (List.getElem?_eq_some_iff.mp hx).1
                have h9 := hq.2 (k - 1) x hx
                rw [show ((k - 1 : Nat) : Int) = (k : Int) - 1 by omega] at h9
                rw [if_neg (by omega), if_neg (by omega), if_neg (by omega), ha, hb, hc, if_pos (by omega), if_pos (by omega), if_pos (by omega)]
                exact h9) (Nat.le_of_ble_eq_true rfl) (Nat.le_of_ble_eq_true rfl)
      · refine r_aload_n C dX8_lays_10 lg_0 ?_
        refine r_getA C 245 31 dX8_lays_11 fg_X8_58_7 rfl rfl M.1 (fun g11 => ?_)
        refine r_iload_n C dX8_lays_14 lg_3 ?_
        refine r_aload_n C dX8_lays_15 lg_0 ?_
        refine r_getA C 245 31 dX8_lays_16 fg_X8_58_7 rfl rfl M.1 (fun g16 => ?_)
        refine r_iload_n C dX8_lays_19 lg_3 ?_
        refine r_iconst C dX8_lays_20 ?_
        refine r_isub C dX8_lays_21 ?_
        refine r_iald C (N := 60) 992 dX8_lays_22 (by decide) rfl rfl (M.g (j := 21) (by decide)) (by omega) (by omega) (by omega) (fun g22 => ?_)
        refine r_iast C (N := 60) 992 dX8_lays_23 (by decide) rfl rfl (M.g (j := 21) (by decide)) (by omega) (by omega) (by omega) (by omega) ?_
        refine r_gS (fun S23 h23 => ?_)
        have M : RM S23 A := by rw [h23]; exact M.up (by decide)
        refine r_aload_n C dX8_lays_24 lg_0 ?_
        refine r_getA C 246 32 dX8_lays_25 fg_X8_61_7 rfl rfl M.1 (fun g25 => ?_)
        refine r_iload_n C dX8_lays_28 lg_3 ?_
        refine r_aload_n C dX8_lays_29 lg_0 ?_
        refine r_getA C 246 32 dX8_lays_30 fg_X8_61_7 rfl rfl M.1 (fun g30 => ?_)
        refine r_iload_n C dX8_lays_33 lg_3 ?_
        refine r_iconst C dX8_lays_34 ?_
        refine r_isub C dX8_lays_35 ?_
        refine r_lald C (N := 60) 1024 dX8_lays_36 (by decide) rfl rfl (M.g (j := 22) (by decide)) (by omega) (by omega) (by omega) (fun g36 => ?_)
        refine r_last C (N := 60) 1024 dX8_lays_37 (by decide) rfl rfl (M.g (j := 22) (by decide)) (by omega) (by omega) (by omega) (by omega) ?_
        refine r_gS (fun S37 h37 => ?_)
        have M : RM S37 A := by rw [h37]; exact M.up (by decide)
        refine r_aload_n C dX8_lays_38 lg_0 ?_
        refine r_getA C 247 33 dX8_lays_39 fg_X8_64_7 rfl rfl M.1 (fun g39 => ?_)
        refine r_iload_n C dX8_lays_42 lg_3 ?_
        refine r_aload_n C dX8_lays_43 lg_0 ?_
        refine r_getA C 247 33 dX8_lays_44 fg_X8_64_7 rfl rfl M.1 (fun g44 => ?_)
        refine r_iload_n C dX8_lays_47 lg_3 ?_
        refine r_iconst C dX8_lays_48 ?_
        refine r_isub C dX8_lays_49 ?_
        refine r_iald C (N := 60) 1056 dX8_lays_50 (by decide) rfl rfl (M.g (j := 23) (by decide)) (by omega) (by omega) (by omega) (fun g50 => ?_)
        refine r_iast C (N := 60) 1056 dX8_lays_51 (by decide) rfl rfl (M.g (j := 23) (by decide)) (by omega) (by omega) (by omega) (by omega) ?_
        refine r_gS (fun S51 h51 => ?_)
        have M : RM S51 A := by rw [h51]; exact M.up (by decide)
        refine r_iinc C dX8_lays_52 lg_3 (ls1_3 rfl rfl) ?_
        refine r_goto C (tgt := 5) dX8_lays_55 (by decide) ?_
        have f23 : Fr [244, 992, 1024, 1056] S1 S23 := by rw [h23]; exact Fr.up (by decide)
        have f37 : Fr [244, 992, 1024, 1056] S23 S37 := by rw [h37]; exact Fr.up (by decide)
        have f51 : Fr [244, 992, 1024, 1056] S37 S51 := by rw [h51]; exact Fr.up (by decide)
        refine ih (k + -1) S51 (by omega) (by omega) (((hF.tr f23).tr f37).tr f51) (by rw [h51, upS_c _ _ (by decide), h37, upS_c _ _ (by decide), h23, upS_c _ _ (by decide)]; exact h244) (fun j => ?_) (fun j => ?_) (fun j => ?_) (by omega)
        · rw [h51, upS_c _ _ (by decide), h37, upS_c _ _ (by decide), h23]
          by_cases e : j = k
          · rw [e, upS_self, if_pos (by omega), ha, if_neg (by omega)]
          · rw [upS_z _ _ e, ha]
            by_cases hk : k < j ∧ j ≤ (a ++ b).length
            · rw [if_pos hk, if_pos (by omega)]
            · rw [if_neg hk, if_neg (by omega)]
        · rw [h51, upS_c _ _ (by decide), h37]
          by_cases e : j = k
          · rw [e, upS_self, h23, upS_c _ _ (by decide), if_pos (by omega), hb, if_neg (by omega)]
          · rw [upS_z _ _ e, h23, upS_c _ _ (by decide), hb]
            by_cases hk : k < j ∧ j ≤ (a ++ b).length
            · rw [if_pos hk, if_pos (by omega)]
            · rw [if_neg hk, if_neg (by omega)]
        · rw [h51]
          by_cases e : j = k
          · rw [e, upS_self, h37, upS_c _ _ (by decide), h23, upS_c _ _ (by decide), if_pos (by omega), hc, if_neg (by omega)]
          · rw [upS_z _ _ e, h37, upS_c _ _ (by decide), h23, upS_c _ _ (by decide), hc]
            by_cases hk : k < j ∧ j ≤ (a ++ b).length
            · rw [if_pos hk, if_pos (by omega)]
            · rw [if_neg hk, if_neg (by omega)]
  have M := M0
  refine r_aload_n C dX8_lays_0 lg_0 ?_
  refine r_getI C 244 dX8_lays_1 fg_X8_161_7 rfl rfl M.1 (fun g1 => ?_)
  refine r_istore_n C dX8_lays_4 (ls1_3 rfl rfl) ?_
  rw [hq.1]
  exact lp ((a ++ b).length + 1) (a ++ b).length S (by rw [List.length_append]; omega) (Int.le_refl _) Fr.rf hq.1 (fun j => by rw [if_neg (by omega)]) (fun j => by rw [if_neg (by omega)]) (fun j => by rw [if_neg (by omega)]) (by omega)
set_option maxRecDepth 20000 in
theorem cM_layerOf {G : GT} {l : Launch} (hfl : l.stackTraces = false) {S : ST} {A : AB} {r : Int} {q : QL3} (M : RM S A) (hq : QD S q) (hl : q.length ≤ 60) (hr : rI r) : CT G l yX8_layerOf cX8_layerOf 4 (some .int) (rmk 0 0 0 0) S A [vR A 7 0, vI r] (oI fun z S' A' => plc r (q.map fun x => x.2.2) 0 (-1) = z ∧ S = S' ∧ A = A') (noX) := by
  refine ct_ofN (own := RX8) (mn := "layerOf") rfl rfl (by decide) hfl (lv0 := [some (vR A 7 0), some (vI r), none, none]) (ent_1 (cat_R _ _ _) (ent_1 rfl (ent_n (ent_n ent_0)))) rfl ?_
  intro J X C F FX FT FU hW hA
  have lp : ∀ (b a : QL3) (f : Int) (hf : rI f) (hab : q = a ++ b) (hp : plc r (q.map fun x => x.2.2) 0 (-1) = plc r (b.map fun x => x.2.2) (a.length : Int) f), J 4 [some (vR A 7 0), some (vI r), some (vI f), some (vI (a.length : Int))] [] S A 0 0 := by
    intro b
    have h244 := hq.1
    induction b with
    | nil =>
      intro a f hf hab hp
      rw [List.append_nil] at hab
      rw [hab] at h244
      refine r_iload_n C dX8_layerOf_4 lg_3 ?_
      refine r_aload_n C dX8_layerOf_5 lg_0 ?_
      refine r_getI C 244 dX8_layerOf_6 fg_X8_161_7 rfl rfl M.1 (fun g6 => ?_)
      refine r_icge C (tgt := 34) dX8_layerOf_9 (by decide) (by omega) (by omega) (fun c9 => ?_) (fun c9 => ?_)
      · refine r_iload_n C dX8_layerOf_34 lg_2 ?_
        exact f_I F dX8_layerOf_35 hf ⟨hp, rfl, rfl⟩ (Nat.le_of_ble_eq_true rfl) (Nat.le_of_ble_eq_true rfl)
      · exfalso; omega
    | cons x t ih =>
      intro a f hf hab hp
      have hlab : a.length + (t.length + 1) ≤ 60 := by rw [hab, List.length_append, List.length_cons] at hl; omega
      have ex : S 1056 (a.length : Int) = x.2.2 := (hq.2 a.length x (by rw [hab]; simp)).2.2
      rw [hab, List.length_append, List.length_cons] at h244
      have key := fun (f' : Int) (hf' : rI f') (e : f' = if x.2.2 = r then (a.length : Int) else f) => ih (a ++ [x]) f' hf' (by rw [hab]; simp) (by rw [hp, e, List.length_append, List.length_singleton]; rfl)
      rw [List.length_append, List.length_singleton] at key
      refine r_iload_n C dX8_layerOf_4 lg_3 ?_
      refine r_aload_n C dX8_layerOf_5 lg_0 ?_
      refine r_getI C 244 dX8_layerOf_6 fg_X8_161_7 rfl rfl M.1 (fun g6 => ?_)
      refine r_icge C (tgt := 34) dX8_layerOf_9 (by decide) (by omega) (by omega) (fun c9 => ?_) (fun c9 => ?_)
      · exfalso; omega
      · refine r_aload_n C dX8_layerOf_12 lg_0 ?_
        refine r_getA C 247 33 dX8_layerOf_13 fg_X8_64_7 rfl rfl M.1 (fun g13 => ?_)
        refine r_iload_n C dX8_layerOf_16 lg_3 ?_
        refine r_iald C (N := 60) 1056 dX8_layerOf_17 (by decide) rfl rfl (M.g (j := 23) (by decide)) (by omega) (by omega) (by omega) (fun g17 => ?_)
        rw [ex]
        refine r_iload_n C dX8_layerOf_18 lg_1 ?_
        refine r_icne C (tgt := 26) dX8_layerOf_19 (by decide) (by rw [← ex]; exact g17) (by omega) (fun c19 => ?_) (fun c19 => ?_)
        · refine r_iload_n C dX8_layerOf_26 lg_2 ?_
          refine r_istore_n C dX8_layerOf_27 (ls1_2 rfl rfl) ?_
          refine r_iinc C dX8_layerOf_28 lg_3 (ls1_3 rfl rfl) ?_
          refine r_goto C (tgt := 4) dX8_layerOf_31 (by decide) ?_
          first
          | exact key _ (by omega) (by rw [if_neg (by omega)])
          | exact key _ (by omega) (by rw [if_pos (by omega)])
        · refine r_iload_n C dX8_layerOf_22 lg_3 ?_
          refine r_goto C (tgt := 27) dX8_layerOf_23 (by decide) ?_
          refine r_istore_n C dX8_layerOf_27 (ls1_2 rfl rfl) ?_
          refine r_iinc C dX8_layerOf_28 lg_3 (ls1_3 rfl rfl) ?_
          refine r_goto C (tgt := 4) dX8_layerOf_31 (by decide) ?_
          first
          | exact key _ (by omega) (by rw [if_neg (by omega)])
          | exact key _ (by omega) (by rw [if_pos (by omega)])
  refine r_iconst C dX8_layerOf_0 ?_
  refine r_istore_n C dX8_layerOf_1 (ls1_2 rfl rfl) ?_
  refine r_iconst C dX8_layerOf_2 ?_
  refine r_istore_n C dX8_layerOf_3 (ls1_3 rfl rfl) ?_
  exact lp q [] (-1) (by omega) rfl rfl
