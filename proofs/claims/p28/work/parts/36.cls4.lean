/-! the class: first in first out -/
/-- the queue as a chain of layers -/
def QCH (S : ST) : Int → QL3 → Prop
  | s, [] => s = -1
  | s, x :: t => s = x.2.2 ∧ S 33 s = x.1 ∧ S 34 s = x.2.1 ∧ QCH S (S 35 s) t
def lo2 : Int → QL3 → Int
  | d, [] => d
  | _, x :: t => lo2 x.2.2 t
abbrev og (q : QL3) : List Int := q.map (fun x => x.2.2)
theorem lo2_app (x : Int × Int × Int) : ∀ (a : QL3) (d : Int), lo2 d (a ++ [x]) = x.2.2
  | [], _ => rfl
  | y :: t, _ => lo2_app x t _
theorem lo2_suf (x : Int × Int × Int) (t : QL3) : ∀ (a : QL3) (d d' : Int), lo2 d (a ++ x :: t) = lo2 d' (x :: t)
  | [], _, _ => rfl
  | y :: a, _, d' => lo2_suf x t a _ d'
theorem lo2_mem : ∀ (q : QL3) (d : Int), lo2 d q = d ∨ lo2 d q ∈ og q
  | [], _ => Or.inl rfl
  | x :: t, d => by
    rcases lo2_mem t x.2.2 with h | h
    · exact Or.inr (by show lo2 x.2.2 t ∈ _; rw [h]; exact List.mem_cons_self)
    · exact Or.inr (List.mem_cons_of_mem _ h)
theorem QCH.fr {S S' : ST} : ∀ {q : QL3} {s : Int}, QCH S s q → (∀ z ∈ og q, S' 33 z = S 33 z ∧ S' 34 z = S 34 z ∧ S' 35 z = S 35 z) → QCH S' s q
  | [], _, h, _ => h
  | x :: t, s, ⟨h1, h2, h3, h4⟩, hS => by
    have h9 := hS s (by rw [h1]; exact List.mem_cons_self)
    refine ⟨h1, by rw [h9.1]; exact h2, by rw [h9.2.1]; exact h3, ?_⟩
    rw [h9.2.2]
    exact h4.fr (fun z hz => hS z (List.mem_cons_of_mem _ hz))
theorem QCH.app {S S' : ST} {x : Int × Int × Int} : ∀ {q : QL3} {s d : Int}, QCH S s q → (og q).Nodup → x.2.2 ∉ og q → (∀ z ∈ og q, S' 33 z = S 33 z ∧ S' 34 z = S 34 z ∧ (z ≠ lo2 d q → S' 35 z = S 35 z)) → (q ≠ [] → S' 35 (lo2 d q) = x.2.2) → S' 33 x.2.2 = x.1 → S' 34 x.2.2 = x.2.1 → S' 35 x.2.2 = -1 → QCH S' (if q = [] then x.2.2 else s) (q ++ [x])
  | [], s, d, _, _, _, _, _, e1, e2, e3 => by
    rw [if_pos rfl]
    exact ⟨rfl, e1, e2, e3⟩
  | y :: t, s, d, ⟨h1, h2, h3, h4⟩, hn, hx, hS, hl, e1, e2, e3 => by
    rw [if_neg (by simp)]
    obtain ⟨n1, n2⟩ := List.nodup_cons.mp hn
    have n1 : y.2.2 ∉ og t := n1
    have h9 := hS s (by rw [h1]; exact List.mem_cons_self)
    refine ⟨h1, by rw [h9.1]; exact h2, by rw [h9.2.1]; exact h3, ?_⟩
    have ih := QCH.app (S' := S') (x := x) (d := y.2.2) h4 n2 (fun q => hx (List.mem_cons_of_mem _ q)) (fun z hz => hS z (List.mem_cons_of_mem _ hz)) (fun _ => hl (by simp)) e1 e2 e3
    by_cases ht : t = []
    · subst ht
      rw [if_pos rfl] at ih
      have : S' 35 s = x.2.2 := by rw [h1]; exact hl (by simp)
      rw [this]; exact ih
    · rw [if_neg ht] at ih
      have hne : s ≠ lo2 d (y :: t) := by
        show s ≠ lo2 y.2.2 t
        rcases lo2_mem t y.2.2 with h | h
        · exfalso
          obtain ⟨z, u, rfl⟩ : ∃ z u, t = z :: u := by
            cases t with
            | nil => exact absurd rfl ht
            | cons z u => exact ⟨z, u, rfl⟩
          rcases lo2_mem u z.2.2 with h8 | h8
          · exact n1 (by rw [← h]; show lo2 z.2.2 u ∈ _; rw [h8]; exact List.mem_cons_self)
          · exact n1 (by rw [← h]; exact List.mem_cons_of_mem _ h8)
        · intro e; exact n1 (by rw [← h1, e]; exact h)
      rw [h9.2.2 hne]
      exact ih
def FQ9 (S : ST) (q : QL3) : Prop := QCH S (S 5 0) q ∧ S 6 0 = lo2 (-1) q
set_option maxRecDepth 20000 in
theorem cP_portion {G : GT} {l : Launch} (hfl : l.stackTraces = false) {S : ST} {A : AB} {m p u : Int} (hm : lv1 A 3 m) (hp : 0 ≤ p ∧ p ≤ 2000000) (hu : 0 ≤ u ∧ u ≤ 100000000) (hq : 1 ≤ S 100 m ∧ S 100 m ≤ 1000) : CT G l yX6_portion cX6_portion 3 (some .long) (rmk 0 0 0 0) S A [vR A 3 m, vI p, vI u] (oJ fun z S' A' => p * u / S 100 m = z ∧ S = S' ∧ A = A') (noX) := by
  have h1 := mul_b (a := p) (b := u) hp.1 hp.2 hu.1 hu.2
  have h2 : 0 ≤ p * u / S 100 m := Int.ediv_nonneg h1.1 (by omega)
  have h3 : p * u / S 100 m ≤ p * u := Int.ediv_le_self _ h1.1
  refine ct_ofN (own := RX6) (mn := "portion") rfl rfl (by decide) hfl (lv0 := [some (vR A 3 m), some (vI p), some (vI u)]) (ent_1 (cat_R _ _ _) (ent_1 rfl (ent_1 rfl ent_0))) rfl ?_
  intro J X C F FX FT FU hW hA
  refine r_aload_n C dX6_portion_0 lg_0 ?_
  refine r_getI C 100 dX6_portion_1 fg_X6_60_3 rfl rfl hm (fun g1 => ?_)
  refine r_ifle C (tgt := 21) dX6_portion_4 (by decide) (by omega) (fun c4 => ?_) (fun c4 => ?_)
  · exfalso; omega
  · refine r_iload_n C dX6_portion_7 lg_1 ?_
    refine r_i2l C dX6_portion_8 (by omega) ?_
    refine r_iload_n C dX6_portion_9 lg_2 ?_
    refine r_i2l C dX6_portion_10 (by omega) ?_
    refine r_lmul C dX6_portion_11 ?_
    refine r_aload_n C dX6_portion_12 lg_0 ?_
    refine r_getI C 100 dX6_portion_13 fg_X6_60_3 rfl rfl hm (fun g13 => ?_)
    refine r_i2l C dX6_portion_16 (by omega) ?_
    refine r_ldiv C dX6_portion_17 (by omega) (by omega) (by omega) (by omega) ?_
    refine r_goto C (tgt := 22) dX6_portion_18 (by decide) ?_
    exact f_J F dX6_portion_22 (by omega) ⟨rfl, rfl, rfl⟩ (Nat.le_of_ble_eq_true rfl) (Nat.le_of_ble_eq_true rfl)
set_option maxRecDepth 20000 in
theorem cF_empty {G : GT} {l : Launch} (hfl : l.stackTraces = false) {S : ST} {A : AB} (hl0 : lv1 A 0 0) : CT G l yX0_empty cX0_empty 1 none (rmk 0 0 0 0) S A [vR A 0 0] (oV fun S' A' => A = A' ∧ upS (upS S 5 0 (-1)) 6 0 (-1) = S') (noX) := by
  refine ct_ofN (own := RX0) (mn := "empty") rfl rfl (by decide) hfl (lv0 := [some (vR A 0 0)]) (ent_1 (cat_R _ _ _) ent_0) rfl ?_
  intro J X C F FX FT FU hW hA
  refine r_aload_n C dX0_empty_0 lg_0 ?_
  refine r_null C 1 dX0_empty_1 ?_
  refine r_putA C 5 1 dX0_empty_2 fg_X0_7_0 rfl rfl hl0 (fun q h => by cases h; exact Or.inl rfl) (by omega) (by have := hA.2.2 1; omega) ?_
  refine r_aload_n C dX0_empty_5 lg_0 ?_
  refine r_null C 1 dX0_empty_6 ?_
  refine r_putA C 6 1 dX0_empty_7 fg_X0_13_0 rfl rfl hl0 (fun q h => by cases h; exact Or.inl rfl) (by omega) (by have := hA.2.2 1; omega) ?_
  exact f_V F dX0_empty_10 ⟨rfl, rfl⟩ (Nat.le_of_ble_eq_true rfl) (Nat.le_of_ble_eq_true rfl)
set_option maxRecDepth 20000 in
theorem cF_bring {G : GT} {l : Launch} (hfl : l.stackTraces = false) {S : ST} {A : AB} {m : Int} {q : QL3} (hl0 : lv1 A 0 0) (hm : lv1 A 3 m) (hl1 : lv1 A 1 m) (h102 : S 102 m = m) (hq : FQ9 S q) (hnd : (og q).Nodup) (hmq : m ∉ og q) (hog : ∀ x ∈ og q, lv1 A 1 x) (hA1 : A.2 1 ≤ 60) : CT G l yX0_bring cX0_bring 3 none (rmk 1 0 0 24) S A [vR A 0 0, vR A 3 m] (oV fun S' A' => A = A' ∧ Fr [33, 34, 35, 5, 6] S S' ∧ FQ9 S' (q ++ [(S 100 m, S 101 m, m)]) ∧ (∀ r, r ≠ m → S' 33 r = S 33 r)) (noX) := by
  obtain ⟨q1, q2⟩ := hq
  refine ct_ofN (own := RX0) (mn := "bring") rfl rfl (by decide) hfl (lv0 := [some (vR A 0 0), some (vR A 3 m), none]) (ent_1 (cat_R _ _ _) (ent_1 (cat_R _ _ _) (ent_n ent_0))) rfl ?_
  intro J X C F FX FT FU hW hA
  have w5 := (hW 5 0).1
  have w6 := (hW 6 0).1
  refine r_aload_n C dX0_bring_0 lg_1 ?_
  refine r_getA C 102 1 dX0_bring_1 fg_X0_16_3 rfl rfl hm (fun g1 => ?_)
  rw [h102]
  refine r_astore_n C dX0_bring_4 (ls1_2 (cat_R _ _ _) (cat_R _ _ _)) ?_
  refine r_aload_n C dX0_bring_5 lg_2 ?_
  refine r_aload_n C dX0_bring_6 lg_1 ?_
  refine r_getI C 100 dX0_bring_7 fg_X0_21_3 rfl rfl hm (fun g7 => ?_)
  refine r_aload_n C dX0_bring_10 lg_1 ?_
  refine r_getI C 101 dX0_bring_11 fg_X0_25_3 rfl rfl hm (fun g11 => ?_)
  refine r_i2l C dX0_bring_14 (by omega) ?_
  refine r_null C 1 dX0_bring_15 ?_
  refine q_V3V C (cY_fill hfl hl1 (by omega) (by omega) (by omega) (by have := hA.2.2 1; omega)) dX0_bring_16 lk_X0_28 hl1 ⟨Nat.le_of_ble_eq_true rfl, Nat.le_of_ble_eq_true rfl⟩ (catLe (Nat.le_of_ble_eq_true rfl)) ⟨rfl, rfl⟩ rfl (Nat.le_of_ble_eq_true rfl) (Nat.le_of_ble_eq_true rfl) (fun S16 A16 p16 => ?_)
  obtain ⟨rfl, rfl⟩ := p16
  refine r_gS (fun S1 h1 => ?_)
  have f1 : Fr [33, 34, 35] S S1 := by rw [h1]; exact ((Fr.up (by decide)).tr (Fr.up (by decide))).tr (Fr.up (by decide))
  have e5 := f1 5 0 (by decide)
  have e6 := f1 6 0 (by decide)
  have x33 : ∀ r, r ≠ m → S1 33 r = S 33 r := fun r hr => by rw [h1, upS_c _ _ (by decide), upS_c _ _ (by decide), upS_z _ _ hr]
  have x34 : ∀ r, r ≠ m → S1 34 r = S 34 r := fun r hr => by rw [h1, upS_c _ _ (by decide), upS_z _ _ hr, upS_c _ _ (by decide)]
  have x35 : ∀ r, r ≠ m → S1 35 r = S 35 r := fun r hr => by rw [h1, upS_z _ _ hr, upS_c _ _ (by decide), upS_c _ _ (by decide)]
  have y33 : S1 33 m = S 100 m := by rw [h1, upS_c _ _ (by decide), upS_c _ _ (by decide), upS_self]
  have y34 : S1 34 m = S 101 m := by rw [h1, upS_c _ _ (by decide), upS_self]
  have y35 : S1 35 m = -1 := by rw [h1, upS_self]
  refine r_aload_n C dX0_bring_19 lg_0 ?_
  refine r_getA C 6 1 dX0_bring_20 fg_X0_13_0 rfl rfl hl0 (fun g20 => ?_)
  refine r_ifnonnull C (tgt := 34) dX0_bring_23 (by decide) (fun c23 => ?_) (fun c23 => ?_)
  · have hne : q ≠ [] := fun e => by subst e; have h9 : S 6 0 = -1 := q2; omega
    have hlm : S 6 0 ∈ og q := by
      rcases lo2_mem q (-1) with h | h
      · exfalso; omega
      · rw [q2]; exact h
    have hll := hog _ hlm
    have hlm2 : S 6 0 ≠ m := fun e => hmq (e ▸ hlm)
    refine r_aload_n C dX0_bring_34 lg_0 ?_
    refine r_getA C 6 1 dX0_bring_35 fg_X0_13_0 rfl rfl hl0 (fun g35 => ?_)
    refine r_aload_n C dX0_bring_38 lg_2 ?_
    refine r_putA C 35 1 dX0_bring_39 fg_X0_34_1 rfl rfl (by rw [e6]; exact hll) (fun q h => by cases h; exact Or.inl rfl) (by omega) (by omega) ?_
    refine r_aload_n C dX0_bring_42 lg_0 ?_
    refine r_aload_n C dX0_bring_43 lg_2 ?_
    refine r_putA C 6 1 dX0_bring_44 fg_X0_13_0 rfl rfl hl0 (fun q h => by cases h; exact Or.inl rfl) (by omega) (by omega) ?_
    exact f_V F dX0_bring_47 (by
      refine ⟨rfl, ?_, ⟨?_, ?_⟩, fun r hr => ?_⟩
      · exact ((f1.sub (by decide)).tr (Fr.up (by decide))).tr (Fr.up (by decide))
      · rw [upS_c _ _ (by decide)]
        first
        | (rw [upS_self]; exact ⟨rfl, (by show _ = S 100 m; rw [upS_c _ _ (by decide), upS_c _ _ (by decide)]; exact y33), (by show _ = S 101 m; rw [upS_c _ _ (by decide), upS_c _ _ (by decide)]; exact y34), (by show _ = -1; rw [upS_c _ _ (by decide), upS_c _ _ (by decide)]; exact y35)⟩)
        | (have h9 := QCH.app (S' := upS (upS S1 35 (S1 6 0) m) 6 0 m) (x := (S 100 m, S 101 m, m)) (d := -1) q1 hnd hmq (fun z hz => by
             have hzm : z ≠ m := fun e => hmq (e ▸ hz)
             refine ⟨by rw [upS_c _ _ (by decide), upS_c _ _ (by decide)]; exact x33 z hzm, by rw [upS_c _ _ (by decide), upS_c _ _ (by decide)]; exact x34 z hzm, fun hl => ?_⟩
             rw [upS_c _ _ (by decide), upS_z _ _ (by rw [e6, q2]; exact hl)]
             exact x35 z hzm) (fun _ => by rw [upS_c _ _ (by decide), ← q2, ← e6, upS_self]) (by rw [upS_c _ _ (by decide), upS_c _ _ (by decide)]; exact y33) (by rw [upS_c _ _ (by decide), upS_c _ _ (by decide)]; exact y34) (by rw [upS_c _ _ (by decide), upS_z _ _ (by rw [e6]; exact fun e => hlm2 e.symm)]; exact y35)
           rw [if_neg hne] at h9
           rw [upS_c _ _ (by decide), e5]
           exact h9)
      · rw [upS_self, lo2_app]
      · rw [upS_c _ _ (by decide), upS_c _ _ (by decide)]; exact x33 r hr) (Nat.le_of_ble_eq_true rfl) (Nat.le_of_ble_eq_true rfl)
  · have hqe : q = [] := by
      rcases lo2_mem q (-1) with h | h
      · cases q with
        | nil => rfl
        | cons x t =>
          exfalso
          have h9 : lo2 x.2.2 t = -1 := h
          have h8 := hog x.2.2 List.mem_cons_self
          rcases lo2_mem t x.2.2 with h7 | h7
          · have := h8.1; omega
          · have := (hog _ (List.mem_cons_of_mem _ h7)).1; omega
      · have := (hog _ h).1; omega
    subst hqe
    refine r_aload_n C dX0_bring_26 lg_0 ?_
    refine r_aload_n C dX0_bring_27 lg_2 ?_
    refine r_putA C 5 1 dX0_bring_28 fg_X0_7_0 rfl rfl hl0 (fun q h => by cases h; exact Or.inl rfl) (by omega) (by omega) ?_
    refine r_goto C (tgt := 42) dX0_bring_31 (by decide) ?_
    refine r_aload_n C dX0_bring_42 lg_0 ?_
    refine r_aload_n C dX0_bring_43 lg_2 ?_
    refine r_putA C 6 1 dX0_bring_44 fg_X0_13_0 rfl rfl hl0 (fun q h => by cases h; exact Or.inl rfl) (by omega) (by omega) ?_
    exact f_V F dX0_bring_47 (by
      refine ⟨rfl, ?_, ⟨?_, ?_⟩, fun r hr => ?_⟩
      · exact ((f1.sub (by decide)).tr (Fr.up (by decide))).tr (Fr.up (by decide))
      · rw [upS_c _ _ (by decide)]
        first
        | (rw [upS_self]; exact ⟨rfl, (by show _ = S 100 m; rw [upS_c _ _ (by decide), upS_c _ _ (by decide)]; exact y33), (by show _ = S 101 m; rw [upS_c _ _ (by decide), upS_c _ _ (by decide)]; exact y34), (by show _ = -1; rw [upS_c _ _ (by decide), upS_c _ _ (by decide)]; exact y35)⟩)
        | (have h9 := QCH.app (S' := upS (upS S1 35 (S1 6 0) m) 6 0 m) (x := (S 100 m, S 101 m, m)) (d := -1) q1 hnd hmq (fun z hz => by
             have hzm : z ≠ m := fun e => hmq (e ▸ hz)
             refine ⟨by rw [upS_c _ _ (by decide), upS_c _ _ (by decide)]; exact x33 z hzm, by rw [upS_c _ _ (by decide), upS_c _ _ (by decide)]; exact x34 z hzm, fun hl => ?_⟩
             rw [upS_c _ _ (by decide), upS_z _ _ (by rw [e6, q2]; exact hl)]
             exact x35 z hzm) (fun _ => by rw [upS_c _ _ (by decide), ← q2, ← e6, upS_self]) (by rw [upS_c _ _ (by decide), upS_c _ _ (by decide)]; exact y33) (by rw [upS_c _ _ (by decide), upS_c _ _ (by decide)]; exact y34) (by rw [upS_c _ _ (by decide), upS_z _ _ (by rw [e6]; exact fun e => hlm2 e.symm)]; exact y35)
           rw [if_neg hne] at h9
           rw [upS_c _ _ (by decide), e5]
           exact h9)
      · rw [upS_self, lo2_app]
      · rw [upS_c _ _ (by decide), upS_c _ _ (by decide)]; exact x33 r hr) (Nat.le_of_ble_eq_true rfl) (Nat.le_of_ble_eq_true rfl)
