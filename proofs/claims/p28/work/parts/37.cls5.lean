/-! the class: taking from the queue, and the rest of it -/
def lo3 : Int → List Int → Int
  | d, [] => d
  | _, x :: t => lo3 x t
theorem lo2_3 : ∀ (q : QL3) (d : Int), lo2 d q = lo3 d (og q)
  | [], _ => rfl
  | x :: t, _ => lo2_3 t x.2.2
theorem lo3_app (y : Int) (t : List Int) : ∀ (p : List Int) (d : Int), lo3 d (p ++ y :: t) = lo3 y t
  | [], _ => rfl
  | x :: p, _ => lo3_app y t p x
theorem lo2_og {q qf : QL3} {p : List Int} {d d' : Int} (h : og q = p ++ og qf) (hn : qf ≠ []) : lo2 d q = lo2 d' qf := by
  rw [lo2_3, lo2_3, h]
  cases qf with
  | nil => exact absurd rfl hn
  | cons x t => exact lo3_app x.2.2 (og t) p d
set_option maxRecDepth 20000 in
theorem cF_take {G : GT} {l : Launch} (hfl : l.stackTraces = false) {S : ST} {A : AB} {u : Int} {q : QL3} (hl0 : lv1 A 0 0) (hq : FQ9 S q) (ho : QOK q) (hnd : (og q).Nodup) (hog : ∀ x ∈ og q, lv1 A 1 x) (hu0 : 0 ≤ u) (hu9 : u ≤ 1000) (huq : u ≤ qu q) (hc : qc q ≤ 1000000000000000) (hA1 : A.2 1 ≤ 60) : CT G l yX0_take cX0_take 7 (some .long) (rmk 1 0 0 30) S A [vR A 0 0, vI u] (oJ fun z S' A' => (tk q u).1 = z ∧ A = A' ∧ Fr [33, 34, 5, 6] S S' ∧ FQ9 S' (tk q u).2 ∧ (∀ r, r ∉ og q → S' 33 r = S 33 r) ∧ (∀ r ∈ og q, r ∉ og (tk q u).2 → S' 33 r = 0)) (noX) := by
  refine ct_ofN (own := RX0) (mn := "take") rfl rfl (by decide) hfl (lv0 := [some (vR A 0 0), some (vI u), none, none, none, none, none]) (ent_1 (cat_R _ _ _) (ent_1 rfl (ent_n (ent_n (ent_n (ent_n (ent_n ent_0))))))) rfl ?_
  intro J X C F FX FT FU hW hA
  have fin9 : ∀ (S1 : ST) (acc op s : Int) (hF : Fr [33, 34, 5] S S1) (hu1 : ∀ r, r ∉ og q → S1 33 r = S 33 r) (hacc : acc = (tk q u).1) (hq1 : QCH S1 (S1 5 0) (tk q u).2) (hu2 : ∀ r ∈ og q, r ∉ og (tk q u).2 → S1 33 r = 0), J 82 [some (vR A 0 0), some (vI u), some (vL acc), none, some (vI op), some (vR A 1 s), none] [] S1 A 0 0 := by
    intro S1 acc op s hF hu1 hacc hq1 hu2
    have e6 := hF 6 0 (by decide)
    obtain ⟨p, hp⟩ := tk_map q u
    have htk := tk_ok q u ho
    have hqn := qc_nn htk.1
    refine r_aload_n C dX0_take_82 lg_0 ?_
    refine r_getA C 5 1 dX0_take_83 fg_X0_7_0 rfl rfl hl0 (fun g83 => ?_)
    refine r_ifnonnull C (tgt := 94) dX0_take_86 (by decide) (fun c86 => ?_) (fun c86 => ?_)
    · refine r_lload_n C dX0_take_94 lg_2 ?_
      exact f_J F dX0_take_95 (by omega) (by
        first
        | (have hne : (tk q u).2 ≠ [] := fun e => by
             rw [e] at hq1
             have : S1 5 0 = -1 := hq1
             omega
           exact ⟨hacc.symm, rfl, hF.sub (by decide), ⟨hq1, by rw [e6, hq.2]; exact lo2_og hp hne⟩, hu1, hu2⟩)
        | (have he : (tk q u).2 = [] := by
             cases h9 : (tk q u).2 with
             | nil => rfl
             | cons x t =>
               exfalso
               rw [h9] at hq1 hp
               have h8 : S1 5 0 = x.2.2 := hq1.1
               have h7 := hog x.2.2 (by show x.2.2 ∈ q.map (fun x => x.2.2); rw [hp]; simp)
               have := h7.1
               omega
           refine ⟨hacc.symm, rfl, (hF.sub (by decide)).tr (Fr.up (by decide)), ⟨?_, ?_⟩, fun r hr => ?_, fun r hr hr2 => ?_⟩
           · rw [upS_c _ _ (by decide)]
             exact hq1.fr (fun z hz => ⟨upS_c _ _ (by decide), upS_c _ _ (by decide), upS_c _ _ (by decide)⟩)
           · rw [upS_self, he]; rfl
           · rw [upS_c _ _ (by decide)]; exact hu1 r hr
           · rw [upS_c _ _ (by decide)]; exact hu2 r hr hr2)) (Nat.le_of_ble_eq_true rfl) (Nat.le_of_ble_eq_true rfl)
    · refine r_aload_n C dX0_take_89 lg_0 ?_
      refine r_null C 1 dX0_take_90 ?_
      refine r_putA C 6 1 dX0_take_91 fg_X0_13_0 rfl rfl hl0 (fun q h => by cases h; exact Or.inl rfl) (by omega) (by have := hA.2.2 1; omega) ?_
      refine r_lload_n C dX0_take_94 lg_2 ?_
      exact f_J F dX0_take_95 (by omega) (by
        first
        | (have hne : (tk q u).2 ≠ [] := fun e => by
             rw [e] at hq1
             have : S1 5 0 = -1 := hq1
             omega
           exact ⟨hacc.symm, rfl, hF.sub (by decide), ⟨hq1, by rw [e6, hq.2]; exact lo2_og hp hne⟩, hu1, hu2⟩)
        | (have he : (tk q u).2 = [] := by
             cases h9 : (tk q u).2 with
             | nil => rfl
             | cons x t =>
               exfalso
               rw [h9] at hq1 hp
               have h8 : S1 5 0 = x.2.2 := hq1.1
               have h7 := hog x.2.2 (by show x.2.2 ∈ q.map (fun x => x.2.2); rw [hp]; simp)
               have := h7.1
               omega
           refine ⟨hacc.symm, rfl, (hF.sub (by decide)).tr (Fr.up (by decide)), ⟨?_, ?_⟩, fun r hr => ?_, fun r hr hr2 => ?_⟩
           · rw [upS_c _ _ (by decide)]
             exact hq1.fr (fun z hz => ⟨upS_c _ _ (by decide), upS_c _ _ (by decide), upS_c _ _ (by decide)⟩)
           · rw [upS_self, he]; rfl
           · rw [upS_c _ _ (by decide)]; exact hu1 r hr
           · rw [upS_c _ _ (by decide)]; exact hu2 r hr hr2)) (Nat.le_of_ble_eq_true rfl) (Nat.le_of_ble_eq_true rfl)
  have ex0 : ∀ (S1 : ST) (acc op s : Int) (hF : Fr [33, 34, 5] S S1) (hu1 : ∀ r, r ∉ og q → S1 33 r = S 33 r) (hop : op = 0) (hacc : acc = (tk q u).1) (hq1 : QCH S1 (S1 5 0) (tk q u).2) (hu2 : ∀ r ∈ og q, r ∉ og (tk q u).2 → S1 33 r = 0), J 11 [some (vR A 0 0), some (vI u), some (vL acc), none, some (vI op), some (vR A 1 s), none] [] S1 A 0 0 := by
    intro S1 acc op s hF hu1 hop hacc hq1 hu2
    refine r_aload C dX0_take_11 lg_5 ?_
    refine r_ifnull C (tgt := 82) dX0_take_13 (by decide) (fun c13 => ?_) (fun c13 => ?_)
    · exact fin9 S1 acc op s hF hu1 hacc hq1 hu2
    · refine r_iload C dX0_take_16 lg_4 ?_
      refine r_ifle C (tgt := 82) dX0_take_18 (by decide) (by omega) (fun c18 => ?_) (fun c18 => ?_)
      · exact fin9 S1 acc op s hF hu1 hacc hq1 hu2
      · exfalso; omega
  have lp : ∀ (q1 : QL3) (s v acc : Int) (S1 : ST) (hF : Fr [33, 34, 5] S S1) (hu1 : ∀ r, r ∉ og q → S1 33 r = S 33 r) (hs : QCH S1 s q1) (h5 : S1 5 0 = s) (ho1 : QOK q1) (hsf : ∃ p, og q = p ++ og q1) (hz : ∀ r ∈ og q, r ∉ og q1 → S1 33 r = 0) (hv0 : 0 ≤ v) (hv1 : v ≤ qu q1) (hv2 : v ≤ 1000) (ha0 : 0 ≤ acc) (ha1 : acc + qc q1 ≤ 1000000000000000) (hG : (acc + (tk q1 v).1, (tk q1 v).2) = tk q u), J 11 [some (vR A 0 0), some (vI u), some (vL acc), none, some (vI v), some (vR A 1 s), none] [] S1 A 0 0 := by
    intro q1
    induction q1 with
    | nil =>
      intro s v acc S1 hF hu1 hs h5 ho1 hsf hz hv0 hv1 hv2 ha0 ha1 hG
      have hs : s = -1 := hs
      have e1 : (tk q u).1 = acc := by rw [← hG]; show acc + 0 = acc; omega
      have e2 : (tk q u).2 = [] := by rw [← hG]; rfl
      refine r_aload C dX0_take_11 lg_5 ?_
      refine r_ifnull C (tgt := 82) dX0_take_13 (by decide) (fun c13 => ?_) (fun c13 => ?_)
      · exact fin9 S1 acc v s hF hu1 e1.symm (by rw [e2, h5]; exact hs) (by rw [e2]; exact hz)
      · exfalso; omega
    | cons x t ih =>
      intro s v acc S1 hF hu1 hs h5 ho1 hsf hz hv0 hv1 hv2 ha0 ha1 hG
      obtain ⟨rfl, e33, e34, hs⟩ := hs
      obtain ⟨p, hp⟩ := hsf
      have hxq : x.2.2 ∈ og q := by rw [hp]; simp
      have hl1 := hog _ hxq
      obtain ⟨⟨hx1, hx2⟩, hx3⟩ := ho1 x List.mem_cons_self
      have hot : QOK t := fun y hy => ho1 y (List.mem_cons_of_mem _ hy)
      have hqt := qc_nn hot
      have hqn := qu_nn hot
      have eqc : qc (x :: t) = x.2.1 + qc t := rfl
      have equ : qu (x :: t) = x.1 + qu t := rfl
      have hndx : x.2.2 ∉ og t := by
        rw [hp, List.nodup_append] at hnd
        exact (List.nodup_cons.mp hnd.2.1).1
      have hbx : ∀ w9, 0 ≤ w9 → w9 ≤ x.1 → 0 ≤ x.2.1 * w9 / x.1 ∧ x.2.1 * w9 / x.1 ≤ x.2.1 := fun w9 a b => quo_b hx3 a (by omega) b
      refine r_aload C dX0_take_11 lg_5 ?_
      refine r_ifnull C (tgt := 82) dX0_take_13 (by decide) (fun c13 => ?_) (fun c13 => ?_)
      · exfalso; omega
      · refine r_iload C dX0_take_16 lg_4 ?_
        refine r_ifle C (tgt := 82) dX0_take_18 (by decide) (by omega) (fun c18 => ?_) (fun c18 => ?_)
        · have e9 := tk_0 (x :: t) (u := v) (by omega)
          rw [e9] at hG
          exact fin9 S1 acc v x.2.2 hF hu1 (by rw [← hG]; show acc = acc + 0; omega) (by rw [← hG, h5]; exact ⟨rfl, e33, e34, hs⟩) (by rw [← hG]; exact hz)
        · refine r_iload C dX0_take_21 lg_4 ?_
          refine r_aload C dX0_take_23 lg_5 ?_
          refine r_getI C 33 dX0_take_25 fg_X0_37_1 rfl rfl hl1 (fun g25 => ?_)
          rw [e33]
          refine r_min C dX0_take_28 lk_X0_40 wMin2 wMin3 wMin4 (Nat.le_of_ble_eq_true rfl) (Nat.le_of_ble_eq_true rfl) (Nat.le_of_ble_eq_true rfl) (Nat.le_of_ble_eq_true rfl) (by omega) (by omega) ?_
          obtain ⟨w9, hw9, hwa⟩ : ∃ w9, (if x.1 < v then x.1 else v) = w9 ∧ ((x.1 ≤ v ∧ w9 = x.1) ∨ (v < x.1 ∧ w9 = v)) := ⟨_, rfl, by split <;> omega⟩
          rw [hw9]
          have hbb := hbx w9 (by omega) (by omega)
          refine r_istore C dX0_take_31 (ls1_6 rfl (cat_R _ _ _)) ?_
          refine r_lload_n C dX0_take_33 lg_2 ?_
          refine r_aload C dX0_take_34 lg_5 ?_
          refine r_iload C dX0_take_36 lg_6 ?_
          refine q_V1J C (cY_take hfl hl1 (by omega) (by omega) (by omega)) dX0_take_38 lk_X0_46 hl1 ⟨Nat.le_of_ble_eq_true rfl, Nat.le_of_ble_eq_true rfl⟩ (catLe (Nat.le_of_ble_eq_true rfl)) ⟨rfl, rfl⟩ rfl (Nat.le_of_ble_eq_true rfl) (Nat.le_of_ble_eq_true rfl) (fun z38 S38 A38 i38 p38 => ?_)
          obtain ⟨rfl, rfl, rfl⟩ := p38
          rw [e33, e34]
          refine r_gS (fun S2 hS2 => ?_)
          have z33 : S2 33 x.2.2 = x.1 - w9 := by rw [hS2, upS_c _ _ (by decide), upS_self]
          have z34 : S2 34 x.2.2 = x.2.1 - x.2.1 * w9 / x.1 := by rw [hS2, upS_self]
          have y33 : ∀ r, r ≠ x.2.2 → S2 33 r = S1 33 r := fun r hr => by rw [hS2, upS_c _ _ (by decide), upS_z _ _ hr]
          have y34 : ∀ r, r ≠ x.2.2 → S2 34 r = S1 34 r := fun r hr => by rw [hS2, upS_z _ _ hr, upS_c _ _ (by decide)]
          have y35 : ∀ r, S2 35 r = S1 35 r := fun r => by rw [hS2, upS_c _ _ (by decide), upS_c _ _ (by decide)]
          have hF2 : Fr [33, 34, 5] S S2 := hF.tr (by rw [hS2]; exact (Fr.up (by decide)).tr (Fr.up (by decide)))
          have w35 := (hW 35 x.2.2).1
          refine r_ladd C dX0_take_41 ?_
          refine r_lstore_n C dX0_take_42 (ls2_2 rfl rfl) ?_
          refine r_iload C dX0_take_43 lg_4 ?_
          refine r_iload C dX0_take_45 lg_6 ?_
          refine r_isub C dX0_take_47 ?_
          refine r_istore C dX0_take_48 (ls1_4 rfl trivial) ?_
          refine r_aload_n C dX0_take_50 lg_0 ?_
          refine r_aload C dX0_take_51 lg_5 ?_
          refine r_getI C 33 dX0_take_53 fg_X0_37_1 rfl rfl hl1 (fun g53 => ?_)
          rw [z33]
          refine r_ifle C (tgt := 64) dX0_take_56 (by decide) (by omega) (fun c56 => ?_) (fun c56 => ?_)
          · refine r_aload C dX0_take_64 lg_5 ?_
            refine r_getA C 35 1 dX0_take_66 fg_X0_34_1 rfl rfl hl1 (fun g66 => ?_)
            refine r_putA C 5 1 dX0_take_69 fg_X0_7_0 rfl rfl hl0 (fun q h => by cases h; exact Or.inl rfl) (by first | omega | (rw [y35, ← (hF 35 x.2.2 (by decide) : _ = S 35 x.2.2)] at *; omega) | (rw [y35, hF 35 x.2.2 (by decide)]; omega)) (by first | exact hl1.2 | omega | (rw [y35, hF 35 x.2.2 (by decide)]; exact (hW 35 x.2.2).2.2.2 (by decide))) ?_
            refine r_gS (fun S3 hS3 => ?_)
            have k33 : ∀ r, S3 33 r = S2 33 r := fun r => by rw [hS3, upS_c _ _ (by decide)]
            have k34 : ∀ r, S3 34 r = S2 34 r := fun r => by rw [hS3, upS_c _ _ (by decide)]
            have k35 : ∀ r, S3 35 r = S1 35 r := fun r => by rw [hS3, upS_c _ _ (by decide), y35]
            have k5 := (congrFun (congrFun hS3 5) 0).trans (upS_self _ _ _ _)
            have hF3 : Fr [33, 34, 5] S S3 := hF2.tr (hS3 ▸ Fr.up (by decide))
            have hu3 : ∀ r, r ∉ og q → S3 33 r = S 33 r := fun r hr => by rw [k33, y33 r (fun e => hr (e ▸ hxq))]; exact hu1 r hr
            have hsame : ∀ z ∈ og t, S3 33 z = S1 33 z ∧ S3 34 z = S1 34 z ∧ S3 35 z = S1 35 z := fun z hz9 => by
              have hzx : z ≠ x.2.2 := fun e => hndx (e ▸ hz9)
              exact ⟨by rw [k33, y33 z hzx], by rw [k34, y34 z hzx], k35 z⟩
            refine r_aload C dX0_take_72 lg_5 ?_
            refine r_getA C 35 1 dX0_take_74 fg_X0_34_1 rfl rfl hl1 (fun g74 => ?_)
            refine r_astore C dX0_take_77 (ls1_5 (cat_R _ _ _) rfl) ?_
            refine r_goto C (tgt := 11) dX0_take_79 (by decide) ?_
            refine r_le C (lle_k (lle_k (lle_k (lle_k (lle_k (lle_k (lle_f lle_0))))))) ?_
            first
            | (have hle : x.1 ≤ v := by omega
               have hw : w9 = x.1 := by omega
               rw [y35] at k5
               rw [k35]
               rw [tk_1 _ _ (by omega) hle] at hG
               have ecc : x.2.1 * x.1 / x.1 = x.2.1 := Int.mul_ediv_cancel _ (by omega)
               rw [hw]
               refine ih (S1 35 x.2.2) (v - x.1) (acc + x.2.1 * x.1 / x.1) S3 hF3 hu3 (hs.fr hsame) k5 hot ⟨p ++ [x.2.2], by rw [hp, List.append_assoc]; rfl⟩ (fun r hr hr2 => ?_) (by omega) (by omega) (by omega) (by omega) (by omega) (by rw [← hG]; show _ = (acc + (x.2.1 * x.1 / x.1 + (tk t (v - x.1)).1), _); rw [Int.add_assoc])
               by_cases e : r = x.2.2
               · rw [e, k33, z33]; omega
               · rw [k33, y33 r e]
                 exact hz r hr (fun q9 => by
                   rcases List.mem_cons.mp q9 with h | h
                   · exact e h
                   · exact hr2 h))
            | (have hnl : ¬ x.1 ≤ v := by omega
               have hw : w9 = v := by omega
               rw [hw] at z33 z34 ⊢
               rw [tk_2 _ _ (by omega) hnl] at hG
               refine ex0 S3 _ _ _ hF3 hu3 (by omega) (by rw [← hG]) ?_ ?_
               · rw [← hG, k5]
                 refine ⟨rfl, by rw [k33, z33], by rw [k34, z34], ?_⟩
                 rw [k35]
                 exact hs.fr hsame
               · rw [← hG]
                 intro r hr hr2
                 have e : r ≠ x.2.2 := fun e => hr2 (by rw [e]; exact List.mem_cons_self)
                 rw [k33, y33 r e]
                 exact hz r hr hr2)
          · refine r_aload C dX0_take_59 lg_5 ?_
            refine r_goto C (tgt := 69) dX0_take_61 (by decide) ?_
            refine r_putA C 5 1 dX0_take_69 fg_X0_7_0 rfl rfl hl0 (fun q h => by cases h; exact Or.inl rfl) (by first | omega | (rw [y35, ← (hF 35 x.2.2 (by decide) : _ = S 35 x.2.2)] at *; omega) | (rw [y35, hF 35 x.2.2 (by decide)]; omega)) (by first | exact hl1.2 | omega | (rw [y35, hF 35 x.2.2 (by decide)]; exact (hW 35 x.2.2).2.2.2 (by decide))) ?_
            refine r_gS (fun S3 hS3 => ?_)
            have k33 : ∀ r, S3 33 r = S2 33 r := fun r => by rw [hS3, upS_c _ _ (by decide)]
            have k34 : ∀ r, S3 34 r = S2 34 r := fun r => by rw [hS3, upS_c _ _ (by decide)]
            have k35 : ∀ r, S3 35 r = S1 35 r := fun r => by rw [hS3, upS_c _ _ (by decide), y35]
            have k5 := (congrFun (congrFun hS3 5) 0).trans (upS_self _ _ _ _)
            have hF3 : Fr [33, 34, 5] S S3 := hF2.tr (hS3 ▸ Fr.up (by decide))
            have hu3 : ∀ r, r ∉ og q → S3 33 r = S 33 r := fun r hr => by rw [k33, y33 r (fun e => hr (e ▸ hxq))]; exact hu1 r hr
            have hsame : ∀ z ∈ og t, S3 33 z = S1 33 z ∧ S3 34 z = S1 34 z ∧ S3 35 z = S1 35 z := fun z hz9 => by
              have hzx : z ≠ x.2.2 := fun e => hndx (e ▸ hz9)
              exact ⟨by rw [k33, y33 z hzx], by rw [k34, y34 z hzx], k35 z⟩
            refine r_aload C dX0_take_72 lg_5 ?_
            refine r_getA C 35 1 dX0_take_74 fg_X0_34_1 rfl rfl hl1 (fun g74 => ?_)
            refine r_astore C dX0_take_77 (ls1_5 (cat_R _ _ _) rfl) ?_
            refine r_goto C (tgt := 11) dX0_take_79 (by decide) ?_
            refine r_le C (lle_k (lle_k (lle_k (lle_k (lle_k (lle_k (lle_f lle_0))))))) ?_
            first
            | (have hle : x.1 ≤ v := by omega
               have hw : w9 = x.1 := by omega
               rw [y35] at k5
               rw [k35]
               rw [tk_1 _ _ (by omega) hle] at hG
               have ecc : x.2.1 * x.1 / x.1 = x.2.1 := Int.mul_ediv_cancel _ (by omega)
               rw [hw]
               refine ih (S1 35 x.2.2) (v - x.1) (acc + x.2.1 * x.1 / x.1) S3 hF3 hu3 (hs.fr hsame) k5 hot ⟨p ++ [x.2.2], by rw [hp, List.append_assoc]; rfl⟩ (fun r hr hr2 => ?_) (by omega) (by omega) (by omega) (by omega) (by omega) (by rw [← hG]; show _ = (acc + (x.2.1 * x.1 / x.1 + (tk t (v - x.1)).1), _); rw [Int.add_assoc])
               by_cases e : r = x.2.2
               · rw [e, k33, z33]; omega
               · rw [k33, y33 r e]
                 exact hz r hr (fun q9 => by
                   rcases List.mem_cons.mp q9 with h | h
                   · exact e h
                   · exact hr2 h))
            | (have hnl : ¬ x.1 ≤ v := by omega
               have hw : w9 = v := by omega
               rw [hw] at z33 z34 ⊢
               rw [tk_2 _ _ (by omega) hnl] at hG
               refine ex0 S3 _ _ _ hF3 hu3 (by omega) (by rw [← hG]) ?_ ?_
               · rw [← hG, k5]
                 refine ⟨rfl, by rw [k33, z33], by rw [k34, z34], ?_⟩
                 rw [k35]
                 exact hs.fr hsame
               · rw [← hG]
                 intro r hr hr2
                 have e : r ≠ x.2.2 := fun e => hr2 (by rw [e]; exact List.mem_cons_self)
                 rw [k33, y33 r e]
                 exact hz r hr hr2)
  refine r_lconst C dX0_take_0 0 rfl ?_
  refine r_lstore_n C dX0_take_1 (ls2_2 rfl rfl) ?_
  refine r_iload_n C dX0_take_2 lg_1 ?_
  refine r_istore C dX0_take_3 (ls1_4 rfl trivial) ?_
  refine r_aload_n C dX0_take_5 lg_0 ?_
  refine r_getA C 5 1 dX0_take_6 fg_X0_7_0 rfl rfl hl0 (fun g6 => ?_)
  refine r_astore C dX0_take_9 (ls1_5 (cat_R _ _ _) rfl) ?_
  exact lp q (S 5 0) u 0 S Fr.rf (fun r _ => rfl) hq.1 rfl ho ⟨[], rfl⟩ (fun r h1 h2 => absurd h1 h2) (by omega) (by omega) (by omega) (by omega) (by omega) (by rw [Int.zero_add])
