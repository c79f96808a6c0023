/-! the class: landed costs valued; the moving average -/
/-- the shares of a landed cost, one behind the other -/
def lfold (it qt : Int → Int) (item : Int) : List (Int × Int) → WS → WS
  | [], w => w
  | x :: t, w => lfold it qt item t (if it x.1 = item then landW w x.1 x.2 (qt x.1) else w)
set_option maxRecDepth 20000 in
theorem cV0_shares {G : GT} {l : Launch} (hfl : l.stackTraces = false) {S : ST} {A : AB} {m item i9 t : Int} {R : RW} {a : List Int} {w : WS} {l9 : List (Int × Int)} (hl0 : lv1 A 0 0) (hm : lv1 A 3 m) (hV : FV S w) (hR : WI R i9 a t w) (ht : 0 ≤ t ∧ t + l9.length ≤ 4000) (hi : rI item) (hc : SHC S (A.2 5) (S 105 m) l9) (hsh : ∀ x ∈ l9, lv1 A 3 x.1 ∧ (0 ≤ x.2 ∧ x.2 ≤ 2000000) ∧ (1 ≤ S 100 x.1 ∧ S 100 x.1 ≤ 1000) ∧ lv1 A 1 x.1 ∧ S 102 x.1 = x.1) (hz : ∀ x ∈ l9, S 99 x.1 = item → x.1 ∉ og w.q → S 33 x.1 = 0) : CT G l yX6_applyShares cX6_applyShares 4 none (rmk 2 0 0 54) S A [vR A 0 0, vR A 3 m, vI item] (oV fun S' A' => A = A' ∧ Fr [34, 1, 4] S S' ∧ FV S' (lfold (S 99) (S 100) item l9 w)) (noX) := by
  refine ct_ofN (own := RX6) (mn := "applyShares") rfl rfl (by decide) hfl (lv0 := [some (vR A 0 0), some (vR A 3 m), some (vI item), none]) (ent_1 (cat_R _ _ _) (ent_1 (cat_R _ _ _) (ent_1 rfl (ent_n ent_0)))) rfl ?_
  intro J X C F FX FT FU hW hA
  obtain ⟨w8, hw8⟩ : ∃ w8, lfold (S 99) (S 100) item l9 w = w8 := ⟨_, rfl⟩
  rw [hw8] at F
  skip
  have lp : ∀ (b : List (Int × Int)) (s tt : Int) (w : WS) (S1 : ST) (hs : SHC S (A.2 5) s b) (hb : ∀ x ∈ b, lv1 A 3 x.1 ∧ (0 ≤ x.2 ∧ x.2 ≤ 2000000) ∧ (1 ≤ S 100 x.1 ∧ S 100 x.1 ≤ 1000) ∧ lv1 A 1 x.1 ∧ S 102 x.1 = x.1) (hF : Fr [34, 1, 4] S S1) (hV : FV S1 w) (hR : WI R i9 a tt w) (htt : 0 ≤ tt ∧ tt + b.length ≤ 4000) (hz0 : ∀ x ∈ b, S 99 x.1 = item → x.1 ∉ og w.q → S1 33 x.1 = 0) (hG : lfold (S 99) (S 100) item b w = w8), J 5 [some (vR A 0 0), some (vR A 3 m), some (vI item), some (vR A 5 s)] [] S1 A 0 0 := by
    intro b
    induction b with
    | nil =>
      intro s tt w S1 hs hb hF hV hR htt hz0 hG
      have hs : s = -1 := hs
      have hG : w = w8 := hG
      refine r_aload_n C dX6_applyShares_5 lg_3 ?_
      refine r_ifnull C (tgt := 69) dX6_applyShares_6 (by decide) (fun c6 => ?_) (fun c6 => ?_)
      · exact f_V F dX6_applyShares_69 ⟨rfl, hF, by rw [← hG]; exact hV⟩ (Nat.le_of_ble_eq_true rfl) (Nat.le_of_ble_eq_true rfl)
      · exfalso; omega
    | cons x t ih =>
      intro s tt w S1 hs hb hF hV hR htt hz0 hG
      obtain ⟨hz, e160, e162, hs⟩ := hs
      have hbx := hb x List.mem_cons_self
      have hbt := fun y hy => hb y (List.mem_cons_of_mem _ hy)
      rw [List.length_cons] at htt
      have hG : lfold (S 99) (S 100) item t (if S 99 x.1 = item then landW w x.1 x.2 (S 100 x.1) else w) = w8 := hG
      have g160 : S1 160 s = x.1 := (hF 160 s (by decide)).trans e160
      have g162 : S1 162 s = x.2 := (hF 162 s (by decide)).trans e162
      have g161 := hF 161 s (by decide)
      have g99 := hF 99 x.1 (by decide)
      have g100 := hF 100 x.1 (by decide)
      have hR2 := hR
      obtain ⟨ho, hnd, hmem, hlq, hqu, hhand, b1, b2, b3, b4, b5, b6, b7, b8, b9, b10⟩ := hR2
      unfold bt at *
      have hqn := qc_nn ho
      obtain ⟨x0, x1, x2, x3, x4, hq, hic⟩ := hV
      have g33 : ∀ r, S1 33 r = S1 33 r := fun r => rfl
      have hF0 := hF
      refine r_aload_n C dX6_applyShares_5 lg_3 ?_
      refine r_ifnull C (tgt := 69) dX6_applyShares_6 (by decide) (fun c6 => ?_) (fun c6 => ?_)
      · exfalso; omega
      · refine r_aload_n C dX6_applyShares_9 lg_3 ?_
        refine r_getA C 160 3 dX6_applyShares_10 fg_X6_81_5 rfl rfl hz (fun g10 => ?_)
        rw [g160]
        refine r_getI C 99 dX6_applyShares_13 fg_X6_43_3 rfl rfl hbx.1 (fun g13 => ?_)
        rw [g99]
        refine r_iload_n C dX6_applyShares_16 lg_2 ?_
        refine r_icne C (tgt := 61) dX6_applyShares_17 (by decide) (by omega) (by omega) (fun c17 => ?_) (fun c17 => ?_)
        · refine r_aload_n C dX6_applyShares_61 lg_3 ?_
          refine r_getA C 161 5 dX6_applyShares_62 fg_X6_93_5 rfl rfl hz (fun g62 => ?_)
          refine r_astore_n C dX6_applyShares_65 (ls1_3 (cat_R _ _ _) rfl) ?_
          refine r_goto C (tgt := 5) dX6_applyShares_66 (by decide) ?_
          first
          | (rw [if_neg c17] at hG
             rw [g161]
             exact ih (S 161 s) tt w S1 hs hbt hF ⟨x0, x1, x2, x3, x4, hq, hic⟩ hR (by omega) (fun y hy => hz0 y (List.mem_cons_of_mem _ hy)) hG)
          | (rw [if_pos (by omega)] at hG
             rw [g161]
             have hRn := WI_land hR (r := x.1) hbx.2.1 hbx.2.2.1.1
             refine ih (S 161 s) (tt + 1) (landW w x.1 x.2 (S 100 x.1)) S58 hs hbt hF ⟨x0, x1, x2, x3, x4, hq, hic⟩ hRn (by omega) (fun y hy e1 e2 => ?_) hG
             rw [g33]
             refine hz0 y (List.mem_cons_of_mem _ hy) e1 (fun q => e2 ?_)
             show y.1 ∈ (qadd x.1 x.2 (S 100 x.1) w.q).map (fun x => x.2.2)
             rw [(qadd_ok hbx.2.1 hbx.2.2.1.1 (r := x.1) ho).2.2.2]
             exact q)
        · refine r_aload_n C dX6_applyShares_20 lg_0 ?_
          refine r_dup C dX6_applyShares_21 (cat_R _ _ _) ?_
          refine r_getJ C 1 dX6_applyShares_22 fg_X6_15_0 rfl rfl hl0 (fun g22 => ?_)
          rw [x1]
          refine r_aload_n C dX6_applyShares_25 lg_3 ?_
          refine r_getI C 162 dX6_applyShares_26 fg_X6_86_5 rfl rfl hz (fun g26 => ?_)
          rw [g162]
          refine r_i2l C dX6_applyShares_29 (by omega) ?_
          refine r_ladd C dX6_applyShares_30 ?_
          refine r_putJ C 1 dX6_applyShares_31 fg_X6_15_0 rfl rfl hl0 (fun q h => by cases h; exact Or.inl rfl) (by omega) ?_
          refine r_gS (fun S31 h31 => ?_)
          have hF : Fr [34, 1, 4] S S31 := hF.tr (by rw [h31]; exact Fr.up (by decide))
          have x0 := (congrFun (congrFun h31 0) 0).trans ((upS_c _ _ (by decide)).trans x0)
          have x1 := (congrFun (congrFun h31 1) 0).trans (upS_self _ _ _ _)
          have x2 := (congrFun (congrFun h31 2) 0).trans ((upS_c _ _ (by decide)).trans x2)
          have x3 := (congrFun (congrFun h31 3) 0).trans ((upS_c _ _ (by decide)).trans x3)
          have x4 := (congrFun (congrFun h31 4) 0).trans ((upS_c _ _ (by decide)).trans x4)
          have hq := hq.fr (show Fr [1] _ S31 by rw [h31]; exact Fr.up (by decide)) (by decide)
          have hic := fun r => (congrFun (congrFun h31 106) r).trans ((upS_c _ _ (by decide)).trans (hic r))
          have g160 : S31 160 s = x.1 := (hF 160 s (by decide)).trans e160
          have g162 : S31 162 s = x.2 := (hF 162 s (by decide)).trans e162
          have g161 := hF 161 s (by decide)
          have g100 := hF 100 x.1 (by decide)
          have g33 := fun r => (congrFun (congrFun h31 33) r).trans ((upS_c _ _ (by decide)).trans (g33 r))
          have g102 := hF 102 x.1 (by decide)
          refine r_aload_n C dX6_applyShares_34 lg_0 ?_
          refine r_dup C dX6_applyShares_35 (cat_R _ _ _) ?_
          refine r_getJ C 4 dX6_applyShares_36 fg_X6_25_0 rfl rfl hl0 (fun g36 => ?_)
          rw [x4]
          refine r_aload_n C dX6_applyShares_39 lg_3 ?_
          refine r_getI C 162 dX6_applyShares_40 fg_X6_86_5 rfl rfl hz (fun g40 => ?_)
          rw [g162]
          refine r_i2l C dX6_applyShares_43 (by omega) ?_
          refine r_aload_n C dX6_applyShares_44 lg_0 ?_
          refine r_aload_n C dX6_applyShares_45 lg_3 ?_
          refine r_getA C 160 3 dX6_applyShares_46 fg_X6_81_5 rfl rfl hz (fun g46 => ?_)
          rw [g160]
          refine r_aload_n C dX6_applyShares_49 lg_3 ?_
          refine r_getI C 162 dX6_applyShares_50 fg_X6_86_5 rfl rfl hz (fun g50 => ?_)
          refine r_wt C (fun hW9 _ => ?_)
          rw [g162]
          have hz1 : x.1 ∉ og w.q → S31 33 x.1 = 0 := fun h => (g33 x.1).trans (hz0 x List.mem_cons_self (by omega) h)
          obtain ⟨k1, k2⟩ := absL (p := x.2) (d := S 100 x.1) hq hnd hz1
          have hqm := qmore_b (r := x.1) hbx.2.1 hbx.2.2.1.1 ho
          have h33 : 0 ≤ S31 33 x.1 ∧ S31 33 x.1 ≤ 1000 := by
            by_cases hr : x.1 ∈ og w.q
            · obtain ⟨a7, x7, b7, e7, e8⟩ := q_split w.q hr
              have h9 := ho x7 (by rw [e7]; simp)
              have h8 := (e7 ▸ hq.1 : QCH S31 (S31 5 0) (a7 ++ x7 :: b7))
              have h7 := (qch_at h8).1
              rw [e8] at h7
              omega
            · have := hz1 hr; omega
          have h34 : rL (S31 34 x.1 + x.2 * S31 33 x.1 / S31 100 x.1) := by
            rw [g100, k1]
            by_cases hr : x.1 ∈ og w.q
            · obtain ⟨a7, x7, b7, e7, e8⟩ := q_split w.q hr
              have h9 := ho x7 (by rw [e7]; simp)
              have h8 := (e7 ▸ hq.1 : QCH S31 (S31 5 0) (a7 ++ x7 :: b7))
              have h7 := (qch_at h8).2
              rw [e8] at h7
              have h6 : qc w.q = qc a7 + (x7.2.1 + qc b7) := by rw [e7, qc_app]; rfl
              have h5 := qc_nn (q := a7) (fun y hy => ho y (by rw [e7]; exact List.mem_append_left _ hy))
              have h4 := qc_nn (q := b7) (fun y hy => ho y (by rw [e7]; exact List.mem_append_right _ (List.mem_cons_of_mem _ hy)))
              omega
            · have h3 := (qmore_n (p := x.2) (d := S 100 x.1) w.q hr).1
              have h2 := (congrFun (congrFun h31 34) x.1).trans (upS_c _ _ (by decide))
              have h1 := (hW9 34 x.1).1
              omega
          refine q_U2J C (cF_absorb hfl hl0 hbx.1 hbx.2.2.2.1 (by rw [g102]; exact hbx.2.2.2.2) hbx.2.1 h33 h34 (by rw [g100]; exact hbx.2.2.1)) dX6_applyShares_53 lk_X6_89_0 hl0 ⟨Nat.le_of_ble_eq_true rfl, Nat.le_of_ble_eq_true rfl⟩ (catLe (Nat.le_of_ble_eq_true rfl)) ⟨rfl, rfl⟩ rfl (Nat.le_of_ble_eq_true rfl) (Nat.le_of_ble_eq_true rfl) (fun z53 S53 A53 i53 p53 => ?_)
          obtain ⟨rfl, rfl, rfl⟩ := p53
          rw [g100, k1]
          refine r_gS (fun S53 h53 => ?_)
          rw [k1] at k2
          have hF : Fr [34, 1, 4] S S53 := hF.tr (by rw [h53]; exact Fr.up (by decide))
          have x0 := (congrFun (congrFun h53 0) 0).trans ((upS_c _ _ (by decide)).trans x0)
          have x1 := (congrFun (congrFun h53 1) 0).trans ((upS_c _ _ (by decide)).trans x1)
          have x2 := (congrFun (congrFun h53 2) 0).trans ((upS_c _ _ (by decide)).trans x2)
          have x3 := (congrFun (congrFun h53 3) 0).trans ((upS_c _ _ (by decide)).trans x3)
          have x4 := (congrFun (congrFun h53 4) 0).trans ((upS_c _ _ (by decide)).trans x4)
          have hq := (show FQ9 S53 (qadd x.1 x.2 (S 100 x.1) w.q) from h53 ▸ k2)
          have hic := fun r => (congrFun (congrFun h53 106) r).trans ((upS_c _ _ (by decide)).trans (hic r))
          have g33 := fun r => (congrFun (congrFun h53 33) r).trans ((upS_c _ _ (by decide)).trans (g33 r))
          refine r_lsub C dX6_applyShares_56 ?_
          refine r_ladd C dX6_applyShares_57 ?_
          refine r_putJ C 4 dX6_applyShares_58 fg_X6_25_0 rfl rfl hl0 (fun q h => by cases h; exact Or.inl rfl) (by omega) ?_
          refine r_gS (fun S58 h58 => ?_)
          have hF : Fr [34, 1, 4] S S58 := hF.tr (by rw [h58]; exact Fr.up (by decide))
          have x0 := (congrFun (congrFun h58 0) 0).trans ((upS_c _ _ (by decide)).trans x0)
          have x1 := (congrFun (congrFun h58 1) 0).trans ((upS_c _ _ (by decide)).trans x1)
          have x2 := (congrFun (congrFun h58 2) 0).trans ((upS_c _ _ (by decide)).trans x2)
          have x3 := (congrFun (congrFun h58 3) 0).trans ((upS_c _ _ (by decide)).trans x3)
          have x4 := (congrFun (congrFun h58 4) 0).trans (upS_self _ _ _ _)
          have hq := hq.fr (show Fr [4] _ S58 by rw [h58]; exact Fr.up (by decide)) (by decide)
          have hic := fun r => (congrFun (congrFun h58 106) r).trans ((upS_c _ _ (by decide)).trans (hic r))
          have g160 : S58 160 s = x.1 := (hF 160 s (by decide)).trans e160
          have g162 : S58 162 s = x.2 := (hF 162 s (by decide)).trans e162
          have g161 := hF 161 s (by decide)
          have g100 := hF 100 x.1 (by decide)
          have g33 := fun r => (congrFun (congrFun h58 33) r).trans ((upS_c _ _ (by decide)).trans (g33 r))
          have g102 := hF 102 x.1 (by decide)
          refine r_aload_n C dX6_applyShares_61 lg_3 ?_
          refine r_getA C 161 5 dX6_applyShares_62 fg_X6_93_5 rfl rfl hz (fun g62 => ?_)
          refine r_astore_n C dX6_applyShares_65 (ls1_3 (cat_R _ _ _) rfl) ?_
          refine r_goto C (tgt := 5) dX6_applyShares_66 (by decide) ?_
          first
          | (rw [if_neg c17] at hG
             rw [g161]
             exact ih (S 161 s) tt w S1 hs hbt hF ⟨x0, x1, x2, x3, x4, hq, hic⟩ hR (by omega) (fun y hy => hz0 y (List.mem_cons_of_mem _ hy)) hG)
          | (rw [if_pos (by omega)] at hG
             rw [g161]
             have hRn := WI_land hR (r := x.1) hbx.2.1 hbx.2.2.1.1
             refine ih (S 161 s) (tt + 1) (landW w x.1 x.2 (S 100 x.1)) S58 hs hbt hF ⟨x0, x1, x2, x3, x4, hq, hic⟩ hRn (by omega) (fun y hy e1 e2 => ?_) hG
             rw [g33]
             refine hz0 y (List.mem_cons_of_mem _ hy) e1 (fun q => e2 ?_)
             show y.1 ∈ (qadd x.1 x.2 (S 100 x.1) w.q).map (fun x => x.2.2)
             rw [(qadd_ok hbx.2.1 hbx.2.2.1.1 (r := x.1) ho).2.2.2]
             exact q)
  refine r_aload_n C dX6_applyShares_0 lg_1 ?_
  refine r_getA C 105 5 dX6_applyShares_1 fg_X6_77_3 rfl rfl hm (fun g1 => ?_)
  refine r_astore_n C dX6_applyShares_4 (ls1_3 (cat_R _ _ _) rfl) ?_
  exact lp l9 (S 105 m) t w S hc hsh Fr.rf hV hR ht hz hw8
set_option maxRecDepth 20000 in
theorem cV4_shares {G : GT} {l : Launch} (hfl : l.stackTraces = false) {S : ST} {A : AB} {m item i9 t : Int} {R : RW} {a : List Int} {w : WS} {l9 : List (Int × Int)} (hl4 : lv1 A 4 0) (hm : lv1 A 3 m) (hV : AV S w) (hR : WI R i9 a t w) (ht : 0 ≤ t ∧ t + l9.length ≤ 4000) (hi : rI item) (hc : SHC S (A.2 5) (S 105 m) l9) (hsh : ∀ x ∈ l9, lv1 A 3 x.1 ∧ (0 ≤ x.2 ∧ x.2 ≤ 2000000) ∧ (1 ≤ S 100 x.1 ∧ S 100 x.1 ≤ 1000)) : CT G l yX6_applyShares cX6_applyShares 4 none (rmk 2 0 0 54) S A [vR A 4 0, vR A 3 m, vI item] (oV fun S' A' => A = A' ∧ Fr [129, 132, 133] S S' ∧ AV S' (lfold (S 99) (S 100) item l9 w)) (noX) := by
  refine ct_ofN (own := RX6) (mn := "applyShares") rfl rfl (by decide) hfl (lv0 := [some (vR A 4 0), some (vR A 3 m), some (vI item), none]) (ent_1 (cat_R _ _ _) (ent_1 (cat_R _ _ _) (ent_1 rfl (ent_n ent_0)))) rfl ?_
  intro J X C F FX FT FU hW hA
  obtain ⟨w8, hw8⟩ : ∃ w8, lfold (S 99) (S 100) item l9 w = w8 := ⟨_, rfl⟩
  rw [hw8] at F
  have lp : ∀ (b : List (Int × Int)) (s tt : Int) (w : WS) (S1 : ST) (hs : SHC S (A.2 5) s b) (hb : ∀ x ∈ b, lv1 A 3 x.1 ∧ (0 ≤ x.2 ∧ x.2 ≤ 2000000) ∧ (1 ≤ S 100 x.1 ∧ S 100 x.1 ≤ 1000)) (hF : Fr [129, 132, 133] S S1) (hV : AV S1 w) (hR : WI R i9 a tt w) (htt : 0 ≤ tt ∧ tt + b.length ≤ 4000) (hG : lfold (S 99) (S 100) item b w = w8), J 5 [some (vR A 4 0), some (vR A 3 m), some (vI item), some (vR A 5 s)] [] S1 A 0 0 := by
    intro b
    induction b with
    | nil =>
      intro s tt w S1 hs hb hF hV hR htt hG
      have hs : s = -1 := hs
      have hG : w = w8 := hG
      refine r_aload_n C dX6_applyShares_5 lg_3 ?_
      refine r_ifnull C (tgt := 69) dX6_applyShares_6 (by decide) (fun c6 => ?_) (fun c6 => ?_)
      · exact f_V F dX6_applyShares_69 ⟨rfl, hF, by rw [← hG]; exact hV⟩ (Nat.le_of_ble_eq_true rfl) (Nat.le_of_ble_eq_true rfl)
      · exfalso; omega
    | cons x t ih =>
      intro s tt w S1 hs hb hF hV hR htt hG
      obtain ⟨hz, e160, e162, hs⟩ := hs
      have hbx := hb x List.mem_cons_self
      have hbt := fun y hy => hb y (List.mem_cons_of_mem _ hy)
      rw [List.length_cons] at htt
      have hG : lfold (S 99) (S 100) item t (if S 99 x.1 = item then landW w x.1 x.2 (S 100 x.1) else w) = w8 := hG
      have g160 : S1 160 s = x.1 := (hF 160 s (by decide)).trans e160
      have g162 : S1 162 s = x.2 := (hF 162 s (by decide)).trans e162
      have g161 := hF 161 s (by decide)
      have g99 := hF 99 x.1 (by decide)
      have g100 := hF 100 x.1 (by decide)
      have hR2 := hR
      obtain ⟨ho, hnd, hmem, hlq, hqu, hhand, b1, b2, b3, b4, b5, b6, b7, b8, b9, b10⟩ := hR2
      unfold bt at *
      have hqn := qc_nn ho
      obtain ⟨x128, x129, x130, x131, x132, x133, hic⟩ := hV
      refine r_aload_n C dX6_applyShares_5 lg_3 ?_
      refine r_ifnull C (tgt := 69) dX6_applyShares_6 (by decide) (fun c6 => ?_) (fun c6 => ?_)
      · exfalso; omega
      · refine r_aload_n C dX6_applyShares_9 lg_3 ?_
        refine r_getA C 160 3 dX6_applyShares_10 fg_X6_81_5 rfl rfl hz (fun g10 => ?_)
        rw [g160]
        refine r_getI C 99 dX6_applyShares_13 fg_X6_43_3 rfl rfl hbx.1 (fun g13 => ?_)
        rw [g99]
        refine r_iload_n C dX6_applyShares_16 lg_2 ?_
        refine r_icne C (tgt := 61) dX6_applyShares_17 (by decide) (by omega) (by omega) (fun c17 => ?_) (fun c17 => ?_)
        · refine r_aload_n C dX6_applyShares_61 lg_3 ?_
          refine r_getA C 161 5 dX6_applyShares_62 fg_X6_93_5 rfl rfl hz (fun g62 => ?_)
          refine r_astore_n C dX6_applyShares_65 (ls1_3 (cat_R _ _ _) rfl) ?_
          refine r_goto C (tgt := 5) dX6_applyShares_66 (by decide) ?_
          first
          | (rw [if_neg c17] at hG
             rw [g161]
             exact ih (S 161 s) tt w S1 hs hbt hF ⟨x128, x129, x130, x131, x132, x133, hic⟩ hR (by omega) hG)
          | (rw [if_pos (by omega)] at hG
             rw [g161]
             have hRn := WI_land hR (r := x.1) hbx.2.1 hbx.2.2.1
             exact ih (S 161 s) (tt + 1) (landW w x.1 x.2 (S 100 x.1)) S58 hs hbt hF ⟨x128, x129, x130, x131, x132, x133, hic⟩ hRn (by omega) hG)
        · refine r_aload_n C dX6_applyShares_20 lg_0 ?_
          refine r_dup C dX6_applyShares_21 (cat_R _ _ _) ?_
          refine r_getJ C 129 dX6_applyShares_22 fg_X6_15_4 rfl rfl hl4 (fun g22 => ?_)
          rw [x129]
          refine r_aload_n C dX6_applyShares_25 lg_3 ?_
          refine r_getI C 162 dX6_applyShares_26 fg_X6_86_5 rfl rfl hz (fun g26 => ?_)
          rw [g162]
          refine r_i2l C dX6_applyShares_29 (by omega) ?_
          refine r_ladd C dX6_applyShares_30 ?_
          refine r_putJ C 129 dX6_applyShares_31 fg_X6_15_4 rfl rfl hl4 (fun q h => by cases h; exact Or.inl rfl) (by omega) ?_
          refine r_gS (fun S31 h31 => ?_)
          have hF : Fr [129, 132, 133] S S31 := hF.tr (by rw [h31]; exact Fr.up (by decide))
          have x128 := (congrFun (congrFun h31 128) 0).trans ((upS_c _ _ (by decide)).trans x128)
          have x129 := (congrFun (congrFun h31 129) 0).trans (upS_self _ _ _ _)
          have x130 := (congrFun (congrFun h31 130) 0).trans ((upS_c _ _ (by decide)).trans x130)
          have x131 := (congrFun (congrFun h31 131) 0).trans ((upS_c _ _ (by decide)).trans x131)
          have x132 := (congrFun (congrFun h31 132) 0).trans ((upS_c _ _ (by decide)).trans x132)
          have x133 := (congrFun (congrFun h31 133) 0).trans ((upS_c _ _ (by decide)).trans x133)
          have hic := fun r => (congrFun (congrFun h31 106) r).trans ((upS_c _ _ (by decide)).trans (hic r))
          have g160 : S31 160 s = x.1 := (hF 160 s (by decide)).trans e160
          have g162 : S31 162 s = x.2 := (hF 162 s (by decide)).trans e162
          have g161 := hF 161 s (by decide)
          have g100 := hF 100 x.1 (by decide)
          refine r_aload_n C dX6_applyShares_34 lg_0 ?_
          refine r_dup C dX6_applyShares_35 (cat_R _ _ _) ?_
          refine r_getJ C 132 dX6_applyShares_36 fg_X6_25_4 rfl rfl hl4 (fun g36 => ?_)
          rw [x132]
          refine r_aload_n C dX6_applyShares_39 lg_3 ?_
          refine r_getI C 162 dX6_applyShares_40 fg_X6_86_5 rfl rfl hz (fun g40 => ?_)
          rw [g162]
          refine r_i2l C dX6_applyShares_43 (by omega) ?_
          refine r_aload_n C dX6_applyShares_44 lg_0 ?_
          refine r_aload_n C dX6_applyShares_45 lg_3 ?_
          refine r_getA C 160 3 dX6_applyShares_46 fg_X6_81_5 rfl rfl hz (fun g46 => ?_)
          rw [g160]
          refine r_aload_n C dX6_applyShares_49 lg_3 ?_
          refine r_getI C 162 dX6_applyShares_50 fg_X6_86_5 rfl rfl hz (fun g50 => ?_)
          rw [g162]
          have hmn : 0 ≤ mn w.hand (S 100 x.1) ∧ mn w.hand (S 100 x.1) ≤ S 100 x.1 := by unfold mn; split <;> omega
          have hqq := quo_b (a := x.2) (b := mn w.hand (S 100 x.1)) (s := S 100 x.1) hbx.2.1.1 hmn.1 (by omega) hmn.2
          refine q_U2J C (cA_absorb hfl hl4 hbx.1 hbx.2.1 (by omega) (by omega) (by rw [g100]; exact hbx.2.2)) dX6_applyShares_53 lk_X6_89_4 hl4 ⟨Nat.le_of_ble_eq_true rfl, Nat.le_of_ble_eq_true rfl⟩ (catLe (Nat.le_of_ble_eq_true rfl)) ⟨rfl, rfl⟩ rfl (Nat.le_of_ble_eq_true rfl) (Nat.le_of_ble_eq_true rfl) (fun z53 S53 A53 i53 p53 => ?_)
          obtain ⟨rfl, rfl, rfl⟩ := p53
          rw [g100, x128]
          refine r_gS (fun S53 h53 => ?_)
          rw [x133] at h53
          have hF : Fr [129, 132, 133] S S53 := hF.tr (by rw [h53]; exact Fr.up (by decide))
          have x128 := (congrFun (congrFun h53 128) 0).trans ((upS_c _ _ (by decide)).trans x128)
          have x129 := (congrFun (congrFun h53 129) 0).trans ((upS_c _ _ (by decide)).trans x129)
          have x130 := (congrFun (congrFun h53 130) 0).trans ((upS_c _ _ (by decide)).trans x130)
          have x131 := (congrFun (congrFun h53 131) 0).trans ((upS_c _ _ (by decide)).trans x131)
          have x132 := (congrFun (congrFun h53 132) 0).trans ((upS_c _ _ (by decide)).trans x132)
          have x133 := (congrFun (congrFun h53 133) 0).trans (upS_self _ _ _ _)
          have hic := fun r => (congrFun (congrFun h53 106) r).trans ((upS_c _ _ (by decide)).trans (hic r))
          refine r_lsub C dX6_applyShares_56 ?_
          refine r_ladd C dX6_applyShares_57 ?_
          refine r_putJ C 132 dX6_applyShares_58 fg_X6_25_4 rfl rfl hl4 (fun q h => by cases h; exact Or.inl rfl) (by omega) ?_
          refine r_gS (fun S58 h58 => ?_)
          have hF : Fr [129, 132, 133] S S58 := hF.tr (by rw [h58]; exact Fr.up (by decide))
          have x128 := (congrFun (congrFun h58 128) 0).trans ((upS_c _ _ (by decide)).trans x128)
          have x129 := (congrFun (congrFun h58 129) 0).trans ((upS_c _ _ (by decide)).trans x129)
          have x130 := (congrFun (congrFun h58 130) 0).trans ((upS_c _ _ (by decide)).trans x130)
          have x131 := (congrFun (congrFun h58 131) 0).trans ((upS_c _ _ (by decide)).trans x131)
          have x132 := (congrFun (congrFun h58 132) 0).trans (upS_self _ _ _ _)
          have x133 := (congrFun (congrFun h58 133) 0).trans ((upS_c _ _ (by decide)).trans x133)
          have hic := fun r => (congrFun (congrFun h58 106) r).trans ((upS_c _ _ (by decide)).trans (hic r))
          have g160 : S58 160 s = x.1 := (hF 160 s (by decide)).trans e160
          have g162 : S58 162 s = x.2 := (hF 162 s (by decide)).trans e162
          have g161 := hF 161 s (by decide)
          have g100 := hF 100 x.1 (by decide)
          refine r_aload_n C dX6_applyShares_61 lg_3 ?_
          refine r_getA C 161 5 dX6_applyShares_62 fg_X6_93_5 rfl rfl hz (fun g62 => ?_)
          refine r_astore_n C dX6_applyShares_65 (ls1_3 (cat_R _ _ _) rfl) ?_
          refine r_goto C (tgt := 5) dX6_applyShares_66 (by decide) ?_
          first
          | (rw [if_neg c17] at hG
             rw [g161]
             exact ih (S 161 s) tt w S1 hs hbt hF ⟨x128, x129, x130, x131, x132, x133, hic⟩ hR (by omega) hG)
          | (rw [if_pos (by omega)] at hG
             rw [g161]
             have hRn := WI_land hR (r := x.1) hbx.2.1 hbx.2.2.1
             exact ih (S 161 s) (tt + 1) (landW w x.1 x.2 (S 100 x.1)) S58 hs hbt hF ⟨x128, x129, x130, x131, x132, x133, hic⟩ hRn (by omega) hG)
  refine r_aload_n C dX6_applyShares_0 lg_1 ?_
  refine r_getA C 105 5 dX6_applyShares_1 fg_X6_77_3 rfl rfl hm (fun g1 => ?_)
  refine r_astore_n C dX6_applyShares_4 (ls1_3 (cat_R _ _ _) rfl) ?_
  exact lp l9 (S 105 m) t w S hc hsh Fr.rf hV hR ht hw8
