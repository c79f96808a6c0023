/-! the class: whether a receipt can go -/
noncomputable def shR (R : RW) (m : Int) : List (Int × Int) := if R.kd m = 3 then shl R m else []
theorem ck_sh {R : RW} {S : ST} {A : AB} (hCK : CK R S A) (hR : RG R) : ∀ x ∈ LdR R, lv1 A 3 x ∧ SHC S (A.2 5) (S 105 x) (shR R x) ∧ ∀ y ∈ (shR R x).map Prod.fst, 0 ≤ y ∧ y < A.2 3 := by
  intro x hx
  have h9 := ((ck_mem hCK hR).1 x hx).1
  have h8 := (led_mem R.dy R.gn R.n.toNat).mp hx
  have hn := hR.1
  refine ⟨h9, ?_⟩
  unfold shR
  by_cases k : R.kd x = 3
  · rw [if_pos k]
    have h7 := shl_ok hR hCK h8.1.1 (by omega) k
    refine ⟨h7.2.1, fun y hy => ?_⟩
    obtain ⟨z, hz, e⟩ := List.mem_map.mp hy
    rw [← e]; exact (h7.1 z hz).2.1.1
  · rw [if_neg k]
    exact ⟨(hCK.2.2.2.2.1 x h8.1.1 (by omega)).2.2 k, fun y hy => by cases hy⟩
set_option maxRecDepth 20000 in
theorem cB_disp {G : GT} {l : Launch} (hfl : l.stackTraces = false) {S : ST} {A : AB} {m : Int} {R : RW} (hCK : CK R S A) (hn : 0 ≤ R.n ∧ R.n ≤ 60) (hR : RG R) (hm : lv1 A 3 m) : CT G l yX7_checkDispensable cX7_checkDispensable 2 none (rmk 7 2 12 111) S A [vR A 6 0, vR A 3 m] (oV fun S' A' => (¬ (∃ x ∈ LdR R, m ∈ (shR R x).map Prod.fst) ∧ S 100 m ≤ spf (S 98) (S 96) (S 99) (dlt (S 97) (S 100)) (S 100) (fun m => S 97 m = 1 ∨ S 97 m = 2) (S 99 m) (S 98 m) (S 96 m) (LdR R) 0 0) ∧ S = S' ∧ A = A') (fun E S' A' => E = xIS ∧ (¬ (¬ (∃ x ∈ LdR R, m ∈ (shR R x).map Prod.fst) ∧ S 100 m ≤ spf (S 98) (S 96) (S 99) (dlt (S 97) (S 100)) (S 100) (fun m => S 97 m = 1 ∨ S 97 m = 2) (S 99 m) (S 98 m) (S 96 m) (LdR R) 0 0)) ∧ S = S' ∧ A = A') := by
  have hmm := ck_mem hCK hR
  have h193 := hCK.2.1.2.1
  have hs9 := ck_sh hCK hR
  refine ct_ofN (own := RX7) (mn := "checkDispensable") rfl rfl (by decide) hfl (lv0 := [some (vR A 6 0), some (vR A 3 m)]) (ent_1 (cat_R _ _ _) (ent_1 (cat_R _ _ _) ent_0)) rfl ?_
  intro J X C F FX FT FU hW hA
  refine r_aload_n C dX7_checkDispensable_0 lg_0 ?_
  refine r_getA C 193 2 dX7_checkDispensable_1 fg_X7_18_6 rfl rfl hCK.1.1 (fun g1 => ?_)
  rw [h193]
  refine r_aload_n C dX7_checkDispensable_4 lg_1 ?_
  refine q_V1Z C (cG_over hfl (L := LdR R) (sh := shR R) hCK.1.2.1 hCK.2.2.2.2.2.1 hm hs9) dX7_checkDispensable_5 lk_X7_234 hCK.1.2.1 ⟨Nat.le_of_ble_eq_true rfl, Nat.le_of_ble_eq_true rfl⟩ (catLe (Nat.le_of_ble_eq_true rfl)) ⟨rfl, rfl⟩ rfl (Nat.le_of_ble_eq_true rfl) (Nat.le_of_ble_eq_true rfl) (fun z5 S5 A5 i5 p5 => ?_)
  obtain ⟨rfl, rfl, rfl⟩ := p5
  refine rb_ifeq C (tgt := 21) dX7_checkDispensable_8 (by decide) (fun c8 => ?_) (fun c8 => ?_)
  · refine r_aload_n C dX7_checkDispensable_21 lg_1 ?_
    refine r_getI C 100 dX7_checkDispensable_22 fg_X7_240_3 rfl rfl hm (fun g22 => ?_)
    refine r_aload_n C dX7_checkDispensable_25 lg_0 ?_
    refine r_getA C 193 2 dX7_checkDispensable_26 fg_X7_18_6 rfl rfl hCK.1.1 (fun g26 => ?_)
    rw [h193]
    refine r_aload_n C dX7_checkDispensable_29 lg_1 ?_
    refine r_getI C 99 dX7_checkDispensable_30 fg_X7_160_3 rfl rfl hm (fun g30 => ?_)
    refine r_aload_n C dX7_checkDispensable_33 lg_1 ?_
    refine r_getI C 98 dX7_checkDispensable_34 fg_X7_121_3 rfl rfl hm (fun g34 => ?_)
    refine r_aload_n C dX7_checkDispensable_37 lg_1 ?_
    refine r_getI C 96 dX7_checkDispensable_38 fg_X7_243_3 rfl rfl hm (fun g38 => ?_)
    refine q_V3I C (cG_spare hfl (L := LdR R) hCK.1.2.1 hmm.2 hCK.2.2.2.2.2.1 hmm.1 (by omega) (by omega) (by omega)) dX7_checkDispensable_41 lk_X7_67 hCK.1.2.1 ⟨Nat.le_of_ble_eq_true rfl, Nat.le_of_ble_eq_true rfl⟩ (catLe (Nat.le_of_ble_eq_true rfl)) ⟨rfl, rfl⟩ rfl (Nat.le_of_ble_eq_true rfl) (Nat.le_of_ble_eq_true rfl) (fun z41 S41 A41 i41 p41 => ?_)
    obtain ⟨rfl, rfl, rfl⟩ := p41
    refine r_S2V C (cB_hand hfl (by omega) (by omega)) dX7_checkDispensable_44 lk_X7_71 ⟨Nat.le_of_ble_eq_true rfl, Nat.le_of_ble_eq_true rfl⟩ (catLe (Nat.le_of_ble_eq_true rfl)) 1 6 ⟨rfl, rfl⟩ (Nat.le_of_ble_eq_true rfl) (Nat.le_of_ble_eq_true rfl) (fun E9 S9 A9 h9 => FX _ _ _ _ _ _ _ (by obtain ⟨rfl, h8, rfl, rfl⟩ := h9; exact ⟨rfl, fun q => h8 q.2, rfl, rfl⟩) (Nat.le_of_ble_eq_true rfl) (Nat.le_of_ble_eq_true rfl)) (fun S44 A44 p44 => ?_)
    obtain ⟨hr44, rfl, rfl⟩ := p44
    exact f_V F dX7_checkDispensable_47 ⟨⟨c8, hr44⟩, rfl, rfl⟩ (Nat.le_of_ble_eq_true rfl) (Nat.le_of_ble_eq_true rfl)
  · exact FT _ _ _ _ _ _ _ _ _ xIS "a landed cost is spread over it" (by decide) rfl xw_IS nw_X7_98 dX7_checkDispensable_11 dX7_checkDispensable_14 dX7_checkDispensable_15 dX7_checkDispensable_17 dX7_checkDispensable_20 ⟨rfl, fun q => q.1 c8, rfl, rfl⟩ (Nat.le_of_ble_eq_true rfl) (Nat.le_of_ble_eq_true rfl) (Nat.le_of_ble_eq_true rfl) (Nat.le_of_ble_eq_true rfl)
