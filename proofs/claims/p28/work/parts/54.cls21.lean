/-! the class: the part of a landed cost -/
def ptC (R : RW) (a b z : Int) : Prop := (b ∉ (shl R a).map Prod.fst ∧ z = 0) ∨ (∃ p, (b, p) ∈ shl R a ∧ z = p)
set_option maxRecDepth 20000 in
theorem cB_partOf {G : GT} {l : Launch} (hfl : l.stackTraces = false) {S : ST} {A : AB} {a b : Int} {R : RW} (hCK : CK R S A) (hn : 0 ≤ R.n ∧ R.n ≤ 60) (hR : RG R) (ha : rI a) (hb : rI b) : CT G l yX7_partOf cX7_partOf 6 (some .int) (rmk 7 3 18 112) S A [vR A 6 0, vI a, vI b] (oI fun z S' A' => ptC R a b z ∧ (((0 ≤ a ∧ a < R.n) ∧ (0 ≤ b ∧ b < R.n)) ∧ R.kd a = 3) ∧ S = S' ∧ A = A') (fun E S' A' => ((E = xIO ∧ ¬ ((0 ≤ a ∧ a < R.n) ∧ (0 ≤ b ∧ b < R.n))) ∨ (E = xIS ∧ ((0 ≤ a ∧ a < R.n) ∧ (0 ≤ b ∧ b < R.n)) ∧ ¬ R.kd a = 3)) ∧ S = S' ∧ A = A') := by
  have hA3 := hCK.2.2.1.2.1
  refine ct_ofN (own := RX7) (mn := "partOf") rfl rfl (by decide) hfl (lv0 := [some (vR A 6 0), some (vI a), some (vI b), none, none, none]) (ent_1 (cat_R _ _ _) (ent_1 rfl (ent_1 rfl (ent_n (ent_n (ent_n ent_0)))))) rfl ?_
  intro J X C F FX FT FU hW hA
  refine r_aload_n C dX7_partOf_0 lg_0 ?_
  refine r_iload_n C dX7_partOf_1 lg_1 ?_
  refine r_V1A C (cB_find hfl hCK hn (by omega)) dX7_partOf_2 lk_X7_111 hCK.1.1 ⟨Nat.le_of_ble_eq_true rfl, Nat.le_of_ble_eq_true rfl⟩ (catLe (Nat.le_of_ble_eq_true rfl)) 1 6 ⟨rfl, rfl⟩ (Nat.le_of_ble_eq_true rfl) (Nat.le_of_ble_eq_true rfl) (fun E9 S9 A9 h9 => FX _ _ _ _ _ _ _ (by obtain ⟨rfl, h8, rfl, rfl⟩ := h9; exact ⟨Or.inl ⟨rfl, fun q => h8 q.1⟩, rfl, rfl⟩) (Nat.le_of_ble_eq_true rfl) (Nat.le_of_ble_eq_true rfl)) (fun z2 S2 A2 i2 p2 => ?_)
  obtain ⟨⟨e2, hf02, hf12⟩, rfl, rfl⟩ := p2
  rw [e2]
  refine r_astore_n C dX7_partOf_5 (ls1_3 (cat_R _ _ _) rfl) ?_
  refine r_aload_n C dX7_partOf_6 lg_0 ?_
  refine r_iload_n C dX7_partOf_7 lg_2 ?_
  refine r_V1A C (cB_find hfl hCK hn (by omega)) dX7_partOf_8 lk_X7_111 hCK.1.1 ⟨Nat.le_of_ble_eq_true rfl, Nat.le_of_ble_eq_true rfl⟩ (catLe (Nat.le_of_ble_eq_true rfl)) 1 6 ⟨rfl, rfl⟩ (Nat.le_of_ble_eq_true rfl) (Nat.le_of_ble_eq_true rfl) (fun E9 S9 A9 h9 => FX _ _ _ _ _ _ _ (by obtain ⟨rfl, h8, rfl, rfl⟩ := h9; exact ⟨Or.inl ⟨rfl, fun q => h8 q.2⟩, rfl, rfl⟩) (Nat.le_of_ble_eq_true rfl) (Nat.le_of_ble_eq_true rfl)) (fun z8 S8 A8 i8 p8 => ?_)
  obtain ⟨⟨e8, hf08, hf18⟩, rfl, rfl⟩ := p8
  rw [e8]
  have hza : lv1 A 3 a := ⟨hf02, by omega⟩
  have hzb : lv1 A 3 b := ⟨hf08, by omega⟩
  have h97 : S 97 a = R.kd a := (row_ok hR hCK hf02 hf12).1.1
  refine r_astore C dX7_partOf_11 (ls1_4 (cat_R _ _ _) (cat_R _ _ _)) ?_
  refine r_aload_n C dX7_partOf_13 lg_3 ?_
  refine r_getI C 97 dX7_partOf_14 fg_X7_127_3 rfl rfl hza (fun g14 => ?_)
  rw [h97]
  refine r_iconst C dX7_partOf_17 ?_
  refine r_iceq C (tgt := 31) dX7_partOf_18 (by decide) (by rw [← h97]; exact g14) (by omega) (fun c18 => ?_) (fun c18 => ?_)
  · have k3 : R.kd a = 3 := by omega
    have hso := shl_ok hR hCK hf02 hf12 k3
    refine r_aload_n C dX7_partOf_31 lg_3 ?_
    refine r_aload C dX7_partOf_32 lg_4 ?_
    refine q_V1A C (cV_share hfl hza hzb hso.2.1 (fun x hx => by obtain ⟨y, hy, e⟩ := List.mem_map.mp hx; rw [← e]; exact (hso.1 y hy).2.1.1)) dX7_partOf_34 lk_X7_149 hza ⟨Nat.le_of_ble_eq_true rfl, Nat.le_of_ble_eq_true rfl⟩ (catLe (Nat.le_of_ble_eq_true rfl)) ⟨rfl, rfl⟩ rfl (Nat.le_of_ble_eq_true rfl) (Nat.le_of_ble_eq_true rfl) (fun z34 S34 A34 i34 p34 => ?_)
    obtain ⟨h9, rfl, rfl⟩ := p34
    refine r_astore C dX7_partOf_37 (ls1_5 (cat_R _ _ _) (cat_R _ _ _)) ?_
    refine r_aload C dX7_partOf_39 lg_5 ?_
    refine r_ifnonnull C (tgt := 48) dX7_partOf_41 (by decide) (fun c41 => ?_) (fun c41 => ?_)
    · refine r_aload C dX7_partOf_48 lg_5 ?_
      refine r_getI C 162 dX7_partOf_50 fg_X7_153_5 rfl rfl ⟨by omega, i34⟩ (fun g50 => ?_)
      exact f_I F dX7_partOf_53 (by first | omega | exact g50) (by
        refine ⟨?_, ⟨⟨⟨hf02, hf12⟩, hf08, hf18⟩, k3⟩, rfl, rfl⟩
        rcases h9 with ⟨q1, q2⟩ | ⟨p, q1, q2, q3⟩
        · first
          | exact Or.inl ⟨q1, rfl⟩
          | (exfalso; omega)
        · first
          | exact Or.inr ⟨p, q1, q3⟩
          | (exfalso; omega)) (Nat.le_of_ble_eq_true rfl) (Nat.le_of_ble_eq_true rfl)
    · refine r_iconst C dX7_partOf_44 ?_
      refine r_goto C (tgt := 53) dX7_partOf_45 (by decide) ?_
      exact f_I F dX7_partOf_53 (by first | omega | exact g50) (by
        refine ⟨?_, ⟨⟨⟨hf02, hf12⟩, hf08, hf18⟩, k3⟩, rfl, rfl⟩
        rcases h9 with ⟨q1, q2⟩ | ⟨p, q1, q2, q3⟩
        · first
          | exact Or.inl ⟨q1, rfl⟩
          | (exfalso; omega)
        · first
          | exact Or.inr ⟨p, q1, q3⟩
          | (exfalso; omega)) (Nat.le_of_ble_eq_true rfl) (Nat.le_of_ble_eq_true rfl)
  · exact FT _ _ _ _ _ _ _ _ _ xIS "no landed cost" (by decide) rfl xw_IS nw_X7_98 dX7_partOf_21 dX7_partOf_24 dX7_partOf_25 dX7_partOf_27 dX7_partOf_30 ⟨Or.inr ⟨rfl, ⟨⟨hf02, hf12⟩, hf08, hf18⟩, by omega⟩, rfl, rfl⟩ (Nat.le_of_ble_eq_true rfl) (Nat.le_of_ble_eq_true rfl) (Nat.le_of_ble_eq_true rfl) (Nat.le_of_ble_eq_true rfl)
