/-! the class: receipts, issues, revaluations posted -/
set_option maxRecDepth 20000 in
theorem cB_receive {G : GT} {l : Launch} (hfl : l.stackTraces = false) {S : ST} {A : AB} {d item q c : Int} {R : RW} (hCK : CK R S A) (hR : RG R) (h1 : rI d) (h2 : rI item) (h3 : rI q) (h4 : rI c) : CT G l yX7_receive cX7_receive 5 (some .int) (rmk 8 8 51 133) S A [vR A 6 0, vI d, vI item, vI q, vI c] (oI fun z S' A' => R.n = z ∧ ((akOk item d ∧ (1 ≤ q ∧ q ≤ 1000) ∧ (0 ≤ c ∧ c ≤ 1000000)) ∧ (S 198 0 < d ∧ S 197 0 < 60) ∧ True) ∧ CK (rwP R 0 d item q c 0 R.pt) S' A' ∧ CN S A S' A') (fun E S' A' => ((E = xIA ∧ ¬ (akOk item d ∧ (1 ≤ q ∧ q ≤ 1000) ∧ (0 ≤ c ∧ c ≤ 1000000))) ∨ (E = xIS ∧ (akOk item d ∧ (1 ≤ q ∧ q ≤ 1000) ∧ (0 ≤ c ∧ c ≤ 1000000)) ∧ ¬ ((S 198 0 < d ∧ S 197 0 < 60) ∧ True))) ∧ S = S' ∧ A = A') := by
  have hn := hR.1
  have hl6 := hCK.1.1
  have hl2 := hCK.1.2.1
  have h193 := hCK.2.1.2.1
  have hcn : S 197 0 = R.n := hCK.2.2.1.1
  have hA3 : A.2 3 = R.n := hCK.2.2.1.2.1
  have hA1 : A.2 1 = R.n := hCK.2.2.1.2.2
  have hmm := ck_mem hCK hR
  refine ct_ofN (own := RX7) (mn := "receive") rfl rfl (by decide) hfl (lv0 := [some (vR A 6 0), some (vI d), some (vI item), some (vI q), some (vI c)]) (ent_1 (cat_R _ _ _) (ent_1 rfl (ent_1 rfl (ent_1 rfl (ent_1 rfl ent_0))))) rfl ?_
  intro J X C F FX FT FU hW hA
  refine r_iload_n C dX7_receive_0 lg_2 ?_
  refine r_iload_n C dX7_receive_1 lg_1 ?_
  refine r_S2V C (cB_item hfl (by omega) (by omega)) dX7_receive_2 lk_X7_44 ⟨Nat.le_of_ble_eq_true rfl, Nat.le_of_ble_eq_true rfl⟩ (catLe (Nat.le_of_ble_eq_true rfl)) 2 12 ⟨rfl, rfl⟩ (Nat.le_of_ble_eq_true rfl) (Nat.le_of_ble_eq_true rfl) (fun E9 S9 A9 h9 => FX _ _ _ _ _ _ _ (by obtain ⟨rfl, h8, rfl, rfl⟩ := h9; exact ⟨Or.inl ⟨rfl, fun q => h8 q.1⟩, rfl, rfl⟩) (Nat.le_of_ble_eq_true rfl) (Nat.le_of_ble_eq_true rfl)) (fun S2 A2 p2 => ?_)
  obtain ⟨hr2, rfl, rfl⟩ := p2
  refine r_iload_n C dX7_receive_5 lg_3 ?_
  refine r_iconst C dX7_receive_6 ?_
  refine r_sipush C dX7_receive_7 (by decide) ?_
  refine r_S3V C (cB_range hfl (by omega) (by omega) (by omega)) dX7_receive_10 lk_X7_48 ⟨Nat.le_of_ble_eq_true rfl, Nat.le_of_ble_eq_true rfl⟩ (catLe (Nat.le_of_ble_eq_true rfl)) 1 6 ⟨rfl, rfl⟩ (Nat.le_of_ble_eq_true rfl) (Nat.le_of_ble_eq_true rfl) (fun E9 S9 A9 h9 => FX _ _ _ _ _ _ _ (by obtain ⟨rfl, h8, rfl, rfl⟩ := h9; exact ⟨Or.inl ⟨rfl, fun q => h8 q.2.1⟩, rfl, rfl⟩) (Nat.le_of_ble_eq_true rfl) (Nat.le_of_ble_eq_true rfl)) (fun S10 A10 p10 => ?_)
  obtain ⟨hr10, rfl, rfl⟩ := p10
  refine r_iload C dX7_receive_13 lg_4 ?_
  refine r_iconst C dX7_receive_15 ?_
  refine r_ldc C dX7_receive_16 cs_X7_52 1000000 (by decide) ?_
  refine r_S3V C (cB_range hfl (by omega) (by omega) (by omega)) dX7_receive_18 lk_X7_48 ⟨Nat.le_of_ble_eq_true rfl, Nat.le_of_ble_eq_true rfl⟩ (catLe (Nat.le_of_ble_eq_true rfl)) 1 6 ⟨rfl, rfl⟩ (Nat.le_of_ble_eq_true rfl) (Nat.le_of_ble_eq_true rfl) (fun E9 S9 A9 h9 => FX _ _ _ _ _ _ _ (by obtain ⟨rfl, h8, rfl, rfl⟩ := h9; exact ⟨Or.inl ⟨rfl, fun q => h8 q.2.2⟩, rfl, rfl⟩) (Nat.le_of_ble_eq_true rfl) (Nat.le_of_ble_eq_true rfl)) (fun S18 A18 p18 => ?_)
  obtain ⟨hr18, rfl, rfl⟩ := p18
  refine r_aload_n C dX7_receive_21 lg_0 ?_
  refine r_iload_n C dX7_receive_22 lg_1 ?_
  refine r_V1V C (cB_posting hfl hl6 (by omega)) dX7_receive_23 lk_X7_53 hl6 ⟨Nat.le_of_ble_eq_true rfl, Nat.le_of_ble_eq_true rfl⟩ (catLe (Nat.le_of_ble_eq_true rfl)) 2 12 ⟨rfl, rfl⟩ (Nat.le_of_ble_eq_true rfl) (Nat.le_of_ble_eq_true rfl) (fun E9 S9 A9 h9 => FX _ _ _ _ _ _ _ (by obtain ⟨rfl, h8, rfl, rfl⟩ := h9; exact ⟨Or.inr ⟨rfl, ⟨hr2, hr10, hr18⟩, fun q => h8 q.1⟩, rfl, rfl⟩) (Nat.le_of_ble_eq_true rfl) (Nat.le_of_ble_eq_true rfl)) (fun S23 A23 p23 => ?_)
  obtain ⟨hr23, rfl, rfl⟩ := p23
  have hcl : R.n < 60 := by have h9 := hr23.2; omega
  refine r_aload_n C dX7_receive_26 lg_0 ?_
  refine r_new C dX7_receive_27 (kd := 3) (N := 11) rfl nw_X7_9.1 nw_X7_9.2.1 nw_X7_9.2.2 (Nat.le_of_ble_eq_true rfl) (Nat.le_of_ble_eq_true rfl) (fun q27 => ?_)
  refine r_gAS (fun A27 S27 hE27 hc27 ho27 hs27 hd27 => ?_)
  rw [hA3] at hc27 hs27 hd27 ⊢
  rw [← (hE27 6 0 hl6.2).1]
  have l627 : lv1 A27 6 0 := ⟨hl6.1, (hE27 6 0 hl6.2).2⟩
  have z27 : lv1 A27 3 R.n := ⟨hn.1, by omega⟩
  have k197 : S27 197 0 = R.n := (hs27 197 0 (Or.inl (by decide))).trans hcn
  have hA127 : A27.2 1 = R.n := (ho27 1 (by omega)).trans hA1
  refine r_dup C dX7_receive_30 (cat_R _ _ _) ?_
  refine r_aload_n C dX7_receive_31 lg_0 ?_
  refine r_getI C 197 dX7_receive_32 fg_X7_57_6 rfl rfl l627 (fun g32 => ?_)
  rw [k197]
  refine r_iconst C dX7_receive_35 ?_
  refine r_iload_n C dX7_receive_36 lg_1 ?_
  refine r_iload_n C dX7_receive_37 lg_2 ?_
  refine r_iload_n C dX7_receive_38 lg_3 ?_
  refine r_iload C dX7_receive_39 lg_4 ?_
  refine r_I6V C (cV_init hfl z27 (by omega) (by omega) (by omega) (by omega) (by omega) (by omega) (by omega)) dX7_receive_41 lk_X7_60 (by omega) ⟨Nat.le_of_ble_eq_true rfl, Nat.le_of_ble_eq_true rfl⟩ (catLe (Nat.le_of_ble_eq_true rfl)) 1 4 ⟨rfl, rfl⟩ (Nat.le_of_ble_eq_true rfl) (Nat.le_of_ble_eq_true rfl) (fun _ _ _ h9 => h9.elim) (fun S41 A41 p41 => ?_)
  obtain ⟨hE41, ha41, hb41, hf41, hg41, hF41⟩ := p41
  rw [← (hE41 6 0 l627.2).1, ← (hE41 3 R.n z27.2).1]
  have hNW := nw_mk hCK hE27 hc27 ho27 hs27 hd27 hE41 ha41 hb41 hf41 hg41 hF41
  obtain ⟨⟨l641, l841, l241⟩, ⟨g192, g193⟩, g197, glen, gch, gL, gm, gmL, gnd, gsr, gsz, gA3⟩ := nw_args hCK hR hcl hNW
  refine q_V1I C (cB_post hfl l641 l841 l241 g192 g193 ⟨by omega, by omega⟩ glen gch gL gm gmL gnd gsr gsz gA3) dX7_receive_44 lk_X7_63 l641 ⟨Nat.le_of_ble_eq_true rfl, Nat.le_of_ble_eq_true rfl⟩ (catLe (Nat.le_of_ble_eq_true rfl)) ⟨rfl, rfl⟩ rfl (Nat.le_of_ble_eq_true rfl) (Nat.le_of_ble_eq_true rfl) (fun z44 S44 A44 i44 p44 => ?_)
  obtain ⟨e44, rfl, hF44, hcn44, hpo44, hc44, hz44⟩ := p44
  exact f_I F dX7_receive_47 i44 (by
    have hD := nw_done (sp := 0) (pt := R.pt) hCK hR hcl hNW hF44 hcn44 hpo44 hc44 hz44 (fun k => absurd k (by decide)) (fun _ => rfl) (fun _ _ _ _ _ _ => rfl)
    exact ⟨hNW.2.2.2.1.1.symm.trans e44, ⟨⟨hr2, hr10, hr18⟩, hr23, trivial⟩, hD.1, hD.2⟩) (Nat.le_of_ble_eq_true rfl) (Nat.le_of_ble_eq_true rfl)
set_option maxRecDepth 20000 in
theorem cB_issue {G : GT} {l : Launch} (hfl : l.stackTraces = false) {S : ST} {A : AB} {d item q : Int} {R : RW} (hCK : CK R S A) (hR : RG R) (h1 : rI d) (h2 : rI item) (h3 : rI q) : CT G l yX7_issue cX7_issue 4 (some .int) (rmk 8 8 51 133) S A [vR A 6 0, vI d, vI item, vI q] (oI fun z S' A' => R.n = z ∧ ((akOk item d ∧ (1 ≤ q ∧ q ≤ 1000)) ∧ (S 198 0 < d ∧ S 197 0 < 60) ∧ q ≤ spf (S 98) (S 96) (S 99) (dlt (S 97) (S 100)) (S 100) (fun m => S 97 m = 1 ∨ S 97 m = 2) item d 60 (LdR R) 0 0) ∧ CK (rwP R 1 d item q 0 0 R.pt) S' A' ∧ CN S A S' A') (fun E S' A' => ((E = xIA ∧ ¬ (akOk item d ∧ (1 ≤ q ∧ q ≤ 1000))) ∨ (E = xIS ∧ (akOk item d ∧ (1 ≤ q ∧ q ≤ 1000)) ∧ ¬ ((S 198 0 < d ∧ S 197 0 < 60) ∧ q ≤ spf (S 98) (S 96) (S 99) (dlt (S 97) (S 100)) (S 100) (fun m => S 97 m = 1 ∨ S 97 m = 2) item d 60 (LdR R) 0 0))) ∧ S = S' ∧ A = A') := by
  have hn := hR.1
  have hl6 := hCK.1.1
  have hl2 := hCK.1.2.1
  have h193 := hCK.2.1.2.1
  have hcn : S 197 0 = R.n := hCK.2.2.1.1
  have hA3 : A.2 3 = R.n := hCK.2.2.1.2.1
  have hA1 : A.2 1 = R.n := hCK.2.2.1.2.2
  have hmm := ck_mem hCK hR
  refine ct_ofN (own := RX7) (mn := "issue") rfl rfl (by decide) hfl (lv0 := [some (vR A 6 0), some (vI d), some (vI item), some (vI q)]) (ent_1 (cat_R _ _ _) (ent_1 rfl (ent_1 rfl (ent_1 rfl ent_0)))) rfl ?_
  intro J X C F FX FT FU hW hA
  refine r_iload_n C dX7_issue_0 lg_2 ?_
  refine r_iload_n C dX7_issue_1 lg_1 ?_
  refine r_S2V C (cB_item hfl (by omega) (by omega)) dX7_issue_2 lk_X7_44 ⟨Nat.le_of_ble_eq_true rfl, Nat.le_of_ble_eq_true rfl⟩ (catLe (Nat.le_of_ble_eq_true rfl)) 2 12 ⟨rfl, rfl⟩ (Nat.le_of_ble_eq_true rfl) (Nat.le_of_ble_eq_true rfl) (fun E9 S9 A9 h9 => FX _ _ _ _ _ _ _ (by obtain ⟨rfl, h8, rfl, rfl⟩ := h9; exact ⟨Or.inl ⟨rfl, fun q => h8 q.1⟩, rfl, rfl⟩) (Nat.le_of_ble_eq_true rfl) (Nat.le_of_ble_eq_true rfl)) (fun S2 A2 p2 => ?_)
  obtain ⟨hr2, rfl, rfl⟩ := p2
  refine r_iload_n C dX7_issue_5 lg_3 ?_
  refine r_iconst C dX7_issue_6 ?_
  refine r_sipush C dX7_issue_7 (by decide) ?_
  refine r_S3V C (cB_range hfl (by omega) (by omega) (by omega)) dX7_issue_10 lk_X7_48 ⟨Nat.le_of_ble_eq_true rfl, Nat.le_of_ble_eq_true rfl⟩ (catLe (Nat.le_of_ble_eq_true rfl)) 1 6 ⟨rfl, rfl⟩ (Nat.le_of_ble_eq_true rfl) (Nat.le_of_ble_eq_true rfl) (fun E9 S9 A9 h9 => FX _ _ _ _ _ _ _ (by obtain ⟨rfl, h8, rfl, rfl⟩ := h9; exact ⟨Or.inl ⟨rfl, fun q => h8 q.2⟩, rfl, rfl⟩) (Nat.le_of_ble_eq_true rfl) (Nat.le_of_ble_eq_true rfl)) (fun S10 A10 p10 => ?_)
  obtain ⟨hr10, rfl, rfl⟩ := p10
  refine r_aload_n C dX7_issue_13 lg_0 ?_
  refine r_iload_n C dX7_issue_14 lg_1 ?_
  refine r_V1V C (cB_posting hfl hl6 (by omega)) dX7_issue_15 lk_X7_53 hl6 ⟨Nat.le_of_ble_eq_true rfl, Nat.le_of_ble_eq_true rfl⟩ (catLe (Nat.le_of_ble_eq_true rfl)) 2 12 ⟨rfl, rfl⟩ (Nat.le_of_ble_eq_true rfl) (Nat.le_of_ble_eq_true rfl) (fun E9 S9 A9 h9 => FX _ _ _ _ _ _ _ (by obtain ⟨rfl, h8, rfl, rfl⟩ := h9; exact ⟨Or.inr ⟨rfl, ⟨hr2, hr10⟩, fun q => h8 q.1⟩, rfl, rfl⟩) (Nat.le_of_ble_eq_true rfl) (Nat.le_of_ble_eq_true rfl)) (fun S15 A15 p15 => ?_)
  obtain ⟨hr15, rfl, rfl⟩ := p15
  have hcl : R.n < 60 := by have h9 := hr15.2; omega
  refine r_iload_n C dX7_issue_18 lg_3 ?_
  refine r_aload_n C dX7_issue_19 lg_0 ?_
  refine r_getA C 193 2 dX7_issue_20 fg_X7_18_6 rfl rfl hl6 (fun g20 => ?_)
  rw [h193]
  refine r_iload_n C dX7_issue_23 lg_2 ?_
  refine r_iload_n C dX7_issue_24 lg_1 ?_
  refine r_bipush C dX7_issue_25 (by decide) ?_
  refine q_V3I C (cG_spare hfl (L := LdR R) hl2 hmm.2 hCK.2.2.2.2.2.1 hmm.1 (by omega) (by omega) (by omega)) dX7_issue_27 lk_X7_67 hl2 ⟨Nat.le_of_ble_eq_true rfl, Nat.le_of_ble_eq_true rfl⟩ (catLe (Nat.le_of_ble_eq_true rfl)) ⟨rfl, rfl⟩ rfl (Nat.le_of_ble_eq_true rfl) (Nat.le_of_ble_eq_true rfl) (fun z27 S27 A27 i27 p27 => ?_)
  obtain ⟨rfl, rfl, rfl⟩ := p27
  refine r_S2V C (cB_hand hfl (by omega) (by omega)) dX7_issue_30 lk_X7_71 ⟨Nat.le_of_ble_eq_true rfl, Nat.le_of_ble_eq_true rfl⟩ (catLe (Nat.le_of_ble_eq_true rfl)) 1 6 ⟨rfl, rfl⟩ (Nat.le_of_ble_eq_true rfl) (Nat.le_of_ble_eq_true rfl) (fun E9 S9 A9 h9 => FX _ _ _ _ _ _ _ (by obtain ⟨rfl, h8, rfl, rfl⟩ := h9; exact ⟨Or.inr ⟨rfl, ⟨hr2, hr10⟩, fun q => h8 q.2⟩, rfl, rfl⟩) (Nat.le_of_ble_eq_true rfl) (Nat.le_of_ble_eq_true rfl)) (fun S30 A30 p30 => ?_)
  obtain ⟨hr30, rfl, rfl⟩ := p30
  refine r_aload_n C dX7_issue_33 lg_0 ?_
  refine r_new C dX7_issue_34 (kd := 3) (N := 11) rfl nw_X7_9.1 nw_X7_9.2.1 nw_X7_9.2.2 (Nat.le_of_ble_eq_true rfl) (Nat.le_of_ble_eq_true rfl) (fun q34 => ?_)
  refine r_gAS (fun A34 S34 hE34 hc34 ho34 hs34 hd34 => ?_)
  rw [hA3] at hc34 hs34 hd34 ⊢
  rw [← (hE34 6 0 hl6.2).1]
  have l634 : lv1 A34 6 0 := ⟨hl6.1, (hE34 6 0 hl6.2).2⟩
  have z34 : lv1 A34 3 R.n := ⟨hn.1, by omega⟩
  have k197 : S34 197 0 = R.n := (hs34 197 0 (Or.inl (by decide))).trans hcn
  have hA134 : A34.2 1 = R.n := (ho34 1 (by omega)).trans hA1
  refine r_dup C dX7_issue_37 (cat_R _ _ _) ?_
  refine r_aload_n C dX7_issue_38 lg_0 ?_
  refine r_getI C 197 dX7_issue_39 fg_X7_57_6 rfl rfl l634 (fun g39 => ?_)
  rw [k197]
  refine r_iconst C dX7_issue_42 ?_
  refine r_iload_n C dX7_issue_43 lg_1 ?_
  refine r_iload_n C dX7_issue_44 lg_2 ?_
  refine r_iload_n C dX7_issue_45 lg_3 ?_
  refine r_iconst C dX7_issue_46 ?_
  refine r_I6V C (cV_init hfl z34 (by omega) (by omega) (by omega) (by omega) (by omega) (by omega) (by omega)) dX7_issue_47 lk_X7_60 (by omega) ⟨Nat.le_of_ble_eq_true rfl, Nat.le_of_ble_eq_true rfl⟩ (catLe (Nat.le_of_ble_eq_true rfl)) 1 4 ⟨rfl, rfl⟩ (Nat.le_of_ble_eq_true rfl) (Nat.le_of_ble_eq_true rfl) (fun _ _ _ h9 => h9.elim) (fun S47 A47 p47 => ?_)
  obtain ⟨hE47, ha47, hb47, hf47, hg47, hF47⟩ := p47
  rw [← (hE47 6 0 l634.2).1, ← (hE47 3 R.n z34.2).1]
  have hNW := nw_mk hCK hE34 hc34 ho34 hs34 hd34 hE47 ha47 hb47 hf47 hg47 hF47
  obtain ⟨⟨l647, l847, l247⟩, ⟨g192, g193⟩, g197, glen, gch, gL, gm, gmL, gnd, gsr, gsz, gA3⟩ := nw_args hCK hR hcl hNW
  refine q_V1I C (cB_post hfl l647 l847 l247 g192 g193 ⟨by omega, by omega⟩ glen gch gL gm gmL gnd gsr gsz gA3) dX7_issue_50 lk_X7_63 l647 ⟨Nat.le_of_ble_eq_true rfl, Nat.le_of_ble_eq_true rfl⟩ (catLe (Nat.le_of_ble_eq_true rfl)) ⟨rfl, rfl⟩ rfl (Nat.le_of_ble_eq_true rfl) (Nat.le_of_ble_eq_true rfl) (fun z50 S50 A50 i50 p50 => ?_)
  obtain ⟨e50, rfl, hF50, hcn50, hpo50, hc50, hz50⟩ := p50
  exact f_I F dX7_issue_53 i50 (by
    have hD := nw_done (sp := 0) (pt := R.pt) hCK hR hcl hNW hF50 hcn50 hpo50 hc50 hz50 (fun k => absurd k (by decide)) (fun _ => rfl) (fun _ _ _ _ _ _ => rfl)
    exact ⟨hNW.2.2.2.1.1.symm.trans e50, ⟨⟨hr2, hr10⟩, hr15, hr30⟩, hD.1, hD.2⟩) (Nat.le_of_ble_eq_true rfl) (Nat.le_of_ble_eq_true rfl)
set_option maxRecDepth 20000 in
theorem cB_revalue {G : GT} {l : Launch} (hfl : l.stackTraces = false) {S : ST} {A : AB} {d item q c : Int} {R : RW} (hCK : CK R S A) (hR : RG R) (h1 : rI d) (h2 : rI item) (h3 : rI q) (h4 : rI c) : CT G l yX7_revalue cX7_revalue 5 (some .int) (rmk 8 9 57 133) S A [vR A 6 0, vI d, vI item, vI q, vI c] (oI fun z S' A' => R.n = z ∧ ((akOk item d ∧ (1 ≤ q ∧ q ≤ 1000) ∧ (0 ≤ c ∧ c ≤ 1000000)) ∧ (S 198 0 < d ∧ S 197 0 < 60) ∧ q ≤ hAt (S 98) (dA S item) d (LdR R) 0) ∧ CK (rwP R 2 d item q c 0 R.pt) S' A' ∧ CN S A S' A') (fun E S' A' => ((E = xIA ∧ ¬ (akOk item d ∧ (1 ≤ q ∧ q ≤ 1000) ∧ (0 ≤ c ∧ c ≤ 1000000))) ∨ (E = xIS ∧ (akOk item d ∧ (1 ≤ q ∧ q ≤ 1000) ∧ (0 ≤ c ∧ c ≤ 1000000)) ∧ ¬ ((S 198 0 < d ∧ S 197 0 < 60) ∧ q ≤ hAt (S 98) (dA S item) d (LdR R) 0))) ∧ S = S' ∧ A = A') := by
  have hn := hR.1
  have hl6 := hCK.1.1
  have hl2 := hCK.1.2.1
  have h193 := hCK.2.1.2.1
  have hcn : S 197 0 = R.n := hCK.2.2.1.1
  have hA3 : A.2 3 = R.n := hCK.2.2.1.2.1
  have hA1 : A.2 1 = R.n := hCK.2.2.1.2.2
  have hmm := ck_mem hCK hR
  refine ct_ofN (own := RX7) (mn := "revalue") rfl rfl (by decide) hfl (lv0 := [some (vR A 6 0), some (vI d), some (vI item), some (vI q), some (vI c)]) (ent_1 (cat_R _ _ _) (ent_1 rfl (ent_1 rfl (ent_1 rfl (ent_1 rfl ent_0))))) rfl ?_
  intro J X C F FX FT FU hW hA
  refine r_iload_n C dX7_revalue_0 lg_2 ?_
  refine r_iload_n C dX7_revalue_1 lg_1 ?_
  refine r_S2V C (cB_item hfl (by omega) (by omega)) dX7_revalue_2 lk_X7_44 ⟨Nat.le_of_ble_eq_true rfl, Nat.le_of_ble_eq_true rfl⟩ (catLe (Nat.le_of_ble_eq_true rfl)) 2 12 ⟨rfl, rfl⟩ (Nat.le_of_ble_eq_true rfl) (Nat.le_of_ble_eq_true rfl) (fun E9 S9 A9 h9 => FX _ _ _ _ _ _ _ (by obtain ⟨rfl, h8, rfl, rfl⟩ := h9; exact ⟨Or.inl ⟨rfl, fun q => h8 q.1⟩, rfl, rfl⟩) (Nat.le_of_ble_eq_true rfl) (Nat.le_of_ble_eq_true rfl)) (fun S2 A2 p2 => ?_)
  obtain ⟨hr2, rfl, rfl⟩ := p2
  refine r_iload_n C dX7_revalue_5 lg_3 ?_
  refine r_iconst C dX7_revalue_6 ?_
  refine r_sipush C dX7_revalue_7 (by decide) ?_
  refine r_S3V C (cB_range hfl (by omega) (by omega) (by omega)) dX7_revalue_10 lk_X7_48 ⟨Nat.le_of_ble_eq_true rfl, Nat.le_of_ble_eq_true rfl⟩ (catLe (Nat.le_of_ble_eq_true rfl)) 1 6 ⟨rfl, rfl⟩ (Nat.le_of_ble_eq_true rfl) (Nat.le_of_ble_eq_true rfl) (fun E9 S9 A9 h9 => FX _ _ _ _ _ _ _ (by obtain ⟨rfl, h8, rfl, rfl⟩ := h9; exact ⟨Or.inl ⟨rfl, fun q => h8 q.2.1⟩, rfl, rfl⟩) (Nat.le_of_ble_eq_true rfl) (Nat.le_of_ble_eq_true rfl)) (fun S10 A10 p10 => ?_)
  obtain ⟨hr10, rfl, rfl⟩ := p10
  refine r_iload C dX7_revalue_13 lg_4 ?_
  refine r_iconst C dX7_revalue_15 ?_
  refine r_ldc C dX7_revalue_16 cs_X7_52 1000000 (by decide) ?_
  refine r_S3V C (cB_range hfl (by omega) (by omega) (by omega)) dX7_revalue_18 lk_X7_48 ⟨Nat.le_of_ble_eq_true rfl, Nat.le_of_ble_eq_true rfl⟩ (catLe (Nat.le_of_ble_eq_true rfl)) 1 6 ⟨rfl, rfl⟩ (Nat.le_of_ble_eq_true rfl) (Nat.le_of_ble_eq_true rfl) (fun E9 S9 A9 h9 => FX _ _ _ _ _ _ _ (by obtain ⟨rfl, h8, rfl, rfl⟩ := h9; exact ⟨Or.inl ⟨rfl, fun q => h8 q.2.2⟩, rfl, rfl⟩) (Nat.le_of_ble_eq_true rfl) (Nat.le_of_ble_eq_true rfl)) (fun S18 A18 p18 => ?_)
  obtain ⟨hr18, rfl, rfl⟩ := p18
  refine r_aload_n C dX7_revalue_21 lg_0 ?_
  refine r_iload_n C dX7_revalue_22 lg_1 ?_
  refine r_V1V C (cB_posting hfl hl6 (by omega)) dX7_revalue_23 lk_X7_53 hl6 ⟨Nat.le_of_ble_eq_true rfl, Nat.le_of_ble_eq_true rfl⟩ (catLe (Nat.le_of_ble_eq_true rfl)) 2 12 ⟨rfl, rfl⟩ (Nat.le_of_ble_eq_true rfl) (Nat.le_of_ble_eq_true rfl) (fun E9 S9 A9 h9 => FX _ _ _ _ _ _ _ (by obtain ⟨rfl, h8, rfl, rfl⟩ := h9; exact ⟨Or.inr ⟨rfl, ⟨hr2, hr10, hr18⟩, fun q => h8 q.1⟩, rfl, rfl⟩) (Nat.le_of_ble_eq_true rfl) (Nat.le_of_ble_eq_true rfl)) (fun S23 A23 p23 => ?_)
  obtain ⟨hr23, rfl, rfl⟩ := p23
  have hcl : R.n < 60 := by have h9 := hr23.2; omega
  refine r_iload_n C dX7_revalue_26 lg_3 ?_
  refine r_aload_n C dX7_revalue_27 lg_0 ?_
  refine r_getA C 193 2 dX7_revalue_28 fg_X7_18_6 rfl rfl hl6 (fun g28 => ?_)
  rw [h193]
  refine r_iload_n C dX7_revalue_31 lg_2 ?_
  refine r_iload_n C dX7_revalue_32 lg_1 ?_
  refine q_V2I C (cG_units hfl (L := LdR R) hl2 hmm.2 hCK.2.2.2.2.2.1 hmm.1 (by omega) (by omega)) dX7_revalue_33 lk_X7_74 hl2 ⟨Nat.le_of_ble_eq_true rfl, Nat.le_of_ble_eq_true rfl⟩ (catLe (Nat.le_of_ble_eq_true rfl)) ⟨rfl, rfl⟩ rfl (Nat.le_of_ble_eq_true rfl) (Nat.le_of_ble_eq_true rfl) (fun z33 S33 A33 i33 p33 => ?_)
  obtain ⟨rfl, rfl, rfl⟩ := p33
  refine r_S2V C (cB_hand hfl (by omega) (by omega)) dX7_revalue_36 lk_X7_71 ⟨Nat.le_of_ble_eq_true rfl, Nat.le_of_ble_eq_true rfl⟩ (catLe (Nat.le_of_ble_eq_true rfl)) 1 6 ⟨rfl, rfl⟩ (Nat.le_of_ble_eq_true rfl) (Nat.le_of_ble_eq_true rfl) (fun E9 S9 A9 h9 => FX _ _ _ _ _ _ _ (by obtain ⟨rfl, h8, rfl, rfl⟩ := h9; exact ⟨Or.inr ⟨rfl, ⟨hr2, hr10, hr18⟩, fun q => h8 q.2⟩, rfl, rfl⟩) (Nat.le_of_ble_eq_true rfl) (Nat.le_of_ble_eq_true rfl)) (fun S36 A36 p36 => ?_)
  obtain ⟨hr36, rfl, rfl⟩ := p36
  refine r_aload_n C dX7_revalue_39 lg_0 ?_
  refine r_new C dX7_revalue_40 (kd := 3) (N := 11) rfl nw_X7_9.1 nw_X7_9.2.1 nw_X7_9.2.2 (Nat.le_of_ble_eq_true rfl) (Nat.le_of_ble_eq_true rfl) (fun q40 => ?_)
  refine r_gAS (fun A40 S40 hE40 hc40 ho40 hs40 hd40 => ?_)
  rw [hA3] at hc40 hs40 hd40 ⊢
  rw [← (hE40 6 0 hl6.2).1]
  have l640 : lv1 A40 6 0 := ⟨hl6.1, (hE40 6 0 hl6.2).2⟩
  have z40 : lv1 A40 3 R.n := ⟨hn.1, by omega⟩
  have k197 : S40 197 0 = R.n := (hs40 197 0 (Or.inl (by decide))).trans hcn
  have hA140 : A40.2 1 = R.n := (ho40 1 (by omega)).trans hA1
  refine r_dup C dX7_revalue_43 (cat_R _ _ _) ?_
  refine r_aload_n C dX7_revalue_44 lg_0 ?_
  refine r_getI C 197 dX7_revalue_45 fg_X7_57_6 rfl rfl l640 (fun g45 => ?_)
  rw [k197]
  refine r_iconst C dX7_revalue_48 ?_
  refine r_iload_n C dX7_revalue_49 lg_1 ?_
  refine r_iload_n C dX7_revalue_50 lg_2 ?_
  refine r_iload_n C dX7_revalue_51 lg_3 ?_
  refine r_iload C dX7_revalue_52 lg_4 ?_
  refine r_I6V C (cV_init hfl z40 (by omega) (by omega) (by omega) (by omega) (by omega) (by omega) (by omega)) dX7_revalue_54 lk_X7_60 (by omega) ⟨Nat.le_of_ble_eq_true rfl, Nat.le_of_ble_eq_true rfl⟩ (catLe (Nat.le_of_ble_eq_true rfl)) 1 4 ⟨rfl, rfl⟩ (Nat.le_of_ble_eq_true rfl) (Nat.le_of_ble_eq_true rfl) (fun _ _ _ h9 => h9.elim) (fun S54 A54 p54 => ?_)
  obtain ⟨hE54, ha54, hb54, hf54, hg54, hF54⟩ := p54
  rw [← (hE54 6 0 l640.2).1, ← (hE54 3 R.n z40.2).1]
  have hNW := nw_mk hCK hE40 hc40 ho40 hs40 hd40 hE54 ha54 hb54 hf54 hg54 hF54
  obtain ⟨⟨l654, l854, l254⟩, ⟨g192, g193⟩, g197, glen, gch, gL, gm, gmL, gnd, gsr, gsz, gA3⟩ := nw_args hCK hR hcl hNW
  refine q_V1I C (cB_post hfl l654 l854 l254 g192 g193 ⟨by omega, by omega⟩ glen gch gL gm gmL gnd gsr gsz gA3) dX7_revalue_57 lk_X7_63 l654 ⟨Nat.le_of_ble_eq_true rfl, Nat.le_of_ble_eq_true rfl⟩ (catLe (Nat.le_of_ble_eq_true rfl)) ⟨rfl, rfl⟩ rfl (Nat.le_of_ble_eq_true rfl) (Nat.le_of_ble_eq_true rfl) (fun z57 S57 A57 i57 p57 => ?_)
  obtain ⟨e57, rfl, hF57, hcn57, hpo57, hc57, hz57⟩ := p57
  exact f_I F dX7_revalue_60 i57 (by
    have hD := nw_done (sp := 0) (pt := R.pt) hCK hR hcl hNW hF57 hcn57 hpo57 hc57 hz57 (fun k => absurd k (by decide)) (fun _ => rfl) (fun _ _ _ _ _ _ => rfl)
    exact ⟨hNW.2.2.2.1.1.symm.trans e57, ⟨⟨hr2, hr10, hr18⟩, hr23, hr36⟩, hD.1, hD.2⟩) (Nat.le_of_ble_eq_true rfl) (Nat.le_of_ble_eq_true rfl)
