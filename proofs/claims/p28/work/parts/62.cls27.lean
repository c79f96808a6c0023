/-! the class: its making -/
theorem r_gA1 {J : JT} {pc : Nat} {lv : List (Option Value)} {st : List Value} {S : ST} {A : AB} {k n kd q : Nat} (h0 : A.2 kd = 0) (h : ∀ (A' : AB) (S' : ST), AE A A' → A'.2 kd = 1 → (∀ k', k' ≠ kd → A'.2 k' = A.2 k') → (∀ c z, c / 32 ≠ kd → S' c z = S c z) → (∀ c z, c / 32 = kd → (8 ≤ kd ∨ z = 0) → S' c z = dfl (tyC c)) → J pc lv (vR A' kd 0 :: st) S' A' k n) : J pc lv (vR (nwA A kd q) kd 0 :: st) (nwS S kd 0) (nwA A kd q) k n := by
  have h9 := r_gAS (J := J) (pc := pc) (lv := lv) (st := st) (S := S) (A := A) (k := k) (n := n) (kd := kd) (q := q) (z0 := 0) (fun A' S' a b c d e => h A' S' a (by omega) c (fun c' z' q' => d c' z' (Or.inl q')) (fun c' z' q' q2 => e c' z' q' (by rw [h0]; exact q2)))
  rw [h0] at h9
  exact h9
/-- the class's object under its making -/
def CI (A0 : AB) (S0 : ST) (ks : List Nat) (S : ST) (A : AB) : Prop := lv1 A 6 0 ∧ AE A0 A ∧ (∀ k, k ∉ ks → A.2 k = A0.2 k) ∧ (∀ k ∈ ks, A.2 k = 1) ∧ (∀ c z, c / 32 ≠ 6 → c / 32 ∉ ks → S c z = S0 c z) ∧ (∀ c z, c / 32 ∈ ks → (8 ≤ c / 32 ∨ z = 0) → S c z = dfl (tyC c))
theorem CI.step {A0 : AB} {S0 : ST} {ks : List Nat} {S S' : ST} {A A' : AB} (h : CI A0 S0 ks S A) {kd c0 : Nat} {v : Int} (hk : kd ∉ ks) (h6 : kd ≠ 6) (hks : 6 ∉ ks) (hc0 : c0 / 32 = 6) (hE : AE A A') (h1 : A'.2 kd = 1) (h2 : ∀ k', k' ≠ kd → A'.2 k' = A.2 k') (hs : ∀ c z, c / 32 ≠ kd → S' c z = S c z) (hd : ∀ c z, c / 32 = kd → (8 ≤ kd ∨ z = 0) → S' c z = dfl (tyC c)) : CI A0 S0 (kd :: ks) (upS S' c0 0 v) A' := by
  obtain ⟨a1, a2, a3, a4, a5, a6⟩ := h
  refine ⟨⟨a1.1, by rw [h2 6 (fun e => h6 e.symm)]; exact a1.2⟩, a2.tr hE, fun k q => ?_, fun k q => ?_, fun c z q1 q2 => ?_, fun c z q1 q2 => ?_⟩
  · rw [h2 k (fun e => q (by rw [e]; exact List.mem_cons_self))]
    exact a3 k (fun q2 => q (List.mem_cons_of_mem _ q2))
  · rcases List.mem_cons.mp q with e | q
    · rw [e]; exact h1
    · rw [h2 k (fun e => hk (e ▸ q))]; exact a4 k q
  · have e : c ≠ c0 := fun e => q1 (by rw [e]; exact hc0)
    rw [upS_c _ _ e, hs c z (fun e => q2 (by rw [e]; exact List.mem_cons_self))]
    exact a5 c z q1 (fun q3 => q2 (List.mem_cons_of_mem _ q3))
  · have e : c ≠ c0 := fun e => by
      rw [e, hc0] at q1
      rcases List.mem_cons.mp q1 with h | h
      · exact h6 h.symm
      · exact hks h
    rw [upS_c _ _ e]
    by_cases ek : c / 32 = kd
    · exact hd c z ek (by rw [← ek]; exact q2)
    · rw [hs c z ek]
      rcases List.mem_cons.mp q1 with h | h
      · exact absurd h ek
      · exact a6 c z h q2
set_option maxRecDepth 20000 in
theorem cG_init {G : GT} {l : Launch} (hfl : l.stackTraces = false) {S : ST} {A : AB} (hl2 : lv1 A 2 0) : CT G l yX2_init cX2_init 1 none (rmk 1 0 0 30) S A [vR A 2 0] (oV fun S' A' => S = S' ∧ A = A') (noX) := by
  refine ct_ofN (own := RX2) (mn := "<init>") rfl rfl (by decide) hfl (lv0 := [some (vR A 2 0)]) (ent_1 (cat_R _ _ _) ent_0) rfl ?_
  intro J X C F FX FT FU hW hA
  refine r_aload_n C dX2_init_0 lg_0 ?_
  refine r_obj C dX2_init_1 lk_X2_1 (by omega) wObj2 wObj3 (Nat.le_of_ble_eq_true rfl) (Nat.le_of_ble_eq_true rfl) ?_
  exact f_V F dX2_init_4 ⟨rfl, rfl⟩ (Nat.le_of_ble_eq_true rfl) (Nat.le_of_ble_eq_true rfl)
set_option maxRecDepth 20000 in
theorem cV0_init0 {G : GT} {l : Launch} (hfl : l.stackTraces = false) {S : ST} {A : AB} (hl0 : lv1 A 0 0) : CT G l yX6_init cX6_init 1 none (rmk 1 0 0 30) S A [vR A 0 0] (oV fun S' A' => S = S' ∧ A = A') (noX) := by
  refine ct_ofN (own := RX6) (mn := "<init>") rfl rfl (by decide) hfl (lv0 := [some (vR A 0 0)]) (ent_1 (cat_R _ _ _) ent_0) rfl ?_
  intro J X C F FX FT FU hW hA
  refine r_aload_n C dX6_init_0 lg_0 ?_
  refine r_obj C dX6_init_1 lk_X6_3 (by omega) wObj2 wObj3 (Nat.le_of_ble_eq_true rfl) (Nat.le_of_ble_eq_true rfl) ?_
  exact f_V F dX6_init_4 ⟨rfl, rfl⟩ (Nat.le_of_ble_eq_true rfl) (Nat.le_of_ble_eq_true rfl)
set_option maxRecDepth 20000 in
theorem cF_init {G : GT} {l : Launch} (hfl : l.stackTraces = false) {S : ST} {A : AB} (hl0 : lv1 A 0 0) : CT G l yX0_init cX0_init 1 none (rmk 2 0 0 50) S A [vR A 0 0] (oV fun S' A' => S = S' ∧ A = A') (noX) := by
  refine ct_ofN (own := RX0) (mn := "<init>") rfl rfl (by decide) hfl (lv0 := [some (vR A 0 0)]) (ent_1 (cat_R _ _ _) ent_0) rfl ?_
  intro J X C F FX FT FU hW hA
  refine r_aload_n C dX0_init_0 lg_0 ?_
  refine q_N0V C (cV0_init0 hfl hl0) dX0_init_1 lk_X0_1 (by omega) ⟨Nat.le_of_ble_eq_true rfl, Nat.le_of_ble_eq_true rfl⟩ (catLe (Nat.le_of_ble_eq_true rfl)) ⟨rfl, rfl⟩ rfl (Nat.le_of_ble_eq_true rfl) (Nat.le_of_ble_eq_true rfl) (fun S1 A1 p1 => ?_)
  obtain ⟨rfl, rfl⟩ := p1
  exact f_V F dX0_init_4 ⟨rfl, rfl⟩ (Nat.le_of_ble_eq_true rfl) (Nat.le_of_ble_eq_true rfl)
set_option maxRecDepth 20000 in
theorem cV4_init0 {G : GT} {l : Launch} (hfl : l.stackTraces = false) {S : ST} {A : AB} (hl4 : lv1 A 4 0) : CT G l yX6_init cX6_init 1 none (rmk 1 0 0 30) S A [vR A 4 0] (oV fun S' A' => S = S' ∧ A = A') (noX) := by
  refine ct_ofN (own := RX6) (mn := "<init>") rfl rfl (by decide) hfl (lv0 := [some (vR A 4 0)]) (ent_1 (cat_R _ _ _) ent_0) rfl ?_
  intro J X C F FX FT FU hW hA
  refine r_aload_n C dX6_init_0 lg_0 ?_
  refine r_obj C dX6_init_1 lk_X6_3 (by omega) wObj2 wObj3 (Nat.le_of_ble_eq_true rfl) (Nat.le_of_ble_eq_true rfl) ?_
  exact f_V F dX6_init_4 ⟨rfl, rfl⟩ (Nat.le_of_ble_eq_true rfl) (Nat.le_of_ble_eq_true rfl)
set_option maxRecDepth 20000 in
theorem cA_init {G : GT} {l : Launch} (hfl : l.stackTraces = false) {S : ST} {A : AB} (hl4 : lv1 A 4 0) : CT G l yX4_init cX4_init 1 none (rmk 3 0 0 70) S A [vR A 4 0] (oV fun S' A' => S = S' ∧ A = A') (noX) := by
  refine ct_ofN (own := RX4) (mn := "<init>") rfl rfl (by decide) hfl (lv0 := [some (vR A 4 0)]) (ent_1 (cat_R _ _ _) ent_0) rfl ?_
  intro J X C F FX FT FU hW hA
  refine r_aload_n C dX4_init_0 lg_0 ?_
  refine q_N0V C (cV4_init0 hfl hl4) dX4_init_1 lk_X4_1 (by omega) ⟨Nat.le_of_ble_eq_true rfl, Nat.le_of_ble_eq_true rfl⟩ (catLe (Nat.le_of_ble_eq_true rfl)) ⟨rfl, rfl⟩ rfl (Nat.le_of_ble_eq_true rfl) (Nat.le_of_ble_eq_true rfl) (fun S1 A1 p1 => ?_)
  obtain ⟨rfl, rfl⟩ := p1
  exact f_V F dX4_init_4 ⟨rfl, rfl⟩ (Nat.le_of_ble_eq_true rfl) (Nat.le_of_ble_eq_true rfl)
set_option maxRecDepth 20000 in
theorem cB_init {G : GT} {l : Launch} (hfl : l.stackTraces = false) {S : ST} {A : AB} (hl6 : lv1 A 6 0) (hfr : A.2 8 = 0 ∧ A.2 9 = 0 ∧ A.2 2 = 0 ∧ A.2 0 = 0 ∧ A.2 4 = 0 ∧ A.2 3 = 0 ∧ A.2 1 = 0) (h197 : S 197 0 = 0) : CT G l yX7_init cX7_init 2 none (rmk 4 5 81 90) S A [vR A 6 0] (oV fun S' A' => (∀ R : RW, R.n = 0 → CK R S' A') ∧ AE A A' ∧ S' 198 0 = -1 ∧ (∀ j, 0 ≤ j → j < 6 → S' 288 j = 1) ∧ (∀ c z, c / 32 ∉ [6, 9, 4, 0, 2, 8] → S' c z = S c z) ∧ (∀ k, k ∉ [9, 4, 0, 2, 8] → A'.2 k = A.2 k)) (noX) := by
  refine ct_ofN (own := RX7) (mn := "<init>") rfl rfl (by decide) hfl (lv0 := [some (vR A 6 0), none]) (ent_1 (cat_R _ _ _) (ent_n ent_0)) rfl ?_
  intro J X C F FX FT FU hW hA
  have lp : ∀ (N : Nat) (i : Int) (S9 S1 : ST) (A1 : AB) (h1 : 0 ≤ i) (h2 : i ≤ 6) (hCI : CI A S [9, 4, 0, 2, 8] S9 A1) (hx : S9 192 0 = 0 ∧ S9 193 0 = 0 ∧ S9 194 0 = 0 ∧ S9 195 0 = 0 ∧ S9 196 0 = 0 ∧ S9 197 0 = 0) (hF : Fr [288] S9 S1) (hw : ∀ j, 0 ≤ j → j < i → S1 288 j = 1) (hN : 6 - i < N), J 56 [some (vR A1 6 0), some (vI i)] [] S1 A1 (0 + 1 + 1 + 1 + 1 + 1) (0 + 60 + 2 + 7 + 6 + 6) := by
    intro N
    induction N with
    | zero => intro i S9 S1 A1 h1 h2 hCI hx hF hw hN; omega
    | succ N ih =>
      intro i S9 S1 A1 h1 h2 hCI hx hF hw hN
      have l6 := hCI.1
      have x196 : S1 196 0 = 0 := (hF 196 0 (by decide)).trans hx.2.2.2.2.1
      have l9 : lv1 A1 9 (S1 196 0) := by
        rw [x196]
        exact ⟨Int.le_refl _, by rw [hCI.2.2.2.1 9 (by decide)]; decide⟩
      refine r_iload_n C dX7_init_56 lg_1 ?_
      refine r_aload_n C dX7_init_57 lg_0 ?_
      refine r_getA C 196 9 dX7_init_58 fg_X7_36_6 rfl rfl l6 (fun g58 => ?_)
      refine r_alen C (N := 6) dX7_init_61 (by decide) rfl (by decide) l9 ?_
      refine r_icge C (tgt := 78) dX7_init_62 (by decide) (by omega) (by omega) (fun c62 => ?_) (fun c62 => ?_)
      · refine r_aload_n C dX7_init_78 lg_0 ?_
        refine r_iconst C dX7_init_79 ?_
        refine r_putI C 198 dX7_init_80 fg_X7_40_6 rfl rfl l6 (fun q h => by cases h; exact Or.inl rfl) (by omega) ?_
        refine r_gS (fun S80 h80 => ?_)
        exact f_V F dX7_init_83 (by
          have hcx : ∀ c z, c ≠ 288 → c ≠ 198 → S80 c z = S9 c z := fun c z a b => by
            rw [h80, upS_c _ _ b]
            exact hF c z (by simp only [List.mem_cons, List.not_mem_nil, or_false]; exact a)
          obtain ⟨a1, a2, a3, a4, a5, a6⟩ := hCI
          have lk : ∀ k, k ∈ [9, 4, 0, 2, 8] → lv1 A1 k 0 := fun k hk => ⟨Int.le_refl _, by rw [a4 k hk]; decide⟩
          refine ⟨fun R hR0 => ⟨⟨a1, lk 2 (by decide), lk 0 (by decide), lk 4 (by decide), lk 8 (by decide), lk 9 (by decide)⟩, ⟨?_, ?_, ?_, ?_, ?_⟩, ⟨?_, ?_, ?_⟩, fun j j0 j1 => ?_, fun m m0 m1 => by omega, ?_, ?_⟩, a2, ?_, fun j j0 j1 => ?_, fun c z hc => ?_, a3⟩
          · rw [hcx 192 0 (by decide) (by decide)]; exact hx.1
          · rw [hcx 193 0 (by decide) (by decide)]; exact hx.2.1
          · rw [hcx 194 0 (by decide) (by decide)]; exact hx.2.2.1
          · rw [hcx 195 0 (by decide) (by decide)]; exact hx.2.2.2.1
          · rw [hcx 196 0 (by decide) (by decide)]; exact hx.2.2.2.2.1
          · rw [hcx 197 0 (by decide) (by decide), hR0]; exact hx.2.2.2.2.2
          · rw [a3 3 (by decide), hR0]; exact hfr.2.2.2.2.2.1
          · rw [a3 1 (by decide), hR0]; exact hfr.2.2.2.2.2.2
          · rw [hcx 256 j (by decide) (by decide), if_neg (by omega), a6 256 j (by decide) (Or.inl (by decide))]; rfl
          · have e : LdR R = [] := by
              show led R.dy R.gn R.n.toNat = []
              rw [hR0]; rfl
            rw [e, hcx 64 0 (by decide) (by decide), a6 64 0 (by decide) (Or.inr rfl)]; rfl
          · have e : LdR R = [] := by
              show led R.dy R.gn R.n.toNat = []
              rw [hR0]; rfl
            rw [e, hcx 65 0 (by decide) (by decide), a6 65 0 (by decide) (Or.inr rfl)]; rfl
          · rw [h80, upS_self]
          · rw [h80, upS_c _ _ (by decide)]; exact hw j j0 (by omega)
          · have h6 : c / 32 ≠ 6 := fun e => hc (by rw [e]; decide)
            have h9 : c / 32 ∉ [9, 4, 0, 2, 8] := fun e => hc (List.mem_cons_of_mem _ e)
            have h288 : c ≠ 288 := fun e => h9 (by rw [e]; decide)
            have h198 : c ≠ 198 := fun e => h6 (by rw [e])
            rw [hcx c z h288 h198]; exact a5 c z h6 h9) (Nat.le_of_ble_eq_true rfl) (Nat.le_of_ble_eq_true rfl)
      · refine r_aload_n C dX7_init_65 lg_0 ?_
        refine r_getA C 196 9 dX7_init_66 fg_X7_36_6 rfl rfl l6 (fun g66 => ?_)
        refine r_iload_n C dX7_init_69 lg_1 ?_
        refine r_iconst C dX7_init_70 ?_
        refine r_iast C (N := 6) 288 dX7_init_71 (by decide) rfl rfl l9 (by omega) (by omega) (by omega) (by omega) ?_
        refine r_iinc C dX7_init_72 lg_1 (ls1_1 rfl (cat_R _ _ _)) ?_
        refine r_goto C (tgt := 56) dX7_init_75 (by decide) ?_
        refine ih (i + 1) S9 _ A1 (by omega) (by omega) hCI hx (hF.tr (Fr.up (by decide))) (fun j j0 j1 => ?_) (by omega)
        by_cases e : j = i
        · rw [e, upS_self]
        · rw [upS_z _ _ e]; exact hw j j0 (by omega)
  have hCI : CI A S [] S A := ⟨hl6, AE.rf, fun _ _ => rfl, (fun k hk => by cases hk), (fun c z _ _ => rfl), (fun c z hc _ => by cases hc)⟩
  have x197 := h197
  refine r_aload_n C dX7_init_0 lg_0 ?_
  refine r_obj C dX7_init_1 lk_X7_1 (by omega) wObj2 wObj3 (Nat.le_of_ble_eq_true rfl) (Nat.le_of_ble_eq_true rfl) ?_
  refine r_aload_n C dX7_init_4 lg_0 ?_
  refine r_bipush C dX7_init_5 (by decide) ?_
  refine r_newref C (kd := 8) (N := 60) dX7_init_7 (by decide) (by rw [hCI.2.2.1 8 (by decide)]; exact hfr.1) rfl (by decide) nw_X7_9a (Nat.le_of_ble_eq_true rfl) (Nat.le_of_ble_eq_true rfl) (fun q7 => ?_)
  have e7 : _ = (0 : Int) := (hCI.2.2.1 8 (by decide)).trans hfr.1
  refine r_gA1 e7 (fun A7 S7 hE7 h17 h27 hs7 hd7 => ?_)
  rw [← (hE7 6 0 hCI.1.2).1]
  have l67 : lv1 A7 6 0 := ⟨Int.le_refl _, (hE7 6 0 hCI.1.2).2⟩
  have ln7 : lv1 A7 8 0 := ⟨Int.le_refl _, by omega⟩
  have hCI := hCI.step (kd := 8) (c0 := 192) (v := 0) (by decide) (by decide) (by decide) (by decide) hE7 h17 h27 hs7 hd7
  have x197 := (hs7 197 0 (by decide)).trans x197
  refine r_putA C 192 8 dX7_init_10 fg_X7_11_6 rfl rfl l67 (fun q h => by cases h; exact Or.inr ⟨rfl, rfl, rfl⟩) (by omega) (by omega) ?_
  refine r_gS (fun S10 h10 => ?_)
  rw [← h10] at hCI
  have x197 := (congrFun (congrFun h10 197) 0).trans ((upS_c _ _ (by decide)).trans x197)
  have x192 := (congrFun (congrFun h10 192) 0).trans (upS_self _ _ _ _)
  refine r_aload_n C dX7_init_13 lg_0 ?_
  refine r_new C dX7_init_14 (kd := 2) (N := 2) rfl nw_X7_15.1 nw_X7_15.2.1 nw_X7_15.2.2 (Nat.le_of_ble_eq_true rfl) (Nat.le_of_ble_eq_true rfl) (fun q14 => ?_)
  have e14 : _ = (0 : Int) := (hCI.2.2.1 2 (by decide)).trans hfr.2.2.1
  rw [e14]
  refine r_gA1 e14 (fun A14 S14 hE14 h114 h214 hs14 hd14 => ?_)
  rw [← (hE14 6 0 hCI.1.2).1]
  have l614 : lv1 A14 6 0 := ⟨Int.le_refl _, (hE14 6 0 hCI.1.2).2⟩
  have ln14 : lv1 A14 2 0 := ⟨Int.le_refl _, by omega⟩
  have hCI := hCI.step (kd := 2) (c0 := 193) (v := 0) (by decide) (by decide) (by decide) (by decide) hE14 h114 h214 hs14 hd14
  have x197 := (hs14 197 0 (by decide)).trans x197
  have x192 := (hs14 192 0 (by decide)).trans x192
  refine r_dup C dX7_init_17 (cat_R _ _ _) ?_
  refine q_N0V C (cG_init hfl (by assumption)) dX7_init_18 lk_X7_17 (by omega) ⟨Nat.le_of_ble_eq_true rfl, Nat.le_of_ble_eq_true rfl⟩ (catLe (Nat.le_of_ble_eq_true rfl)) ⟨rfl, rfl⟩ rfl (Nat.le_of_ble_eq_true rfl) (Nat.le_of_ble_eq_true rfl) (fun S18 A18 p18 => ?_)
  obtain ⟨rfl, rfl⟩ := p18
  refine r_putA C 193 2 dX7_init_21 fg_X7_18_6 rfl rfl l614 (fun q h => by cases h; exact Or.inr ⟨rfl, rfl, rfl⟩) (by omega) (by omega) ?_
  refine r_gS (fun S21 h21 => ?_)
  rw [← h21] at hCI
  have x197 := (congrFun (congrFun h21 197) 0).trans ((upS_c _ _ (by decide)).trans x197)
  have x192 := (congrFun (congrFun h21 192) 0).trans ((upS_c _ _ (by decide)).trans x192)
  have x193 := (congrFun (congrFun h21 193) 0).trans (upS_self _ _ _ _)
  refine r_aload_n C dX7_init_24 lg_0 ?_
  refine r_new C dX7_init_25 (kd := 0) (N := 7) rfl nw_X7_22.1 nw_X7_22.2.1 nw_X7_22.2.2 (Nat.le_of_ble_eq_true rfl) (Nat.le_of_ble_eq_true rfl) (fun q25 => ?_)
  have e25 : _ = (0 : Int) := (hCI.2.2.1 0 (by decide)).trans hfr.2.2.2.1
  rw [e25]
  refine r_gA1 e25 (fun A25 S25 hE25 h125 h225 hs25 hd25 => ?_)
  rw [← (hE25 6 0 hCI.1.2).1]
  have l625 : lv1 A25 6 0 := ⟨Int.le_refl _, (hE25 6 0 hCI.1.2).2⟩
  have ln25 : lv1 A25 0 0 := ⟨Int.le_refl _, by omega⟩
  have hCI := hCI.step (kd := 0) (c0 := 194) (v := 0) (by decide) (by decide) (by decide) (by decide) hE25 h125 h225 hs25 hd25
  have x197 := (hs25 197 0 (by decide)).trans x197
  have x192 := (hs25 192 0 (by decide)).trans x192
  have x193 := (hs25 193 0 (by decide)).trans x193
  refine r_dup C dX7_init_28 (cat_R _ _ _) ?_
  refine q_N0V C (cF_init hfl (by assumption)) dX7_init_29 lk_X7_24 (by omega) ⟨Nat.le_of_ble_eq_true rfl, Nat.le_of_ble_eq_true rfl⟩ (catLe (Nat.le_of_ble_eq_true rfl)) ⟨rfl, rfl⟩ rfl (Nat.le_of_ble_eq_true rfl) (Nat.le_of_ble_eq_true rfl) (fun S29 A29 p29 => ?_)
  obtain ⟨rfl, rfl⟩ := p29
  refine r_putA C 194 0 dX7_init_32 fg_X7_25_6 rfl rfl l625 (fun q h => by cases h; exact Or.inr ⟨rfl, rfl, rfl⟩) (by omega) (by omega) ?_
  refine r_gS (fun S32 h32 => ?_)
  rw [← h32] at hCI
  have x197 := (congrFun (congrFun h32 197) 0).trans ((upS_c _ _ (by decide)).trans x197)
  have x192 := (congrFun (congrFun h32 192) 0).trans ((upS_c _ _ (by decide)).trans x192)
  have x193 := (congrFun (congrFun h32 193) 0).trans ((upS_c _ _ (by decide)).trans x193)
  have x194 := (congrFun (congrFun h32 194) 0).trans (upS_self _ _ _ _)
  refine r_aload_n C dX7_init_35 lg_0 ?_
  refine r_new C dX7_init_36 (kd := 4) (N := 6) rfl nw_X7_29.1 nw_X7_29.2.1 nw_X7_29.2.2 (Nat.le_of_ble_eq_true rfl) (Nat.le_of_ble_eq_true rfl) (fun q36 => ?_)
  have e36 : _ = (0 : Int) := (hCI.2.2.1 4 (by decide)).trans hfr.2.2.2.2.1
  rw [e36]
  refine r_gA1 e36 (fun A36 S36 hE36 h136 h236 hs36 hd36 => ?_)
  rw [← (hE36 6 0 hCI.1.2).1]
  have l636 : lv1 A36 6 0 := ⟨Int.le_refl _, (hE36 6 0 hCI.1.2).2⟩
  have ln36 : lv1 A36 4 0 := ⟨Int.le_refl _, by omega⟩
  have hCI := hCI.step (kd := 4) (c0 := 195) (v := 0) (by decide) (by decide) (by decide) (by decide) hE36 h136 h236 hs36 hd36
  have x197 := (hs36 197 0 (by decide)).trans x197
  have x192 := (hs36 192 0 (by decide)).trans x192
  have x193 := (hs36 193 0 (by decide)).trans x193
  have x194 := (hs36 194 0 (by decide)).trans x194
  refine r_dup C dX7_init_39 (cat_R _ _ _) ?_
  refine q_N0V C (cA_init hfl (by assumption)) dX7_init_40 lk_X7_31 (by omega) ⟨Nat.le_of_ble_eq_true rfl, Nat.le_of_ble_eq_true rfl⟩ (catLe (Nat.le_of_ble_eq_true rfl)) ⟨rfl, rfl⟩ rfl (Nat.le_of_ble_eq_true rfl) (Nat.le_of_ble_eq_true rfl) (fun S40 A40 p40 => ?_)
  obtain ⟨rfl, rfl⟩ := p40
  refine r_putA C 195 4 dX7_init_43 fg_X7_32_6 rfl rfl l636 (fun q h => by cases h; exact Or.inr ⟨rfl, rfl, rfl⟩) (by omega) (by omega) ?_
  refine r_gS (fun S43 h43 => ?_)
  rw [← h43] at hCI
  have x197 := (congrFun (congrFun h43 197) 0).trans ((upS_c _ _ (by decide)).trans x197)
  have x192 := (congrFun (congrFun h43 192) 0).trans ((upS_c _ _ (by decide)).trans x192)
  have x193 := (congrFun (congrFun h43 193) 0).trans ((upS_c _ _ (by decide)).trans x193)
  have x194 := (congrFun (congrFun h43 194) 0).trans ((upS_c _ _ (by decide)).trans x194)
  have x195 := (congrFun (congrFun h43 195) 0).trans (upS_self _ _ _ _)
  refine r_aload_n C dX7_init_46 lg_0 ?_
  refine r_bipush C dX7_init_47 (by decide) ?_
  refine r_newarr C (kd := 9) (N := 6) dX7_init_49 (by decide) (by rw [hCI.2.2.1 9 (by decide)]; exact hfr.2.1) rfl (by decide) (by decide) wArr_int (Nat.le_of_ble_eq_true rfl) (Nat.le_of_ble_eq_true rfl) (fun q49 => ?_)
  have e49 : _ = (0 : Int) := (hCI.2.2.1 9 (by decide)).trans hfr.2.1
  refine r_gA1 e49 (fun A49 S49 hE49 h149 h249 hs49 hd49 => ?_)
  rw [← (hE49 6 0 hCI.1.2).1]
  have l649 : lv1 A49 6 0 := ⟨Int.le_refl _, (hE49 6 0 hCI.1.2).2⟩
  have ln49 : lv1 A49 9 0 := ⟨Int.le_refl _, by omega⟩
  have hCI := hCI.step (kd := 9) (c0 := 196) (v := 0) (by decide) (by decide) (by decide) (by decide) hE49 h149 h249 hs49 hd49
  have x197 := (hs49 197 0 (by decide)).trans x197
  have x192 := (hs49 192 0 (by decide)).trans x192
  have x193 := (hs49 193 0 (by decide)).trans x193
  have x194 := (hs49 194 0 (by decide)).trans x194
  have x195 := (hs49 195 0 (by decide)).trans x195
  refine r_putA C 196 9 dX7_init_51 fg_X7_36_6 rfl rfl l649 (fun q h => by cases h; exact Or.inr ⟨rfl, rfl, rfl⟩) (by omega) (by omega) ?_
  refine r_gS (fun S51 h51 => ?_)
  rw [← h51] at hCI
  have x197 := (congrFun (congrFun h51 197) 0).trans ((upS_c _ _ (by decide)).trans x197)
  have x192 := (congrFun (congrFun h51 192) 0).trans ((upS_c _ _ (by decide)).trans x192)
  have x193 := (congrFun (congrFun h51 193) 0).trans ((upS_c _ _ (by decide)).trans x193)
  have x194 := (congrFun (congrFun h51 194) 0).trans ((upS_c _ _ (by decide)).trans x194)
  have x195 := (congrFun (congrFun h51 195) 0).trans ((upS_c _ _ (by decide)).trans x195)
  have x196 := (congrFun (congrFun h51 196) 0).trans (upS_self _ _ _ _)
  refine r_iconst C dX7_init_54 ?_
  refine r_istore_n C dX7_init_55 (ls1_1 rfl (cat_R _ _ _)) ?_
  exact lp 7 0 S51 S51 A49 (by omega) (by omega) hCI ⟨x192, x193, x194, x195, x196, x197⟩ Fr.rf (fun j j0 j1 => by omega) (by omega)
