/-! making things: old addresses stay -/
def AE (A A' : AB) : Prop := ∀ (k : Nat) (z : Int), z < A.2 k → vR A' k z = vR A k z ∧ z < A'.2 k
theorem AE.rf {A : AB} : AE A A := fun _ _ h => ⟨rfl, h⟩
theorem AE.tr {A B C : AB} (h : AE A B) (h' : AE B C) : AE A C := fun k z q => ⟨(h' k z (h k z q).2).1.trans (h k z q).1, (h' k z (h k z q).2).2⟩
theorem r_gAS {J : JT} {pc : Nat} {lv : List (Option Value)} {st : List Value} {S : ST} {A : AB} {k n kd q : Nat} {z0 : Int} (h : ∀ (A' : AB) (S' : ST), AE A A' → A'.2 kd = A.2 kd + 1 → (∀ k', k' ≠ kd → A'.2 k' = A.2 k') → (∀ c z, (c / 32 ≠ kd ∨ (kd < 8 ∧ z ≠ A.2 kd)) → S' c z = S c z) → (∀ c z, c / 32 = kd → (8 ≤ kd ∨ z = A.2 kd) → S' c z = dfl (tyC c)) → J pc lv (vR A' kd z0 :: st) S' A' k n) : J pc lv (vR (nwA A kd q) kd z0 :: st) (nwS S kd (A.2 kd)) (nwA A kd q) k n := by
  refine h _ _ (fun k' z hz => ⟨vR_nw hz, Int.lt_of_lt_of_le hz nwA_ge⟩) nwA_2 (fun k' hk => nwA_2n hk) (fun c z hc => ?_) (fun c z hc hz => ?_)
  · unfold nwS
    rw [if_neg]
    rintro ⟨h1, h2⟩
    rcases hc with hc | ⟨h3, h4⟩
    · exact hc h1
    · exact h4 (h2 h3)
  · unfold nwS
    have h9 : c / 32 = kd ∧ (kd < 8 → z = A.2 kd) := ⟨hc, fun h8 => by
      rcases hz with hz | hz
      · omega
      · exact hz⟩
    rw [if_pos h9]
theorem r_gA0 {J : JT} {pc : Nat} {lv : List (Option Value)} {st : List Value} {S : ST} {A : AB} {k n kd q : Nat} (h0 : A.2 kd = 0) (h : ∀ (A' : AB) (S' : ST), AE A A' → A'.2 kd = 1 → (∀ k', k' ≠ kd → A'.2 k' = A.2 k') → (∀ c z, c / 32 ≠ kd → S' c z = S c z) → (8 ≤ kd → ∀ c z, c / 32 = kd → S' c z = dfl (tyC c)) → J pc lv (vR A' kd 0 :: st) S' A' k n) : J pc lv (vR (nwA A kd q) kd 0 :: st) (nwS S kd 0) (nwA A kd q) k n := by
  have h9 := r_gAS (J := J) (pc := pc) (lv := lv) (st := st) (S := S) (A := A) (k := k) (n := n) (kd := kd) (q := q) (z0 := 0) (fun A' S' a b c d e => h A' S' a (by omega) c (fun c' z' q' => d c' z' (Or.inl q')) (fun h8 c' z' q' => e c' z' q' (Or.inl h8)))
  rw [h0] at h9
  exact h9
/-- the reference under its making: these arrays are made -/
def MI (A0 : AB) (S0 : ST) (js : List Nat) (S : ST) (A : AB) : Prop := lv1 A 7 0 ∧ AE A0 A ∧ (∀ k, k ∉ js.map (fun j => 10 + j) → A.2 k = A0.2 k) ∧ (∀ j ∈ js, A.2 (10 + j) = 1 ∧ S (224 + j) 0 = 0) ∧ (∀ c z, c / 32 ≠ 7 → c / 32 ∉ js.map (fun j => 10 + j) → S c z = S0 c z) ∧ (∀ c z, c / 32 = 7 → c - 224 ∉ js → c ≠ 233 → S c z = S0 c z)
theorem MI.step {A0 : AB} {S0 : ST} {js : List Nat} {S S' : ST} {A A' : AB} (h : MI A0 S0 js S A) {j : Nat} (hj : j ∉ js) (hj2 : j < 26) (hjs : ∀ i ∈ js, i < 26) (hE : AE A A') (h1 : A'.2 (10 + j) = 1) (h2 : ∀ k', k' ≠ 10 + j → A'.2 k' = A.2 k') (hs : ∀ c z, c / 32 ≠ 10 + j → S' c z = S c z) : MI A0 S0 (j :: js) (upS S' (224 + j) 0 0) A' := by
  obtain ⟨a1, a2, a3, a4, a5, a6⟩ := h
  refine ⟨⟨Int.le_refl _, by rw [h2 7 (by omega)]; exact a1.2⟩, a2.tr hE, fun k hk => ?_, fun i hi => ?_, fun c z hc hc2 => ?_, fun c z hc hc2 hc3 => ?_⟩
  · rw [h2 k (fun e => hk (by rw [e]; exact List.mem_cons_self))]
    exact a3 k (fun q => hk (List.mem_cons_of_mem _ q))
  · rcases List.mem_cons.mp hi with rfl | hi
    · exact ⟨h1, upS_self _ _ _ _⟩
    · have hne : i ≠ j := fun e => hj (e ▸ hi)
      have h9 := a4 i hi
      have h7 := hjs i hi
      have h8 : (224 + i) / 32 ≠ 10 + j := by omega
      exact ⟨by rw [h2 _ (by omega)]; exact h9.1, by rw [upS_c _ _ (by omega), hs _ _ h8]; exact h9.2⟩
  · rw [upS_c _ _ (by omega), hs c z (fun e => hc2 (by rw [e]; exact List.mem_cons_self))]
    exact a5 c z hc (fun q => hc2 (List.mem_cons_of_mem _ q))
  · have h9 : c ≠ 224 + j := fun e => hc2 (by rw [e, show 224 + j - 224 = j by omega]; exact List.mem_cons_self)
    rw [upS_c _ _ h9, hs c z (by omega)]
    exact a6 c z hc (fun q => hc2 (List.mem_cons_of_mem _ q)) hc3
theorem MI.c233 {A0 : AB} {S0 : ST} {js : List Nat} {S : ST} {A : AB} (h : MI A0 S0 js S A) (h9 : 9 ∉ js) (v : Int) : MI A0 S0 js (upS S 233 0 v) A := by
  obtain ⟨a1, a2, a3, a4, a5, a6⟩ := h
  refine ⟨a1, a2, a3, fun j hj => ⟨(a4 j hj).1, ?_⟩, fun c z hc hc2 => ?_, fun c z hc hc2 hc3 => ?_⟩
  · rw [upS_c _ _ (fun e => h9 (by rw [show 9 = j by omega]; exact hj))]; exact (a4 j hj).2
  · rw [upS_c _ _ (by omega)]; exact a5 c z hc hc2
  · rw [upS_c _ _ hc3]; exact a6 c z hc hc2 hc3
set_option maxRecDepth 20000 in
theorem cM_init {G : GT} {l : Launch} (hfl : l.stackTraces = false) {S : ST} {A : AB} (hl7 : lv1 A 7 0) (hfr : ∀ j ∈ mArr, A.2 (10 + j) = 0) : CT G l yX8_init cX8_init 2 none (rmk 1 18 4452 30) S A [vR A 7 0] (oV fun S' A' => (∃ S9, MI A S [24, 23, 22, 21, 19, 18, 17, 16, 11, 10, 7, 6, 5, 4, 3, 2, 1, 0] S9 A' ∧ S9 233 0 = -1 ∧ Fr [640] S9 S') ∧ ∀ j, 0 ≤ j → j < 6 → S' 640 j = 1) (noX) := by
  refine ct_ofN (own := RX8) (mn := "<init>") rfl rfl (by decide) hfl (lv0 := [some (vR A 7 0), none]) (ent_1 (cat_R _ _ _) (ent_n ent_0)) rfl ?_
  intro J X C F FX FT FU hW hA
  have lp : ∀ (N : Nat) (i : Int) (S1 : ST) (A1 : AB) (h1 : 0 ≤ i) (h2 : i ≤ 6) (hMI : ∃ S9, MI A S [24, 23, 22, 21, 19, 18, 17, 16, 11, 10, 7, 6, 5, 4, 3, 2, 1, 0] S9 A1 ∧ S9 233 0 = -1 ∧ Fr [640] S9 S1) (hw : ∀ j, 0 ≤ j → j < i → S1 640 j = 1) (hN : 6 - i < N), J 153 [some (vR A1 7 0), some (vI i)] [] S1 A1 18 (60 + 60 + 60 + 60 + 60 + 60 + 60 + 3600 + 6 + 60 + 2 + 2 + 2 + 120 + 60 + 60 + 60 + 60) := by
    intro N
    induction N with
    | zero => intro i S1 A1 h1 h2 hMI hw hN; omega
    | succ N ih =>
      intro i S1 A1 h1 h2 hMI hw hN
      obtain ⟨S9, hM9, h233, hF⟩ := hMI
      have hl7 := hM9.1
      have hw10 : lv1 A1 20 (S1 234 0) := by
        have h9 : A1.2 20 = 1 ∧ S9 234 0 = 0 := hM9.2.2.2.1 10 (by decide)
        rw [hF 234 0 (by decide)]
        exact ⟨by have := h9.2; omega, by have := h9.2; have := h9.1; omega⟩
      refine r_iload_n C dX8_init_153 lg_1 ?_
      refine r_bipush C dX8_init_154 (by decide) ?_
      refine r_icge C (tgt := 172) dX8_init_156 (by decide) (by omega) (by omega) (fun c156 => ?_) (fun c156 => ?_)
      · exact f_V F dX8_init_172 ⟨⟨S9, hM9, h233, hF⟩, fun j j0 j1 => hw j j0 (by omega)⟩ (Nat.le_of_ble_eq_true rfl) (Nat.le_of_ble_eq_true rfl)
      · refine r_aload_n C dX8_init_159 lg_0 ?_
        refine r_getA C 234 20 dX8_init_160 fg_X8_40_7 rfl rfl hl7 (fun g160 => ?_)
        refine r_iload_n C dX8_init_163 lg_1 ?_
        refine r_iconst C dX8_init_164 ?_
        refine r_iast C (N := 6) 640 dX8_init_165 (by decide) rfl rfl hw10 (by omega) (by omega) (by omega) (by omega) ?_
        refine r_iinc C dX8_init_166 lg_1 (ls1_1 rfl (cat_R _ _ _)) ?_
        refine r_goto C (tgt := 153) dX8_init_169 (by decide) ?_
        refine ih (i + 1) _ A1 (by omega) (by omega) ⟨S9, hM9, h233, hF.tr (Fr.up (by decide))⟩ (fun j j0 j1 => ?_) (by omega)
        by_cases e : j = i
        · rw [e, upS_self]
        · rw [upS_z _ _ e]; exact hw j j0 (by omega)
  have hMI : MI A S [] S A := ⟨hl7, AE.rf, fun k _ => rfl, (fun j hj => by simp at hj), fun c z _ _ => rfl, fun c z _ _ _ => rfl⟩
  have hg := hMI
  refine r_aload_n C dX8_init_0 lg_0 ?_
  refine r_obj C dX8_init_1 lk_X8_1 (by omega) wObj2 wObj3 (Nat.le_of_ble_eq_true rfl) (Nat.le_of_ble_eq_true rfl) ?_
  refine r_aload_n C dX8_init_4 lg_0 ?_
  refine r_bipush C dX8_init_5 (by decide) ?_
  refine r_newarr C (kd := 10) (N := 60) dX8_init_7 (by decide) (by rw [hMI.2.2.1 10 (by decide)]; exact hfr 0 (by decide)) rfl (by decide) (by decide) wArr_int (Nat.le_of_ble_eq_true rfl) (Nat.le_of_ble_eq_true rfl) (fun q7 => ?_)
  refine r_gA0 (by rw [hMI.2.2.1 10 (by decide)]; exact hfr 0 (by decide)) (fun A7 S7 hE7 h17 h27 hs7 hd7 => ?_)
  rw [← (hE7 7 0 hMI.1.2).1]
  have hMI := hMI.step (j := 0) (by decide) (by decide) (by decide) hE7 h17 h27 hs7
  refine r_putA C 224 10 dX8_init_9 fg_X8_7_7 rfl rfl hMI.1 (fun q h => by cases h; exact Or.inr ⟨rfl, rfl, rfl⟩) (by omega) (by have := h17; omega) ?_
  refine r_gS (fun S9 h9 => ?_)
  rw [show (224 + 0) = 224 from rfl, ← h9] at hMI
  refine r_aload_n C dX8_init_12 lg_0 ?_
  refine r_bipush C dX8_init_13 (by decide) ?_
  refine r_newarr C (kd := 11) (N := 60) dX8_init_15 (by decide) (by rw [hMI.2.2.1 11 (by decide)]; exact hfr 1 (by decide)) rfl (by decide) (by decide) wArr_int (Nat.le_of_ble_eq_true rfl) (Nat.le_of_ble_eq_true rfl) (fun q15 => ?_)
  refine r_gA0 (by rw [hMI.2.2.1 11 (by decide)]; exact hfr 1 (by decide)) (fun A15 S15 hE15 h115 h215 hs15 hd15 => ?_)
  rw [← (hE15 7 0 hMI.1.2).1]
  have hMI := hMI.step (j := 1) (by decide) (by decide) (by decide) hE15 h115 h215 hs15
  refine r_putA C 225 11 dX8_init_17 fg_X8_13_7 rfl rfl hMI.1 (fun q h => by cases h; exact Or.inr ⟨rfl, rfl, rfl⟩) (by omega) (by have := h115; omega) ?_
  refine r_gS (fun S17 h17 => ?_)
  rw [show (224 + 1) = 225 from rfl, ← h17] at hMI
  refine r_aload_n C dX8_init_20 lg_0 ?_
  refine r_bipush C dX8_init_21 (by decide) ?_
  refine r_newarr C (kd := 12) (N := 60) dX8_init_23 (by decide) (by rw [hMI.2.2.1 12 (by decide)]; exact hfr 2 (by decide)) rfl (by decide) (by decide) wArr_int (Nat.le_of_ble_eq_true rfl) (Nat.le_of_ble_eq_true rfl) (fun q23 => ?_)
  refine r_gA0 (by rw [hMI.2.2.1 12 (by decide)]; exact hfr 2 (by decide)) (fun A23 S23 hE23 h123 h223 hs23 hd23 => ?_)
  rw [← (hE23 7 0 hMI.1.2).1]
  have hMI := hMI.step (j := 2) (by decide) (by decide) (by decide) hE23 h123 h223 hs23
  refine r_putA C 226 12 dX8_init_25 fg_X8_16_7 rfl rfl hMI.1 (fun q h => by cases h; exact Or.inr ⟨rfl, rfl, rfl⟩) (by omega) (by have := h123; omega) ?_
  refine r_gS (fun S25 h25 => ?_)
  rw [show (224 + 2) = 226 from rfl, ← h25] at hMI
  refine r_aload_n C dX8_init_28 lg_0 ?_
  refine r_bipush C dX8_init_29 (by decide) ?_
  refine r_newarr C (kd := 13) (N := 60) dX8_init_31 (by decide) (by rw [hMI.2.2.1 13 (by decide)]; exact hfr 3 (by decide)) rfl (by decide) (by decide) wArr_int (Nat.le_of_ble_eq_true rfl) (Nat.le_of_ble_eq_true rfl) (fun q31 => ?_)
  refine r_gA0 (by rw [hMI.2.2.1 13 (by decide)]; exact hfr 3 (by decide)) (fun A31 S31 hE31 h131 h231 hs31 hd31 => ?_)
  rw [← (hE31 7 0 hMI.1.2).1]
  have hMI := hMI.step (j := 3) (by decide) (by decide) (by decide) hE31 h131 h231 hs31
  refine r_putA C 227 13 dX8_init_33 fg_X8_19_7 rfl rfl hMI.1 (fun q h => by cases h; exact Or.inr ⟨rfl, rfl, rfl⟩) (by omega) (by have := h131; omega) ?_
  refine r_gS (fun S33 h33 => ?_)
  rw [show (224 + 3) = 227 from rfl, ← h33] at hMI
  refine r_aload_n C dX8_init_36 lg_0 ?_
  refine r_bipush C dX8_init_37 (by decide) ?_
  refine r_newarr C (kd := 14) (N := 60) dX8_init_39 (by decide) (by rw [hMI.2.2.1 14 (by decide)]; exact hfr 4 (by decide)) rfl (by decide) (by decide) wArr_int (Nat.le_of_ble_eq_true rfl) (Nat.le_of_ble_eq_true rfl) (fun q39 => ?_)
  refine r_gA0 (by rw [hMI.2.2.1 14 (by decide)]; exact hfr 4 (by decide)) (fun A39 S39 hE39 h139 h239 hs39 hd39 => ?_)
  rw [← (hE39 7 0 hMI.1.2).1]
  have hMI := hMI.step (j := 4) (by decide) (by decide) (by decide) hE39 h139 h239 hs39
  refine r_putA C 228 14 dX8_init_41 fg_X8_22_7 rfl rfl hMI.1 (fun q h => by cases h; exact Or.inr ⟨rfl, rfl, rfl⟩) (by omega) (by have := h139; omega) ?_
  refine r_gS (fun S41 h41 => ?_)
  rw [show (224 + 4) = 228 from rfl, ← h41] at hMI
  refine r_aload_n C dX8_init_44 lg_0 ?_
  refine r_bipush C dX8_init_45 (by decide) ?_
  refine r_newarr C (kd := 15) (N := 60) dX8_init_47 (by decide) (by rw [hMI.2.2.1 15 (by decide)]; exact hfr 5 (by decide)) rfl (by decide) (by decide) wArr_boolean (Nat.le_of_ble_eq_true rfl) (Nat.le_of_ble_eq_true rfl) (fun q47 => ?_)
  refine r_gA0 (by rw [hMI.2.2.1 15 (by decide)]; exact hfr 5 (by decide)) (fun A47 S47 hE47 h147 h247 hs47 hd47 => ?_)
  rw [← (hE47 7 0 hMI.1.2).1]
  have hMI := hMI.step (j := 5) (by decide) (by decide) (by decide) hE47 h147 h247 hs47
  refine r_putA C 229 15 dX8_init_49 fg_X8_25_7 rfl rfl hMI.1 (fun q h => by cases h; exact Or.inr ⟨rfl, rfl, rfl⟩) (by omega) (by have := h147; omega) ?_
  refine r_gS (fun S49 h49 => ?_)
  rw [show (224 + 5) = 229 from rfl, ← h49] at hMI
  refine r_aload_n C dX8_init_52 lg_0 ?_
  refine r_bipush C dX8_init_53 (by decide) ?_
  refine r_newarr C (kd := 16) (N := 60) dX8_init_55 (by decide) (by rw [hMI.2.2.1 16 (by decide)]; exact hfr 6 (by decide)) rfl (by decide) (by decide) wArr_long (Nat.le_of_ble_eq_true rfl) (Nat.le_of_ble_eq_true rfl) (fun q55 => ?_)
  refine r_gA0 (by rw [hMI.2.2.1 16 (by decide)]; exact hfr 6 (by decide)) (fun A55 S55 hE55 h155 h255 hs55 hd55 => ?_)
  rw [← (hE55 7 0 hMI.1.2).1]
  have hMI := hMI.step (j := 6) (by decide) (by decide) (by decide) hE55 h155 h255 hs55
  refine r_putA C 230 16 dX8_init_57 fg_X8_29_7 rfl rfl hMI.1 (fun q h => by cases h; exact Or.inr ⟨rfl, rfl, rfl⟩) (by omega) (by have := h155; omega) ?_
  refine r_gS (fun S57 h57 => ?_)
  rw [show (224 + 6) = 230 from rfl, ← h57] at hMI
  refine r_aload_n C dX8_init_60 lg_0 ?_
  refine r_sipush C dX8_init_61 (by decide) ?_
  refine r_newarr C (kd := 17) (N := 3600) dX8_init_64 (by decide) (by rw [hMI.2.2.1 17 (by decide)]; exact hfr 7 (by decide)) rfl (by decide) (by decide) wArr_int (Nat.le_of_ble_eq_true rfl) (Nat.le_of_ble_eq_true rfl) (fun q64 => ?_)
  refine r_gA0 (by rw [hMI.2.2.1 17 (by decide)]; exact hfr 7 (by decide)) (fun A64 S64 hE64 h164 h264 hs64 hd64 => ?_)
  rw [← (hE64 7 0 hMI.1.2).1]
  have hMI := hMI.step (j := 7) (by decide) (by decide) (by decide) hE64 h164 h264 hs64
  refine r_putA C 231 17 dX8_init_66 fg_X8_33_7 rfl rfl hMI.1 (fun q h => by cases h; exact Or.inr ⟨rfl, rfl, rfl⟩) (by omega) (by have := h164; omega) ?_
  refine r_gS (fun S66 h66 => ?_)
  rw [show (224 + 7) = 231 from rfl, ← h66] at hMI
  refine r_aload_n C dX8_init_69 lg_0 ?_
  refine r_iconst C dX8_init_70 ?_
  refine r_putI C 233 dX8_init_71 fg_X8_36_7 rfl rfl hMI.1 (fun q h => by cases h; exact Or.inl rfl) (by omega) ?_
  refine r_gS (fun S71 h71 => ?_)
  have hMI := hMI.c233 (by decide) (-1)
  rw [← h71] at hMI
  have h233 := (congrFun (congrFun h71 233) 0).trans (upS_self _ _ _ _)
  refine r_aload_n C dX8_init_74 lg_0 ?_
  refine r_bipush C dX8_init_75 (by decide) ?_
  refine r_newarr C (kd := 20) (N := 6) dX8_init_77 (by decide) (by rw [hMI.2.2.1 20 (by decide)]; exact hfr 10 (by decide)) rfl (by decide) (by decide) wArr_int (Nat.le_of_ble_eq_true rfl) (Nat.le_of_ble_eq_true rfl) (fun q77 => ?_)
  refine r_gA0 (by rw [hMI.2.2.1 20 (by decide)]; exact hfr 10 (by decide)) (fun A77 S77 hE77 h177 h277 hs77 hd77 => ?_)
  rw [← (hE77 7 0 hMI.1.2).1]
  have hMI := hMI.step (j := 10) (by decide) (by decide) (by decide) hE77 h177 h277 hs77
  have h233 := (hs77 233 0 (by decide)).trans h233
  refine r_putA C 234 20 dX8_init_79 fg_X8_40_7 rfl rfl hMI.1 (fun q h => by cases h; exact Or.inr ⟨rfl, rfl, rfl⟩) (by omega) (by have := h177; omega) ?_
  refine r_gS (fun S79 h79 => ?_)
  rw [show (224 + 10) = 234 from rfl, ← h79] at hMI
  have h233 := (congrFun (congrFun h79 233) 0).trans ((upS_c _ _ (by decide)).trans h233)
  refine r_aload_n C dX8_init_82 lg_0 ?_
  refine r_bipush C dX8_init_83 (by decide) ?_
  refine r_newarr C (kd := 21) (N := 60) dX8_init_85 (by decide) (by rw [hMI.2.2.1 21 (by decide)]; exact hfr 11 (by decide)) rfl (by decide) (by decide) wArr_int (Nat.le_of_ble_eq_true rfl) (Nat.le_of_ble_eq_true rfl) (fun q85 => ?_)
  refine r_gA0 (by rw [hMI.2.2.1 21 (by decide)]; exact hfr 11 (by decide)) (fun A85 S85 hE85 h185 h285 hs85 hd85 => ?_)
  rw [← (hE85 7 0 hMI.1.2).1]
  have hMI := hMI.step (j := 11) (by decide) (by decide) (by decide) hE85 h185 h285 hs85
  have h233 := (hs85 233 0 (by decide)).trans h233
  refine r_putA C 235 21 dX8_init_87 fg_X8_43_7 rfl rfl hMI.1 (fun q h => by cases h; exact Or.inr ⟨rfl, rfl, rfl⟩) (by omega) (by have := h185; omega) ?_
  refine r_gS (fun S87 h87 => ?_)
  rw [show (224 + 11) = 235 from rfl, ← h87] at hMI
  have h233 := (congrFun (congrFun h87 233) 0).trans ((upS_c _ _ (by decide)).trans h233)
  refine r_aload_n C dX8_init_90 lg_0 ?_
  refine r_iconst C dX8_init_91 ?_
  refine r_newarr C (kd := 26) (N := 2) dX8_init_92 (by decide) (by rw [hMI.2.2.1 26 (by decide)]; exact hfr 16 (by decide)) rfl (by decide) (by decide) wArr_long (Nat.le_of_ble_eq_true rfl) (Nat.le_of_ble_eq_true rfl) (fun q92 => ?_)
  refine r_gA0 (by rw [hMI.2.2.1 26 (by decide)]; exact hfr 16 (by decide)) (fun A92 S92 hE92 h192 h292 hs92 hd92 => ?_)
  rw [← (hE92 7 0 hMI.1.2).1]
  have hMI := hMI.step (j := 16) (by decide) (by decide) (by decide) hE92 h192 h292 hs92
  have h233 := (hs92 233 0 (by decide)).trans h233
  refine r_putA C 240 26 dX8_init_94 fg_X8_46_7 rfl rfl hMI.1 (fun q h => by cases h; exact Or.inr ⟨rfl, rfl, rfl⟩) (by omega) (by have := h192; omega) ?_
  refine r_gS (fun S94 h94 => ?_)
  rw [show (224 + 16) = 240 from rfl, ← h94] at hMI
  have h233 := (congrFun (congrFun h94 233) 0).trans ((upS_c _ _ (by decide)).trans h233)
  refine r_aload_n C dX8_init_97 lg_0 ?_
  refine r_iconst C dX8_init_98 ?_
  refine r_newarr C (kd := 27) (N := 2) dX8_init_99 (by decide) (by rw [hMI.2.2.1 27 (by decide)]; exact hfr 17 (by decide)) rfl (by decide) (by decide) wArr_long (Nat.le_of_ble_eq_true rfl) (Nat.le_of_ble_eq_true rfl) (fun q99 => ?_)
  refine r_gA0 (by rw [hMI.2.2.1 27 (by decide)]; exact hfr 17 (by decide)) (fun A99 S99 hE99 h199 h299 hs99 hd99 => ?_)
  rw [← (hE99 7 0 hMI.1.2).1]
  have hMI := hMI.step (j := 17) (by decide) (by decide) (by decide) hE99 h199 h299 hs99
  have h233 := (hs99 233 0 (by decide)).trans h233
  refine r_putA C 241 27 dX8_init_101 fg_X8_49_7 rfl rfl hMI.1 (fun q h => by cases h; exact Or.inr ⟨rfl, rfl, rfl⟩) (by omega) (by have := h199; omega) ?_
  refine r_gS (fun S101 h101 => ?_)
  rw [show (224 + 17) = 241 from rfl, ← h101] at hMI
  have h233 := (congrFun (congrFun h101 233) 0).trans ((upS_c _ _ (by decide)).trans h233)
  refine r_aload_n C dX8_init_104 lg_0 ?_
  refine r_iconst C dX8_init_105 ?_
  refine r_newarr C (kd := 28) (N := 2) dX8_init_106 (by decide) (by rw [hMI.2.2.1 28 (by decide)]; exact hfr 18 (by decide)) rfl (by decide) (by decide) wArr_long (Nat.le_of_ble_eq_true rfl) (Nat.le_of_ble_eq_true rfl) (fun q106 => ?_)
  refine r_gA0 (by rw [hMI.2.2.1 28 (by decide)]; exact hfr 18 (by decide)) (fun A106 S106 hE106 h1106 h2106 hs106 hd106 => ?_)
  rw [← (hE106 7 0 hMI.1.2).1]
  have hMI := hMI.step (j := 18) (by decide) (by decide) (by decide) hE106 h1106 h2106 hs106
  have h233 := (hs106 233 0 (by decide)).trans h233
  refine r_putA C 242 28 dX8_init_108 fg_X8_52_7 rfl rfl hMI.1 (fun q h => by cases h; exact Or.inr ⟨rfl, rfl, rfl⟩) (by omega) (by have := h1106; omega) ?_
  refine r_gS (fun S108 h108 => ?_)
  rw [show (224 + 18) = 242 from rfl, ← h108] at hMI
  have h233 := (congrFun (congrFun h108 233) 0).trans ((upS_c _ _ (by decide)).trans h233)
  refine r_aload_n C dX8_init_111 lg_0 ?_
  refine r_bipush C dX8_init_112 (by decide) ?_
  refine r_newarr C (kd := 29) (N := 120) dX8_init_114 (by decide) (by rw [hMI.2.2.1 29 (by decide)]; exact hfr 19 (by decide)) rfl (by decide) (by decide) wArr_long (Nat.le_of_ble_eq_true rfl) (Nat.le_of_ble_eq_true rfl) (fun q114 => ?_)
  refine r_gA0 (by rw [hMI.2.2.1 29 (by decide)]; exact hfr 19 (by decide)) (fun A114 S114 hE114 h1114 h2114 hs114 hd114 => ?_)
  rw [← (hE114 7 0 hMI.1.2).1]
  have hMI := hMI.step (j := 19) (by decide) (by decide) (by decide) hE114 h1114 h2114 hs114
  have h233 := (hs114 233 0 (by decide)).trans h233
  refine r_putA C 243 29 dX8_init_116 fg_X8_55_7 rfl rfl hMI.1 (fun q h => by cases h; exact Or.inr ⟨rfl, rfl, rfl⟩) (by omega) (by have := h1114; omega) ?_
  refine r_gS (fun S116 h116 => ?_)
  rw [show (224 + 19) = 243 from rfl, ← h116] at hMI
  have h233 := (congrFun (congrFun h116 233) 0).trans ((upS_c _ _ (by decide)).trans h233)
  refine r_aload_n C dX8_init_119 lg_0 ?_
  refine r_bipush C dX8_init_120 (by decide) ?_
  refine r_newarr C (kd := 31) (N := 60) dX8_init_122 (by decide) (by rw [hMI.2.2.1 31 (by decide)]; exact hfr 21 (by decide)) rfl (by decide) (by decide) wArr_int (Nat.le_of_ble_eq_true rfl) (Nat.le_of_ble_eq_true rfl) (fun q122 => ?_)
  refine r_gA0 (by rw [hMI.2.2.1 31 (by decide)]; exact hfr 21 (by decide)) (fun A122 S122 hE122 h1122 h2122 hs122 hd122 => ?_)
  rw [← (hE122 7 0 hMI.1.2).1]
  have hMI := hMI.step (j := 21) (by decide) (by decide) (by decide) hE122 h1122 h2122 hs122
  have h233 := (hs122 233 0 (by decide)).trans h233
  refine r_putA C 245 31 dX8_init_124 fg_X8_58_7 rfl rfl hMI.1 (fun q h => by cases h; exact Or.inr ⟨rfl, rfl, rfl⟩) (by omega) (by have := h1122; omega) ?_
  refine r_gS (fun S124 h124 => ?_)
  rw [show (224 + 21) = 245 from rfl, ← h124] at hMI
  have h233 := (congrFun (congrFun h124 233) 0).trans ((upS_c _ _ (by decide)).trans h233)
  refine r_aload_n C dX8_init_127 lg_0 ?_
  refine r_bipush C dX8_init_128 (by decide) ?_
  refine r_newarr C (kd := 32) (N := 60) dX8_init_130 (by decide) (by rw [hMI.2.2.1 32 (by decide)]; exact hfr 22 (by decide)) rfl (by decide) (by decide) wArr_long (Nat.le_of_ble_eq_true rfl) (Nat.le_of_ble_eq_true rfl) (fun q130 => ?_)
  refine r_gA0 (by rw [hMI.2.2.1 32 (by decide)]; exact hfr 22 (by decide)) (fun A130 S130 hE130 h1130 h2130 hs130 hd130 => ?_)
  rw [← (hE130 7 0 hMI.1.2).1]
  have hMI := hMI.step (j := 22) (by decide) (by decide) (by decide) hE130 h1130 h2130 hs130
  have h233 := (hs130 233 0 (by decide)).trans h233
  refine r_putA C 246 32 dX8_init_132 fg_X8_61_7 rfl rfl hMI.1 (fun q h => by cases h; exact Or.inr ⟨rfl, rfl, rfl⟩) (by omega) (by have := h1130; omega) ?_
  refine r_gS (fun S132 h132 => ?_)
  rw [show (224 + 22) = 246 from rfl, ← h132] at hMI
  have h233 := (congrFun (congrFun h132 233) 0).trans ((upS_c _ _ (by decide)).trans h233)
  refine r_aload_n C dX8_init_135 lg_0 ?_
  refine r_bipush C dX8_init_136 (by decide) ?_
  refine r_newarr C (kd := 33) (N := 60) dX8_init_138 (by decide) (by rw [hMI.2.2.1 33 (by decide)]; exact hfr 23 (by decide)) rfl (by decide) (by decide) wArr_int (Nat.le_of_ble_eq_true rfl) (Nat.le_of_ble_eq_true rfl) (fun q138 => ?_)
  refine r_gA0 (by rw [hMI.2.2.1 33 (by decide)]; exact hfr 23 (by decide)) (fun A138 S138 hE138 h1138 h2138 hs138 hd138 => ?_)
  rw [← (hE138 7 0 hMI.1.2).1]
  have hMI := hMI.step (j := 23) (by decide) (by decide) (by decide) hE138 h1138 h2138 hs138
  have h233 := (hs138 233 0 (by decide)).trans h233
  refine r_putA C 247 33 dX8_init_140 fg_X8_64_7 rfl rfl hMI.1 (fun q h => by cases h; exact Or.inr ⟨rfl, rfl, rfl⟩) (by omega) (by have := h1138; omega) ?_
  refine r_gS (fun S140 h140 => ?_)
  rw [show (224 + 23) = 247 from rfl, ← h140] at hMI
  have h233 := (congrFun (congrFun h140 233) 0).trans ((upS_c _ _ (by decide)).trans h233)
  refine r_aload_n C dX8_init_143 lg_0 ?_
  refine r_bipush C dX8_init_144 (by decide) ?_
  refine r_newarr C (kd := 34) (N := 60) dX8_init_146 (by decide) (by rw [hMI.2.2.1 34 (by decide)]; exact hfr 24 (by decide)) rfl (by decide) (by decide) wArr_long (Nat.le_of_ble_eq_true rfl) (Nat.le_of_ble_eq_true rfl) (fun q146 => ?_)
  refine r_gA0 (by rw [hMI.2.2.1 34 (by decide)]; exact hfr 24 (by decide)) (fun A146 S146 hE146 h1146 h2146 hs146 hd146 => ?_)
  rw [← (hE146 7 0 hMI.1.2).1]
  have hMI := hMI.step (j := 24) (by decide) (by decide) (by decide) hE146 h1146 h2146 hs146
  have h233 := (hs146 233 0 (by decide)).trans h233
  refine r_putA C 248 34 dX8_init_148 fg_X8_67_7 rfl rfl hMI.1 (fun q h => by cases h; exact Or.inr ⟨rfl, rfl, rfl⟩) (by omega) (by have := h1146; omega) ?_
  refine r_gS (fun S148 h148 => ?_)
  rw [show (224 + 24) = 248 from rfl, ← h148] at hMI
  have h233 := (congrFun (congrFun h148 233) 0).trans ((upS_c _ _ (by decide)).trans h233)
  refine r_iconst C dX8_init_151 ?_
  refine r_istore_n C dX8_init_152 (ls1_1 rfl (cat_R _ _ _)) ?_
  exact lp 7 0 S148 A146 (by omega) (by omega) ⟨S148, hMI, h233, Fr.rf⟩ (fun j j0 j1 => by omega) (by omega)
