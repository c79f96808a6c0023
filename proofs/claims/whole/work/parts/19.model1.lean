/-! branches on a boolean, what the reference's object is; its small methods -/
theorem catLe {rest : List Value} (h : rest.length ≤ 4) : (rest.map fun v => v.category).sum ≤ 8 := by
  have key : ∀ l : List Value, (l.map fun v => v.category).sum ≤ 2 * l.length := by
    intro l
    induction l with
    | nil => exact Nat.le_refl _
    | cons v t ih =>
      rw [List.map_cons, List.sum_cons, List.length_cons]
      rcases lv_cat v with h | h <;> omega
  have := key rest
  omega
def b2i (p : Prop) [Decidable p] : Int := if p then 1 else 0
theorem b2i_t {p : Prop} [Decidable p] (h : p) : b2i p = 1 := by unfold b2i; rw [if_pos h]
theorem b2i_f {p : Prop} [Decidable p] (h : ¬ p) : b2i p = 0 := by unfold b2i; rw [if_neg h]
theorem b2i_01 (p : Prop) [Decidable p] : b2i p = 0 ∨ b2i p = 1 := by unfold b2i; split <;> simp
theorem b2i_r (p : Prop) [Decidable p] : rI (b2i p) := rI_b (b2i_01 p)
theorem b2i_0 {p : Prop} [Decidable p] : b2i p = 0 ↔ ¬ p := by unfold b2i; split <;> simp [*]
theorem b2i_iff {p q : Prop} [Decidable p] [Decidable q] (h : p ↔ q) : b2i p = b2i q := by
  unfold b2i
  by_cases hp : p
  · rw [if_pos hp, if_pos (h.mp hp)]
  · rw [if_neg hp, if_neg (fun hq => hp (h.mpr hq))]
theorem rb_ifeq {G : GT} {l : Launch} {R : Room} {cc : ByteArray} {nL : Nat} {own mn : String} {tb : List ExceptionTableEntry} {J : JT} {X : XT} (C : Cx G l R cc nL own mn tb J X) {pc : Nat} {lv : List (Option Value)} {st : List Value} {S : ST} {A : AB} {k n : Nat} {p : Prop} [Decidable p] {off : Int} {tgt : Nat} (d : decode cc pc = .ok (.ifCond .eq off, 3)) (ht : (pc : Int) + off = (tgt : Int)) (kt : ¬ p → J tgt lv st S A k n) (kf : p → J (pc + 3) lv st S A k n) : J pc lv (vI (b2i p) :: st) S A k n := r_ifeq C d ht (b2i_r p) (fun h => kt (b2i_0.mp h)) (fun h => kf (Classical.byContradiction fun q => h (b2i_0.mpr q)))
theorem rb_ifne {G : GT} {l : Launch} {R : Room} {cc : ByteArray} {nL : Nat} {own mn : String} {tb : List ExceptionTableEntry} {J : JT} {X : XT} (C : Cx G l R cc nL own mn tb J X) {pc : Nat} {lv : List (Option Value)} {st : List Value} {S : ST} {A : AB} {k n : Nat} {p : Prop} [Decidable p] {off : Int} {tgt : Nat} (d : decode cc pc = .ok (.ifCond .ne off, 3)) (ht : (pc : Int) + off = (tgt : Int)) (kt : p → J tgt lv st S A k n) (kf : ¬ p → J (pc + 3) lv st S A k n) : J pc lv (vI (b2i p) :: st) S A k n := r_ifne C d ht (b2i_r p) (fun h => kt (Classical.byContradiction fun q => h (b2i_0.mpr q))) (fun h => kf (b2i_0.mp h))
def mArr : List Nat := [0, 1, 2, 3, 4, 5, 6, 7, 10, 11, 16, 17, 18, 19, 21, 22, 23, 24]
/-- the reference's object and its arrays stand -/
def RM (S : ST) (A : AB) : Prop := lv1 A 7 0 ∧ ∀ j ∈ mArr, lv1 A (10 + j) 0 ∧ S (224 + j) 0 = 0
theorem RM.g {S : ST} {A : AB} (h : RM S A) {j : Nat} (hj : j ∈ mArr) : lv1 A (10 + j) (S (224 + j) 0) := by
  obtain ⟨h1, h2⟩ := h.2 j hj
  rw [h2]
  exact h1
theorem RM.fr {S S' : ST} {A : AB} (h : RM S A) (hS : ∀ j ∈ mArr, S' (224 + j) 0 = S (224 + j) 0) : RM S' A := ⟨h.1, fun j hj => ⟨(h.2 j hj).1, (hS j hj).trans (h.2 j hj).2⟩⟩
theorem RM.up {S : ST} {A : AB} (h : RM S A) {c : Nat} {z v : Int} (hc : ∀ j ∈ mArr, 224 + j ≠ c) : RM (upS S c z v) A := h.fr fun j hj => upS_c S v (hc j hj)
/-- nothing but these codes has changed -/
def Fr (cs : List Nat) (S S' : ST) : Prop := ∀ (c : Nat) (z : Int), c ∉ cs → S' c z = S c z
theorem Fr.rf {cs : List Nat} {S : ST} : Fr cs S S := fun _ _ _ => rfl
theorem Fr.tr {cs : List Nat} {S S' S'' : ST} (h1 : Fr cs S S') (h2 : Fr cs S' S'') : Fr cs S S'' := fun c z h => (h2 c z h).trans (h1 c z h)
theorem Fr.up {cs : List Nat} {S : ST} {c : Nat} {z v : Int} (h : c ∈ cs) : Fr cs S (upS S c z v) := fun c' z' h' => upS_c S v (fun e => h' (e ▸ h))
theorem Fr.sub {cs cs' : List Nat} {S S' : ST} (h : Fr cs S S') (hs : ∀ c ∈ cs, c ∈ cs') : Fr cs' S S' := fun c z h' => h c z (fun q => h' (hs c q))
theorem RM.of {S S' : ST} {A : AB} {cs : List Nat} (h : RM S A) (hF : Fr cs S S') (hc : ∀ j ∈ mArr, 224 + j ∉ cs) : RM S' A := h.fr fun j hj => hF _ _ (hc j hj)
set_option maxRecDepth 20000 in
theorem cM_thrown {G : GT} {l : Launch} (hfl : l.stackTraces = false) {S : ST} {A : AB} (M : RM S A) : CT G l yX8_thrown cX8_thrown 1 (some .int) (rmk 0 0 0 0) S A [vR A 7 0] (oI fun z S' A' => z = S 249 0 ∧ S' = S ∧ A' = A) (noX) := by
  refine ct_ofN (own := RX8) (mn := "thrown") rfl rfl (by decide) hfl (lv0 := [some (vR A 7 0)]) (ent_1 (cat_R _ _ _) ent_0) rfl ?_
  intro J X C F FX FT FU hW hA
  refine r_aload_n C dX8_thrown_0 lg_0 ?_
  refine r_getI C 249 dX8_thrown_1 fg_X8_70_7 rfl rfl M.1 (fun g1 => ?_)
  exact f_I F dX8_thrown_4 (by omega) ⟨rfl, rfl, rfl⟩ (Nat.le_of_ble_eq_true rfl) (Nat.le_of_ble_eq_true rfl)
set_option maxRecDepth 20000 in
theorem cM_goes {G : GT} {l : Launch} (hfl : l.stackTraces = false) {S : ST} {A : AB} {w : Int} (M : RM S A) (hw : rI w) : CT G l yX8_goes cX8_goes 2 (some .boolean) (rmk 0 0 0 0) S A [vR A 7 0, vI w] (oZ fun z S' A' => z = b2i (w = 0) ∧ S' = upS S 249 0 w ∧ A' = A) (noX) := by
  refine ct_ofN (own := RX8) (mn := "goes") rfl rfl (by decide) hfl (lv0 := [some (vR A 7 0), some (vI w)]) (ent_1 (cat_R _ _ _) (ent_1 rfl ent_0)) rfl ?_
  intro J X C F FX FT FU hW hA
  refine r_aload_n C dX8_goes_0 lg_0 ?_
  refine r_iload_n C dX8_goes_1 lg_1 ?_
  refine r_putI C 249 dX8_goes_2 fg_X8_70_7 rfl rfl M.1 (fun q h => by cases h; exact Or.inl rfl) (by omega) ?_
  refine r_iload_n C dX8_goes_5 lg_1 ?_
  refine r_ifne C (tgt := 13) dX8_goes_6 (by decide) (by omega) (fun c6 => ?_) (fun c6 => ?_)
  · refine r_iconst C dX8_goes_13 ?_
    exact f_Z F dX8_goes_14 (by omega) ⟨by unfold b2i; split <;> omega, rfl, rfl⟩ (Nat.le_of_ble_eq_true rfl) (Nat.le_of_ble_eq_true rfl)
  · refine r_iconst C dX8_goes_9 ?_
    refine r_goto C (tgt := 14) dX8_goes_10 (by decide) ?_
    exact f_Z F dX8_goes_14 (by omega) ⟨by unfold b2i; split <;> omega, rfl, rfl⟩ (Nat.le_of_ble_eq_true rfl) (Nat.le_of_ble_eq_true rfl)
set_option maxRecDepth 20000 in
theorem cM_isIn {G : GT} {l : Launch} (hfl : l.stackTraces = false) {S : ST} {A : AB} {v a b : Int} (h1 : rI v) (h2 : rI a) (h3 : rI b) : CT G l yX8_isIn cX8_isIn 3 (some .boolean) (rmk 0 0 0 0) S A [vI v, vI a, vI b] (oZ fun z S' A' => z = b2i (a ≤ v ∧ v ≤ b) ∧ S' = S ∧ A' = A) (noX) := by
  refine ct_ofN (own := RX8) (mn := "isIn") rfl rfl (by decide) hfl (lv0 := [some (vI v), some (vI a), some (vI b)]) (ent_1 rfl (ent_1 rfl (ent_1 rfl ent_0))) rfl ?_
  intro J X C F FX FT FU hW hA
  refine r_iload_n C dX8_isIn_0 lg_0 ?_
  refine r_iload_n C dX8_isIn_1 lg_1 ?_
  refine r_iclt C (tgt := 14) dX8_isIn_2 (by decide) (by omega) (by omega) (fun c2 => ?_) (fun c2 => ?_)
  · refine r_iconst C dX8_isIn_14 ?_
    exact f_Z F dX8_isIn_15 (by omega) ⟨by unfold b2i; split <;> omega, rfl, rfl⟩ (Nat.le_of_ble_eq_true rfl) (Nat.le_of_ble_eq_true rfl)
  · refine r_iload_n C dX8_isIn_5 lg_0 ?_
    refine r_iload_n C dX8_isIn_6 lg_2 ?_
    refine r_icgt C (tgt := 14) dX8_isIn_7 (by decide) (by omega) (by omega) (fun c7 => ?_) (fun c7 => ?_)
    · refine r_iconst C dX8_isIn_14 ?_
      exact f_Z F dX8_isIn_15 (by omega) ⟨by unfold b2i; split <;> omega, rfl, rfl⟩ (Nat.le_of_ble_eq_true rfl) (Nat.le_of_ble_eq_true rfl)
    · refine r_iconst C dX8_isIn_10 ?_
      refine r_goto C (tgt := 15) dX8_isIn_11 (by decide) ?_
      exact f_Z F dX8_isIn_15 (by omega) ⟨by unfold b2i; split <;> omega, rfl, rfl⟩ (Nat.le_of_ble_eq_true rfl) (Nat.le_of_ble_eq_true rfl)
set_option maxRecDepth 20000 in
theorem cM_isDay {G : GT} {l : Launch} (hfl : l.stackTraces = false) {S : ST} {A : AB} {v : Int} (h1 : rI v) : CT G l yX8_isDay cX8_isDay 1 (some .boolean) (rmk 1 0 0 22) S A [vI v] (oZ fun z S' A' => z = b2i (0 ≤ v ∧ v ≤ 364) ∧ S' = S ∧ A' = A) (noX) := by
  refine ct_ofN (own := RX8) (mn := "isDay") rfl rfl (by decide) hfl (lv0 := [some (vI v)]) (ent_1 rfl ent_0) rfl ?_
  intro J X C F FX FT FU hW hA
  refine r_iload_n C dX8_isDay_0 lg_0 ?_
  refine r_iconst C dX8_isDay_1 ?_
  refine r_sipush C dX8_isDay_2 (by decide) ?_
  refine q_S3Z C (cM_isIn hfl (by omega) (by omega) (by omega)) dX8_isDay_5 lk_X8_73 ⟨Nat.le_of_ble_eq_true rfl, Nat.le_of_ble_eq_true rfl⟩ (catLe (Nat.le_of_ble_eq_true rfl)) ⟨rfl, rfl⟩ rfl (Nat.le_of_ble_eq_true rfl) (Nat.le_of_ble_eq_true rfl) (fun z5 S5 A5 i5 p5 => ?_)
  obtain ⟨rfl, rfl, rfl⟩ := p5
  exact f_Z F dX8_isDay_8 (b2i_01 _) ⟨rfl, rfl, rfl⟩ (Nat.le_of_ble_eq_true rfl) (Nat.le_of_ble_eq_true rfl)
set_option maxRecDepth 20000 in
theorem cM_isItem {G : GT} {l : Launch} (hfl : l.stackTraces = false) {S : ST} {A : AB} {v : Int} (h1 : rI v) : CT G l yX8_isItem cX8_isItem 1 (some .boolean) (rmk 1 0 0 22) S A [vI v] (oZ fun z S' A' => z = b2i (0 ≤ v ∧ v ≤ 5) ∧ S' = S ∧ A' = A) (noX) := by
  refine ct_ofN (own := RX8) (mn := "isItem") rfl rfl (by decide) hfl (lv0 := [some (vI v)]) (ent_1 rfl ent_0) rfl ?_
  intro J X C F FX FT FU hW hA
  refine r_iload_n C dX8_isItem_0 lg_0 ?_
  refine r_iconst C dX8_isItem_1 ?_
  refine r_iconst C dX8_isItem_2 ?_
  refine q_S3Z C (cM_isIn hfl (by omega) (by omega) (by omega)) dX8_isItem_3 lk_X8_73 ⟨Nat.le_of_ble_eq_true rfl, Nat.le_of_ble_eq_true rfl⟩ (catLe (Nat.le_of_ble_eq_true rfl)) ⟨rfl, rfl⟩ rfl (Nat.le_of_ble_eq_true rfl) (Nat.le_of_ble_eq_true rfl) (fun z3 S3 A3 i3 p3 => ?_)
  obtain ⟨rfl, rfl, rfl⟩ := p3
  exact f_Z F dX8_isItem_6 (b2i_01 _) ⟨rfl, rfl, rfl⟩ (Nat.le_of_ble_eq_true rfl) (Nat.le_of_ble_eq_true rfl)
