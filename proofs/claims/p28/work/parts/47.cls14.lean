/-! the class: what is chosen -/
noncomputable def chZ (R : RW) (s m : Int) : Int := cI (hasB s m ∧ m < R.n) m (-1)
set_option maxRecDepth 20000 in
theorem cB_chosen {G : GT} {l : Launch} (hfl : l.stackTraces = false) {S : ST} {A : AB} {s m : Int} {R : RW} (hCK : CK R S A) (hn : 0 ≤ R.n ∧ R.n ≤ 60) (hm : 0 ≤ m ∧ m < 60) : CT G l yX7_chosen cX7_chosen 5 (some (.object "Layerbook$Movement")) (rmk 0 0 0 0) S A [vR A 6 0, vL s, vI m] (oA 3 fun z S' A' => chZ R s m = z ∧ S = S' ∧ A = A') (noX) := by
  have hCK0 := hCK
  obtain ⟨⟨hl6, l2, l0, l4, hl8, l9⟩, ⟨h192, h193, _, _, h196⟩, ⟨hcn, hA3, hA1⟩, hpo, hrows, _, _⟩ := hCK
  have hp := hpo m hm.1 hm.2
  have hp2 : (m < R.n ∧ S 256 m = m) ∨ (¬ m < R.n ∧ S 256 m = -1) := by
    by_cases hmn : m < R.n
    · rw [if_pos hmn] at hp; exact Or.inl ⟨hmn, hp⟩
    · rw [if_neg hmn] at hp; exact Or.inr ⟨hmn, hp⟩
  have hcb := cho_bit (s := s) hm.1 (show m < 64 by omega)
  refine ct_ofN (own := RX7) (mn := "chosen") rfl rfl (by decide) hfl (lv0 := [some (vR A 6 0), some (vL s), none, some (vI m), none]) (ent_1 (cat_R _ _ _) (ent_2 rfl (ent_1 rfl (ent_n ent_0)))) rfl ?_
  intro J X C F FX FT FU hW hA
  refine r_iload_n C dX7_chosen_0 lg_3 ?_
  refine r_iflt C (tgt := 27) dX7_chosen_1 (by decide) (by omega) (fun c1 => ?_) (fun c1 => ?_)
  · exfalso; omega
  · refine r_iload_n C dX7_chosen_4 lg_3 ?_
    refine r_aload_n C dX7_chosen_5 lg_0 ?_
    refine r_getA C 192 8 dX7_chosen_6 fg_X7_11_6 rfl rfl hl6 (fun g6 => ?_)
    refine r_alen C (N := 60) dX7_chosen_9 (by decide) rfl (by decide) (by rw [h192]; exact hl8) ?_
    refine r_icge C (tgt := 27) dX7_chosen_10 (by decide) (by omega) (by omega) (fun c10 => ?_) (fun c10 => ?_)
    · exfalso; omega
    · refine r_lload_n C dX7_chosen_13 lg_1 ?_
      refine r_iload_n C dX7_chosen_14 lg_3 ?_
      refine r_lushr C dX7_chosen_15 (fun b15 => ?_)
      refine r_lconst C dX7_chosen_16 1 rfl ?_
      refine r_land C dX7_chosen_17 (fun b17 => ?_)
      refine r_lconst C dX7_chosen_18 1 rfl ?_
      refine r_lcne C (tgt := 27) dX7_chosen_19 dX7_chosen_20 (by decide) (by omega) (by omega) (fun c19 => ?_) (fun c19 => ?_)
      · refine r_iconst C dX7_chosen_27 ?_
        refine r_istore C dX7_chosen_28 (ls1_4 rfl rfl) ?_
        refine r_iload C dX7_chosen_30 lg_4 ?_
        refine r_ifeq C (tgt := 44) dX7_chosen_32 (by decide) (by omega) (fun c32 => ?_) (fun c32 => ?_)
        · refine r_null C 3 dX7_chosen_44 ?_
          exact f_A F dX7_chosen_45 (by have := hA.2.2 3; omega) (by
            first
            | (exfalso; omega)
            | exact ⟨cI_f (fun q => c20 (hcb.mpr q.1)), rfl, rfl⟩
            | exact ⟨cI_f (fun q => c19 (hcb.mpr q.1)), rfl, rfl⟩
            | (rcases hp2 with ⟨h1, h2⟩ | ⟨h1, h2⟩
               · rw [h2]; exact ⟨cI_t ⟨hcb.mp c19, h1⟩, rfl, rfl⟩
               · rw [h2]; exact ⟨cI_f (fun q => h1 q.2), rfl, rfl⟩)) (Nat.le_of_ble_eq_true rfl) (Nat.le_of_ble_eq_true rfl)
        · refine r_aload_n C dX7_chosen_35 lg_0 ?_
          refine r_getA C 192 8 dX7_chosen_36 fg_X7_11_6 rfl rfl hl6 (fun g36 => ?_)
          refine r_iload_n C dX7_chosen_39 lg_3 ?_
          refine r_aald C (N := 60) 256 dX7_chosen_40 (by decide) rfl rfl (by rw [h192]; exact hl8) (by omega) (by omega) (by omega) (fun g40 => ?_)
          refine r_goto C (tgt := 45) dX7_chosen_41 (by decide) ?_
          exact f_A F dX7_chosen_45 (by have := hA.2.2 3; omega) (by
            first
            | (exfalso; omega)
            | exact ⟨cI_f (fun q => c20 (hcb.mpr q.1)), rfl, rfl⟩
            | exact ⟨cI_f (fun q => c19 (hcb.mpr q.1)), rfl, rfl⟩
            | (rcases hp2 with ⟨h1, h2⟩ | ⟨h1, h2⟩
               · rw [h2]; exact ⟨cI_t ⟨hcb.mp c19, h1⟩, rfl, rfl⟩
               · rw [h2]; exact ⟨cI_f (fun q => h1 q.2), rfl, rfl⟩)) (Nat.le_of_ble_eq_true rfl) (Nat.le_of_ble_eq_true rfl)
      · refine r_iconst C dX7_chosen_23 ?_
        refine r_goto C (tgt := 28) dX7_chosen_24 (by decide) ?_
        refine r_istore C dX7_chosen_28 (ls1_4 rfl rfl) ?_
        refine r_iload C dX7_chosen_30 lg_4 ?_
        refine r_ifeq C (tgt := 44) dX7_chosen_32 (by decide) (by omega) (fun c32 => ?_) (fun c32 => ?_)
        · refine r_null C 3 dX7_chosen_44 ?_
          exact f_A F dX7_chosen_45 (by have := hA.2.2 3; omega) (by
            first
            | (exfalso; omega)
            | exact ⟨cI_f (fun q => c20 (hcb.mpr q.1)), rfl, rfl⟩
            | exact ⟨cI_f (fun q => c19 (hcb.mpr q.1)), rfl, rfl⟩
            | (rcases hp2 with ⟨h1, h2⟩ | ⟨h1, h2⟩
               · rw [h2]; exact ⟨cI_t ⟨hcb.mp c19, h1⟩, rfl, rfl⟩
               · rw [h2]; exact ⟨cI_f (fun q => h1 q.2), rfl, rfl⟩)) (Nat.le_of_ble_eq_true rfl) (Nat.le_of_ble_eq_true rfl)
        · refine r_aload_n C dX7_chosen_35 lg_0 ?_
          refine r_getA C 192 8 dX7_chosen_36 fg_X7_11_6 rfl rfl hl6 (fun g36 => ?_)
          refine r_iload_n C dX7_chosen_39 lg_3 ?_
          refine r_aald C (N := 60) 256 dX7_chosen_40 (by decide) rfl rfl (by rw [h192]; exact hl8) (by omega) (by omega) (by omega) (fun g40 => ?_)
          refine r_goto C (tgt := 45) dX7_chosen_41 (by decide) ?_
          exact f_A F dX7_chosen_45 (by have := hA.2.2 3; omega) (by
            first
            | (exfalso; omega)
            | exact ⟨cI_f (fun q => c20 (hcb.mpr q.1)), rfl, rfl⟩
            | exact ⟨cI_f (fun q => c19 (hcb.mpr q.1)), rfl, rfl⟩
            | (rcases hp2 with ⟨h1, h2⟩ | ⟨h1, h2⟩
               · rw [h2]; exact ⟨cI_t ⟨hcb.mp c19, h1⟩, rfl, rfl⟩
               · rw [h2]; exact ⟨cI_f (fun q => h1 q.2), rfl, rfl⟩)) (Nat.le_of_ble_eq_true rfl) (Nat.le_of_ble_eq_true rfl)
