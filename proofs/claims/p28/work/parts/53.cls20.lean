/-! the class: the receipts of a landed cost demanded -/
set_option maxRecDepth 20000 in
theorem cB_receipts {G : GT} {l : Launch} (hfl : l.stackTraces = false) {S : ST} {A : AB} {s d : Int} {R : RW} (hCK : CK R S A) (hn : 0 ≤ R.n ∧ R.n ≤ 60) (hs : rL s) (hd : rI d) : CT G l yX7_checkReceipts cX7_checkReceipts 6 none (rmk 6 1 6 90) S A [vR A 6 0, vL s, vI d] (oV fun S' A' => (allR 0 R.n (fun m => hasB s m → S 103 m = 0 ∧ S 97 m = 0 ∧ S 98 m ≤ d)) ∧ S = S' ∧ A = A') (fun E S' A' => E = xIS ∧ (¬ allR 0 R.n (fun m => hasB s m → S 103 m = 0 ∧ S 97 m = 0 ∧ S 98 m ≤ d)) ∧ S = S' ∧ A = A') := by
  refine ct_ofN (own := RX7) (mn := "checkReceipts") rfl rfl (by decide) hfl (lv0 := [some (vR A 6 0), some (vL s), none, some (vI d), none, none]) (ent_1 (cat_R _ _ _) (ent_2 rfl (ent_1 rfl (ent_n (ent_n ent_0))))) rfl ?_
  intro J X C F FX FT FU hW hA
  have hCK0 := hCK
  obtain ⟨⟨hl6, l2, l0, l4, hl8, l9⟩, ⟨h192, h193, _, _, h196⟩, ⟨hcn, hA3, hA1⟩, hpo, hrows, _, _⟩ := hCK
  have lp : ∀ (N : Nat) (i : Int) (h1 : 0 ≤ i) (h2 : i ≤ 60) (h4 : ∀ m, 0 ≤ m → m < i → m < R.n → (fun m => hasB s m → S 103 m = 0 ∧ S 97 m = 0 ∧ S 98 m ≤ d) m) (hN : 60 - i < N), J 3 [some (vR A 6 0), some (vL s), none, some (vI d), some (vI i), none] [] S A 0 0 := by
    intro N
    induction N with
    | zero => intro i h1 h2 h4 hN; omega
    | succ N ih =>
      intro i h1 h2 h4 hN
      have hcz : (hasB s i ∧ i < R.n ∧ chZ R s i = i) ∨ (¬ (hasB s i ∧ i < R.n) ∧ chZ R s i = -1) := by
        rcases Classical.em (hasB s i ∧ i < R.n) with h | h
        · exact Or.inl ⟨h.1, h.2, cI_t h⟩
        · exact Or.inr ⟨h, cI_f h⟩
      refine r_iload C dX7_checkReceipts_3 lg_4 ?_
      refine r_bipush C dX7_checkReceipts_5 (by decide) ?_
      refine r_icge C (tgt := 65) dX7_checkReceipts_7 (by decide) (by omega) (by omega) (fun c7 => ?_) (fun c7 => ?_)
      · exact f_V F dX7_checkReceipts_65 ⟨fun m m0 m1 => h4 m m0 (by omega) m1, rfl, rfl⟩ (Nat.le_of_ble_eq_true rfl) (Nat.le_of_ble_eq_true rfl)
      · refine r_aload_n C dX7_checkReceipts_10 lg_0 ?_
        refine r_lload_n C dX7_checkReceipts_11 lg_1 ?_
        refine r_iload C dX7_checkReceipts_12 lg_4 ?_
        refine q_V2A C (cB_chosen hfl hCK0 hn ⟨h1, by omega⟩) dX7_checkReceipts_14 lk_X7_228 hl6 ⟨Nat.le_of_ble_eq_true rfl, Nat.le_of_ble_eq_true rfl⟩ (catLe (Nat.le_of_ble_eq_true rfl)) ⟨rfl, rfl⟩ rfl (Nat.le_of_ble_eq_true rfl) (Nat.le_of_ble_eq_true rfl) (fun z14 S14 A14 i14 p14 => ?_)
        obtain ⟨rfl, rfl, rfl⟩ := p14
        refine r_astore C dX7_checkReceipts_17 (ls1_5 (cat_R _ _ _) rfl) ?_
        refine r_aload C dX7_checkReceipts_19 lg_5 ?_
        refine r_ifnull C (tgt := 59) dX7_checkReceipts_21 (by decide) (fun c21 => ?_) (fun c21 => ?_)
        · have hstep : i < R.n → (fun m => hasB s m → S 103 m = 0 ∧ S 97 m = 0 ∧ S 98 m ≤ d) i := fun a mb => by
            rcases hcz with ⟨a1, a2, a3⟩ | ⟨a1, a2⟩
            · exfalso; omega
            · exact absurd ⟨mb, a⟩ a1
          refine r_iinc C dX7_checkReceipts_59 lg_4 (ls1_4 rfl rfl) ?_
          refine r_goto C (tgt := 3) dX7_checkReceipts_62 (by decide) ?_
          refine r_le C (lle_k (lle_k (lle_k (lle_k (lle_k (lle_f lle_0)))))) ?_
          refine ih (i + 1) (by omega) (by omega) (fun m m0 m1 m2 => ?_) (by omega)
          by_cases e : m = i
          · subst e; exact hstep m2
          · exact h4 m m0 (by omega) m2
        · have hq9 : hasB s i ∧ i < R.n ∧ chZ R s i = i := by
            rcases hcz with h | ⟨h, e⟩
            · exact h
            · exfalso; omega
          obtain ⟨hbi, hin, hzi⟩ := hq9
          rw [hzi]
          have hzl : lv1 A 3 i := ⟨h1, by omega⟩
          refine r_aload C dX7_checkReceipts_24 lg_5 ?_
          refine r_getI C 97 dX7_checkReceipts_26 fg_X7_127_3 rfl rfl hzl (fun g26 => ?_)
          refine r_ifne C (tgt := 49) dX7_checkReceipts_29 (by decide) (by omega) (fun c29 => ?_) (fun c29 => ?_)
          · exact FT _ _ _ _ _ _ _ _ _ xIS "no receipt to spread over" (by decide) rfl xw_IS nw_X7_98 dX7_checkReceipts_49 dX7_checkReceipts_52 dX7_checkReceipts_53 dX7_checkReceipts_55 dX7_checkReceipts_58 ⟨rfl, fun q => by have h9 := q i h1 hin hbi; omega, rfl, rfl⟩ (Nat.le_of_ble_eq_true rfl) (Nat.le_of_ble_eq_true rfl) (Nat.le_of_ble_eq_true rfl) (Nat.le_of_ble_eq_true rfl)
          · refine r_aload C dX7_checkReceipts_32 lg_5 ?_
            refine r_getZ C 103 dX7_checkReceipts_34 fg_X7_115_3 rfl rfl hzl (fun g34 => ?_)
            refine r_ifne C (tgt := 49) dX7_checkReceipts_37 (by decide) (by omega) (fun c37 => ?_) (fun c37 => ?_)
            · exact FT _ _ _ _ _ _ _ _ _ xIS "no receipt to spread over" (by decide) rfl xw_IS nw_X7_98 dX7_checkReceipts_49 dX7_checkReceipts_52 dX7_checkReceipts_53 dX7_checkReceipts_55 dX7_checkReceipts_58 ⟨rfl, fun q => by have h9 := q i h1 hin hbi; omega, rfl, rfl⟩ (Nat.le_of_ble_eq_true rfl) (Nat.le_of_ble_eq_true rfl) (Nat.le_of_ble_eq_true rfl) (Nat.le_of_ble_eq_true rfl)
            · refine r_aload C dX7_checkReceipts_40 lg_5 ?_
              refine r_getI C 98 dX7_checkReceipts_42 fg_X7_121_3 rfl rfl hzl (fun g42 => ?_)
              refine r_iload_n C dX7_checkReceipts_45 lg_3 ?_
              refine r_icle C (tgt := 59) dX7_checkReceipts_46 (by decide) (by omega) (by omega) (fun c46 => ?_) (fun c46 => ?_)
              · have hstep : i < R.n → (fun m => hasB s m → S 103 m = 0 ∧ S 97 m = 0 ∧ S 98 m ≤ d) i := fun _ _ => ⟨by omega, by omega, by omega⟩
                refine r_iinc C dX7_checkReceipts_59 lg_4 (ls1_4 rfl rfl) ?_
                refine r_goto C (tgt := 3) dX7_checkReceipts_62 (by decide) ?_
                refine r_le C (lle_k (lle_k (lle_k (lle_k (lle_k (lle_f lle_0)))))) ?_
                refine ih (i + 1) (by omega) (by omega) (fun m m0 m1 m2 => ?_) (by omega)
                by_cases e : m = i
                · subst e; exact hstep m2
                · exact h4 m m0 (by omega) m2
              · exact FT _ _ _ _ _ _ _ _ _ xIS "no receipt to spread over" (by decide) rfl xw_IS nw_X7_98 dX7_checkReceipts_49 dX7_checkReceipts_52 dX7_checkReceipts_53 dX7_checkReceipts_55 dX7_checkReceipts_58 ⟨rfl, fun q => by have h9 := q i h1 hin hbi; omega, rfl, rfl⟩ (Nat.le_of_ble_eq_true rfl) (Nat.le_of_ble_eq_true rfl) (Nat.le_of_ble_eq_true rfl) (Nat.le_of_ble_eq_true rfl)
  refine r_iconst C dX7_checkReceipts_0 ?_
  refine r_istore C dX7_checkReceipts_1 (ls1_4 rfl rfl) ?_
  exact lp 61 0 (by omega) (by omega) (fun m m0 m1 => by omega) (by omega)
