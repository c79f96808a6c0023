/-! the class: removing, shares -/
set_option maxRecDepth 20000 in
theorem cG_remove {G : GT} {l : Launch} (hfl : l.stackTraces = false) {S : ST} {A : AB} {m : Int} {a b : List Int} (hl2 : lv1 A 2 0) (hch : CH (S 104) (S 64 0) (a ++ m :: b)) (hL : ∀ x ∈ a ++ m :: b, (0 ≤ x ∧ x < A.2 3) ∧ True) (hm : lv1 A 3 m) (hnd : (a ++ m :: b).Nodup) (hsz : 1 ≤ S 65 0 ∧ S 65 0 ≤ 60) (hA3 : A.2 3 ≤ 60) : CT G l yX2_remove cX2_remove 4 none (rmk 0 0 0 0) S A [vR A 2 0, vR A 3 m] (oV fun S' A' => A = A' ∧ Fr [104, 64, 65] S S' ∧ CH (S' 104) (S' 64 0) (a ++ b) ∧ S' 65 0 = S 65 0 - 1) (noX) := by
  refine ct_ofN (own := RX2) (mn := "remove") rfl rfl (by decide) hfl (lv0 := [some (vR A 2 0), some (vR A 3 m), none, none]) (ent_1 (cat_R _ _ _) (ent_1 (cat_R _ _ _) (ent_n (ent_n ent_0)))) rfl ?_
  intro J X C F FX FT FU hW hA
  have fin9 : ∀ (ah : Int) (hah : (a = [] ∧ ah = -1) ∨ ∃ a', a = a' ++ [ah]), J 26 [some (vR A 2 0), some (vR A 3 m), some (vR A 3 ah), some (vR A 3 m)] [] S A 0 0 := by
    intro ah hah
    have w104 := (hW 104 m).1
    rcases hah with ⟨rfl, rfl⟩ | ⟨a', rfl⟩
    · refine r_aload_n C dX2_remove_26 lg_2 ?_
      refine r_ifnonnull C (tgt := 41) dX2_remove_27 (by decide) (fun c27 => ?_) (fun c27 => ?_)
      · exfalso; omega
      · refine r_aload_n C dX2_remove_30 lg_0 ?_
        refine r_aload_n C dX2_remove_31 lg_1 ?_
        refine r_getA C 104 3 dX2_remove_32 fg_X2_19_3 rfl rfl hm (fun g32 => ?_)
        refine r_putA C 64 3 dX2_remove_35 fg_X2_7_2 rfl rfl hl2 (fun q h => by cases h; exact Or.inl rfl) (by omega) (by omega) ?_
        refine r_goto C (tgt := 49) dX2_remove_38 (by decide) ?_
        refine r_aload_n C dX2_remove_49 lg_1 ?_
        refine r_null C 3 dX2_remove_50 ?_
        refine r_putA C 104 3 dX2_remove_51 fg_X2_19_3 rfl rfl hm (fun q h => by cases h; exact Or.inl rfl) (by omega) (by omega) ?_
        refine r_aload_n C dX2_remove_54 lg_0 ?_
        refine r_dup C dX2_remove_55 (cat_R _ _ _) ?_
        refine r_getI C 65 dX2_remove_56 fg_X2_22_2 rfl rfl hl2 (fun g56 => ?_)
        rw [upS_c _ _ (by decide), upS_c _ _ (by decide)]
        refine r_iconst C dX2_remove_59 ?_
        refine r_isub C dX2_remove_60 ?_
        refine r_putI C 65 dX2_remove_61 fg_X2_22_2 rfl rfl hl2 (fun q h => by cases h; exact Or.inl rfl) (by omega) ?_
        exact f_V F dX2_remove_64 (by
          refine ⟨rfl, ((Fr.up (by decide)).tr (Fr.up (by decide))).tr (Fr.up (by decide)), ?_, by rw [upS_self]⟩
          rw [upS_fn _ _ _ (by decide), upS_fu, upS_fn _ _ _ (by decide), upS_c _ _ (by decide), upS_c _ _ (by decide), upS_self]
          exact hch.2.upd (List.nodup_cons.mp hnd).1) (Nat.le_of_ble_eq_true rfl) (Nat.le_of_ble_eq_true rfl)
    · have hy := hL ah (by simp)
      rw [List.append_assoc] at hnd hch
      have hnd : (a' ++ ah :: m :: b).Nodup := hnd
      have hch : CH (S 104) (S 64 0) (a' ++ ah :: m :: b) := hch
      refine r_aload_n C dX2_remove_26 lg_2 ?_
      refine r_ifnonnull C (tgt := 41) dX2_remove_27 (by decide) (fun c27 => ?_) (fun c27 => ?_)
      · refine r_aload_n C dX2_remove_41 lg_2 ?_
        refine r_aload_n C dX2_remove_42 lg_1 ?_
        refine r_getA C 104 3 dX2_remove_43 fg_X2_19_3 rfl rfl hm (fun g43 => ?_)
        refine r_putA C 104 3 dX2_remove_46 fg_X2_19_3 rfl rfl hy.1 (fun q h => by cases h; exact Or.inl rfl) (by omega) (by omega) ?_
        refine r_aload_n C dX2_remove_49 lg_1 ?_
        refine r_null C 3 dX2_remove_50 ?_
        refine r_putA C 104 3 dX2_remove_51 fg_X2_19_3 rfl rfl hm (fun q h => by cases h; exact Or.inl rfl) (by omega) (by omega) ?_
        refine r_aload_n C dX2_remove_54 lg_0 ?_
        refine r_dup C dX2_remove_55 (cat_R _ _ _) ?_
        refine r_getI C 65 dX2_remove_56 fg_X2_22_2 rfl rfl hl2 (fun g56 => ?_)
        rw [upS_c _ _ (by decide), upS_c _ _ (by decide)]
        refine r_iconst C dX2_remove_59 ?_
        refine r_isub C dX2_remove_60 ?_
        refine r_putI C 65 dX2_remove_61 fg_X2_22_2 rfl rfl hl2 (fun q h => by cases h; exact Or.inl rfl) (by omega) ?_
        exact f_V F dX2_remove_64 (by
          refine ⟨rfl, ((Fr.up (by decide)).tr (Fr.up (by decide))).tr (Fr.up (by decide)), ?_, by rw [upS_self]⟩
          rw [upS_fn _ _ _ (by decide), upS_c _ _ (by decide), upS_c _ _ (by decide), upS_c _ _ (by decide), upS_fu, upS_fu, List.append_assoc]
          exact ch_rem hch hnd) (Nat.le_of_ble_eq_true rfl) (Nat.le_of_ble_eq_true rfl)
      · exfalso; omega
  have lp : ∀ (b1 a1 : List Int) (s ah : Int) (hab : a = a1 ++ b1) (hs : CH (S 104) s (b1 ++ m :: b)) (hah : (a1 = [] ∧ ah = -1) ∨ ∃ a', a1 = a' ++ [ah]), J 7 [some (vR A 2 0), some (vR A 3 m), some (vR A 3 ah), some (vR A 3 s)] [] S A 0 0 := by
    intro b1
    induction b1 with
    | nil =>
      intro a1 s ah hab hs hah
      obtain ⟨rfl, hs⟩ := hs
      rw [List.append_nil] at hab
      subst hab
      refine r_aload_n C dX2_remove_7 lg_3 ?_
      refine r_ifnull C (tgt := 26) dX2_remove_8 (by decide) (fun c8 => ?_) (fun c8 => ?_)
      · exfalso; omega
      · refine r_aload_n C dX2_remove_11 lg_3 ?_
        refine r_aload_n C dX2_remove_12 lg_1 ?_
        refine r_aceq C (tgt := 26) dX2_remove_13 (by decide) (by omega) (by omega) (fun c13 => ?_) (fun c13 => ?_)
        · exact fin9 ah hah
        · exfalso; omega
    | cons x t ih =>
      intro a1 s ah hab hs hah
      obtain ⟨rfl, hs⟩ := hs
      have hz := hL s (by rw [hab]; simp)
      have hne : s ≠ m := fun e => (List.nodup_append.mp hnd).2.2 s (by rw [hab]; simp) m List.mem_cons_self e
      refine r_aload_n C dX2_remove_7 lg_3 ?_
      refine r_ifnull C (tgt := 26) dX2_remove_8 (by decide) (fun c8 => ?_) (fun c8 => ?_)
      · exfalso; omega
      · refine r_aload_n C dX2_remove_11 lg_3 ?_
        refine r_aload_n C dX2_remove_12 lg_1 ?_
        refine r_aceq C (tgt := 26) dX2_remove_13 (by decide) (by omega) (by omega) (fun c13 => ?_) (fun c13 => ?_)
        · exfalso; omega
        · refine r_aload_n C dX2_remove_16 lg_3 ?_
          refine r_astore_n C dX2_remove_17 (ls1_2 (cat_R _ _ _) (cat_R _ _ _)) ?_
          refine r_aload_n C dX2_remove_18 lg_3 ?_
          refine r_getA C 104 3 dX2_remove_19 fg_X2_19_3 rfl rfl hz.1 (fun g19 => ?_)
          refine r_astore_n C dX2_remove_22 (ls1_3 (cat_R _ _ _) (cat_R _ _ _)) ?_
          refine r_goto C (tgt := 7) dX2_remove_23 (by decide) ?_
          exact ih (a1 ++ [s]) (S 104 s) s (by rw [hab]; simp) hs (Or.inr ⟨a1, rfl⟩)
  refine r_null C 3 dX2_remove_0 ?_
  refine r_astore_n C dX2_remove_1 (ls1_2 (cat_R _ _ _) (cat_R _ _ _)) ?_
  refine r_aload_n C dX2_remove_2 lg_0 ?_
  refine r_getA C 64 3 dX2_remove_3 fg_X2_7_2 rfl rfl hl2 (fun g3 => ?_)
  refine r_astore_n C dX2_remove_6 (ls1_3 (cat_R _ _ _) (cat_R _ _ _)) ?_
  exact lp a [] (S 64 0) (-1) rfl hch (Or.inl ⟨rfl, rfl⟩)
/-- a chain of shares: the receipts and their parts -/
def SHC (S : ST) (n5 : Int) : Int → List (Int × Int) → Prop
  | s, [] => s = -1
  | s, x :: t => (0 ≤ s ∧ s < n5) ∧ S 160 s = x.1 ∧ S 162 s = x.2 ∧ SHC S n5 (S 161 s) t
theorem SHC.fr {S S' : ST} {n5 n5' : Int} : ∀ {l : List (Int × Int)} {s : Int}, SHC S n5 s l → n5 ≤ n5' → (∀ c z, (c = 160 ∨ c = 161 ∨ c = 162) → 0 ≤ z → z < n5 → S' c z = S c z) → SHC S' n5' s l
  | [], _, h, _, _ => h
  | x :: t, s, ⟨⟨h0, h1⟩, h2, h3, h4⟩, hn, hS => by
    refine ⟨⟨h0, by omega⟩, ?_, ?_, ?_⟩
    · rw [hS 160 s (Or.inl rfl) h0 h1]; exact h2
    · rw [hS 162 s (Or.inr (Or.inr rfl)) h0 h1]; exact h3
    · rw [hS 161 s (Or.inr (Or.inl rfl)) h0 h1]; exact h4.fr hn hS
def shF (S : ST) (n5 r z : Int) (l : List (Int × Int)) : Prop := (r ∉ l.map Prod.fst ∧ z = -1) ∨ (∃ p, (r, p) ∈ l ∧ (0 ≤ z ∧ z < n5) ∧ S 162 z = p)
set_option maxRecDepth 20000 in
theorem cV_share {G : GT} {l : Launch} (hfl : l.stackTraces = false) {S : ST} {A : AB} {m r : Int} {l9 : List (Int × Int)} (hm : lv1 A 3 m) (hrr : lv1 A 3 r) (hc : SHC S (A.2 5) (S 105 m) l9) (hr : ∀ x ∈ l9.map Prod.fst, 0 ≤ x ∧ x < A.2 3) : CT G l yX3_shareOf cX3_shareOf 3 (some (.object "Layerbook$Share")) (rmk 0 0 0 0) S A [vR A 3 m, vR A 3 r] (oA 5 fun z S' A' => shF S (A.2 5) r z l9 ∧ S = S' ∧ A = A') (noX) := by
  refine ct_ofN (own := RX3) (mn := "shareOf") rfl rfl (by decide) hfl (lv0 := [some (vR A 3 m), some (vR A 3 r), none]) (ent_1 (cat_R _ _ _) (ent_1 (cat_R _ _ _) (ent_n ent_0))) rfl ?_
  intro J X C F FX FT FU hW hA
  have lp : ∀ (b a : List (Int × Int)) (s : Int) (hab : l9 = a ++ b) (hs : SHC S (A.2 5) s b) (hn : r ∉ a.map Prod.fst), J 5 [some (vR A 3 m), some (vR A 3 r), some (vR A 5 s)] [] S A 0 0 := by
    intro b
    induction b with
    | nil =>
      intro a s hab hs hn
      have hs : s = -1 := hs
      refine r_aload_n C dX3_shareOf_5 lg_2 ?_
      refine r_ifnull C (tgt := 25) dX3_shareOf_6 (by decide) (fun c6 => ?_) (fun c6 => ?_)
      · refine r_aload_n C dX3_shareOf_25 lg_2 ?_
        exact f_A F dX3_shareOf_26 (by have := hA.2.2 5; omega) ⟨Or.inl ⟨by rw [hab, List.append_nil]; exact hn, hs⟩, rfl, rfl⟩ (Nat.le_of_ble_eq_true rfl) (Nat.le_of_ble_eq_true rfl)
      · exfalso; omega
    | cons x t ih =>
      intro a s hab hs hn
      obtain ⟨hz, e1, e2, hs⟩ := hs
      have hx := hr x.1 (by rw [hab]; simp)
      refine r_aload_n C dX3_shareOf_5 lg_2 ?_
      refine r_ifnull C (tgt := 25) dX3_shareOf_6 (by decide) (fun c6 => ?_) (fun c6 => ?_)
      · exfalso; omega
      · refine r_aload_n C dX3_shareOf_9 lg_2 ?_
        refine r_getA C 160 3 dX3_shareOf_10 fg_X3_43_5 rfl rfl hz (fun g10 => ?_)
        refine r_aload_n C dX3_shareOf_13 lg_1 ?_
        refine r_aceq C (tgt := 25) dX3_shareOf_14 (by decide) (by omega) (by omega) (fun c14 => ?_) (fun c14 => ?_)
        · refine r_aload_n C dX3_shareOf_25 lg_2 ?_
          exact f_A F dX3_shareOf_26 hz.2 ⟨Or.inr ⟨x.2, by rw [hab, show (r, x.2) = x from by rw [show r = x.1 by omega]]; simp, hz, e2⟩, rfl, rfl⟩ (Nat.le_of_ble_eq_true rfl) (Nat.le_of_ble_eq_true rfl)
        · refine r_aload_n C dX3_shareOf_17 lg_2 ?_
          refine r_getA C 161 5 dX3_shareOf_18 fg_X3_49_5 rfl rfl hz (fun g18 => ?_)
          refine r_astore_n C dX3_shareOf_21 (ls1_2 (cat_R _ _ _) (cat_R _ _ _)) ?_
          refine r_goto C (tgt := 5) dX3_shareOf_22 (by decide) ?_
          exact ih (a ++ [x]) (S 161 s) (by rw [hab]; simp) hs (fun q => by
            rw [List.map_append, List.mem_append] at q
            rcases q with q | q
            · exact hn q
            · have e : r = x.1 := by simpa using q
              omega)
  refine r_aload_n C dX3_shareOf_0 lg_0 ?_
  refine r_getA C 105 5 dX3_shareOf_1 fg_X3_39_3 rfl rfl hm (fun g1 => ?_)
  refine r_astore_n C dX3_shareOf_4 (ls1_2 (cat_R _ _ _) (cat_R _ _ _)) ?_
  exact lp l9 [] (S 105 m) rfl hc (by simp)
set_option maxRecDepth 20000 in
theorem cG_over {G : GT} {l : Launch} (hfl : l.stackTraces = false) {S : ST} {A : AB} {r : Int} {L : List Int} {sh : Int → List (Int × Int)} (hl2 : lv1 A 2 0) (hch : CH (S 104) (S 64 0) L) (hrr : lv1 A 3 r) (hL : ∀ x ∈ L, lv1 A 3 x ∧ SHC S (A.2 5) (S 105 x) (sh x) ∧ ∀ y ∈ (sh x).map Prod.fst, 0 ≤ y ∧ y < A.2 3) : CT G l yX2_spreadsOver cX2_spreadsOver 3 (some .boolean) (rmk 1 0 0 22) S A [vR A 2 0, vR A 3 r] (oZ fun z S' A' => b2i (∃ x ∈ L, r ∈ (sh x).map Prod.fst) = z ∧ S = S' ∧ A = A') (noX) := by
  refine ct_ofN (own := RX2) (mn := "spreadsOver") rfl rfl (by decide) hfl (lv0 := [some (vR A 2 0), some (vR A 3 r), none]) (ent_1 (cat_R _ _ _) (ent_1 (cat_R _ _ _) (ent_n ent_0))) rfl ?_
  intro J X C F FX FT FU hW hA
  have lp : ∀ (b a : List Int) (s : Int) (hab : L = a ++ b) (hs : CH (S 104) s b) (hn : ∀ x ∈ a, r ∉ (sh x).map Prod.fst), J 5 [some (vR A 2 0), some (vR A 3 r), some (vR A 3 s)] [] S A 0 0 := by
    intro b
    induction b with
    | nil =>
      intro a s hab hs hn
      have hs : s = -1 := hs
      refine r_aload_n C dX2_spreadsOver_5 lg_2 ?_
      refine r_ifnull C (tgt := 25) dX2_spreadsOver_6 (by decide) (fun c6 => ?_) (fun c6 => ?_)
      · refine r_aload_n C dX2_spreadsOver_25 lg_2 ?_
        refine r_ifnull C (tgt := 33) dX2_spreadsOver_26 (by decide) (fun c26 => ?_) (fun c26 => ?_)
        · refine r_iconst C dX2_spreadsOver_33 ?_
          exact f_Z F dX2_spreadsOver_34 (by omega) ⟨b2i_f (fun ⟨x, hx, q⟩ => hn x (by rw [hab, List.append_nil] at hx; exact hx) q), rfl, rfl⟩ (Nat.le_of_ble_eq_true rfl) (Nat.le_of_ble_eq_true rfl)
        · exfalso; omega
      · exfalso; omega
    | cons x t ih =>
      intro a s hab hs hn
      obtain ⟨rfl, hs⟩ := hs
      have hz := hL s (by rw [hab]; simp)
      refine r_aload_n C dX2_spreadsOver_5 lg_2 ?_
      refine r_ifnull C (tgt := 25) dX2_spreadsOver_6 (by decide) (fun c6 => ?_) (fun c6 => ?_)
      · exfalso; omega
      · refine r_aload_n C dX2_spreadsOver_9 lg_2 ?_
        refine r_aload_n C dX2_spreadsOver_10 lg_1 ?_
        refine q_V1A C (cV_share hfl hz.1 hrr hz.2.1 hz.2.2) dX2_spreadsOver_11 lk_X2_49 hz.1 ⟨Nat.le_of_ble_eq_true rfl, Nat.le_of_ble_eq_true rfl⟩ (catLe (Nat.le_of_ble_eq_true rfl)) ⟨rfl, rfl⟩ rfl (Nat.le_of_ble_eq_true rfl) (Nat.le_of_ble_eq_true rfl) (fun z11 S11 A11 i11 p11 => ?_)
        obtain ⟨h9, rfl, rfl⟩ := p11
        refine r_ifnonnull C (tgt := 25) dX2_spreadsOver_14 (by decide) (fun c14 => ?_) (fun c14 => ?_)
        · refine r_aload_n C dX2_spreadsOver_25 lg_2 ?_
          refine r_ifnull C (tgt := 33) dX2_spreadsOver_26 (by decide) (fun c26 => ?_) (fun c26 => ?_)
          · exfalso; omega
          · refine r_iconst C dX2_spreadsOver_29 ?_
            refine r_goto C (tgt := 34) dX2_spreadsOver_30 (by decide) ?_
            exact f_Z F dX2_spreadsOver_34 (by omega) ⟨by
                rcases h9 with ⟨h, e⟩ | ⟨p, hp, hzz⟩
                · omega
                · exact b2i_t ⟨s, by rw [hab]; simp, List.mem_map.mpr ⟨_, hp, rfl⟩⟩, rfl, rfl⟩ (Nat.le_of_ble_eq_true rfl) (Nat.le_of_ble_eq_true rfl)
        · refine r_aload_n C dX2_spreadsOver_17 lg_2 ?_
          refine r_getA C 104 3 dX2_spreadsOver_18 fg_X2_19_3 rfl rfl hz.1 (fun g18 => ?_)
          refine r_astore_n C dX2_spreadsOver_21 (ls1_2 (cat_R _ _ _) (cat_R _ _ _)) ?_
          refine r_goto C (tgt := 5) dX2_spreadsOver_22 (by decide) ?_
          exact ih (a ++ [s]) (S 104 s) (by rw [hab]; simp) hs (fun y hy => by
            rcases List.mem_append.mp hy with hy | hy
            · exact hn y hy
            · rw [List.mem_singleton.mp hy]
              rcases h9 with ⟨h, e⟩ | ⟨p, hp, hzz⟩
              · exact h
              · omega)
  refine r_aload_n C dX2_spreadsOver_0 lg_0 ?_
  refine r_getA C 64 3 dX2_spreadsOver_1 fg_X2_7_2 rfl rfl hl2 (fun g1 => ?_)
  refine r_astore_n C dX2_spreadsOver_4 (ls1_2 (cat_R _ _ _) (cat_R _ _ _)) ?_
  exact lp L [] (S 64 0) rfl hch (fun x hx => by cases hx)
