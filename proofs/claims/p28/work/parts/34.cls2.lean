/-! the class: the ledger as a chain -/
theorem CH.upd {nx : Int → Int} {z v : Int} : ∀ {l : List Int} {s : Int}, CH nx s l → z ∉ l → CH (fu nx z v) s l
  | [], _, h, _ => h
  | x :: t, s, ⟨h1, h2⟩, hz => by
    refine ⟨h1, ?_⟩
    rw [fu_ne _ _ (show x ≠ z from fun e => hz (e ▸ List.mem_cons_self))]
    exact CH.upd h2 (fun q => hz (List.mem_cons_of_mem _ q))
theorem ch_ins {nx : Int → Int} {y m : Int} : ∀ {a b : List Int} {s : Int}, CH nx s (a ++ y :: b) → y ∉ a → y ∉ b → m ∉ a ++ y :: b → CH (fu (fu nx m (nx y)) y m) s (a ++ y :: m :: b)
  | [], b, s, ⟨h1, h2⟩, _, hb, hm => by
    have hy : m ≠ y := fun e => hm (e ▸ List.mem_cons_self)
    refine ⟨h1, ?_⟩
    rw [fu_self]
    refine ⟨rfl, ?_⟩
    rw [fu_ne _ _ hy, fu_self]
    exact (h2.upd (fun q => hm (List.mem_cons_of_mem _ q))).upd hb
  | x :: a, b, s, ⟨h1, h2⟩, ha, hb, hm => by
    refine ⟨h1, ?_⟩
    rw [fu_ne _ _ (show x ≠ y from fun e => ha (e ▸ List.mem_cons_self)), fu_ne _ _ (show x ≠ m from fun e => hm (e ▸ List.mem_cons_self))]
    exact ch_ins h2 (fun q => ha (List.mem_cons_of_mem _ q)) hb (fun q => hm (List.mem_cons_of_mem _ q))
theorem ch_rem {nx : Int → Int} {y m : Int} : ∀ {a b : List Int} {s : Int}, CH nx s (a ++ y :: m :: b) → (a ++ y :: m :: b).Nodup → CH (fu (fu nx y (nx m)) m (-1)) s (a ++ y :: b)
  | [], b, s, ⟨h1, h2, h3⟩, hn => by
    obtain ⟨n1, n2⟩ := List.nodup_cons.mp hn
    obtain ⟨n3, n4⟩ := List.nodup_cons.mp n2
    have hy : y ≠ m := fun e => n1 (e ▸ List.mem_cons_self)
    refine ⟨h1, ?_⟩
    rw [fu_ne _ _ hy, fu_self]
    exact (h3.upd (fun q => n1 (List.mem_cons_of_mem _ q))).upd n3
  | x :: a, b, s, ⟨h1, h2⟩, hn => by
    obtain ⟨n1, n2⟩ := List.nodup_cons.mp hn
    refine ⟨h1, ?_⟩
    rw [fu_ne _ _ (show x ≠ m from fun e => n1 (by rw [e]; simp)), fu_ne _ _ (show x ≠ y from fun e => n1 (by rw [e]; simp))]
    exact ch_rem h2 n2
noncomputable def spf (dy nm it dl q : Int → Int) (nd : Int → Prop) (item d n : Int) : List Int → Int → Int → Int
  | [], _, s => s
  | m :: t, u, s => cI (it m = item) (spf dy nm it dl q nd item d n t (u + dl m) (cI (d < dy m ∨ (d = dy m ∧ n < nm m)) (cI (nd m) (mn (u - q m) s) s) (u + dl m))) (spf dy nm it dl q nd item d n t u s)
theorem mn_b {a b x y : Int} (h1 : x ≤ a ∧ a ≤ y) (h2 : x ≤ b ∧ b ≤ y) : x ≤ mn a b ∧ mn a b ≤ y := by unfold mn; split <;> omega
set_option maxRecDepth 20000 in
theorem cG_spare {G : GT} {l : Launch} (hfl : l.stackTraces = false) {S : ST} {A : AB} {item d n : Int} {L : List Int} (hl2 : lv1 A 2 0) (hlen : L.length ≤ 60) (hch : CH (S 104) (S 64 0) L) (hL : ∀ x ∈ L, (0 ≤ x ∧ x < A.2 3) ∧ 0 ≤ S 100 x ∧ S 100 x ≤ 1000) (hi : rI item) (hd : rI d) (hn : rI n) : CT G l yX2_spare cX2_spare 8 (some .int) (rmk 1 0 0 30) S A [vR A 2 0, vI item, vI d, vI n] (oI fun z S' A' => spf (S 98) (S 96) (S 99) (dlt (S 97) (S 100)) (S 100) (fun m => S 97 m = 1 ∨ S 97 m = 2) item d n L 0 0 = z ∧ S = S' ∧ A = A') (noX) := by
  refine ct_ofN (own := RX2) (mn := "spare") rfl rfl (by decide) hfl (lv0 := [some (vR A 2 0), some (vI item), some (vI d), some (vI n), none, none, none, none]) (ent_1 (cat_R _ _ _) (ent_1 rfl (ent_1 rfl (ent_1 rfl (ent_n (ent_n (ent_n (ent_n ent_0)))))))) rfl ?_
  intro J X C F FX FT FU hW hA
  have lp : ∀ (b : List Int) (s u p : Int) (hs : CH (S 104) s b) (hb : ∀ x ∈ b, (0 ≤ x ∧ x < A.2 3) ∧ 0 ≤ S 100 x ∧ S 100 x ≤ 1000) (hl9 : b.length ≤ 60) (hu : -(1000 * (60 - (b.length : Int))) ≤ u ∧ u ≤ 1000 * (60 - (b.length : Int))) (hp : -(1000 * (61 - (b.length : Int))) ≤ p ∧ p ≤ 1000 * (61 - (b.length : Int))) (hG : spf (S 98) (S 96) (S 99) (dlt (S 97) (S 100)) (S 100) (fun m => S 97 m = 1 ∨ S 97 m = 2) item d n b u p = spf (S 98) (S 96) (S 99) (dlt (S 97) (S 100)) (S 100) (fun m => S 97 m = 1 ∨ S 97 m = 2) item d n L 0 0), J 12 [some (vR A 2 0), some (vI item), some (vI d), some (vI n), some (vI u), some (vI p), some (vR A 3 s), none] [] S A 0 0 := by
    intro b
    induction b with
    | nil =>
      intro s u p hs hb hl9 hu hp hG
      have hs : s = -1 := hs
      simp only [List.length_nil] at hu hp
      refine r_aload C dX2_spare_12 lg_6 ?_
      refine r_ifnull C (tgt := 97) dX2_spare_14 (by decide) (fun c14 => ?_) (fun c14 => ?_)
      · refine r_iload C dX2_spare_97 lg_5 ?_
        exact f_I F dX2_spare_99 (by omega) ⟨hG.symm, rfl, rfl⟩ (Nat.le_of_ble_eq_true rfl) (Nat.le_of_ble_eq_true rfl)
      · exfalso; omega
    | cons m t ih =>
      intro s u p hs hb hl9 hu hp hG
      obtain ⟨rfl, hs⟩ := hs
      obtain ⟨hz, hq⟩ := hb s List.mem_cons_self
      rw [List.length_cons] at hu hl9 hp
      have key := fun (u' p' : Int) (h1 : -(1000 * (60 - (t.length : Int))) ≤ u' ∧ u' ≤ 1000 * (60 - (t.length : Int))) (h2 : -(1000 * (61 - (t.length : Int))) ≤ p' ∧ p' ≤ 1000 * (61 - (t.length : Int))) (h3 : spf (S 98) (S 96) (S 99) (dlt (S 97) (S 100)) (S 100) (fun m => S 97 m = 1 ∨ S 97 m = 2) item d n t u' p' = spf (S 98) (S 96) (S 99) (dlt (S 97) (S 100)) (S 100) (fun m => S 97 m = 1 ∨ S 97 m = 2) item d n L 0 0) => ih (S 104 s) u' p' hs (fun x hx => hb x (List.mem_cons_of_mem _ hx)) (by omega) h1 h2 h3
      have hG' : cI (S 99 s = item) (spf (S 98) (S 96) (S 99) (dlt (S 97) (S 100)) (S 100) (fun m => S 97 m = 1 ∨ S 97 m = 2) item d n t (u + dlt (S 97) (S 100) s) (cI (d < S 98 s ∨ (d = S 98 s ∧ n < S 96 s)) (cI (S 97 s = 1 ∨ S 97 s = 2) (mn (u - S 100 s) p) p) (u + dlt (S 97) (S 100) s))) (spf (S 98) (S 96) (S 99) (dlt (S 97) (S 100)) (S 100) (fun m => S 97 m = 1 ∨ S 97 m = 2) item d n t u p) = spf (S 98) (S 96) (S 99) (dlt (S 97) (S 100)) (S 100) (fun m => S 97 m = 1 ∨ S 97 m = 2) item d n L 0 0 := hG
      have hdl : -1000 ≤ dlt (S 97) (S 100) s ∧ dlt (S 97) (S 100) s ≤ 1000 := by unfold dlt; split <;> (try split) <;> omega
      refine r_aload C dX2_spare_12 lg_6 ?_
      refine r_ifnull C (tgt := 97) dX2_spare_14 (by decide) (fun c14 => ?_) (fun c14 => ?_)
      · exfalso; omega
      · refine r_aload C dX2_spare_17 lg_6 ?_
        refine r_getI C 99 dX2_spare_19 fg_X2_25_3 rfl rfl hz (fun g19 => ?_)
        refine r_iload_n C dX2_spare_22 lg_1 ?_
        refine r_icne C (tgt := 87) dX2_spare_23 (by decide) (by omega) (by omega) (fun c23 => ?_) (fun c23 => ?_)
        · refine r_aload C dX2_spare_87 lg_6 ?_
          refine r_getA C 104 3 dX2_spare_89 fg_X2_19_3 rfl rfl hz (fun g89 => ?_)
          refine r_astore C dX2_spare_92 (ls1_6 (cat_R _ _ _) rfl) ?_
          refine r_goto C (tgt := 12) dX2_spare_94 (by decide) ?_
          first
          | exact absurd c75 c37
          | exact absurd c37 c75
          | (rw [cI_f (by omega)] at hG'; exact key _ _ (by omega) (by omega) hG')
          | (rw [cI_t (by omega)] at hG'
             first
             | (rw [cI_f c37] at hG'; exact key _ _ (by omega) (by omega) hG')
             | (rw [cI_t c37, cI_f c45] at hG'; exact key _ _ (by omega) (by omega) hG')
             | (rw [cI_t c37, cI_t c45] at hG'; exact key _ _ (by omega) (mn_b (by omega) (by omega)) hG'))
        · refine r_aload C dX2_spare_26 lg_6 ?_
          refine r_iload_n C dX2_spare_28 lg_2 ?_
          refine r_iload_n C dX2_spare_29 lg_3 ?_
          refine q_V2Z C (cV_behind hfl hz (by omega) (by omega)) dX2_spare_30 lk_X2_32 hz ⟨Nat.le_of_ble_eq_true rfl, Nat.le_of_ble_eq_true rfl⟩ (catLe (Nat.le_of_ble_eq_true rfl)) ⟨rfl, rfl⟩ rfl (Nat.le_of_ble_eq_true rfl) (Nat.le_of_ble_eq_true rfl) (fun z30 S30 A30 i30 p30 => ?_)
          obtain ⟨rfl, rfl, rfl⟩ := p30
          refine r_istore C dX2_spare_33 (ls1_7 rfl (cat_R _ _ _)) ?_
          refine r_iload C dX2_spare_35 lg_7 ?_
          refine rb_ifeq C (tgt := 63) dX2_spare_37 (by decide) (fun c37 => ?_) (fun c37 => ?_)
          · refine r_iload C dX2_spare_63 lg_4 ?_
            refine r_aload C dX2_spare_65 lg_6 ?_
            refine q_V0I C (cV_change hfl hz hq) dX2_spare_67 lk_X2_28 hz ⟨Nat.le_of_ble_eq_true rfl, Nat.le_of_ble_eq_true rfl⟩ (catLe (Nat.le_of_ble_eq_true rfl)) ⟨rfl, rfl⟩ rfl (Nat.le_of_ble_eq_true rfl) (Nat.le_of_ble_eq_true rfl) (fun z67 S67 A67 i67 p67 => ?_)
            obtain ⟨rfl, rfl, rfl⟩ := p67
            refine r_iadd C dX2_spare_70 ?_
            refine r_istore C dX2_spare_71 (ls1_4 rfl rfl) ?_
            refine r_iload C dX2_spare_73 lg_7 ?_
            refine rb_ifeq C (tgt := 83) dX2_spare_75 (by decide) (fun c75 => ?_) (fun c75 => ?_)
            · refine r_iload C dX2_spare_83 lg_4 ?_
              refine r_istore C dX2_spare_85 (ls1_5 rfl rfl) ?_
              refine r_aload C dX2_spare_87 lg_6 ?_
              refine r_getA C 104 3 dX2_spare_89 fg_X2_19_3 rfl rfl hz (fun g89 => ?_)
              refine r_astore C dX2_spare_92 (ls1_6 (cat_R _ _ _) rfl) ?_
              refine r_goto C (tgt := 12) dX2_spare_94 (by decide) ?_
              refine r_le C (lle_k (lle_k (lle_k (lle_k (lle_k (lle_k (lle_k (lle_f lle_0)))))))) ?_
              first
              | exact absurd c75 c37
              | exact absurd c37 c75
              | (rw [cI_f (by omega)] at hG'; exact key _ _ (by omega) (by omega) hG')
              | (rw [cI_t (by omega)] at hG'
                 first
                 | (rw [cI_f c37] at hG'; exact key _ _ (by omega) (by omega) hG')
                 | (rw [cI_t c37, cI_f c45] at hG'; exact key _ _ (by omega) (by omega) hG')
                 | (rw [cI_t c37, cI_t c45] at hG'; exact key _ _ (by omega) (mn_b (by omega) (by omega)) hG'))
            · refine r_iload C dX2_spare_78 lg_5 ?_
              refine r_goto C (tgt := 85) dX2_spare_80 (by decide) ?_
              refine r_istore C dX2_spare_85 (ls1_5 rfl rfl) ?_
              refine r_aload C dX2_spare_87 lg_6 ?_
              refine r_getA C 104 3 dX2_spare_89 fg_X2_19_3 rfl rfl hz (fun g89 => ?_)
              refine r_astore C dX2_spare_92 (ls1_6 (cat_R _ _ _) rfl) ?_
              refine r_goto C (tgt := 12) dX2_spare_94 (by decide) ?_
              refine r_le C (lle_k (lle_k (lle_k (lle_k (lle_k (lle_k (lle_k (lle_f lle_0)))))))) ?_
              first
              | exact absurd c75 c37
              | exact absurd c37 c75
              | (rw [cI_f (by omega)] at hG'; exact key _ _ (by omega) (by omega) hG')
              | (rw [cI_t (by omega)] at hG'
                 first
                 | (rw [cI_f c37] at hG'; exact key _ _ (by omega) (by omega) hG')
                 | (rw [cI_t c37, cI_f c45] at hG'; exact key _ _ (by omega) (by omega) hG')
                 | (rw [cI_t c37, cI_t c45] at hG'; exact key _ _ (by omega) (mn_b (by omega) (by omega)) hG'))
          · refine r_aload C dX2_spare_40 lg_6 ?_
            refine q_V0Z C (cV_needs hfl hz) dX2_spare_42 lk_X2_36 hz ⟨Nat.le_of_ble_eq_true rfl, Nat.le_of_ble_eq_true rfl⟩ (catLe (Nat.le_of_ble_eq_true rfl)) ⟨rfl, rfl⟩ rfl (Nat.le_of_ble_eq_true rfl) (Nat.le_of_ble_eq_true rfl) (fun z42 S42 A42 i42 p42 => ?_)
            obtain ⟨rfl, rfl, rfl⟩ := p42
            refine rb_ifeq C (tgt := 63) dX2_spare_45 (by decide) (fun c45 => ?_) (fun c45 => ?_)
            · refine r_iload C dX2_spare_63 lg_4 ?_
              refine r_aload C dX2_spare_65 lg_6 ?_
              refine q_V0I C (cV_change hfl hz hq) dX2_spare_67 lk_X2_28 hz ⟨Nat.le_of_ble_eq_true rfl, Nat.le_of_ble_eq_true rfl⟩ (catLe (Nat.le_of_ble_eq_true rfl)) ⟨rfl, rfl⟩ rfl (Nat.le_of_ble_eq_true rfl) (Nat.le_of_ble_eq_true rfl) (fun z67 S67 A67 i67 p67 => ?_)
              obtain ⟨rfl, rfl, rfl⟩ := p67
              refine r_iadd C dX2_spare_70 ?_
              refine r_istore C dX2_spare_71 (ls1_4 rfl rfl) ?_
              refine r_iload C dX2_spare_73 lg_7 ?_
              refine rb_ifeq C (tgt := 83) dX2_spare_75 (by decide) (fun c75 => ?_) (fun c75 => ?_)
              · refine r_iload C dX2_spare_83 lg_4 ?_
                refine r_istore C dX2_spare_85 (ls1_5 rfl rfl) ?_
                refine r_aload C dX2_spare_87 lg_6 ?_
                refine r_getA C 104 3 dX2_spare_89 fg_X2_19_3 rfl rfl hz (fun g89 => ?_)
                refine r_astore C dX2_spare_92 (ls1_6 (cat_R _ _ _) rfl) ?_
                refine r_goto C (tgt := 12) dX2_spare_94 (by decide) ?_
                refine r_le C (lle_k (lle_k (lle_k (lle_k (lle_k (lle_k (lle_k (lle_f lle_0)))))))) ?_
                first
                | exact absurd c75 c37
                | exact absurd c37 c75
                | (rw [cI_f (by omega)] at hG'; exact key _ _ (by omega) (by omega) hG')
                | (rw [cI_t (by omega)] at hG'
                   first
                   | (rw [cI_f c37] at hG'; exact key _ _ (by omega) (by omega) hG')
                   | (rw [cI_t c37, cI_f c45] at hG'; exact key _ _ (by omega) (by omega) hG')
                   | (rw [cI_t c37, cI_t c45] at hG'; exact key _ _ (by omega) (mn_b (by omega) (by omega)) hG'))
              · refine r_iload C dX2_spare_78 lg_5 ?_
                refine r_goto C (tgt := 85) dX2_spare_80 (by decide) ?_
                refine r_istore C dX2_spare_85 (ls1_5 rfl rfl) ?_
                refine r_aload C dX2_spare_87 lg_6 ?_
                refine r_getA C 104 3 dX2_spare_89 fg_X2_19_3 rfl rfl hz (fun g89 => ?_)
                refine r_astore C dX2_spare_92 (ls1_6 (cat_R _ _ _) rfl) ?_
                refine r_goto C (tgt := 12) dX2_spare_94 (by decide) ?_
                refine r_le C (lle_k (lle_k (lle_k (lle_k (lle_k (lle_k (lle_k (lle_f lle_0)))))))) ?_
                first
                | exact absurd c75 c37
                | exact absurd c37 c75
                | (rw [cI_f (by omega)] at hG'; exact key _ _ (by omega) (by omega) hG')
                | (rw [cI_t (by omega)] at hG'
                   first
                   | (rw [cI_f c37] at hG'; exact key _ _ (by omega) (by omega) hG')
                   | (rw [cI_t c37, cI_f c45] at hG'; exact key _ _ (by omega) (by omega) hG')
                   | (rw [cI_t c37, cI_t c45] at hG'; exact key _ _ (by omega) (mn_b (by omega) (by omega)) hG'))
            · refine r_iload C dX2_spare_48 lg_5 ?_
              refine r_iload C dX2_spare_50 lg_4 ?_
              refine r_aload C dX2_spare_52 lg_6 ?_
              refine r_getI C 100 dX2_spare_54 fg_X2_40_3 rfl rfl hz (fun g54 => ?_)
              refine r_isub C dX2_spare_57 ?_
              refine r_min C dX2_spare_58 lk_X2_43 wMin2 wMin3 wMin4 (Nat.le_of_ble_eq_true rfl) (Nat.le_of_ble_eq_true rfl) (Nat.le_of_ble_eq_true rfl) (Nat.le_of_ble_eq_true rfl) (by omega) (by omega) ?_
              refine r_istore C dX2_spare_61 (ls1_5 rfl rfl) ?_
              refine r_iload C dX2_spare_63 lg_4 ?_
              refine r_aload C dX2_spare_65 lg_6 ?_
              refine q_V0I C (cV_change hfl hz hq) dX2_spare_67 lk_X2_28 hz ⟨Nat.le_of_ble_eq_true rfl, Nat.le_of_ble_eq_true rfl⟩ (catLe (Nat.le_of_ble_eq_true rfl)) ⟨rfl, rfl⟩ rfl (Nat.le_of_ble_eq_true rfl) (Nat.le_of_ble_eq_true rfl) (fun z67 S67 A67 i67 p67 => ?_)
              obtain ⟨rfl, rfl, rfl⟩ := p67
              refine r_iadd C dX2_spare_70 ?_
              refine r_istore C dX2_spare_71 (ls1_4 rfl rfl) ?_
              refine r_iload C dX2_spare_73 lg_7 ?_
              refine rb_ifeq C (tgt := 83) dX2_spare_75 (by decide) (fun c75 => ?_) (fun c75 => ?_)
              · refine r_iload C dX2_spare_83 lg_4 ?_
                refine r_istore C dX2_spare_85 (ls1_5 rfl rfl) ?_
                refine r_aload C dX2_spare_87 lg_6 ?_
                refine r_getA C 104 3 dX2_spare_89 fg_X2_19_3 rfl rfl hz (fun g89 => ?_)
                refine r_astore C dX2_spare_92 (ls1_6 (cat_R _ _ _) rfl) ?_
                refine r_goto C (tgt := 12) dX2_spare_94 (by decide) ?_
                refine r_le C (lle_k (lle_k (lle_k (lle_k (lle_k (lle_k (lle_k (lle_f lle_0)))))))) ?_
                first
                | exact absurd c75 c37
                | exact absurd c37 c75
                | (rw [cI_f (by omega)] at hG'; exact key _ _ (by omega) (by omega) hG')
                | (rw [cI_t (by omega)] at hG'
                   first
                   | (rw [cI_f c37] at hG'; exact key _ _ (by omega) (by omega) hG')
                   | (rw [cI_t c37, cI_f c45] at hG'; exact key _ _ (by omega) (by omega) hG')
                   | (rw [cI_t c37, cI_t c45] at hG'; exact key _ _ (by omega) (mn_b (by omega) (by omega)) hG'))
              · refine r_iload C dX2_spare_78 lg_5 ?_
                refine r_goto C (tgt := 85) dX2_spare_80 (by decide) ?_
                refine r_istore C dX2_spare_85 (ls1_5 rfl rfl) ?_
                refine r_aload C dX2_spare_87 lg_6 ?_
                refine r_getA C 104 3 dX2_spare_89 fg_X2_19_3 rfl rfl hz (fun g89 => ?_)
                refine r_astore C dX2_spare_92 (ls1_6 (cat_R _ _ _) rfl) ?_
                refine r_goto C (tgt := 12) dX2_spare_94 (by decide) ?_
                refine r_le C (lle_k (lle_k (lle_k (lle_k (lle_k (lle_k (lle_k (lle_f lle_0)))))))) ?_
                first
                | exact absurd c75 c37
                | exact absurd c37 c75
                | (rw [cI_f (by omega)] at hG'; exact key _ _ (by omega) (by omega) hG')
                | (rw [cI_t (by omega)] at hG'
                   first
                   | (rw [cI_f c37] at hG'; exact key _ _ (by omega) (by omega) hG')
                   | (rw [cI_t c37, cI_f c45] at hG'; exact key _ _ (by omega) (by omega) hG')
                   | (rw [cI_t c37, cI_t c45] at hG'; exact key _ _ (by omega) (mn_b (by omega) (by omega)) hG'))
  refine r_iconst C dX2_spare_0 ?_
  refine r_istore C dX2_spare_1 (ls1_4 rfl rfl) ?_
  refine r_iconst C dX2_spare_3 ?_
  refine r_istore C dX2_spare_4 (ls1_5 rfl rfl) ?_
  refine r_aload_n C dX2_spare_6 lg_0 ?_
  refine r_getA C 64 3 dX2_spare_7 fg_X2_7_2 rfl rfl hl2 (fun g7 => ?_)
  refine r_astore C dX2_spare_10 (ls1_6 (cat_R _ _ _) rfl) ?_
  exact lp L (S 64 0) 0 0 hch hL hlen (by omega) (by omega) rfl
set_option maxRecDepth 20000 in
theorem cG_insert {G : GT} {l : Launch} (hfl : l.stackTraces = false) {S : ST} {A : AB} {m : Int} {L : List Int} (hl2 : lv1 A 2 0) (hlen : L.length ≤ 60) (hch : CH (S 104) (S 64 0) L) (hL : ∀ x ∈ L, (0 ≤ x ∧ x < A.2 3) ∧ True) (hm : lv1 A 3 m) (hmL : m ∉ L) (hnd : L.Nodup) (hsr : srt (S 98) L) (hsz : S 65 0 = L.length) (hA3 : A.2 3 ≤ 60) : CT G l yX2_insert cX2_insert 4 none (rmk 0 0 0 0) S A [vR A 2 0, vR A 3 m] (oV fun S' A' => A = A' ∧ Fr [104, 64, 65] S S' ∧ CH (S' 104) (S' 64 0) (ins (S 98) m L) ∧ S' 65 0 = S 65 0 + 1) (noX) := by
  refine ct_ofN (own := RX2) (mn := "insert") rfl rfl (by decide) hfl (lv0 := [some (vR A 2 0), some (vR A 3 m), none, none]) (ent_1 (cat_R _ _ _) (ent_1 (cat_R _ _ _) (ent_n (ent_n ent_0)))) rfl ?_
  intro J X C F FX FT FU hW hA
  have fin9 : ∀ (a b : List Int) (s ah : Int) (hab : L = a ++ b) (ha : ∀ x ∈ a, S 98 x ≤ S 98 m) (hah : (a = [] ∧ ah = -1) ∨ ∃ a', a = a' ++ [ah]) (hb : b = [] ∨ ∃ x t, b = x :: t ∧ S 98 m < S 98 x), J 32 [some (vR A 2 0), some (vR A 3 m), some (vR A 3 ah), some (vR A 3 s)] [] S A 0 0 := by
    intro a b s ah hab ha hah hb
    have w64 := (hW 64 0).1
    have w104 := (hW 104 ah).1
    have hb2 : ∀ x ∈ b, S 98 m < S 98 x := fun x hx => by
      rcases hb with rfl | ⟨y, t, rfl, hy⟩
      · cases hx
      · rcases List.mem_cons.mp hx with rfl | hx
        · exact hy
        · rw [hab] at hsr
          have h9 := (srt_app a (y :: t) hsr).2.1.1 x hx
          omega
    have e9 : ins (S 98) m L = a ++ m :: b := by rw [hab]; exact ins_split a b ha hb2
    have hlen2 : a.length + b.length ≤ 60 := by rw [hab, List.length_append] at hlen; exact hlen
    rcases hah with ⟨rfl, rfl⟩ | ⟨a', rfl⟩
    · refine r_aload_n C dX2_insert_32 lg_2 ?_
      refine r_ifnonnull C (tgt := 52) dX2_insert_33 (by decide) (fun c33 => ?_) (fun c33 => ?_)
      · exfalso; omega
      · refine r_aload_n C dX2_insert_36 lg_1 ?_
        refine r_aload_n C dX2_insert_37 lg_0 ?_
        refine r_getA C 64 3 dX2_insert_38 fg_X2_7_2 rfl rfl hl2 (fun g38 => ?_)
        refine r_putA C 104 3 dX2_insert_41 fg_X2_19_3 rfl rfl hm (fun q h => by cases h; exact Or.inl rfl) (by omega) (by omega) ?_
        refine r_aload_n C dX2_insert_44 lg_0 ?_
        refine r_aload_n C dX2_insert_45 lg_1 ?_
        refine r_putA C 64 3 dX2_insert_46 fg_X2_7_2 rfl rfl hl2 (fun q h => by cases h; exact Or.inl rfl) (by omega) (by omega) ?_
        refine r_goto C (tgt := 65) dX2_insert_49 (by decide) ?_
        refine r_aload_n C dX2_insert_65 lg_0 ?_
        refine r_dup C dX2_insert_66 (cat_R _ _ _) ?_
        refine r_getI C 65 dX2_insert_67 fg_X2_22_2 rfl rfl hl2 (fun g67 => ?_)
        rw [upS_c _ _ (by decide), upS_c _ _ (by decide)]
        refine r_iconst C dX2_insert_70 ?_
        refine r_iadd C dX2_insert_71 ?_
        refine r_putI C 65 dX2_insert_72 fg_X2_22_2 rfl rfl hl2 (fun q h => by cases h; exact Or.inl rfl) (by omega) ?_
        exact f_V F dX2_insert_75 (by
          refine ⟨rfl, ((Fr.up (by decide)).tr (Fr.up (by decide))).tr (Fr.up (by decide)), ?_, by rw [upS_self]⟩
          rw [e9, upS_fn _ _ _ (by decide), upS_fn _ _ _ (by decide), upS_fu, upS_c _ _ (by decide), upS_self]
          refine ⟨rfl, ?_⟩
          rw [fu_self]
          rw [hab] at hch hmL
          exact hch.upd hmL) (Nat.le_of_ble_eq_true rfl) (Nat.le_of_ble_eq_true rfl)
    · have hy := hL ah (by rw [hab]; simp)
      rw [List.append_assoc] at hab
      have hab : L = a' ++ ah :: b := hab
      rw [hab] at hnd hmL hch
      have hnn := List.nodup_append.mp hnd
      have hya : ah ∉ a' := fun q => hnn.2.2 _ q _ List.mem_cons_self rfl
      have hyb : ah ∉ b := (List.nodup_cons.mp hnn.2.1).1
      refine r_aload_n C dX2_insert_32 lg_2 ?_
      refine r_ifnonnull C (tgt := 52) dX2_insert_33 (by decide) (fun c33 => ?_) (fun c33 => ?_)
      · refine r_aload_n C dX2_insert_52 lg_1 ?_
        refine r_aload_n C dX2_insert_53 lg_2 ?_
        refine r_getA C 104 3 dX2_insert_54 fg_X2_19_3 rfl rfl hy.1 (fun g54 => ?_)
        refine r_putA C 104 3 dX2_insert_57 fg_X2_19_3 rfl rfl hm (fun q h => by cases h; exact Or.inl rfl) (by omega) (by omega) ?_
        refine r_aload_n C dX2_insert_60 lg_2 ?_
        refine r_aload_n C dX2_insert_61 lg_1 ?_
        refine r_putA C 104 3 dX2_insert_62 fg_X2_19_3 rfl rfl hy.1 (fun q h => by cases h; exact Or.inl rfl) (by omega) (by omega) ?_
        refine r_aload_n C dX2_insert_65 lg_0 ?_
        refine r_dup C dX2_insert_66 (cat_R _ _ _) ?_
        refine r_getI C 65 dX2_insert_67 fg_X2_22_2 rfl rfl hl2 (fun g67 => ?_)
        rw [upS_c _ _ (by decide), upS_c _ _ (by decide)]
        refine r_iconst C dX2_insert_70 ?_
        refine r_iadd C dX2_insert_71 ?_
        refine r_putI C 65 dX2_insert_72 fg_X2_22_2 rfl rfl hl2 (fun q h => by cases h; exact Or.inl rfl) (by omega) ?_
        exact f_V F dX2_insert_75 (by
          refine ⟨rfl, ((Fr.up (by decide)).tr (Fr.up (by decide))).tr (Fr.up (by decide)), ?_, by rw [upS_self]⟩
          rw [e9, upS_fn _ _ _ (by decide), upS_c _ _ (by decide), upS_c _ _ (by decide), upS_c _ _ (by decide), upS_fu, upS_fu, List.append_assoc]
          exact ch_ins hch hya hyb hmL) (Nat.le_of_ble_eq_true rfl) (Nat.le_of_ble_eq_true rfl)
      · exfalso; omega
  have lp : ∀ (b a : List Int) (s ah : Int) (hab : L = a ++ b) (hs : CH (S 104) s b) (ha : ∀ x ∈ a, S 98 x ≤ S 98 m) (hah : (a = [] ∧ ah = -1) ∨ ∃ a', a = a' ++ [ah]), J 7 [some (vR A 2 0), some (vR A 3 m), some (vR A 3 ah), some (vR A 3 s)] [] S A 0 0 := by
    intro b
    induction b with
    | nil =>
      intro a s ah hab hs ha hah
      have hs : s = -1 := hs
      refine r_aload_n C dX2_insert_7 lg_3 ?_
      refine r_ifnull C (tgt := 32) dX2_insert_8 (by decide) (fun c8 => ?_) (fun c8 => ?_)
      · exact fin9 a [] s ah hab ha hah (Or.inl rfl)
      · exfalso; omega
    | cons x t ih =>
      intro a s ah hab hs ha hah
      obtain ⟨rfl, hs⟩ := hs
      have hz := hL s (by rw [hab]; simp)
      refine r_aload_n C dX2_insert_7 lg_3 ?_
      refine r_ifnull C (tgt := 32) dX2_insert_8 (by decide) (fun c8 => ?_) (fun c8 => ?_)
      · exfalso; omega
      · refine r_aload_n C dX2_insert_11 lg_3 ?_
        refine r_getI C 98 dX2_insert_12 fg_X2_13_3 rfl rfl hz.1 (fun g12 => ?_)
        refine r_aload_n C dX2_insert_15 lg_1 ?_
        refine r_getI C 98 dX2_insert_16 fg_X2_13_3 rfl rfl hm (fun g16 => ?_)
        refine r_icgt C (tgt := 32) dX2_insert_19 (by decide) (by omega) (by omega) (fun c19 => ?_) (fun c19 => ?_)
        · exact fin9 a (s :: t) s ah hab ha hah (Or.inr ⟨s, t, rfl, by omega⟩)
        · refine r_aload_n C dX2_insert_22 lg_3 ?_
          refine r_astore_n C dX2_insert_23 (ls1_2 (cat_R _ _ _) (cat_R _ _ _)) ?_
          refine r_aload_n C dX2_insert_24 lg_3 ?_
          refine r_getA C 104 3 dX2_insert_25 fg_X2_19_3 rfl rfl hz.1 (fun g25 => ?_)
          refine r_astore_n C dX2_insert_28 (ls1_3 (cat_R _ _ _) (cat_R _ _ _)) ?_
          refine r_goto C (tgt := 7) dX2_insert_29 (by decide) ?_
          exact ih (a ++ [s]) (S 104 s) s (by rw [hab]; simp) hs (fun x hx => by
            rcases List.mem_append.mp hx with hx | hx
            · exact ha x hx
            · rw [List.mem_singleton.mp hx]; omega) (Or.inr ⟨a, rfl⟩)
  refine r_null C 3 dX2_insert_0 ?_
  refine r_astore_n C dX2_insert_1 (ls1_2 (cat_R _ _ _) (cat_R _ _ _)) ?_
  refine r_aload_n C dX2_insert_2 lg_0 ?_
  refine r_getA C 64 3 dX2_insert_3 fg_X2_7_2 rfl rfl hl2 (fun g3 => ?_)
  refine r_astore_n C dX2_insert_6 (ls1_3 (cat_R _ _ _) (cat_R _ _ _)) ?_
  exact lp L [] (S 64 0) (-1) rfl hch (fun x hx => by cases hx) (Or.inl ⟨rfl, rfl⟩)
