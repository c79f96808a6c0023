/-! the reference: the walk -/
theorem fu_cg {f g : Int → Int} {n v j : Int} (h : f j = g j) : fu f n v j = fu g n v j := by
  unfold fu
  rw [h]
theorem QD.up {S : ST} {q : QL3} (h : QD S q) {c : Nat} {z v : Int} (hc : c ∉ [244, 992, 1024, 1056]) : QD (upS S c z v) q := by
  have e : ∀ c' ∈ [244, 992, 1024, 1056], ∀ i, upS S c z v c' i = S c' i := fun c' h' i => upS_c S v (fun e => hc (e ▸ h'))
  exact ⟨(e 244 (by decide) 0).trans h.1, fun i x hx => by rw [e 992 (by decide), e 1024 (by decide), e 1056 (by decide)]; exact h.2 i x hx⟩
theorem QD.fr {S S' : ST} {q : QL3} {cs : List Nat} (h : QD S q) (hF : Fr cs S S') (hc : ∀ c ∈ [244, 992, 1024, 1056], c ∉ cs) : QD S' q := ⟨(hF 244 0 (hc 244 (by decide))).trans h.1, fun i x hx => by rw [hF 992 _ (hc 992 (by decide)), hF 1024 _ (hc 1024 (by decide)), hF 1056 _ (hc 1056 (by decide))]; exact h.2 i x hx⟩
theorem QD.set {S : ST} {a b : QL3} {x : Int × Int × Int} (h : QD S (a ++ x :: b)) (v : Int) : QD (upS S 1024 a.length v) (a ++ (x.1, v, x.2.2) :: b) := by
  refine ⟨?_, fun i y hy => ?_⟩
  · rw [upS_c _ _ (by decide), h.1, List.length_append, List.length_append, List.length_cons, List.length_cons]
  · rw [upS_c S v (show 992 ≠ 1024 by decide), upS_c S v (show 1056 ≠ 1024 by decide)]
    rw [ins_get] at hy
    by_cases h1 : i < a.length
    · rw [if_pos h1] at hy
      rw [upS_z _ _ (by omega)]
      exact h.2 i y (by rw [ins_get, if_pos h1]; exact hy)
    · rw [if_neg h1] at hy
      by_cases h2 : i = a.length
      · rw [if_pos h2] at hy
        cases hy
        subst h2
        have h9 := h.2 a.length x (by rw [ins_get, if_neg h1, if_pos rfl])
        rw [upS_self]
        exact ⟨h9.1, rfl, h9.2.2⟩
      · rw [if_neg h2] at hy
        rw [upS_z _ _ (by omega)]
        exact h.2 i y (by rw [ins_get, if_neg h1, if_neg h2]; exact hy)
set_option maxRecDepth 20000 in
theorem cM_lands {G : GT} {l : Launch} (hfl : l.stackTraces = false) {S : ST} {A : AB} {w : WS} {t p r : Int} (M : RM S A) (hW9 : WD S w) (ho : QOK w.q) (hnd : (w.q.map fun x => x.2.2).Nodup) (hl : w.q.length ≤ 60) (hb : WB w t) (ht : 0 ≤ t ∧ t ≤ 4000) (hr : 0 ≤ r ∧ r < 60) (hd : 1 ≤ S 416 r ∧ S 416 r ≤ 1000) (hp : 0 ≤ p ∧ p ≤ 2000000) : CT G l yX8_lands cX8_lands 7 none (rmk 1 0 0 23) S A [vR A 7 0, vI p, vI r] (oV fun S' A' => A = A' ∧ Fr [237, 238, 239, 244, 832, 864, 896, 928, 992, 1024, 1056] S S' ∧ WD S' (landW w r p (S 416 r))) (noX) := by
  refine ct_ofN (own := RX8) (mn := "lands") rfl rfl (by decide) hfl (lv0 := [some (vR A 7 0), some (vI p), some (vI r), none, none, none, none]) (ent_1 (cat_R _ _ _) (ent_1 rfl (ent_1 rfl (ent_n (ent_n (ent_n (ent_n ent_0))))))) rfl ?_
  intro J X C F FX FT FU hW hA
  obtain ⟨b1, b2, b3, b4, b5, b6, b7, b8, b9, b10⟩ := hb
  unfold bt at *
  obtain ⟨x237_0, x238_0, x239_0, x832_0, x832_1, x864_0, x864_1, x896_0, x896_1, hq, hic⟩ := hW9
  have hF : Fr [237, 238, 239, 244, 832, 864, 896, 928, 992, 1024, 1056] S S := Fr.rf
  by_cases hin : r ∈ w.q.map (fun x => x.2.2)
  · obtain ⟨a, x, b, hsp, hxr⟩ := q_split w.q hin
    rw [hsp] at ho hnd hl hq b3
    have hnd2 := hnd
    rw [List.map_append, List.map_cons, List.nodup_append] at hnd
    have hxa : x.2.2 ∉ a.map (fun x => x.2.2) := fun h9 => hnd.2.2 _ h9 _ List.mem_cons_self rfl
    have hxb : x.2.2 ∉ b.map (fun x => x.2.2) := (List.nodup_cons.mp hnd.2.1).1
    have hpl : plc r ((a ++ x :: b).map fun x => x.2.2) 0 (-1) = (a.length : Int) := by
      rw [List.map_append, List.map_cons, ← hxr, plc_y _ _ _ _ hxb, List.length_map, Int.zero_add]
    have hla : a.length < 60 := by rw [List.length_append, List.length_cons] at hl; omega
    obtain ⟨⟨hxx1, hxx2⟩, hxx3⟩ := ho x (by simp)
    have hox := hq.2 a.length x (by rw [ins_get, if_neg (by omega), if_pos rfl])
    obtain ⟨hx1, hx2, hx3⟩ := hox
    have hqm := qmore_y (p := p) (d := S 416 r) x a b hxa
    rw [hxr, ← hsp] at hqm
    skip
    rw [qc_app] at b3
    have hqa := qc_nn (q := a) (fun y hy => ho y (List.mem_append_left _ hy))
    have hqb := qc_nn (q := b) (fun y hy => ho y (List.mem_append_right _ (List.mem_cons_of_mem _ hy)))
    have b3 : qc a + (x.2.1 + qc b) ≤ 2000000000 * t := b3
    have hpx := mul_b (a := p) (b := x.1) hp.1 hp.2 (by omega) hxx2
    have hpq : 0 ≤ p * x.1 / S 416 r := Int.ediv_nonneg hpx.1 (by omega)
    have hpr : p * x.1 / S 416 r ≤ p * x.1 := Int.ediv_le_self _ hpx.1
    refine r_aload_n C dX8_lands_0 lg_0 ?_
    refine r_getA C 227 13 dX8_lands_1 fg_X8_19_7 rfl rfl M.1 (fun g1 => ?_)
    refine r_iload_n C dX8_lands_4 lg_2 ?_
    refine r_iald C (N := 60) 416 dX8_lands_5 (by decide) rfl rfl (M.g (j := 3) (by decide)) (by omega) (by omega) (by omega) (fun g5 => ?_)
    refine r_istore_n C dX8_lands_6 (ls1_3 rfl rfl) ?_
    refine r_aload_n C dX8_lands_7 lg_0 ?_
    refine r_iload_n C dX8_lands_8 lg_2 ?_
    refine q_V1I C (cM_layerOf hfl M (q := a ++ x :: b) hq (by omega) (by omega)) dX8_lands_9 lk_X8_167 M.1 ⟨Nat.le_of_ble_eq_true rfl, Nat.le_of_ble_eq_true rfl⟩ (catLe (Nat.le_of_ble_eq_true rfl)) ⟨rfl, rfl⟩ rfl (Nat.le_of_ble_eq_true rfl) (Nat.le_of_ble_eq_true rfl) (fun z9 S9 A9 i9 p9 => ?_)
    obtain ⟨rfl, rfl, rfl⟩ := p9
    rw [hpl]
    refine r_istore C dX8_lands_12 (ls1_4 rfl rfl) ?_
    refine r_iload C dX8_lands_14 lg_4 ?_
    refine r_iconst C dX8_lands_16 ?_
    refine r_icne C (tgt := 24) dX8_lands_17 (by decide) (by omega) (by omega) (fun c17 => ?_) (fun c17 => ?_)
    · refine r_iload_n C dX8_lands_24 lg_1 ?_
      refine r_i2l C dX8_lands_25 (by omega) ?_
      refine r_aload_n C dX8_lands_26 lg_0 ?_
      refine r_getA C 245 31 dX8_lands_27 fg_X8_58_7 rfl rfl M.1 (fun g27 => ?_)
      refine r_iload C dX8_lands_30 lg_4 ?_
      refine r_iald C (N := 60) 992 dX8_lands_32 (by decide) rfl rfl (M.g (j := 21) (by decide)) (by omega) (by omega) (by omega) (fun g32 => ?_)
      rw [hx1]
      refine r_i2l C dX8_lands_33 (by omega) ?_
      refine r_lmul C dX8_lands_34 ?_
      refine r_iload_n C dX8_lands_35 lg_3 ?_
      refine r_i2l C dX8_lands_36 (by omega) ?_
      refine r_ldiv C dX8_lands_37 (by omega) (by omega) (by omega) (by omega) ?_
      refine r_lstore C dX8_lands_38 (ls2_5 rfl rfl) ?_
      refine r_iload C dX8_lands_40 lg_4 ?_
      refine r_iconst C dX8_lands_42 ?_
      refine r_iceq C (tgt := 58) dX8_lands_43 (by decide) (by omega) (by omega) (fun c43 => ?_) (fun c43 => ?_)
      · exfalso; omega
      · refine r_aload_n C dX8_lands_46 lg_0 ?_
        refine r_getA C 246 32 dX8_lands_47 fg_X8_61_7 rfl rfl M.1 (fun g47 => ?_)
        refine r_iload C dX8_lands_50 lg_4 ?_
        refine r_dup2 C dX8_lands_52 rfl (cat_R _ _ _) ?_
        refine r_lald C (N := 60) 1024 dX8_lands_53 (by decide) rfl rfl (M.g (j := 22) (by decide)) (by omega) (by omega) (by omega) (fun g53 => ?_)
        rw [hx2]
        refine r_lload C dX8_lands_54 lg_5 ?_
        refine r_ladd C dX8_lands_56 ?_
        refine r_last C (N := 60) 1024 dX8_lands_57 (by decide) rfl rfl (M.g (j := 22) (by decide)) (by omega) (by omega) (by omega) (by omega) ?_
        refine r_gS (fun S57 h57 => ?_)
        have M : RM S57 A := by rw [h57]; exact M.up (by decide)
        have hF : Fr [237, 238, 239, 244, 832, 864, 896, 928, 992, 1024, 1056] S S57 := hF.tr (by rw [h57]; exact Fr.up (by decide))
        have x237_0 := (congrFun (congrFun h57 237) 0).trans ((upS_c _ _ (by decide)).trans x237_0)
        have x238_0 := (congrFun (congrFun h57 238) 0).trans ((upS_c _ _ (by decide)).trans x238_0)
        have x239_0 := (congrFun (congrFun h57 239) 0).trans ((upS_c _ _ (by decide)).trans x239_0)
        have x832_0 := (congrFun (congrFun h57 832) 0).trans ((upS_c _ _ (by decide)).trans x832_0)
        have x832_1 := (congrFun (congrFun h57 832) 1).trans ((upS_c _ _ (by decide)).trans x832_1)
        have x864_0 := (congrFun (congrFun h57 864) 0).trans ((upS_c _ _ (by decide)).trans x864_0)
        have x864_1 := (congrFun (congrFun h57 864) 1).trans ((upS_c _ _ (by decide)).trans x864_1)
        have x896_0 := (congrFun (congrFun h57 896) 0).trans ((upS_c _ _ (by decide)).trans x896_0)
        have x896_1 := (congrFun (congrFun h57 896) 1).trans ((upS_c _ _ (by decide)).trans x896_1)
        have hq := (show QD S57 _ from h57 ▸ hq.set _)
        have hic := fun j => (congrFun (congrFun h57 928) j).trans ((upS_c _ _ (by decide)).trans (hic j))
        refine r_aload_n C dX8_lands_58 lg_0 ?_
        refine r_dup C dX8_lands_59 (cat_R _ _ _) ?_
        refine r_getJ C 239 dX8_lands_60 fg_X8_171_7 rfl rfl M.1 (fun g60 => ?_)
        rw [x239_0]
        refine r_iload_n C dX8_lands_63 lg_1 ?_
        refine r_i2l C dX8_lands_64 (by omega) ?_
        refine r_ladd C dX8_lands_65 ?_
        refine r_putJ C 239 dX8_lands_66 fg_X8_171_7 rfl rfl M.1 (fun q h => by cases h; exact Or.inl rfl) (by omega) ?_
        refine r_gS (fun S66 h66 => ?_)
        have M : RM S66 A := by rw [h66]; exact M.up (by decide)
        have hF : Fr [237, 238, 239, 244, 832, 864, 896, 928, 992, 1024, 1056] S S66 := hF.tr (by rw [h66]; exact Fr.up (by decide))
        have x237_0 := (congrFun (congrFun h66 237) 0).trans ((upS_c _ _ (by decide)).trans x237_0)
        have x238_0 := (congrFun (congrFun h66 238) 0).trans ((upS_c _ _ (by decide)).trans x238_0)
        have x239_0 := (congrFun (congrFun h66 239) 0).trans (upS_self _ _ _ _)
        have x832_0 := (congrFun (congrFun h66 832) 0).trans ((upS_c _ _ (by decide)).trans x832_0)
        have x832_1 := (congrFun (congrFun h66 832) 1).trans ((upS_c _ _ (by decide)).trans x832_1)
        have x864_0 := (congrFun (congrFun h66 864) 0).trans ((upS_c _ _ (by decide)).trans x864_0)
        have x864_1 := (congrFun (congrFun h66 864) 1).trans ((upS_c _ _ (by decide)).trans x864_1)
        have x896_0 := (congrFun (congrFun h66 896) 0).trans ((upS_c _ _ (by decide)).trans x896_0)
        have x896_1 := (congrFun (congrFun h66 896) 1).trans ((upS_c _ _ (by decide)).trans x896_1)
        have hq := (show QD S66 _ from h66 ▸ hq.up (by decide))
        have hic := fun j => (congrFun (congrFun h66 928) j).trans ((upS_c _ _ (by decide)).trans (hic j))
        refine r_aload_n C dX8_lands_69 lg_0 ?_
        refine r_getA C 242 28 dX8_lands_70 fg_X8_52_7 rfl rfl M.1 (fun g70 => ?_)
        refine r_iconst C dX8_lands_73 ?_
        refine r_dup2 C dX8_lands_74 rfl (cat_R _ _ _) ?_
        refine r_lald C (N := 2) 896 dX8_lands_75 (by decide) rfl rfl (M.g (j := 18) (by decide)) (by omega) (by omega) (by omega) (fun g75 => ?_)
        rw [x896_0]
        refine r_iload_n C dX8_lands_76 lg_1 ?_
        refine r_i2l C dX8_lands_77 (by omega) ?_
        refine r_lload C dX8_lands_78 lg_5 ?_
        refine r_lsub C dX8_lands_80 ?_
        refine r_ladd C dX8_lands_81 ?_
        refine r_last C (N := 2) 896 dX8_lands_82 (by decide) rfl rfl (M.g (j := 18) (by decide)) (by omega) (by omega) (by omega) (by omega) ?_
        refine r_gS (fun S82 h82 => ?_)
        have M : RM S82 A := by rw [h82]; exact M.up (by decide)
        have hF : Fr [237, 238, 239, 244, 832, 864, 896, 928, 992, 1024, 1056] S S82 := hF.tr (by rw [h82]; exact Fr.up (by decide))
        have x237_0 := (congrFun (congrFun h82 237) 0).trans ((upS_c _ _ (by decide)).trans x237_0)
        have x238_0 := (congrFun (congrFun h82 238) 0).trans ((upS_c _ _ (by decide)).trans x238_0)
        have x239_0 := (congrFun (congrFun h82 239) 0).trans ((upS_c _ _ (by decide)).trans x239_0)
        have x832_0 := (congrFun (congrFun h82 832) 0).trans ((upS_c _ _ (by decide)).trans x832_0)
        have x832_1 := (congrFun (congrFun h82 832) 1).trans ((upS_c _ _ (by decide)).trans x832_1)
        have x864_0 := (congrFun (congrFun h82 864) 0).trans ((upS_c _ _ (by decide)).trans x864_0)
        have x864_1 := (congrFun (congrFun h82 864) 1).trans ((upS_c _ _ (by decide)).trans x864_1)
        have x896_0 := (congrFun (congrFun h82 896) 0).trans (upS_self _ _ _ _)
        have x896_1 := (congrFun (congrFun h82 896) 1).trans ((upS_z _ _ (by decide)).trans x896_1)
        have hq := (show QD S82 _ from h82 ▸ hq.up (by decide))
        have hic := fun j => (congrFun (congrFun h82 928) j).trans ((upS_c _ _ (by decide)).trans (hic j))
        refine r_iload_n C dX8_lands_83 lg_1 ?_
        refine r_i2l C dX8_lands_84 (by omega) ?_
        refine r_aload_n C dX8_lands_85 lg_0 ?_
        refine r_getI C 237 dX8_lands_86 fg_X8_175_7 rfl rfl M.1 (fun g86 => ?_)
        rw [x237_0]
        refine r_iload_n C dX8_lands_89 lg_3 ?_
        refine r_icge C (tgt := 100) dX8_lands_90 (by decide) (by omega) (by omega) (fun c90 => ?_) (fun c90 => ?_)
        · have hmn : mn w.hand (S 416 r) = S 416 r := by unfold mn; rw [if_neg (by omega)]
          have hpd := mul_b (a := p) (b := S 416 r) hp.1 hp.2 (by omega) hd.2
          have hqd := quo_b (a := p) (b := S 416 r) (s := S 416 r) hp.1 (by omega) (by omega) (by omega)
          refine r_iload_n C dX8_lands_100 lg_3 ?_
          refine r_i2l C dX8_lands_101 (by omega) ?_
          refine r_lmul C dX8_lands_102 ?_
          refine r_iload_n C dX8_lands_103 lg_3 ?_
          refine r_i2l C dX8_lands_104 (by omega) ?_
          refine r_ldiv C dX8_lands_105 (by omega) (by omega) (by omega) (by omega) ?_
          refine r_lstore C dX8_lands_106 (ls2_5 rfl rfl) ?_
          refine r_aload_n C dX8_lands_108 lg_0 ?_
          refine r_dup C dX8_lands_109 (cat_R _ _ _) ?_
          refine r_getJ C 238 dX8_lands_110 fg_X8_178_7 rfl rfl M.1 (fun g110 => ?_)
          rw [x238_0]
          refine r_lload C dX8_lands_113 lg_5 ?_
          refine r_ladd C dX8_lands_115 ?_
          refine r_putJ C 238 dX8_lands_116 fg_X8_178_7 rfl rfl M.1 (fun q h => by cases h; exact Or.inl rfl) (by omega) ?_
          refine r_gS (fun S116 h116 => ?_)
          have M : RM S116 A := by rw [h116]; exact M.up (by decide)
          have hF : Fr [237, 238, 239, 244, 832, 864, 896, 928, 992, 1024, 1056] S S116 := hF.tr (by rw [h116]; exact Fr.up (by decide))
          have x237_0 := (congrFun (congrFun h116 237) 0).trans ((upS_c _ _ (by decide)).trans x237_0)
          have x238_0 := (congrFun (congrFun h116 238) 0).trans (upS_self _ _ _ _)
          have x239_0 := (congrFun (congrFun h116 239) 0).trans ((upS_c _ _ (by decide)).trans x239_0)
          have x832_0 := (congrFun (congrFun h116 832) 0).trans ((upS_c _ _ (by decide)).trans x832_0)
          have x832_1 := (congrFun (congrFun h116 832) 1).trans ((upS_c _ _ (by decide)).trans x832_1)
          have x864_0 := (congrFun (congrFun h116 864) 0).trans ((upS_c _ _ (by decide)).trans x864_0)
          have x864_1 := (congrFun (congrFun h116 864) 1).trans ((upS_c _ _ (by decide)).trans x864_1)
          have x896_0 := (congrFun (congrFun h116 896) 0).trans ((upS_c _ _ (by decide)).trans x896_0)
          have x896_1 := (congrFun (congrFun h116 896) 1).trans ((upS_c _ _ (by decide)).trans x896_1)
          have hq := (show QD S116 _ from h116 ▸ hq.up (by decide))
          have hic := fun j => (congrFun (congrFun h116 928) j).trans ((upS_c _ _ (by decide)).trans (hic j))
          refine r_aload_n C dX8_lands_119 lg_0 ?_
          refine r_getA C 242 28 dX8_lands_120 fg_X8_52_7 rfl rfl M.1 (fun g120 => ?_)
          refine r_iconst C dX8_lands_123 ?_
          refine r_dup2 C dX8_lands_124 rfl (cat_R _ _ _) ?_
          refine r_lald C (N := 2) 896 dX8_lands_125 (by decide) rfl rfl (M.g (j := 18) (by decide)) (by omega) (by omega) (by omega) (fun g125 => ?_)
          rw [x896_1]
          refine r_iload_n C dX8_lands_126 lg_1 ?_
          refine r_i2l C dX8_lands_127 (by omega) ?_
          refine r_lload C dX8_lands_128 lg_5 ?_
          refine r_lsub C dX8_lands_130 ?_
          refine r_ladd C dX8_lands_131 ?_
          refine r_last C (N := 2) 896 dX8_lands_132 (by decide) rfl rfl (M.g (j := 18) (by decide)) (by omega) (by omega) (by omega) (by omega) ?_
          refine r_gS (fun S132 h132 => ?_)
          have M : RM S132 A := by rw [h132]; exact M.up (by decide)
          have hF : Fr [237, 238, 239, 244, 832, 864, 896, 928, 992, 1024, 1056] S S132 := hF.tr (by rw [h132]; exact Fr.up (by decide))
          have x237_0 := (congrFun (congrFun h132 237) 0).trans ((upS_c _ _ (by decide)).trans x237_0)
          have x238_0 := (congrFun (congrFun h132 238) 0).trans ((upS_c _ _ (by decide)).trans x238_0)
          have x239_0 := (congrFun (congrFun h132 239) 0).trans ((upS_c _ _ (by decide)).trans x239_0)
          have x832_0 := (congrFun (congrFun h132 832) 0).trans ((upS_c _ _ (by decide)).trans x832_0)
          have x832_1 := (congrFun (congrFun h132 832) 1).trans ((upS_c _ _ (by decide)).trans x832_1)
          have x864_0 := (congrFun (congrFun h132 864) 0).trans ((upS_c _ _ (by decide)).trans x864_0)
          have x864_1 := (congrFun (congrFun h132 864) 1).trans ((upS_c _ _ (by decide)).trans x864_1)
          have x896_0 := (congrFun (congrFun h132 896) 0).trans ((upS_z _ _ (by decide)).trans x896_0)
          have x896_1 := (congrFun (congrFun h132 896) 1).trans (upS_self _ _ _ _)
          have hq := (show QD S132 _ from h132 ▸ hq.up (by decide))
          have hic := fun j => (congrFun (congrFun h132 928) j).trans ((upS_c _ _ (by decide)).trans (hic j))
          exact f_V F dX8_lands_133 (by
            refine ⟨rfl, hF, ?_⟩
            unfold landW
            rw [hmn, hqm.1, hqm.2]
            first
            | exact ⟨x237_0, x238_0, x239_0, x832_0, x832_1, x864_0, x864_1, x896_0, x896_1, hq, hic⟩
            | (rw [hxr] at hq; exact ⟨x237_0, x238_0, x239_0, x832_0, x832_1, x864_0, x864_1, x896_0, x896_1, hq, hic⟩)) (Nat.le_of_ble_eq_true rfl) (Nat.le_of_ble_eq_true rfl)
        · have hmn : mn w.hand (S 416 r) = w.hand := by unfold mn; rw [if_pos (by omega)]
          have hpd := mul_b (a := p) (b := w.hand) (y := 1000) hp.1 hp.2 (by omega) (by omega)
          have hqd := quo_b (a := p) (b := w.hand) (s := S 416 r) hp.1 (by omega) (by omega) (by omega)
          refine r_aload_n C dX8_lands_93 lg_0 ?_
          refine r_getI C 237 dX8_lands_94 fg_X8_175_7 rfl rfl M.1 (fun g94 => ?_)
          rw [x237_0]
          refine r_goto C (tgt := 101) dX8_lands_97 (by decide) ?_
          refine r_i2l C dX8_lands_101 (by omega) ?_
          refine r_lmul C dX8_lands_102 ?_
          refine r_iload_n C dX8_lands_103 lg_3 ?_
          refine r_i2l C dX8_lands_104 (by omega) ?_
          refine r_ldiv C dX8_lands_105 (by omega) (by omega) (by omega) (by omega) ?_
          refine r_lstore C dX8_lands_106 (ls2_5 rfl rfl) ?_
          refine r_aload_n C dX8_lands_108 lg_0 ?_
          refine r_dup C dX8_lands_109 (cat_R _ _ _) ?_
          refine r_getJ C 238 dX8_lands_110 fg_X8_178_7 rfl rfl M.1 (fun g110 => ?_)
          rw [x238_0]
          refine r_lload C dX8_lands_113 lg_5 ?_
          refine r_ladd C dX8_lands_115 ?_
          refine r_putJ C 238 dX8_lands_116 fg_X8_178_7 rfl rfl M.1 (fun q h => by cases h; exact Or.inl rfl) (by omega) ?_
          refine r_gS (fun S116 h116 => ?_)
          have M : RM S116 A := by rw [h116]; exact M.up (by decide)
          have hF : Fr [237, 238, 239, 244, 832, 864, 896, 928, 992, 1024, 1056] S S116 := hF.tr (by rw [h116]; exact Fr.up (by decide))
          have x237_0 := (congrFun (congrFun h116 237) 0).trans ((upS_c _ _ (by decide)).trans x237_0)
          have x238_0 := (congrFun (congrFun h116 238) 0).trans (upS_self _ _ _ _)
          have x239_0 := (congrFun (congrFun h116 239) 0).trans ((upS_c _ _ (by decide)).trans x239_0)
          have x832_0 := (congrFun (congrFun h116 832) 0).trans ((upS_c _ _ (by decide)).trans x832_0)
          have x832_1 := (congrFun (congrFun h116 832) 1).trans ((upS_c _ _ (by decide)).trans x832_1)
          have x864_0 := (congrFun (congrFun h116 864) 0).trans ((upS_c _ _ (by decide)).trans x864_0)
          have x864_1 := (congrFun (congrFun h116 864) 1).trans ((upS_c _ _ (by decide)).trans x864_1)
          have x896_0 := (congrFun (congrFun h116 896) 0).trans ((upS_c _ _ (by decide)).trans x896_0)
          have x896_1 := (congrFun (congrFun h116 896) 1).trans ((upS_c _ _ (by decide)).trans x896_1)
          have hq := (show QD S116 _ from h116 ▸ hq.up (by decide))
          have hic := fun j => (congrFun (congrFun h116 928) j).trans ((upS_c _ _ (by decide)).trans (hic j))
          refine r_aload_n C dX8_lands_119 lg_0 ?_
          refine r_getA C 242 28 dX8_lands_120 fg_X8_52_7 rfl rfl M.1 (fun g120 => ?_)
          refine r_iconst C dX8_lands_123 ?_
          refine r_dup2 C dX8_lands_124 rfl (cat_R _ _ _) ?_
          refine r_lald C (N := 2) 896 dX8_lands_125 (by decide) rfl rfl (M.g (j := 18) (by decide)) (by omega) (by omega) (by omega) (fun g125 => ?_)
          rw [x896_1]
          refine r_iload_n C dX8_lands_126 lg_1 ?_
          refine r_i2l C dX8_lands_127 (by omega) ?_
          refine r_lload C dX8_lands_128 lg_5 ?_
          refine r_lsub C dX8_lands_130 ?_
          refine r_ladd C dX8_lands_131 ?_
          refine r_last C (N := 2) 896 dX8_lands_132 (by decide) rfl rfl (M.g (j := 18) (by decide)) (by omega) (by omega) (by omega) (by omega) ?_
          refine r_gS (fun S132 h132 => ?_)
          have M : RM S132 A := by rw [h132]; exact M.up (by decide)
          have hF : Fr [237, 238, 239, 244, 832, 864, 896, 928, 992, 1024, 1056] S S132 := hF.tr (by rw [h132]; exact Fr.up (by decide))
          have x237_0 := (congrFun (congrFun h132 237) 0).trans ((upS_c _ _ (by decide)).trans x237_0)
          have x238_0 := (congrFun (congrFun h132 238) 0).trans ((upS_c _ _ (by decide)).trans x238_0)
          have x239_0 := (congrFun (congrFun h132 239) 0).trans ((upS_c _ _ (by decide)).trans x239_0)
          have x832_0 := (congrFun (congrFun h132 832) 0).trans ((upS_c _ _ (by decide)).trans x832_0)
          have x832_1 := (congrFun (congrFun h132 832) 1).trans ((upS_c _ _ (by decide)).trans x832_1)
          have x864_0 := (congrFun (congrFun h132 864) 0).trans ((upS_c _ _ (by decide)).trans x864_0)
          have x864_1 := (congrFun (congrFun h132 864) 1).trans ((upS_c _ _ (by decide)).trans x864_1)
          have x896_0 := (congrFun (congrFun h132 896) 0).trans ((upS_z _ _ (by decide)).trans x896_0)
          have x896_1 := (congrFun (congrFun h132 896) 1).trans (upS_self _ _ _ _)
          have hq := (show QD S132 _ from h132 ▸ hq.up (by decide))
          have hic := fun j => (congrFun (congrFun h132 928) j).trans ((upS_c _ _ (by decide)).trans (hic j))
          exact f_V F dX8_lands_133 (by
            refine ⟨rfl, hF, ?_⟩
            unfold landW
            rw [hmn, hqm.1, hqm.2]
            first
            | exact ⟨x237_0, x238_0, x239_0, x832_0, x832_1, x864_0, x864_1, x896_0, x896_1, hq, hic⟩
            | (rw [hxr] at hq; exact ⟨x237_0, x238_0, x239_0, x832_0, x832_1, x864_0, x864_1, x896_0, x896_1, hq, hic⟩)) (Nat.le_of_ble_eq_true rfl) (Nat.le_of_ble_eq_true rfl)
    · exfalso; omega
  · have hpl : plc r (w.q.map fun x => x.2.2) 0 (-1) = -1 := plc_n _ _ _ hin
    have hqm := qmore_n (p := p) (d := S 416 r) w.q hin
    refine r_aload_n C dX8_lands_0 lg_0 ?_
    refine r_getA C 227 13 dX8_lands_1 fg_X8_19_7 rfl rfl M.1 (fun g1 => ?_)
    refine r_iload_n C dX8_lands_4 lg_2 ?_
    refine r_iald C (N := 60) 416 dX8_lands_5 (by decide) rfl rfl (M.g (j := 3) (by decide)) (by omega) (by omega) (by omega) (fun g5 => ?_)
    refine r_istore_n C dX8_lands_6 (ls1_3 rfl rfl) ?_
    refine r_aload_n C dX8_lands_7 lg_0 ?_
    refine r_iload_n C dX8_lands_8 lg_2 ?_
    refine q_V1I C (cM_layerOf hfl M (q := w.q) hq (by omega) (by omega)) dX8_lands_9 lk_X8_167 M.1 ⟨Nat.le_of_ble_eq_true rfl, Nat.le_of_ble_eq_true rfl⟩ (catLe (Nat.le_of_ble_eq_true rfl)) ⟨rfl, rfl⟩ rfl (Nat.le_of_ble_eq_true rfl) (Nat.le_of_ble_eq_true rfl) (fun z9 S9 A9 i9 p9 => ?_)
    obtain ⟨rfl, rfl, rfl⟩ := p9
    rw [hpl]
    refine r_istore C dX8_lands_12 (ls1_4 rfl rfl) ?_
    refine r_iload C dX8_lands_14 lg_4 ?_
    refine r_iconst C dX8_lands_16 ?_
    refine r_icne C (tgt := 24) dX8_lands_17 (by decide) (by omega) (by omega) (fun c17 => ?_) (fun c17 => ?_)
    · exfalso; omega
    · refine r_lconst C dX8_lands_20 0 rfl ?_
      refine r_goto C (tgt := 38) dX8_lands_21 (by decide) ?_
      refine r_lstore C dX8_lands_38 (ls2_5 rfl rfl) ?_
      refine r_iload C dX8_lands_40 lg_4 ?_
      refine r_iconst C dX8_lands_42 ?_
      refine r_iceq C (tgt := 58) dX8_lands_43 (by decide) (by omega) (by omega) (fun c43 => ?_) (fun c43 => ?_)
      · refine r_aload_n C dX8_lands_58 lg_0 ?_
        refine r_dup C dX8_lands_59 (cat_R _ _ _) ?_
        refine r_getJ C 239 dX8_lands_60 fg_X8_171_7 rfl rfl M.1 (fun g60 => ?_)
        rw [x239_0]
        refine r_iload_n C dX8_lands_63 lg_1 ?_
        refine r_i2l C dX8_lands_64 (by omega) ?_
        refine r_ladd C dX8_lands_65 ?_
        refine r_putJ C 239 dX8_lands_66 fg_X8_171_7 rfl rfl M.1 (fun q h => by cases h; exact Or.inl rfl) (by omega) ?_
        refine r_gS (fun S66 h66 => ?_)
        have M : RM S66 A := by rw [h66]; exact M.up (by decide)
        have hF : Fr [237, 238, 239, 244, 832, 864, 896, 928, 992, 1024, 1056] S S66 := hF.tr (by rw [h66]; exact Fr.up (by decide))
        have x237_0 := (congrFun (congrFun h66 237) 0).trans ((upS_c _ _ (by decide)).trans x237_0)
        have x238_0 := (congrFun (congrFun h66 238) 0).trans ((upS_c _ _ (by decide)).trans x238_0)
        have x239_0 := (congrFun (congrFun h66 239) 0).trans (upS_self _ _ _ _)
        have x832_0 := (congrFun (congrFun h66 832) 0).trans ((upS_c _ _ (by decide)).trans x832_0)
        have x832_1 := (congrFun (congrFun h66 832) 1).trans ((upS_c _ _ (by decide)).trans x832_1)
        have x864_0 := (congrFun (congrFun h66 864) 0).trans ((upS_c _ _ (by decide)).trans x864_0)
        have x864_1 := (congrFun (congrFun h66 864) 1).trans ((upS_c _ _ (by decide)).trans x864_1)
        have x896_0 := (congrFun (congrFun h66 896) 0).trans ((upS_c _ _ (by decide)).trans x896_0)
        have x896_1 := (congrFun (congrFun h66 896) 1).trans ((upS_c _ _ (by decide)).trans x896_1)
        have hq := (show QD S66 _ from h66 ▸ hq.up (by decide))
        have hic := fun j => (congrFun (congrFun h66 928) j).trans ((upS_c _ _ (by decide)).trans (hic j))
        refine r_aload_n C dX8_lands_69 lg_0 ?_
        refine r_getA C 242 28 dX8_lands_70 fg_X8_52_7 rfl rfl M.1 (fun g70 => ?_)
        refine r_iconst C dX8_lands_73 ?_
        refine r_dup2 C dX8_lands_74 rfl (cat_R _ _ _) ?_
        refine r_lald C (N := 2) 896 dX8_lands_75 (by decide) rfl rfl (M.g (j := 18) (by decide)) (by omega) (by omega) (by omega) (fun g75 => ?_)
        rw [x896_0]
        refine r_iload_n C dX8_lands_76 lg_1 ?_
        refine r_i2l C dX8_lands_77 (by omega) ?_
        refine r_lload C dX8_lands_78 lg_5 ?_
        refine r_lsub C dX8_lands_80 ?_
        refine r_ladd C dX8_lands_81 ?_
        refine r_last C (N := 2) 896 dX8_lands_82 (by decide) rfl rfl (M.g (j := 18) (by decide)) (by omega) (by omega) (by omega) (by omega) ?_
        refine r_gS (fun S82 h82 => ?_)
        have M : RM S82 A := by rw [h82]; exact M.up (by decide)
        have hF : Fr [237, 238, 239, 244, 832, 864, 896, 928, 992, 1024, 1056] S S82 := hF.tr (by rw [h82]; exact Fr.up (by decide))
        have x237_0 := (congrFun (congrFun h82 237) 0).trans ((upS_c _ _ (by decide)).trans x237_0)
        have x238_0 := (congrFun (congrFun h82 238) 0).trans ((upS_c _ _ (by decide)).trans x238_0)
        have x239_0 := (congrFun (congrFun h82 239) 0).trans ((upS_c _ _ (by decide)).trans x239_0)
        have x832_0 := (congrFun (congrFun h82 832) 0).trans ((upS_c _ _ (by decide)).trans x832_0)
        have x832_1 := (congrFun (congrFun h82 832) 1).trans ((upS_c _ _ (by decide)).trans x832_1)
        have x864_0 := (congrFun (congrFun h82 864) 0).trans ((upS_c _ _ (by decide)).trans x864_0)
        have x864_1 := (congrFun (congrFun h82 864) 1).trans ((upS_c _ _ (by decide)).trans x864_1)
        have x896_0 := (congrFun (congrFun h82 896) 0).trans (upS_self _ _ _ _)
        have x896_1 := (congrFun (congrFun h82 896) 1).trans ((upS_z _ _ (by decide)).trans x896_1)
        have hq := (show QD S82 _ from h82 ▸ hq.up (by decide))
        have hic := fun j => (congrFun (congrFun h82 928) j).trans ((upS_c _ _ (by decide)).trans (hic j))
        refine r_iload_n C dX8_lands_83 lg_1 ?_
        refine r_i2l C dX8_lands_84 (by omega) ?_
        refine r_aload_n C dX8_lands_85 lg_0 ?_
        refine r_getI C 237 dX8_lands_86 fg_X8_175_7 rfl rfl M.1 (fun g86 => ?_)
        rw [x237_0]
        refine r_iload_n C dX8_lands_89 lg_3 ?_
        refine r_icge C (tgt := 100) dX8_lands_90 (by decide) (by omega) (by omega) (fun c90 => ?_) (fun c90 => ?_)
        · have hmn : mn w.hand (S 416 r) = S 416 r := by unfold mn; rw [if_neg (by omega)]
          have hpd := mul_b (a := p) (b := S 416 r) hp.1 hp.2 (by omega) hd.2
          have hqd := quo_b (a := p) (b := S 416 r) (s := S 416 r) hp.1 (by omega) (by omega) (by omega)
          refine r_iload_n C dX8_lands_100 lg_3 ?_
          refine r_i2l C dX8_lands_101 (by omega) ?_
          refine r_lmul C dX8_lands_102 ?_
          refine r_iload_n C dX8_lands_103 lg_3 ?_
          refine r_i2l C dX8_lands_104 (by omega) ?_
          refine r_ldiv C dX8_lands_105 (by omega) (by omega) (by omega) (by omega) ?_
          refine r_lstore C dX8_lands_106 (ls2_5 rfl rfl) ?_
          refine r_aload_n C dX8_lands_108 lg_0 ?_
          refine r_dup C dX8_lands_109 (cat_R _ _ _) ?_
          refine r_getJ C 238 dX8_lands_110 fg_X8_178_7 rfl rfl M.1 (fun g110 => ?_)
          rw [x238_0]
          refine r_lload C dX8_lands_113 lg_5 ?_
          refine r_ladd C dX8_lands_115 ?_
          refine r_putJ C 238 dX8_lands_116 fg_X8_178_7 rfl rfl M.1 (fun q h => by cases h; exact Or.inl rfl) (by omega) ?_
          refine r_gS (fun S116 h116 => ?_)
          have M : RM S116 A := by rw [h116]; exact M.up (by decide)
          have hF : Fr [237, 238, 239, 244, 832, 864, 896, 928, 992, 1024, 1056] S S116 := hF.tr (by rw [h116]; exact Fr.up (by decide))
          have x237_0 := (congrFun (congrFun h116 237) 0).trans ((upS_c _ _ (by decide)).trans x237_0)
          have x238_0 := (congrFun (congrFun h116 238) 0).trans (upS_self _ _ _ _)
          have x239_0 := (congrFun (congrFun h116 239) 0).trans ((upS_c _ _ (by decide)).trans x239_0)
          have x832_0 := (congrFun (congrFun h116 832) 0).trans ((upS_c _ _ (by decide)).trans x832_0)
          have x832_1 := (congrFun (congrFun h116 832) 1).trans ((upS_c _ _ (by decide)).trans x832_1)
          have x864_0 := (congrFun (congrFun h116 864) 0).trans ((upS_c _ _ (by decide)).trans x864_0)
          have x864_1 := (congrFun (congrFun h116 864) 1).trans ((upS_c _ _ (by decide)).trans x864_1)
          have x896_0 := (congrFun (congrFun h116 896) 0).trans ((upS_c _ _ (by decide)).trans x896_0)
          have x896_1 := (congrFun (congrFun h116 896) 1).trans ((upS_c _ _ (by decide)).trans x896_1)
          have hq := (show QD S116 _ from h116 ▸ hq.up (by decide))
          have hic := fun j => (congrFun (congrFun h116 928) j).trans ((upS_c _ _ (by decide)).trans (hic j))
          refine r_aload_n C dX8_lands_119 lg_0 ?_
          refine r_getA C 242 28 dX8_lands_120 fg_X8_52_7 rfl rfl M.1 (fun g120 => ?_)
          refine r_iconst C dX8_lands_123 ?_
          refine r_dup2 C dX8_lands_124 rfl (cat_R _ _ _) ?_
          refine r_lald C (N := 2) 896 dX8_lands_125 (by decide) rfl rfl (M.g (j := 18) (by decide)) (by omega) (by omega) (by omega) (fun g125 => ?_)
          rw [x896_1]
          refine r_iload_n C dX8_lands_126 lg_1 ?_
          refine r_i2l C dX8_lands_127 (by omega) ?_
          refine r_lload C dX8_lands_128 lg_5 ?_
          refine r_lsub C dX8_lands_130 ?_
          refine r_ladd C dX8_lands_131 ?_
          refine r_last C (N := 2) 896 dX8_lands_132 (by decide) rfl rfl (M.g (j := 18) (by decide)) (by omega) (by omega) (by omega) (by omega) ?_
          refine r_gS (fun S132 h132 => ?_)
          have M : RM S132 A := by rw [h132]; exact M.up (by decide)
          have hF : Fr [237, 238, 239, 244, 832, 864, 896, 928, 992, 1024, 1056] S S132 := hF.tr (by rw [h132]; exact Fr.up (by decide))
          have x237_0 := (congrFun (congrFun h132 237) 0).trans ((upS_c _ _ (by decide)).trans x237_0)
          have x238_0 := (congrFun (congrFun h132 238) 0).trans ((upS_c _ _ (by decide)).trans x238_0)
          have x239_0 := (congrFun (congrFun h132 239) 0).trans ((upS_c _ _ (by decide)).trans x239_0)
          have x832_0 := (congrFun (congrFun h132 832) 0).trans ((upS_c _ _ (by decide)).trans x832_0)
          have x832_1 := (congrFun (congrFun h132 832) 1).trans ((upS_c _ _ (by decide)).trans x832_1)
          have x864_0 := (congrFun (congrFun h132 864) 0).trans ((upS_c _ _ (by decide)).trans x864_0)
          have x864_1 := (congrFun (congrFun h132 864) 1).trans ((upS_c _ _ (by decide)).trans x864_1)
          have x896_0 := (congrFun (congrFun h132 896) 0).trans ((upS_z _ _ (by decide)).trans x896_0)
          have x896_1 := (congrFun (congrFun h132 896) 1).trans (upS_self _ _ _ _)
          have hq := (show QD S132 _ from h132 ▸ hq.up (by decide))
          have hic := fun j => (congrFun (congrFun h132 928) j).trans ((upS_c _ _ (by decide)).trans (hic j))
          exact f_V F dX8_lands_133 (by
            refine ⟨rfl, hF, ?_⟩
            unfold landW
            rw [hmn, hqm.1, hqm.2]
            first
            | exact ⟨x237_0, x238_0, x239_0, x832_0, x832_1, x864_0, x864_1, x896_0, x896_1, hq, hic⟩
            | (rw [hxr] at hq; exact ⟨x237_0, x238_0, x239_0, x832_0, x832_1, x864_0, x864_1, x896_0, x896_1, hq, hic⟩)) (Nat.le_of_ble_eq_true rfl) (Nat.le_of_ble_eq_true rfl)
        · have hmn : mn w.hand (S 416 r) = w.hand := by unfold mn; rw [if_pos (by omega)]
          have hpd := mul_b (a := p) (b := w.hand) (y := 1000) hp.1 hp.2 (by omega) (by omega)
          have hqd := quo_b (a := p) (b := w.hand) (s := S 416 r) hp.1 (by omega) (by omega) (by omega)
          refine r_aload_n C dX8_lands_93 lg_0 ?_
          refine r_getI C 237 dX8_lands_94 fg_X8_175_7 rfl rfl M.1 (fun g94 => ?_)
          rw [x237_0]
          refine r_goto C (tgt := 101) dX8_lands_97 (by decide) ?_
          refine r_i2l C dX8_lands_101 (by omega) ?_
          refine r_lmul C dX8_lands_102 ?_
          refine r_iload_n C dX8_lands_103 lg_3 ?_
          refine r_i2l C dX8_lands_104 (by omega) ?_
          refine r_ldiv C dX8_lands_105 (by omega) (by omega) (by omega) (by omega) ?_
          refine r_lstore C dX8_lands_106 (ls2_5 rfl rfl) ?_
          refine r_aload_n C dX8_lands_108 lg_0 ?_
          refine r_dup C dX8_lands_109 (cat_R _ _ _) ?_
          refine r_getJ C 238 dX8_lands_110 fg_X8_178_7 rfl rfl M.1 (fun g110 => ?_)
          rw [x238_0]
          refine r_lload C dX8_lands_113 lg_5 ?_
          refine r_ladd C dX8_lands_115 ?_
          refine r_putJ C 238 dX8_lands_116 fg_X8_178_7 rfl rfl M.1 (fun q h => by cases h; exact Or.inl rfl) (by omega) ?_
          refine r_gS (fun S116 h116 => ?_)
          have M : RM S116 A := by rw [h116]; exact M.up (by decide)
          have hF : Fr [237, 238, 239, 244, 832, 864, 896, 928, 992, 1024, 1056] S S116 := hF.tr (by rw [h116]; exact Fr.up (by decide))
          have x237_0 := (congrFun (congrFun h116 237) 0).trans ((upS_c _ _ (by decide)).trans x237_0)
          have x238_0 := (congrFun (congrFun h116 238) 0).trans (upS_self _ _ _ _)
          have x239_0 := (congrFun (congrFun h116 239) 0).trans ((upS_c _ _ (by decide)).trans x239_0)
          have x832_0 := (congrFun (congrFun h116 832) 0).trans ((upS_c _ _ (by decide)).trans x832_0)
          have x832_1 := (congrFun (congrFun h116 832) 1).trans ((upS_c _ _ (by decide)).trans x832_1)
          have x864_0 := (congrFun (congrFun h116 864) 0).trans ((upS_c _ _ (by decide)).trans x864_0)
          have x864_1 := (congrFun (congrFun h116 864) 1).trans ((upS_c _ _ (by decide)).trans x864_1)
          have x896_0 := (congrFun (congrFun h116 896) 0).trans ((upS_c _ _ (by decide)).trans x896_0)
          have x896_1 := (congrFun (congrFun h116 896) 1).trans ((upS_c _ _ (by decide)).trans x896_1)
          have hq := (show QD S116 _ from h116 ▸ hq.up (by decide))
          have hic := fun j => (congrFun (congrFun h116 928) j).trans ((upS_c _ _ (by decide)).trans (hic j))
          refine r_aload_n C dX8_lands_119 lg_0 ?_
          refine r_getA C 242 28 dX8_lands_120 fg_X8_52_7 rfl rfl M.1 (fun g120 => ?_)
          refine r_iconst C dX8_lands_123 ?_
          refine r_dup2 C dX8_lands_124 rfl (cat_R _ _ _) ?_
          refine r_lald C (N := 2) 896 dX8_lands_125 (by decide) rfl rfl (M.g (j := 18) (by decide)) (by omega) (by omega) (by omega) (fun g125 => ?_)
          rw [x896_1]
          refine r_iload_n C dX8_lands_126 lg_1 ?_
          refine r_i2l C dX8_lands_127 (by omega) ?_
          refine r_lload C dX8_lands_128 lg_5 ?_
          refine r_lsub C dX8_lands_130 ?_
          refine r_ladd C dX8_lands_131 ?_
          refine r_last C (N := 2) 896 dX8_lands_132 (by decide) rfl rfl (M.g (j := 18) (by decide)) (by omega) (by omega) (by omega) (by omega) ?_
          refine r_gS (fun S132 h132 => ?_)
          have M : RM S132 A := by rw [h132]; exact M.up (by decide)
          have hF : Fr [237, 238, 239, 244, 832, 864, 896, 928, 992, 1024, 1056] S S132 := hF.tr (by rw [h132]; exact Fr.up (by decide))
          have x237_0 := (congrFun (congrFun h132 237) 0).trans ((upS_c _ _ (by decide)).trans x237_0)
          have x238_0 := (congrFun (congrFun h132 238) 0).trans ((upS_c _ _ (by decide)).trans x238_0)
          have x239_0 := (congrFun (congrFun h132 239) 0).trans ((upS_c _ _ (by decide)).trans x239_0)
          have x832_0 := (congrFun (congrFun h132 832) 0).trans ((upS_c _ _ (by decide)).trans x832_0)
          have x832_1 := (congrFun (congrFun h132 832) 1).trans ((upS_c _ _ (by decide)).trans x832_1)
          have x864_0 := (congrFun (congrFun h132 864) 0).trans ((upS_c _ _ (by decide)).trans x864_0)
          have x864_1 := (congrFun (congrFun h132 864) 1).trans ((upS_c _ _ (by decide)).trans x864_1)
          have x896_0 := (congrFun (congrFun h132 896) 0).trans ((upS_z _ _ (by decide)).trans x896_0)
          have x896_1 := (congrFun (congrFun h132 896) 1).trans (upS_self _ _ _ _)
          have hq := (show QD S132 _ from h132 ▸ hq.up (by decide))
          have hic := fun j => (congrFun (congrFun h132 928) j).trans ((upS_c _ _ (by decide)).trans (hic j))
          exact f_V F dX8_lands_133 (by
            refine ⟨rfl, hF, ?_⟩
            unfold landW
            rw [hmn, hqm.1, hqm.2]
            first
            | exact ⟨x237_0, x238_0, x239_0, x832_0, x832_1, x864_0, x864_1, x896_0, x896_1, hq, hic⟩
            | (rw [hxr] at hq; exact ⟨x237_0, x238_0, x239_0, x832_0, x832_1, x864_0, x864_1, x896_0, x896_1, hq, hic⟩)) (Nat.le_of_ble_eq_true rfl) (Nat.le_of_ble_eq_true rfl)
      · exfalso; omega
set_option maxRecDepth 20000 in
theorem cM_moves {G : GT} {l : Launch} (hfl : l.stackTraces = false) {S : ST} {A : AB} {w : WS} {t m : Int} (M : RM S A) (hW9 : WD S w) (ho : QOK w.q) (hnd : (w.q.map fun x => x.2.2).Nodup) (hl : w.q.length < 60) (hb : WB w t) (ht : 0 ≤ t ∧ t ≤ 4000) (hm0 : 0 ≤ m) (hm1 : m < 60) (hkd : S 320 m = 0 ∨ S 320 m = 1 ∨ S 320 m = 2) (hqt : 1 ≤ S 416 m ∧ S 416 m ≤ 1000) (hco : 0 ≤ S 448 m ∧ S 448 m ≤ 1000000) (hit : rI (S 384 m)) (hqu : qu w.q = w.hand) (hv : ¬ S 320 m = 0 → S 416 m ≤ w.hand) : CT G l yX8_moves cX8_moves 6 none (rmk 2 0 0 48) S A [vR A 7 0, vI m] (oV fun S' A' => A = A' ∧ Fr [237, 238, 239, 244, 832, 864, 896, 928, 992, 1024, 1056] S S' ∧ WD S' (moveW (rwM S) w m)) (noX) := by
  refine ct_ofN (own := RX8) (mn := "moves") rfl rfl (by decide) hfl (lv0 := [some (vR A 7 0), some (vI m), none, none, none, none]) (ent_1 (cat_R _ _ _) (ent_1 rfl (ent_n (ent_n (ent_n (ent_n ent_0)))))) rfl ?_
  intro J X C F FX FT FU hW hA
  obtain ⟨b1, b2, b3, b4, b5, b6, b7, b8, b9, b10⟩ := hb
  unfold bt at *
  obtain ⟨x237_0, x238_0, x239_0, x832_0, x832_1, x864_0, x864_1, x896_0, x896_1, hq, hic⟩ := hW9
  have hF : Fr [237, 238, 239, 244, 832, 864, 896, 928, 992, 1024, 1056] S S := Fr.rf
  have hch0 : ∀ v, dlt (S 320) (S 416) m = v → chg (S 320) (S 384) (S 416) (S 384 m) m = v := fun v h => by unfold chg; rw [if_pos rfl]; exact h
  by_cases hk : S 320 m = 0
  · have hch := hch0 (S 416 m) (by unfold dlt; rw [if_pos hk])
    refine r_aload_n C dX8_moves_0 lg_0 ?_
    refine r_getA C 224 10 dX8_moves_1 fg_X8_7_7 rfl rfl M.1 (fun g1 => ?_)
    refine r_iload_n C dX8_moves_4 lg_1 ?_
    refine r_iald C (N := 60) 320 dX8_moves_5 (by decide) rfl rfl (M.g (j := 0) (by decide)) (by omega) (by omega) (by omega) (fun g5 => ?_)
    rw [hk]
    refine r_ifne C (tgt := 13) dX8_moves_6 (by decide) (by omega) (fun c6 => ?_) (fun c6 => ?_)
    · exfalso; omega
    · refine r_lconst C dX8_moves_9 0 rfl ?_
      refine r_goto C (tgt := 23) dX8_moves_10 (by decide) ?_
      refine r_lstore_n C dX8_moves_23 (ls2_2 rfl rfl) ?_
      refine r_aload_n C dX8_moves_24 lg_0 ?_
      refine r_getA C 224 10 dX8_moves_25 fg_X8_7_7 rfl rfl M.1 (fun g25 => ?_)
      refine r_iload_n C dX8_moves_28 lg_1 ?_
      refine r_iald C (N := 60) 320 dX8_moves_29 (by decide) rfl rfl (M.g (j := 0) (by decide)) (by omega) (by omega) (by omega) (fun g29 => ?_)
      rw [(hF.fn (c := 320) (by decide) : _ = S 320), hk]
      refine r_ifne C (tgt := 37) dX8_moves_30 (by decide) (by omega) (fun c30 => ?_) (fun c30 => ?_)
      · exfalso; omega
      · refine r_lconst C dX8_moves_33 0 rfl ?_
        refine r_goto C (tgt := 55) dX8_moves_34 (by decide) ?_
        refine r_lstore C dX8_moves_55 (ls2_4 rfl trivial) ?_
        refine r_aload_n C dX8_moves_57 lg_0 ?_
        refine r_getA C 224 10 dX8_moves_58 fg_X8_7_7 rfl rfl M.1 (fun g58 => ?_)
        refine r_iload_n C dX8_moves_61 lg_1 ?_
        refine r_iald C (N := 60) 320 dX8_moves_62 (by decide) rfl rfl (M.g (j := 0) (by decide)) (by omega) (by omega) (by omega) (fun g62 => ?_)
        rw [(hF.fn (c := 320) (by decide) : _ = S 320), hk]
        refine r_ifne C (tgt := 94) dX8_moves_63 (by decide) (by omega) (fun c63 => ?_) (fun c63 => ?_)
        · exfalso; omega
        · refine r_aload_n C dX8_moves_66 lg_0 ?_
          refine r_aload_n C dX8_moves_67 lg_0 ?_
          refine r_getI C 244 dX8_moves_68 fg_X8_161_7 rfl rfl M.1 (fun g68 => ?_)
          rw [hq.1]
          refine r_iload_n C dX8_moves_71 lg_1 ?_
          refine q_V2V C (cM_lays hfl M (a := w.q) (b := []) (by rw [List.append_nil]; exact hq) (by rw [List.append_nil]; omega) hm0 hm1) dX8_moves_72 lk_X8_185 M.1 ⟨Nat.le_of_ble_eq_true rfl, Nat.le_of_ble_eq_true rfl⟩ (catLe (Nat.le_of_ble_eq_true rfl)) ⟨rfl, rfl⟩ rfl (Nat.le_of_ble_eq_true rfl) (Nat.le_of_ble_eq_true rfl) (fun S72 A72 p72 => ?_)
          obtain ⟨rfl, hF72, hq72⟩ := p72
          have M : RM S72 A := M.of hF72 (by decide)
          have hF : Fr [237, 238, 239, 244, 832, 864, 896, 928, 992, 1024, 1056] S S72 := hF.tr (hF72.sub (by decide))
          have x237_0 := (hF72 237 0 (by decide)).trans x237_0
          have x238_0 := (hF72 238 0 (by decide)).trans x238_0
          have x239_0 := (hF72 239 0 (by decide)).trans x239_0
          have x832_0 := (hF72 832 0 (by decide)).trans x832_0
          have x832_1 := (hF72 832 1 (by decide)).trans x832_1
          have x864_0 := (hF72 864 0 (by decide)).trans x864_0
          have x864_1 := (hF72 864 1 (by decide)).trans x864_1
          have x896_0 := (hF72 896 0 (by decide)).trans x896_0
          have x896_1 := (hF72 896 1 (by decide)).trans x896_1
          have hq := hq72
          have hic := fun j => (hF72 928 j (by decide)).trans (hic j)
          refine r_aload_n C dX8_moves_75 lg_0 ?_
          refine r_dup C dX8_moves_76 (cat_R _ _ _) ?_
          refine r_getJ C 239 dX8_moves_77 fg_X8_171_7 rfl rfl M.1 (fun g77 => ?_)
          rw [x239_0]
          refine r_aload_n C dX8_moves_80 lg_0 ?_
          refine r_getA C 228 14 dX8_moves_81 fg_X8_22_7 rfl rfl M.1 (fun g81 => ?_)
          refine r_iload_n C dX8_moves_84 lg_1 ?_
          refine r_iald C (N := 60) 448 dX8_moves_85 (by decide) rfl rfl (M.g (j := 4) (by decide)) (by omega) (by omega) (by omega) (fun g85 => ?_)
          rw [(hF.fn (c := 448) (by decide) : _ = S 448)]
          refine r_i2l C dX8_moves_86 (by omega) ?_
          refine r_ladd C dX8_moves_87 ?_
          refine r_putJ C 239 dX8_moves_88 fg_X8_171_7 rfl rfl M.1 (fun q h => by cases h; exact Or.inl rfl) (by omega) ?_
          refine r_gS (fun S88 h88 => ?_)
          have M : RM S88 A := by rw [h88]; exact M.up (by decide)
          have hF : Fr [237, 238, 239, 244, 832, 864, 896, 928, 992, 1024, 1056] S S88 := hF.tr (by rw [h88]; exact Fr.up (by decide))
          have x237_0 := (congrFun (congrFun h88 237) 0).trans ((upS_c _ _ (by decide)).trans x237_0)
          have x238_0 := (congrFun (congrFun h88 238) 0).trans ((upS_c _ _ (by decide)).trans x238_0)
          have x239_0 := (congrFun (congrFun h88 239) 0).trans (upS_self _ _ _ _)
          have x832_0 := (congrFun (congrFun h88 832) 0).trans ((upS_c _ _ (by decide)).trans x832_0)
          have x832_1 := (congrFun (congrFun h88 832) 1).trans ((upS_c _ _ (by decide)).trans x832_1)
          have x864_0 := (congrFun (congrFun h88 864) 0).trans ((upS_c _ _ (by decide)).trans x864_0)
          have x864_1 := (congrFun (congrFun h88 864) 1).trans ((upS_c _ _ (by decide)).trans x864_1)
          have x896_0 := (congrFun (congrFun h88 896) 0).trans ((upS_c _ _ (by decide)).trans x896_0)
          have x896_1 := (congrFun (congrFun h88 896) 1).trans ((upS_c _ _ (by decide)).trans x896_1)
          have hq := (show QD S88 _ from h88 ▸ hq.up (by decide))
          have hic := fun j => (congrFun (congrFun h88 928) j).trans ((upS_c _ _ (by decide)).trans (hic j))
          refine r_goto C (tgt := 192) dX8_moves_91 (by decide) ?_
          refine r_aload_n C dX8_moves_192 lg_0 ?_
          refine r_dup C dX8_moves_193 (cat_R _ _ _) ?_
          refine r_getJ C 238 dX8_moves_194 fg_X8_178_7 rfl rfl M.1 (fun g194 => ?_)
          rw [x238_0]
          refine r_aload_n C dX8_moves_197 lg_0 ?_
          refine r_getA C 228 14 dX8_moves_198 fg_X8_22_7 rfl rfl M.1 (fun g198 => ?_)
          refine r_iload_n C dX8_moves_201 lg_1 ?_
          refine r_iald C (N := 60) 448 dX8_moves_202 (by decide) rfl rfl (M.g (j := 4) (by decide)) (by omega) (by omega) (by omega) (fun g202 => ?_)
          rw [(hF.fn (c := 448) (by decide) : _ = S 448)]
          refine r_i2l C dX8_moves_203 (by omega) ?_
          refine r_lload C dX8_moves_204 lg_4 ?_
          refine r_lsub C dX8_moves_206 ?_
          refine r_ladd C dX8_moves_207 ?_
          refine r_putJ C 238 dX8_moves_208 fg_X8_178_7 rfl rfl M.1 (fun q h => by cases h; exact Or.inl rfl) (by omega) ?_
          refine r_gS (fun S208 h208 => ?_)
          have M : RM S208 A := by rw [h208]; exact M.up (by decide)
          have hF : Fr [237, 238, 239, 244, 832, 864, 896, 928, 992, 1024, 1056] S S208 := hF.tr (by rw [h208]; exact Fr.up (by decide))
          have x237_0 := (congrFun (congrFun h208 237) 0).trans ((upS_c _ _ (by decide)).trans x237_0)
          have x238_0 := (congrFun (congrFun h208 238) 0).trans (upS_self _ _ _ _)
          have x239_0 := (congrFun (congrFun h208 239) 0).trans ((upS_c _ _ (by decide)).trans x239_0)
          have x832_0 := (congrFun (congrFun h208 832) 0).trans ((upS_c _ _ (by decide)).trans x832_0)
          have x832_1 := (congrFun (congrFun h208 832) 1).trans ((upS_c _ _ (by decide)).trans x832_1)
          have x864_0 := (congrFun (congrFun h208 864) 0).trans ((upS_c _ _ (by decide)).trans x864_0)
          have x864_1 := (congrFun (congrFun h208 864) 1).trans ((upS_c _ _ (by decide)).trans x864_1)
          have x896_0 := (congrFun (congrFun h208 896) 0).trans ((upS_c _ _ (by decide)).trans x896_0)
          have x896_1 := (congrFun (congrFun h208 896) 1).trans ((upS_c _ _ (by decide)).trans x896_1)
          have hq := (show QD S208 _ from h208 ▸ hq.up (by decide))
          have hic := fun j => (congrFun (congrFun h208 928) j).trans ((upS_c _ _ (by decide)).trans (hic j))
          refine r_aload_n C dX8_moves_211 lg_0 ?_
          refine r_dup C dX8_moves_212 (cat_R _ _ _) ?_
          refine r_getI C 237 dX8_moves_213 fg_X8_175_7 rfl rfl M.1 (fun g213 => ?_)
          rw [x237_0]
          refine r_aload_n C dX8_moves_216 lg_0 ?_
          refine r_iload_n C dX8_moves_217 lg_1 ?_
          refine r_aload_n C dX8_moves_218 lg_0 ?_
          refine r_getA C 226 12 dX8_moves_219 fg_X8_16_7 rfl rfl M.1 (fun g219 => ?_)
          refine r_iload_n C dX8_moves_222 lg_1 ?_
          refine r_iald C (N := 60) 384 dX8_moves_223 (by decide) rfl rfl (M.g (j := 2) (by decide)) (by omega) (by omega) (by omega) (fun g223 => ?_)
          refine q_V2I C (cM_change hfl M hm0 hm1 (by omega) (by rw [(hF.fn (c := 416) (by decide) : _ = S 416)]; omega)) dX8_moves_224 lk_X8_90 M.1 ⟨Nat.le_of_ble_eq_true rfl, Nat.le_of_ble_eq_true rfl⟩ (catLe (Nat.le_of_ble_eq_true rfl)) ⟨rfl, rfl⟩ rfl (Nat.le_of_ble_eq_true rfl) (Nat.le_of_ble_eq_true rfl) (fun z224 S224 A224 i224 p224 => ?_)
          obtain ⟨rfl, rfl, rfl⟩ := p224
          rw [(hF.fn (c := 320) (by decide) : _ = S 320), (hF.fn (c := 384) (by decide) : _ = S 384), (hF.fn (c := 416) (by decide) : _ = S 416), hch]
          refine r_iadd C dX8_moves_227 ?_
          refine r_putI C 237 dX8_moves_228 fg_X8_175_7 rfl rfl M.1 (fun q h => by cases h; exact Or.inl rfl) (by omega) ?_
          refine r_gS (fun S228 h228 => ?_)
          have M : RM S228 A := by rw [h228]; exact M.up (by decide)
          have hF : Fr [237, 238, 239, 244, 832, 864, 896, 928, 992, 1024, 1056] S S228 := hF.tr (by rw [h228]; exact Fr.up (by decide))
          have x237_0 := (congrFun (congrFun h228 237) 0).trans (upS_self _ _ _ _)
          have x238_0 := (congrFun (congrFun h228 238) 0).trans ((upS_c _ _ (by decide)).trans x238_0)
          have x239_0 := (congrFun (congrFun h228 239) 0).trans ((upS_c _ _ (by decide)).trans x239_0)
          have x832_0 := (congrFun (congrFun h228 832) 0).trans ((upS_c _ _ (by decide)).trans x832_0)
          have x832_1 := (congrFun (congrFun h228 832) 1).trans ((upS_c _ _ (by decide)).trans x832_1)
          have x864_0 := (congrFun (congrFun h228 864) 0).trans ((upS_c _ _ (by decide)).trans x864_0)
          have x864_1 := (congrFun (congrFun h228 864) 1).trans ((upS_c _ _ (by decide)).trans x864_1)
          have x896_0 := (congrFun (congrFun h228 896) 0).trans ((upS_c _ _ (by decide)).trans x896_0)
          have x896_1 := (congrFun (congrFun h228 896) 1).trans ((upS_c _ _ (by decide)).trans x896_1)
          have hq := (show QD S228 _ from h228 ▸ hq.up (by decide))
          have hic := fun j => (congrFun (congrFun h228 928) j).trans ((upS_c _ _ (by decide)).trans (hic j))
          exact f_V F dX8_moves_231 (by
            refine ⟨rfl, hF, ?_⟩
            unfold moveW
            rw [if_pos (show (rwM S).kd m = 0 from hk)]
            exact ⟨x237_0, x238_0.trans (by show w.avg + (S 448 m - 0) = w.avg + S 448 m; omega), x239_0, x832_0, x832_1, x864_0, x864_1, x896_0, x896_1, hq, hic⟩) (Nat.le_of_ble_eq_true rfl) (Nat.le_of_ble_eq_true rfl)
  · have hk0 := hk
    have hv := hv hk0
    have htk := tk_ok w.q (S 416 m) ho
    have hqn := qc_nn htk.1
    have hpa := mul_b (a := w.avg) (b := S 416 m) (x := 8000000000000) (y := 1000) b2.1 (by omega) (by omega) (by omega)
    have hqa := quo_b (a := w.avg) (b := S 416 m) (s := w.hand) b2.1 (by omega) (by omega) hv
    by_cases hk1 : S 320 m = 1
    · have hch := hch0 (-(S 416 m)) (by unfold dlt; rw [if_neg hk0, if_pos hk1])
      clear hk
      have hk := hk1
      refine r_aload_n C dX8_moves_0 lg_0 ?_
      refine r_getA C 224 10 dX8_moves_1 fg_X8_7_7 rfl rfl M.1 (fun g1 => ?_)
      refine r_iload_n C dX8_moves_4 lg_1 ?_
      refine r_iald C (N := 60) 320 dX8_moves_5 (by decide) rfl rfl (M.g (j := 0) (by decide)) (by omega) (by omega) (by omega) (fun g5 => ?_)
      rw [hk]
      refine r_ifne C (tgt := 13) dX8_moves_6 (by decide) (by omega) (fun c6 => ?_) (fun c6 => ?_)
      · refine r_aload_n C dX8_moves_13 lg_0 ?_
        refine r_aload_n C dX8_moves_14 lg_0 ?_
        refine r_getA C 227 13 dX8_moves_15 fg_X8_19_7 rfl rfl M.1 (fun g15 => ?_)
        refine r_iload_n C dX8_moves_18 lg_1 ?_
        refine r_iald C (N := 60) 416 dX8_moves_19 (by decide) rfl rfl (M.g (j := 3) (by decide)) (by omega) (by omega) (by omega) (fun g19 => ?_)
        refine q_V1J C (cM_takes hfl M (q := w.q) hq ho (by omega) (by omega) (by omega) (by omega) (by omega)) dX8_moves_20 lk_X8_181 M.1 ⟨Nat.le_of_ble_eq_true rfl, Nat.le_of_ble_eq_true rfl⟩ (catLe (Nat.le_of_ble_eq_true rfl)) ⟨rfl, rfl⟩ rfl (Nat.le_of_ble_eq_true rfl) (Nat.le_of_ble_eq_true rfl) (fun z20 S20 A20 i20 p20 => ?_)
        obtain ⟨rfl, rfl, hF20, hq20⟩ := p20
        have M : RM S20 A := M.of hF20 (by decide)
        have hF : Fr [237, 238, 239, 244, 832, 864, 896, 928, 992, 1024, 1056] S S20 := hF.tr (hF20.sub (by decide))
        have x237_0 := (hF20 237 0 (by decide)).trans x237_0
        have x238_0 := (hF20 238 0 (by decide)).trans x238_0
        have x239_0 := (hF20 239 0 (by decide)).trans x239_0
        have x832_0 := (hF20 832 0 (by decide)).trans x832_0
        have x832_1 := (hF20 832 1 (by decide)).trans x832_1
        have x864_0 := (hF20 864 0 (by decide)).trans x864_0
        have x864_1 := (hF20 864 1 (by decide)).trans x864_1
        have x896_0 := (hF20 896 0 (by decide)).trans x896_0
        have x896_1 := (hF20 896 1 (by decide)).trans x896_1
        have hq := hq20
        have hic := fun j => (hF20 928 j (by decide)).trans (hic j)
        refine r_lstore_n C dX8_moves_23 (ls2_2 rfl rfl) ?_
        refine r_aload_n C dX8_moves_24 lg_0 ?_
        refine r_getA C 224 10 dX8_moves_25 fg_X8_7_7 rfl rfl M.1 (fun g25 => ?_)
        refine r_iload_n C dX8_moves_28 lg_1 ?_
        refine r_iald C (N := 60) 320 dX8_moves_29 (by decide) rfl rfl (M.g (j := 0) (by decide)) (by omega) (by omega) (by omega) (fun g29 => ?_)
        rw [(hF.fn (c := 320) (by decide) : _ = S 320), hk]
        refine r_ifne C (tgt := 37) dX8_moves_30 (by decide) (by omega) (fun c30 => ?_) (fun c30 => ?_)
        · refine r_aload_n C dX8_moves_37 lg_0 ?_
          refine r_getJ C 238 dX8_moves_38 fg_X8_178_7 rfl rfl M.1 (fun g38 => ?_)
          rw [x238_0]
          refine r_aload_n C dX8_moves_41 lg_0 ?_
          refine r_getA C 227 13 dX8_moves_42 fg_X8_19_7 rfl rfl M.1 (fun g42 => ?_)
          refine r_iload_n C dX8_moves_45 lg_1 ?_
          refine r_iald C (N := 60) 416 dX8_moves_46 (by decide) rfl rfl (M.g (j := 3) (by decide)) (by omega) (by omega) (by omega) (fun g46 => ?_)
          rw [(hF.fn (c := 416) (by decide) : _ = S 416)]
          refine r_i2l C dX8_moves_47 (by omega) ?_
          refine r_lmul C dX8_moves_48 ?_
          refine r_aload_n C dX8_moves_49 lg_0 ?_
          refine r_getI C 237 dX8_moves_50 fg_X8_175_7 rfl rfl M.1 (fun g50 => ?_)
          rw [x237_0]
          refine r_i2l C dX8_moves_53 (by omega) ?_
          refine r_ldiv C dX8_moves_54 (by omega) (by omega) (by omega) (by omega) ?_
          refine r_lstore C dX8_moves_55 (ls2_4 rfl trivial) ?_
          refine r_aload_n C dX8_moves_57 lg_0 ?_
          refine r_getA C 224 10 dX8_moves_58 fg_X8_7_7 rfl rfl M.1 (fun g58 => ?_)
          refine r_iload_n C dX8_moves_61 lg_1 ?_
          refine r_iald C (N := 60) 320 dX8_moves_62 (by decide) rfl rfl (M.g (j := 0) (by decide)) (by omega) (by omega) (by omega) (fun g62 => ?_)
          rw [(hF.fn (c := 320) (by decide) : _ = S 320), hk]
          refine r_ifne C (tgt := 94) dX8_moves_63 (by decide) (by omega) (fun c63 => ?_) (fun c63 => ?_)
          · refine r_aload_n C dX8_moves_94 lg_0 ?_
            refine r_getA C 224 10 dX8_moves_95 fg_X8_7_7 rfl rfl M.1 (fun g95 => ?_)
            refine r_iload_n C dX8_moves_98 lg_1 ?_
            refine r_iald C (N := 60) 320 dX8_moves_99 (by decide) rfl rfl (M.g (j := 0) (by decide)) (by omega) (by omega) (by omega) (fun g99 => ?_)
            rw [(hF.fn (c := 320) (by decide) : _ = S 320), hk]
            refine r_iconst C dX8_moves_100 ?_
            refine r_icne C (tgt := 149) dX8_moves_101 (by decide) (by omega) (by omega) (fun c101 => ?_) (fun c101 => ?_)
            · exfalso; omega
            · refine r_aload_n C dX8_moves_104 lg_0 ?_
              refine r_getA C 240 26 dX8_moves_105 fg_X8_46_7 rfl rfl M.1 (fun g105 => ?_)
              refine r_iconst C dX8_moves_108 ?_
              refine r_dup2 C dX8_moves_109 rfl (cat_R _ _ _) ?_
              refine r_lald C (N := 2) 832 dX8_moves_110 (by decide) rfl rfl (M.g (j := 16) (by decide)) (by omega) (by omega) (by omega) (fun g110 => ?_)
              rw [x832_0]
              refine r_lload_n C dX8_moves_111 lg_2 ?_
              refine r_ladd C dX8_moves_112 ?_
              refine r_last C (N := 2) 832 dX8_moves_113 (by decide) rfl rfl (M.g (j := 16) (by decide)) (by omega) (by omega) (by omega) (by omega) ?_
              refine r_gS (fun S113 h113 => ?_)
              have M : RM S113 A := by rw [h113]; exact M.up (by decide)
              have hF : Fr [237, 238, 239, 244, 832, 864, 896, 928, 992, 1024, 1056] S S113 := hF.tr (by rw [h113]; exact Fr.up (by decide))
              have x237_0 := (congrFun (congrFun h113 237) 0).trans ((upS_c _ _ (by decide)).trans x237_0)
              have x238_0 := (congrFun (congrFun h113 238) 0).trans ((upS_c _ _ (by decide)).trans x238_0)
              have x239_0 := (congrFun (congrFun h113 239) 0).trans ((upS_c _ _ (by decide)).trans x239_0)
              have x832_0 := (congrFun (congrFun h113 832) 0).trans (upS_self _ _ _ _)
              have x832_1 := (congrFun (congrFun h113 832) 1).trans ((upS_z _ _ (by decide)).trans x832_1)
              have x864_0 := (congrFun (congrFun h113 864) 0).trans ((upS_c _ _ (by decide)).trans x864_0)
              have x864_1 := (congrFun (congrFun h113 864) 1).trans ((upS_c _ _ (by decide)).trans x864_1)
              have x896_0 := (congrFun (congrFun h113 896) 0).trans ((upS_c _ _ (by decide)).trans x896_0)
              have x896_1 := (congrFun (congrFun h113 896) 1).trans ((upS_c _ _ (by decide)).trans x896_1)
              have hq := (show QD S113 _ from h113 ▸ hq.up (by decide))
              have hic := fun j => (congrFun (congrFun h113 928) j).trans ((upS_c _ _ (by decide)).trans (hic j))
              refine r_aload_n C dX8_moves_114 lg_0 ?_
              refine r_getA C 240 26 dX8_moves_115 fg_X8_46_7 rfl rfl M.1 (fun g115 => ?_)
              refine r_iconst C dX8_moves_118 ?_
              refine r_dup2 C dX8_moves_119 rfl (cat_R _ _ _) ?_
              refine r_lald C (N := 2) 832 dX8_moves_120 (by decide) rfl rfl (M.g (j := 16) (by decide)) (by omega) (by omega) (by omega) (fun g120 => ?_)
              rw [x832_1]
              refine r_lload C dX8_moves_121 lg_4 ?_
              refine r_ladd C dX8_moves_123 ?_
              refine r_last C (N := 2) 832 dX8_moves_124 (by decide) rfl rfl (M.g (j := 16) (by decide)) (by omega) (by omega) (by omega) (by omega) ?_
              refine r_gS (fun S124 h124 => ?_)
              have M : RM S124 A := by rw [h124]; exact M.up (by decide)
              have hF : Fr [237, 238, 239, 244, 832, 864, 896, 928, 992, 1024, 1056] S S124 := hF.tr (by rw [h124]; exact Fr.up (by decide))
              have x237_0 := (congrFun (congrFun h124 237) 0).trans ((upS_c _ _ (by decide)).trans x237_0)
              have x238_0 := (congrFun (congrFun h124 238) 0).trans ((upS_c _ _ (by decide)).trans x238_0)
              have x239_0 := (congrFun (congrFun h124 239) 0).trans ((upS_c _ _ (by decide)).trans x239_0)
              have x832_0 := (congrFun (congrFun h124 832) 0).trans ((upS_z _ _ (by decide)).trans x832_0)
              have x832_1 := (congrFun (congrFun h124 832) 1).trans (upS_self _ _ _ _)
              have x864_0 := (congrFun (congrFun h124 864) 0).trans ((upS_c _ _ (by decide)).trans x864_0)
              have x864_1 := (congrFun (congrFun h124 864) 1).trans ((upS_c _ _ (by decide)).trans x864_1)
              have x896_0 := (congrFun (congrFun h124 896) 0).trans ((upS_c _ _ (by decide)).trans x896_0)
              have x896_1 := (congrFun (congrFun h124 896) 1).trans ((upS_c _ _ (by decide)).trans x896_1)
              have hq := (show QD S124 _ from h124 ▸ hq.up (by decide))
              have hic := fun j => (congrFun (congrFun h124 928) j).trans ((upS_c _ _ (by decide)).trans (hic j))
              refine r_aload_n C dX8_moves_125 lg_0 ?_
              refine r_getA C 243 29 dX8_moves_126 fg_X8_55_7 rfl rfl M.1 (fun g126 => ?_)
              refine r_iconst C dX8_moves_129 ?_
              refine r_iload_n C dX8_moves_130 lg_1 ?_
              refine r_imul C dX8_moves_131 ?_
              refine r_lload_n C dX8_moves_132 lg_2 ?_
              refine r_last C (N := 120) 928 dX8_moves_133 (by decide) rfl rfl (M.g (j := 19) (by decide)) (by omega) (by omega) (by omega) (by omega) ?_
              refine r_gS (fun S133 h133 => ?_)
              have M : RM S133 A := by rw [h133]; exact M.up (by decide)
              have hF : Fr [237, 238, 239, 244, 832, 864, 896, 928, 992, 1024, 1056] S S133 := hF.tr (by rw [h133]; exact Fr.up (by decide))
              have x237_0 := (congrFun (congrFun h133 237) 0).trans ((upS_c _ _ (by decide)).trans x237_0)
              have x238_0 := (congrFun (congrFun h133 238) 0).trans ((upS_c _ _ (by decide)).trans x238_0)
              have x239_0 := (congrFun (congrFun h133 239) 0).trans ((upS_c _ _ (by decide)).trans x239_0)
              have x832_0 := (congrFun (congrFun h133 832) 0).trans ((upS_c _ _ (by decide)).trans x832_0)
              have x832_1 := (congrFun (congrFun h133 832) 1).trans ((upS_c _ _ (by decide)).trans x832_1)
              have x864_0 := (congrFun (congrFun h133 864) 0).trans ((upS_c _ _ (by decide)).trans x864_0)
              have x864_1 := (congrFun (congrFun h133 864) 1).trans ((upS_c _ _ (by decide)).trans x864_1)
              have x896_0 := (congrFun (congrFun h133 896) 0).trans ((upS_c _ _ (by decide)).trans x896_0)
              have x896_1 := (congrFun (congrFun h133 896) 1).trans ((upS_c _ _ (by decide)).trans x896_1)
              have hq := (show QD S133 _ from h133 ▸ hq.up (by decide))
              have hic := (fun j => by rw [h133, upS_fu]; exact fu_cg (hic j) : ∀ j, S133 928 j = fu w.ic (2 * m) (tk w.q (S 416 m)).1 j)
              refine r_aload_n C dX8_moves_134 lg_0 ?_
              refine r_getA C 243 29 dX8_moves_135 fg_X8_55_7 rfl rfl M.1 (fun g135 => ?_)
              refine r_iconst C dX8_moves_138 ?_
              refine r_iload_n C dX8_moves_139 lg_1 ?_
              refine r_imul C dX8_moves_140 ?_
              refine r_iconst C dX8_moves_141 ?_
              refine r_iadd C dX8_moves_142 ?_
              refine r_lload C dX8_moves_143 lg_4 ?_
              refine r_last C (N := 120) 928 dX8_moves_145 (by decide) rfl rfl (M.g (j := 19) (by decide)) (by omega) (by omega) (by omega) (by omega) ?_
              refine r_gS (fun S145 h145 => ?_)
              have M : RM S145 A := by rw [h145]; exact M.up (by decide)
              have hF : Fr [237, 238, 239, 244, 832, 864, 896, 928, 992, 1024, 1056] S S145 := hF.tr (by rw [h145]; exact Fr.up (by decide))
              have x237_0 := (congrFun (congrFun h145 237) 0).trans ((upS_c _ _ (by decide)).trans x237_0)
              have x238_0 := (congrFun (congrFun h145 238) 0).trans ((upS_c _ _ (by decide)).trans x238_0)
              have x239_0 := (congrFun (congrFun h145 239) 0).trans ((upS_c _ _ (by decide)).trans x239_0)
              have x832_0 := (congrFun (congrFun h145 832) 0).trans ((upS_c _ _ (by decide)).trans x832_0)
              have x832_1 := (congrFun (congrFun h145 832) 1).trans ((upS_c _ _ (by decide)).trans x832_1)
              have x864_0 := (congrFun (congrFun h145 864) 0).trans ((upS_c _ _ (by decide)).trans x864_0)
              have x864_1 := (congrFun (congrFun h145 864) 1).trans ((upS_c _ _ (by decide)).trans x864_1)
              have x896_0 := (congrFun (congrFun h145 896) 0).trans ((upS_c _ _ (by decide)).trans x896_0)
              have x896_1 := (congrFun (congrFun h145 896) 1).trans ((upS_c _ _ (by decide)).trans x896_1)
              have hq := (show QD S145 _ from h145 ▸ hq.up (by decide))
              have hic := (fun j => by rw [h145, upS_fu]; exact fu_cg (hic j) : ∀ j, S145 928 j = fu (fu w.ic (2 * m) (tk w.q (S 416 m)).1) (2 * m + 1) (w.avg * S 416 m / w.hand) j)
              refine r_goto C (tgt := 192) dX8_moves_146 (by decide) ?_
              refine r_aload_n C dX8_moves_192 lg_0 ?_
              refine r_dup C dX8_moves_193 (cat_R _ _ _) ?_
              refine r_getJ C 238 dX8_moves_194 fg_X8_178_7 rfl rfl M.1 (fun g194 => ?_)
              rw [x238_0]
              refine r_aload_n C dX8_moves_197 lg_0 ?_
              refine r_getA C 228 14 dX8_moves_198 fg_X8_22_7 rfl rfl M.1 (fun g198 => ?_)
              refine r_iload_n C dX8_moves_201 lg_1 ?_
              refine r_iald C (N := 60) 448 dX8_moves_202 (by decide) rfl rfl (M.g (j := 4) (by decide)) (by omega) (by omega) (by omega) (fun g202 => ?_)
              rw [(hF.fn (c := 448) (by decide) : _ = S 448)]
              refine r_i2l C dX8_moves_203 (by omega) ?_
              refine r_lload C dX8_moves_204 lg_4 ?_
              refine r_lsub C dX8_moves_206 ?_
              refine r_ladd C dX8_moves_207 ?_
              refine r_putJ C 238 dX8_moves_208 fg_X8_178_7 rfl rfl M.1 (fun q h => by cases h; exact Or.inl rfl) (by omega) ?_
              refine r_gS (fun S208 h208 => ?_)
              have M : RM S208 A := by rw [h208]; exact M.up (by decide)
              have hF : Fr [237, 238, 239, 244, 832, 864, 896, 928, 992, 1024, 1056] S S208 := hF.tr (by rw [h208]; exact Fr.up (by decide))
              have x237_0 := (congrFun (congrFun h208 237) 0).trans ((upS_c _ _ (by decide)).trans x237_0)
              have x238_0 := (congrFun (congrFun h208 238) 0).trans (upS_self _ _ _ _)
              have x239_0 := (congrFun (congrFun h208 239) 0).trans ((upS_c _ _ (by decide)).trans x239_0)
              have x832_0 := (congrFun (congrFun h208 832) 0).trans ((upS_c _ _ (by decide)).trans x832_0)
              have x832_1 := (congrFun (congrFun h208 832) 1).trans ((upS_c _ _ (by decide)).trans x832_1)
              have x864_0 := (congrFun (congrFun h208 864) 0).trans ((upS_c _ _ (by decide)).trans x864_0)
              have x864_1 := (congrFun (congrFun h208 864) 1).trans ((upS_c _ _ (by decide)).trans x864_1)
              have x896_0 := (congrFun (congrFun h208 896) 0).trans ((upS_c _ _ (by decide)).trans x896_0)
              have x896_1 := (congrFun (congrFun h208 896) 1).trans ((upS_c _ _ (by decide)).trans x896_1)
              have hq := (show QD S208 _ from h208 ▸ hq.up (by decide))
              have hic := fun j => (congrFun (congrFun h208 928) j).trans ((upS_c _ _ (by decide)).trans (hic j))
              refine r_aload_n C dX8_moves_211 lg_0 ?_
              refine r_dup C dX8_moves_212 (cat_R _ _ _) ?_
              refine r_getI C 237 dX8_moves_213 fg_X8_175_7 rfl rfl M.1 (fun g213 => ?_)
              rw [x237_0]
              refine r_aload_n C dX8_moves_216 lg_0 ?_
              refine r_iload_n C dX8_moves_217 lg_1 ?_
              refine r_aload_n C dX8_moves_218 lg_0 ?_
              refine r_getA C 226 12 dX8_moves_219 fg_X8_16_7 rfl rfl M.1 (fun g219 => ?_)
              refine r_iload_n C dX8_moves_222 lg_1 ?_
              refine r_iald C (N := 60) 384 dX8_moves_223 (by decide) rfl rfl (M.g (j := 2) (by decide)) (by omega) (by omega) (by omega) (fun g223 => ?_)
              refine q_V2I C (cM_change hfl M hm0 hm1 (by omega) (by rw [(hF.fn (c := 416) (by decide) : _ = S 416)]; omega)) dX8_moves_224 lk_X8_90 M.1 ⟨Nat.le_of_ble_eq_true rfl, Nat.le_of_ble_eq_true rfl⟩ (catLe (Nat.le_of_ble_eq_true rfl)) ⟨rfl, rfl⟩ rfl (Nat.le_of_ble_eq_true rfl) (Nat.le_of_ble_eq_true rfl) (fun z224 S224 A224 i224 p224 => ?_)
              obtain ⟨rfl, rfl, rfl⟩ := p224
              rw [(hF.fn (c := 320) (by decide) : _ = S 320), (hF.fn (c := 384) (by decide) : _ = S 384), (hF.fn (c := 416) (by decide) : _ = S 416), hch]
              refine r_iadd C dX8_moves_227 ?_
              refine r_putI C 237 dX8_moves_228 fg_X8_175_7 rfl rfl M.1 (fun q h => by cases h; exact Or.inl rfl) (by omega) ?_
              refine r_gS (fun S228 h228 => ?_)
              have M : RM S228 A := by rw [h228]; exact M.up (by decide)
              have hF : Fr [237, 238, 239, 244, 832, 864, 896, 928, 992, 1024, 1056] S S228 := hF.tr (by rw [h228]; exact Fr.up (by decide))
              have x237_0 := (congrFun (congrFun h228 237) 0).trans (upS_self _ _ _ _)
              have x238_0 := (congrFun (congrFun h228 238) 0).trans ((upS_c _ _ (by decide)).trans x238_0)
              have x239_0 := (congrFun (congrFun h228 239) 0).trans ((upS_c _ _ (by decide)).trans x239_0)
              have x832_0 := (congrFun (congrFun h228 832) 0).trans ((upS_c _ _ (by decide)).trans x832_0)
              have x832_1 := (congrFun (congrFun h228 832) 1).trans ((upS_c _ _ (by decide)).trans x832_1)
              have x864_0 := (congrFun (congrFun h228 864) 0).trans ((upS_c _ _ (by decide)).trans x864_0)
              have x864_1 := (congrFun (congrFun h228 864) 1).trans ((upS_c _ _ (by decide)).trans x864_1)
              have x896_0 := (congrFun (congrFun h228 896) 0).trans ((upS_c _ _ (by decide)).trans x896_0)
              have x896_1 := (congrFun (congrFun h228 896) 1).trans ((upS_c _ _ (by decide)).trans x896_1)
              have hq := (show QD S228 _ from h228 ▸ hq.up (by decide))
              have hic := fun j => (congrFun (congrFun h228 928) j).trans ((upS_c _ _ (by decide)).trans (hic j))
              exact f_V F dX8_moves_231 (by
                refine ⟨rfl, hF, ?_⟩
                unfold moveW
                rw [if_neg (show ¬ (rwM S).kd m = 0 from hk0), if_pos (show (rwM S).kd m = 1 from hk)]
                exact ⟨x237_0.trans (by show w.hand + -(S 416 m) = w.hand - S 416 m; omega), x238_0, x239_0, x832_0, x832_1, x864_0, x864_1, x896_0, x896_1, hq, hic⟩) (Nat.le_of_ble_eq_true rfl) (Nat.le_of_ble_eq_true rfl)
          · exfalso; omega
        · exfalso; omega
      · exfalso; omega
    · have hch := hch0 0 (by unfold dlt; rw [if_neg hk0, if_neg hk1])
      clear hk
      have hk : S 320 m = 2 := by omega
      refine r_aload_n C dX8_moves_0 lg_0 ?_
      refine r_getA C 224 10 dX8_moves_1 fg_X8_7_7 rfl rfl M.1 (fun g1 => ?_)
      refine r_iload_n C dX8_moves_4 lg_1 ?_
      refine r_iald C (N := 60) 320 dX8_moves_5 (by decide) rfl rfl (M.g (j := 0) (by decide)) (by omega) (by omega) (by omega) (fun g5 => ?_)
      rw [hk]
      refine r_ifne C (tgt := 13) dX8_moves_6 (by decide) (by omega) (fun c6 => ?_) (fun c6 => ?_)
      · refine r_aload_n C dX8_moves_13 lg_0 ?_
        refine r_aload_n C dX8_moves_14 lg_0 ?_
        refine r_getA C 227 13 dX8_moves_15 fg_X8_19_7 rfl rfl M.1 (fun g15 => ?_)
        refine r_iload_n C dX8_moves_18 lg_1 ?_
        refine r_iald C (N := 60) 416 dX8_moves_19 (by decide) rfl rfl (M.g (j := 3) (by decide)) (by omega) (by omega) (by omega) (fun g19 => ?_)
        refine q_V1J C (cM_takes hfl M (q := w.q) hq ho (by omega) (by omega) (by omega) (by omega) (by omega)) dX8_moves_20 lk_X8_181 M.1 ⟨Nat.le_of_ble_eq_true rfl, Nat.le_of_ble_eq_true rfl⟩ (catLe (Nat.le_of_ble_eq_true rfl)) ⟨rfl, rfl⟩ rfl (Nat.le_of_ble_eq_true rfl) (Nat.le_of_ble_eq_true rfl) (fun z20 S20 A20 i20 p20 => ?_)
        obtain ⟨rfl, rfl, hF20, hq20⟩ := p20
        have M : RM S20 A := M.of hF20 (by decide)
        have hF : Fr [237, 238, 239, 244, 832, 864, 896, 928, 992, 1024, 1056] S S20 := hF.tr (hF20.sub (by decide))
        have x237_0 := (hF20 237 0 (by decide)).trans x237_0
        have x238_0 := (hF20 238 0 (by decide)).trans x238_0
        have x239_0 := (hF20 239 0 (by decide)).trans x239_0
        have x832_0 := (hF20 832 0 (by decide)).trans x832_0
        have x832_1 := (hF20 832 1 (by decide)).trans x832_1
        have x864_0 := (hF20 864 0 (by decide)).trans x864_0
        have x864_1 := (hF20 864 1 (by decide)).trans x864_1
        have x896_0 := (hF20 896 0 (by decide)).trans x896_0
        have x896_1 := (hF20 896 1 (by decide)).trans x896_1
        have hq := hq20
        have hic := fun j => (hF20 928 j (by decide)).trans (hic j)
        refine r_lstore_n C dX8_moves_23 (ls2_2 rfl rfl) ?_
        refine r_aload_n C dX8_moves_24 lg_0 ?_
        refine r_getA C 224 10 dX8_moves_25 fg_X8_7_7 rfl rfl M.1 (fun g25 => ?_)
        refine r_iload_n C dX8_moves_28 lg_1 ?_
        refine r_iald C (N := 60) 320 dX8_moves_29 (by decide) rfl rfl (M.g (j := 0) (by decide)) (by omega) (by omega) (by omega) (fun g29 => ?_)
        rw [(hF.fn (c := 320) (by decide) : _ = S 320), hk]
        refine r_ifne C (tgt := 37) dX8_moves_30 (by decide) (by omega) (fun c30 => ?_) (fun c30 => ?_)
        · refine r_aload_n C dX8_moves_37 lg_0 ?_
          refine r_getJ C 238 dX8_moves_38 fg_X8_178_7 rfl rfl M.1 (fun g38 => ?_)
          rw [x238_0]
          refine r_aload_n C dX8_moves_41 lg_0 ?_
          refine r_getA C 227 13 dX8_moves_42 fg_X8_19_7 rfl rfl M.1 (fun g42 => ?_)
          refine r_iload_n C dX8_moves_45 lg_1 ?_
          refine r_iald C (N := 60) 416 dX8_moves_46 (by decide) rfl rfl (M.g (j := 3) (by decide)) (by omega) (by omega) (by omega) (fun g46 => ?_)
          rw [(hF.fn (c := 416) (by decide) : _ = S 416)]
          refine r_i2l C dX8_moves_47 (by omega) ?_
          refine r_lmul C dX8_moves_48 ?_
          refine r_aload_n C dX8_moves_49 lg_0 ?_
          refine r_getI C 237 dX8_moves_50 fg_X8_175_7 rfl rfl M.1 (fun g50 => ?_)
          rw [x237_0]
          refine r_i2l C dX8_moves_53 (by omega) ?_
          refine r_ldiv C dX8_moves_54 (by omega) (by omega) (by omega) (by omega) ?_
          refine r_lstore C dX8_moves_55 (ls2_4 rfl trivial) ?_
          refine r_aload_n C dX8_moves_57 lg_0 ?_
          refine r_getA C 224 10 dX8_moves_58 fg_X8_7_7 rfl rfl M.1 (fun g58 => ?_)
          refine r_iload_n C dX8_moves_61 lg_1 ?_
          refine r_iald C (N := 60) 320 dX8_moves_62 (by decide) rfl rfl (M.g (j := 0) (by decide)) (by omega) (by omega) (by omega) (fun g62 => ?_)
          rw [(hF.fn (c := 320) (by decide) : _ = S 320), hk]
          refine r_ifne C (tgt := 94) dX8_moves_63 (by decide) (by omega) (fun c63 => ?_) (fun c63 => ?_)
          · refine r_aload_n C dX8_moves_94 lg_0 ?_
            refine r_getA C 224 10 dX8_moves_95 fg_X8_7_7 rfl rfl M.1 (fun g95 => ?_)
            refine r_iload_n C dX8_moves_98 lg_1 ?_
            refine r_iald C (N := 60) 320 dX8_moves_99 (by decide) rfl rfl (M.g (j := 0) (by decide)) (by omega) (by omega) (by omega) (fun g99 => ?_)
            rw [(hF.fn (c := 320) (by decide) : _ = S 320), hk]
            refine r_iconst C dX8_moves_100 ?_
            refine r_icne C (tgt := 149) dX8_moves_101 (by decide) (by omega) (by omega) (fun c101 => ?_) (fun c101 => ?_)
            · refine r_aload_n C dX8_moves_149 lg_0 ?_
              refine r_iconst C dX8_moves_150 ?_
              refine r_iload_n C dX8_moves_151 lg_1 ?_
              refine q_V2V C (cM_lays hfl M (a := []) (b := (tk w.q (S 416 m)).2) hq (by show (tk w.q (S 416 m)).2.length < 60; omega) hm0 hm1) dX8_moves_152 lk_X8_185 M.1 ⟨Nat.le_of_ble_eq_true rfl, Nat.le_of_ble_eq_true rfl⟩ (catLe (Nat.le_of_ble_eq_true rfl)) ⟨rfl, rfl⟩ rfl (Nat.le_of_ble_eq_true rfl) (Nat.le_of_ble_eq_true rfl) (fun S152 A152 p152 => ?_)
              obtain ⟨rfl, hF152, hq152⟩ := p152
              rw [List.nil_append] at hq152
              rw [(hF.fn (c := 416) (by decide) : _ = S 416), (hF.fn (c := 448) (by decide) : _ = S 448)] at hq152
              have M : RM S152 A := M.of hF152 (by decide)
              have hF : Fr [237, 238, 239, 244, 832, 864, 896, 928, 992, 1024, 1056] S S152 := hF.tr (hF152.sub (by decide))
              have x237_0 := (hF152 237 0 (by decide)).trans x237_0
              have x238_0 := (hF152 238 0 (by decide)).trans x238_0
              have x239_0 := (hF152 239 0 (by decide)).trans x239_0
              have x832_0 := (hF152 832 0 (by decide)).trans x832_0
              have x832_1 := (hF152 832 1 (by decide)).trans x832_1
              have x864_0 := (hF152 864 0 (by decide)).trans x864_0
              have x864_1 := (hF152 864 1 (by decide)).trans x864_1
              have x896_0 := (hF152 896 0 (by decide)).trans x896_0
              have x896_1 := (hF152 896 1 (by decide)).trans x896_1
              have hq := hq152
              have hic := fun j => (hF152 928 j (by decide)).trans (hic j)
              refine r_aload_n C dX8_moves_155 lg_0 ?_
              refine r_getA C 241 27 dX8_moves_156 fg_X8_49_7 rfl rfl M.1 (fun g156 => ?_)
              refine r_iconst C dX8_moves_159 ?_
              refine r_dup2 C dX8_moves_160 rfl (cat_R _ _ _) ?_
              refine r_lald C (N := 2) 864 dX8_moves_161 (by decide) rfl rfl (M.g (j := 17) (by decide)) (by omega) (by omega) (by omega) (fun g161 => ?_)
              rw [x864_0]
              refine r_aload_n C dX8_moves_162 lg_0 ?_
              refine r_getA C 228 14 dX8_moves_163 fg_X8_22_7 rfl rfl M.1 (fun g163 => ?_)
              refine r_iload_n C dX8_moves_166 lg_1 ?_
              refine r_iald C (N := 60) 448 dX8_moves_167 (by decide) rfl rfl (M.g (j := 4) (by decide)) (by omega) (by omega) (by omega) (fun g167 => ?_)
              rw [(hF.fn (c := 448) (by decide) : _ = S 448)]
              refine r_i2l C dX8_moves_168 (by omega) ?_
              refine r_lload_n C dX8_moves_169 lg_2 ?_
              refine r_lsub C dX8_moves_170 ?_
              refine r_ladd C dX8_moves_171 ?_
              refine r_last C (N := 2) 864 dX8_moves_172 (by decide) rfl rfl (M.g (j := 17) (by decide)) (by omega) (by omega) (by omega) (by omega) ?_
              refine r_gS (fun S172 h172 => ?_)
              have M : RM S172 A := by rw [h172]; exact M.up (by decide)
              have hF : Fr [237, 238, 239, 244, 832, 864, 896, 928, 992, 1024, 1056] S S172 := hF.tr (by rw [h172]; exact Fr.up (by decide))
              have x237_0 := (congrFun (congrFun h172 237) 0).trans ((upS_c _ _ (by decide)).trans x237_0)
              have x238_0 := (congrFun (congrFun h172 238) 0).trans ((upS_c _ _ (by decide)).trans x238_0)
              have x239_0 := (congrFun (congrFun h172 239) 0).trans ((upS_c _ _ (by decide)).trans x239_0)
              have x832_0 := (congrFun (congrFun h172 832) 0).trans ((upS_c _ _ (by decide)).trans x832_0)
              have x832_1 := (congrFun (congrFun h172 832) 1).trans ((upS_c _ _ (by decide)).trans x832_1)
              have x864_0 := (congrFun (congrFun h172 864) 0).trans (upS_self _ _ _ _)
              have x864_1 := (congrFun (congrFun h172 864) 1).trans ((upS_z _ _ (by decide)).trans x864_1)
              have x896_0 := (congrFun (congrFun h172 896) 0).trans ((upS_c _ _ (by decide)).trans x896_0)
              have x896_1 := (congrFun (congrFun h172 896) 1).trans ((upS_c _ _ (by decide)).trans x896_1)
              have hq := (show QD S172 _ from h172 ▸ hq.up (by decide))
              have hic := fun j => (congrFun (congrFun h172 928) j).trans ((upS_c _ _ (by decide)).trans (hic j))
              refine r_aload_n C dX8_moves_173 lg_0 ?_
              refine r_getA C 241 27 dX8_moves_174 fg_X8_49_7 rfl rfl M.1 (fun g174 => ?_)
              refine r_iconst C dX8_moves_177 ?_
              refine r_dup2 C dX8_moves_178 rfl (cat_R _ _ _) ?_
              refine r_lald C (N := 2) 864 dX8_moves_179 (by decide) rfl rfl (M.g (j := 17) (by decide)) (by omega) (by omega) (by omega) (fun g179 => ?_)
              rw [x864_1]
              refine r_aload_n C dX8_moves_180 lg_0 ?_
              refine r_getA C 228 14 dX8_moves_181 fg_X8_22_7 rfl rfl M.1 (fun g181 => ?_)
              refine r_iload_n C dX8_moves_184 lg_1 ?_
              refine r_iald C (N := 60) 448 dX8_moves_185 (by decide) rfl rfl (M.g (j := 4) (by decide)) (by omega) (by omega) (by omega) (fun g185 => ?_)
              rw [(hF.fn (c := 448) (by decide) : _ = S 448)]
              refine r_i2l C dX8_moves_186 (by omega) ?_
              refine r_lload C dX8_moves_187 lg_4 ?_
              refine r_lsub C dX8_moves_189 ?_
              refine r_ladd C dX8_moves_190 ?_
              refine r_last C (N := 2) 864 dX8_moves_191 (by decide) rfl rfl (M.g (j := 17) (by decide)) (by omega) (by omega) (by omega) (by omega) ?_
              refine r_gS (fun S191 h191 => ?_)
              have M : RM S191 A := by rw [h191]; exact M.up (by decide)
              have hF : Fr [237, 238, 239, 244, 832, 864, 896, 928, 992, 1024, 1056] S S191 := hF.tr (by rw [h191]; exact Fr.up (by decide))
              have x237_0 := (congrFun (congrFun h191 237) 0).trans ((upS_c _ _ (by decide)).trans x237_0)
              have x238_0 := (congrFun (congrFun h191 238) 0).trans ((upS_c _ _ (by decide)).trans x238_0)
              have x239_0 := (congrFun (congrFun h191 239) 0).trans ((upS_c _ _ (by decide)).trans x239_0)
              have x832_0 := (congrFun (congrFun h191 832) 0).trans ((upS_c _ _ (by decide)).trans x832_0)
              have x832_1 := (congrFun (congrFun h191 832) 1).trans ((upS_c _ _ (by decide)).trans x832_1)
              have x864_0 := (congrFun (congrFun h191 864) 0).trans ((upS_z _ _ (by decide)).trans x864_0)
              have x864_1 := (congrFun (congrFun h191 864) 1).trans (upS_self _ _ _ _)
              have x896_0 := (congrFun (congrFun h191 896) 0).trans ((upS_c _ _ (by decide)).trans x896_0)
              have x896_1 := (congrFun (congrFun h191 896) 1).trans ((upS_c _ _ (by decide)).trans x896_1)
              have hq := (show QD S191 _ from h191 ▸ hq.up (by decide))
              have hic := fun j => (congrFun (congrFun h191 928) j).trans ((upS_c _ _ (by decide)).trans (hic j))
              refine r_aload_n C dX8_moves_192 lg_0 ?_
              refine r_dup C dX8_moves_193 (cat_R _ _ _) ?_
              refine r_getJ C 238 dX8_moves_194 fg_X8_178_7 rfl rfl M.1 (fun g194 => ?_)
              rw [x238_0]
              refine r_aload_n C dX8_moves_197 lg_0 ?_
              refine r_getA C 228 14 dX8_moves_198 fg_X8_22_7 rfl rfl M.1 (fun g198 => ?_)
              refine r_iload_n C dX8_moves_201 lg_1 ?_
              refine r_iald C (N := 60) 448 dX8_moves_202 (by decide) rfl rfl (M.g (j := 4) (by decide)) (by omega) (by omega) (by omega) (fun g202 => ?_)
              rw [(hF.fn (c := 448) (by decide) : _ = S 448)]
              refine r_i2l C dX8_moves_203 (by omega) ?_
              refine r_lload C dX8_moves_204 lg_4 ?_
              refine r_lsub C dX8_moves_206 ?_
              refine r_ladd C dX8_moves_207 ?_
              refine r_putJ C 238 dX8_moves_208 fg_X8_178_7 rfl rfl M.1 (fun q h => by cases h; exact Or.inl rfl) (by omega) ?_
              refine r_gS (fun S208 h208 => ?_)
              have M : RM S208 A := by rw [h208]; exact M.up (by decide)
              have hF : Fr [237, 238, 239, 244, 832, 864, 896, 928, 992, 1024, 1056] S S208 := hF.tr (by rw [h208]; exact Fr.up (by decide))
              have x237_0 := (congrFun (congrFun h208 237) 0).trans ((upS_c _ _ (by decide)).trans x237_0)
              have x238_0 := (congrFun (congrFun h208 238) 0).trans (upS_self _ _ _ _)
              have x239_0 := (congrFun (congrFun h208 239) 0).trans ((upS_c _ _ (by decide)).trans x239_0)
              have x832_0 := (congrFun (congrFun h208 832) 0).trans ((upS_c _ _ (by decide)).trans x832_0)
              have x832_1 := (congrFun (congrFun h208 832) 1).trans ((upS_c _ _ (by decide)).trans x832_1)
              have x864_0 := (congrFun (congrFun h208 864) 0).trans ((upS_c _ _ (by decide)).trans x864_0)
              have x864_1 := (congrFun (congrFun h208 864) 1).trans ((upS_c _ _ (by decide)).trans x864_1)
              have x896_0 := (congrFun (congrFun h208 896) 0).trans ((upS_c _ _ (by decide)).trans x896_0)
              have x896_1 := (congrFun (congrFun h208 896) 1).trans ((upS_c _ _ (by decide)).trans x896_1)
              have hq := (show QD S208 _ from h208 ▸ hq.up (by decide))
              have hic := fun j => (congrFun (congrFun h208 928) j).trans ((upS_c _ _ (by decide)).trans (hic j))
              refine r_aload_n C dX8_moves_211 lg_0 ?_
              refine r_dup C dX8_moves_212 (cat_R _ _ _) ?_
              refine r_getI C 237 dX8_moves_213 fg_X8_175_7 rfl rfl M.1 (fun g213 => ?_)
              rw [x237_0]
              refine r_aload_n C dX8_moves_216 lg_0 ?_
              refine r_iload_n C dX8_moves_217 lg_1 ?_
              refine r_aload_n C dX8_moves_218 lg_0 ?_
              refine r_getA C 226 12 dX8_moves_219 fg_X8_16_7 rfl rfl M.1 (fun g219 => ?_)
              refine r_iload_n C dX8_moves_222 lg_1 ?_
              refine r_iald C (N := 60) 384 dX8_moves_223 (by decide) rfl rfl (M.g (j := 2) (by decide)) (by omega) (by omega) (by omega) (fun g223 => ?_)
              refine q_V2I C (cM_change hfl M hm0 hm1 (by omega) (by rw [(hF.fn (c := 416) (by decide) : _ = S 416)]; omega)) dX8_moves_224 lk_X8_90 M.1 ⟨Nat.le_of_ble_eq_true rfl, Nat.le_of_ble_eq_true rfl⟩ (catLe (Nat.le_of_ble_eq_true rfl)) ⟨rfl, rfl⟩ rfl (Nat.le_of_ble_eq_true rfl) (Nat.le_of_ble_eq_true rfl) (fun z224 S224 A224 i224 p224 => ?_)
              obtain ⟨rfl, rfl, rfl⟩ := p224
              rw [(hF.fn (c := 320) (by decide) : _ = S 320), (hF.fn (c := 384) (by decide) : _ = S 384), (hF.fn (c := 416) (by decide) : _ = S 416), hch]
              refine r_iadd C dX8_moves_227 ?_
              refine r_putI C 237 dX8_moves_228 fg_X8_175_7 rfl rfl M.1 (fun q h => by cases h; exact Or.inl rfl) (by omega) ?_
              refine r_gS (fun S228 h228 => ?_)
              have M : RM S228 A := by rw [h228]; exact M.up (by decide)
              have hF : Fr [237, 238, 239, 244, 832, 864, 896, 928, 992, 1024, 1056] S S228 := hF.tr (by rw [h228]; exact Fr.up (by decide))
              have x237_0 := (congrFun (congrFun h228 237) 0).trans (upS_self _ _ _ _)
              have x238_0 := (congrFun (congrFun h228 238) 0).trans ((upS_c _ _ (by decide)).trans x238_0)
              have x239_0 := (congrFun (congrFun h228 239) 0).trans ((upS_c _ _ (by decide)).trans x239_0)
              have x832_0 := (congrFun (congrFun h228 832) 0).trans ((upS_c _ _ (by decide)).trans x832_0)
              have x832_1 := (congrFun (congrFun h228 832) 1).trans ((upS_c _ _ (by decide)).trans x832_1)
              have x864_0 := (congrFun (congrFun h228 864) 0).trans ((upS_c _ _ (by decide)).trans x864_0)
              have x864_1 := (congrFun (congrFun h228 864) 1).trans ((upS_c _ _ (by decide)).trans x864_1)
              have x896_0 := (congrFun (congrFun h228 896) 0).trans ((upS_c _ _ (by decide)).trans x896_0)
              have x896_1 := (congrFun (congrFun h228 896) 1).trans ((upS_c _ _ (by decide)).trans x896_1)
              have hq := (show QD S228 _ from h228 ▸ hq.up (by decide))
              have hic := fun j => (congrFun (congrFun h228 928) j).trans ((upS_c _ _ (by decide)).trans (hic j))
              exact f_V F dX8_moves_231 (by
                refine ⟨rfl, hF, ?_⟩
                unfold moveW
                rw [if_neg (show ¬ (rwM S).kd m = 0 from hk0), if_neg (show ¬ (rwM S).kd m = 1 from hk1)]
                exact ⟨x237_0.trans (by show w.hand + 0 = w.hand; omega), x238_0, x239_0, x832_0, x832_1, x864_0, x864_1, x896_0, x896_1, hq, hic⟩) (Nat.le_of_ble_eq_true rfl) (Nat.le_of_ble_eq_true rfl)
            · exfalso; omega
          · exfalso; omega
        · exfalso; omega
      · exfalso; omega
