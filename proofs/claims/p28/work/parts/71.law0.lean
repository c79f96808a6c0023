/-! the law's small methods -/
theorem ct_ofNH {G : GT} {l : Launch} {y : MethodName} {own mn : String} {cc : ByteArray} {maxL : Nat} {ret : Option FieldType} {hh : List (Nat × Nat × Nat × Nat)} {fr mc ms lc : Nat} {S : ST} {A : AB} {av : List Value} {Po : Option Value → ST → AB → Prop} {XPo : String → ST → AB → Prop} {lv0 : List (Option Value)} (ho : y.cls = own) (hmn : y.name = mn) (hy : plainName own = true) (hfl : l.stackTraces = false) (hav : Ent av lv0) (hlen : lv0.length = maxL)
    (body : ∀ (J : JT) (X : XT), Cx G l (rmk fr mc ms lc) cc maxL own mn (tableOf hh) J X → FinR cc ret Po mc ms J → WT S A → AI A → J 0 lv0 [] S A 0 0) : CTH G l y cc maxL ret hh (rmk fr mc ms lc) S A av Po XPo := by
  subst ho; subst hmn
  intro sz
  refine vx_ofWH (cc := cc) (maxL := maxL) (ret := ret) (hh := hh) (ws' := WA) hy rfl ?_
  intro p e s m args below meth c s₁ B hml hv
  obtain ⟨rfl, rfl, hw, hG⟩ := hv
  have hts0 := atoms_spec (ws := Cond.codeWith y cc maxL ret hh :: WA) B.pre
  have hts : ∀ w ∈ WA, w.before av.toArray s = true := fun w h => hts0 w (List.mem_cons_of_mem _ h)
  have hown : s.vm.findClass y.cls = some m.cls := findClass_of_methodNamed B.named
  have htb' : c.exceptionTable.toList = tableOf hh := vx_table (x := y) B (hts0 _ List.mem_cons_self)
  have hts2 : ∀ w ∈ lw_tbl, goodWord w = true → w.before av.toArray s = true := fun w h g => hts w (List.mem_filter.mpr ⟨List.mem_append_right _ h, g⟩)
  have hF := fins (p := p) (l := l) (e := e) (R := (headSpec (Cond.codeWith y cc maxL ret hh :: WA) (rmk fr mc ms lc)).room) (s := s) (m := m) (args := av.toArray) (below := below) (meth := meth) (c := c) (G := G) (A0 := A) (cc := cc) (rt := ret) (Po := Po) (XPo := XPo) (nL := maxL) (own := y.cls) rfl rfl B.exec B.bytes B.returns B.notSynchronized hml hown hts hts2 hG hfl
  have hC : Cx G l (rmk fr mc ms lc) cc maxL y.cls y.name (tableOf hh) _ _ := ⟨p, e, s, m, av.toArray, below, meth, c, fA A s.heap.size, (vx_MQ below (QB G Po A s.heap.size) (XB G XPo A s.heap.size) av.toArray s (rmk fr mc ms lc).cells (rmk fr mc ms lc).slots (fA A s.heap.size)), rfl, rfl, B.exec, B.bytes, hml, hown, hts, hG, fun q h => Or.inr h, hfl, (name_of_methodNamed B.named B.method).1, htb'⟩
  have hJ := body _ _ hC hF.1 hw.wt.1 hw.wt.2
  rw [lg_entry_eq]
  exact hJ s.heap [] _ (ent_LH hav hlen) hw.self va_S.rf
theorem r_catch {G : GT} {l : Launch} {R : Room} {cc : ByteArray} {nL : Nat} {mn : String} {tb : List ExceptionTableEntry} {J : JT} {X : XT} (C : Cx G l R cc nL RL mn tb J X) {E : String} {pc : Nat} {lv : List (Option Value)} {S : ST} {A : AB} {k n : Nat} {a b h t : Nat} (pre suf : List ExceptionTableEntry) (hsp : tb = pre ++ (⟨a, b, h, t⟩ : ExceptionTableEntry) :: suf) (hE : E ∈ nxL) (hxa : a ≤ pc) (hxb : pc < b) (h0 : t ≠ 0) (hlk : Cond.classLink RL t E ∈ WA) (hpass : ∀ z ∈ pre, z.catchType ≠ 0 ∧ ∃ nm : String, Cond.classLink RL z.catchType nm ∈ WA ∧ (E, nm) ∈ ncL) (kk : ∀ q9 : Nat, J h lv [.ref q9] S A k n) : X E pc lv S A k n := by
  obtain ⟨p, e, s, m, args, below, meth, c, Al, Q, rfl, rfl, hx9, hb, hml, hown, hts, hG, hAl, hfl, hmn, htb⟩ := C
  intro H locs ls rest q9 ce hl9 hw hs hce hcv hcl
  refine vx_catch hown pre ⟨a, b, h, t⟩ suf (htb.trans hsp) (fun z hz => ?_) ?_ h0 (hts _ hlk) (va_Nw.use rfl (hG.2.2.2.2.2.2.1 E hE)) hce hcv hcl (kk q9 H locs ls hl9 hw hs)
  · obtain ⟨h1, nm, h2, h3⟩ := hpass z hz
    exact Or.inr ⟨h1, nm, hts _ h2, hG.2.2.2.2.2.1 (E, nm) h3⟩
  · show (decide (a ≤ pc) && decide (pc < b)) = true
    rw [decide_eq_true hxa, decide_eq_true hxb]; rfl
theorem pass_0 {E : String} : ∀ z ∈ ([] : List ExceptionTableEntry), z.catchType ≠ 0 ∧ ∃ nm : String, Cond.classLink RL z.catchType nm ∈ WA ∧ (E, nm) ∈ ncL := fun z hz => by cases hz
theorem pass_1 {E nm : String} {q : Nat × Nat × Nat × Nat} {r : List ExceptionTableEntry} (h0 : q.2.2.2 ≠ 0) (h1 : Cond.classLink RL q.2.2.2 nm ∈ WA) (h2 : (E, nm) ∈ ncL) (h : ∀ z ∈ r, z.catchType ≠ 0 ∧ ∃ nm : String, Cond.classLink RL z.catchType nm ∈ WA ∧ (E, nm) ∈ ncL) : ∀ z ∈ (⟨q.1, q.2.1, q.2.2.1, q.2.2.2⟩ : ExceptionTableEntry) :: r, z.catchType ≠ 0 ∧ ∃ nm : String, Cond.classLink RL z.catchType nm ∈ WA ∧ (E, nm) ∈ ncL := fun z hz => by
  rcases List.mem_cons.mp hz with rfl | hz
  · exact ⟨h0, nm, h1, h2⟩
  · exact h z hz
theorem xl_16 : Cond.classLink RL 16 xIA ∈ WA := WA_of (i := 285) (by decide +kernel) (by decide +kernel)
theorem xl_18 : Cond.classLink RL 18 xIS ∈ WA := WA_of (i := 286) (by decide +kernel) (by decide +kernel)
theorem xl_31 : Cond.classLink RL 31 xIO ∈ WA := WA_of (i := 601) (by decide +kernel) (by decide +kernel)
set_option maxRecDepth 20000 in
theorem cQ_ask {G : GT} {l : Launch} (hfl : l.stackTraces = false) {S : ST} {A : AB} {item day w : Int} {R : RW} (hP : PI R S A) (hak : akOk item day) (hw : 0 ≤ w ∧ w < 12) : CTH G l yL_ask cL_ask 5 (some .long) [(0, 152, 153, 16)] (rmk 9 0 0 156) S A [vR A 6 0, vI item, vI day, vI w] (oJ fun z S' A' => akv R item day w = z ∧ A = A' ∧ Fr QF S S') (noX) := by
  obtain ⟨hCK, hR, hR2, hV⟩ := id hP
  have hl6 := hCK.1.1
  have hw12 : w = 0 ∨ w = 1 ∨ w = 2 ∨ w = 3 ∨ w = 4 ∨ w = 5 ∨ w = 6 ∨ w = 7 ∨ w = 8 ∨ w = 9 ∨ w = 10 ∨ w = 11 := by omega
  refine ct_ofNH (own := RL) (mn := "ask") rfl rfl (by decide) hfl (lv0 := [some (vR A 6 0), some (vI item), some (vI day), some (vI w), none]) (ent_1 (cat_R _ _ _) (ent_1 rfl (ent_1 rfl (ent_1 rfl (ent_n ent_0))))) rfl ?_
  intro J X C F hW hA
  refine r_iload_n C dL_ask_0 lg_3 ?_
  refine r_ifne C (tgt := 14) dL_ask_1 (by decide) (by omega) (fun c1 => ?_) (fun c1 => ?_)
  · refine r_iload_n C dL_ask_14 lg_3 ?_
    refine r_iconst C dL_ask_15 ?_
    refine r_icne C (tgt := 29) dL_ask_16 (by decide) (by omega) (by omega) (fun c16 => ?_) (fun c16 => ?_)
    · refine r_iload_n C dL_ask_29 lg_3 ?_
      refine r_iconst C dL_ask_30 ?_
      refine r_icne C (tgt := 43) dL_ask_31 (by decide) (by omega) (by omega) (fun c31 => ?_) (fun c31 => ?_)
      · refine r_iload_n C dL_ask_43 lg_3 ?_
        refine r_iconst C dL_ask_44 ?_
        refine r_icne C (tgt := 58) dL_ask_45 (by decide) (by omega) (by omega) (fun c45 => ?_) (fun c45 => ?_)
        · refine r_iload_n C dL_ask_58 lg_3 ?_
          refine r_bipush C dL_ask_59 (by decide) ?_
          refine r_icge C (tgt := 83) dL_ask_61 (by decide) (by omega) (by omega) (fun c61 => ?_) (fun c61 => ?_)
          · refine r_iload_n C dL_ask_83 lg_3 ?_
            refine r_bipush C dL_ask_84 (by decide) ?_
            refine r_icge C (tgt := 109) dL_ask_86 (by decide) (by omega) (by omega) (fun c86 => ?_) (fun c86 => ?_)
            · refine r_iload_n C dL_ask_109 lg_3 ?_
              refine r_bipush C dL_ask_110 (by decide) ?_
              refine r_icge C (tgt := 135) dL_ask_112 (by decide) (by omega) (by omega) (fun c112 => ?_) (fun c112 => ?_)
              · refine r_aload_n C dL_ask_135 lg_0 ?_
                refine r_iload_n C dL_ask_136 lg_1 ?_
                refine r_iload_n C dL_ask_137 lg_2 ?_
                refine r_iload_n C dL_ask_138 lg_3 ?_
                refine r_bipush C dL_ask_139 (by decide) ?_
                refine r_icne C (tgt := 148) dL_ask_141 (by decide) (by omega) (by omega) (fun c141 => ?_) (fun c141 => ?_)
                · refine r_iconst C dL_ask_148 ?_
                  refine q_V3J C (cZ_expensed hfl hP hak (by omega)) dL_ask_149 lk_L_103 hl6 ⟨Nat.le_of_ble_eq_true rfl, Nat.le_of_ble_eq_true rfl⟩ (catLe (Nat.le_of_ble_eq_true rfl)) ⟨rfl, rfl⟩ rfl (Nat.le_of_ble_eq_true rfl) (Nat.le_of_ble_eq_true rfl) (fun z149 S149 A149 i149 p149 => ?_)
                  obtain ⟨rfl, rfl, hF149⟩ := p149
                  have hP := pi_fr hP hF149
                  exact f_J F dL_ask_152 (by first | assumption | omega) ⟨(by rcases hw12 with rfl | rfl | rfl | rfl | rfl | rfl | rfl | rfl | rfl | rfl | rfl | rfl <;> first | (exfalso; omega) | rfl | exact (cI_t rfl).symm | exact (cI_f (by decide)).symm), rfl, (by first | exact Fr.rf | exact hF7 | exact hF22 | exact hF37 | exact hF51 | exact hF77 | exact hF103 | exact hF129 | exact hF149)⟩ (Nat.le_of_ble_eq_true rfl) (Nat.le_of_ble_eq_true rfl)
                · refine r_iconst C dL_ask_144 ?_
                  refine r_goto C (tgt := 149) dL_ask_145 (by decide) ?_
                  refine q_V3J C (cZ_expensed hfl hP hak (by omega)) dL_ask_149 lk_L_103 hl6 ⟨Nat.le_of_ble_eq_true rfl, Nat.le_of_ble_eq_true rfl⟩ (catLe (Nat.le_of_ble_eq_true rfl)) ⟨rfl, rfl⟩ rfl (Nat.le_of_ble_eq_true rfl) (Nat.le_of_ble_eq_true rfl) (fun z149 S149 A149 i149 p149 => ?_)
                  obtain ⟨rfl, rfl, hF149⟩ := p149
                  have hP := pi_fr hP hF149
                  exact f_J F dL_ask_152 (by first | assumption | omega) ⟨(by rcases hw12 with rfl | rfl | rfl | rfl | rfl | rfl | rfl | rfl | rfl | rfl | rfl | rfl <;> first | (exfalso; omega) | rfl | exact (cI_t rfl).symm | exact (cI_f (by decide)).symm), rfl, (by first | exact Fr.rf | exact hF7 | exact hF22 | exact hF37 | exact hF51 | exact hF77 | exact hF103 | exact hF129 | exact hF149)⟩ (Nat.le_of_ble_eq_true rfl) (Nat.le_of_ble_eq_true rfl)
              · refine r_aload_n C dL_ask_115 lg_0 ?_
                refine r_iload_n C dL_ask_116 lg_1 ?_
                refine r_iload_n C dL_ask_117 lg_2 ?_
                refine r_iload_n C dL_ask_118 lg_3 ?_
                refine r_bipush C dL_ask_119 (by decide) ?_
                refine r_icne C (tgt := 128) dL_ask_121 (by decide) (by omega) (by omega) (fun c121 => ?_) (fun c121 => ?_)
                · refine r_iconst C dL_ask_128 ?_
                  refine q_V3J C (cZ_revalued hfl hP hak (by omega)) dL_ask_129 lk_L_100 hl6 ⟨Nat.le_of_ble_eq_true rfl, Nat.le_of_ble_eq_true rfl⟩ (catLe (Nat.le_of_ble_eq_true rfl)) ⟨rfl, rfl⟩ rfl (Nat.le_of_ble_eq_true rfl) (Nat.le_of_ble_eq_true rfl) (fun z129 S129 A129 i129 p129 => ?_)
                  obtain ⟨rfl, rfl, hF129⟩ := p129
                  have hP := pi_fr hP hF129
                  refine r_goto C (tgt := 152) dL_ask_132 (by decide) ?_
                  exact f_J F dL_ask_152 (by first | assumption | omega) ⟨(by rcases hw12 with rfl | rfl | rfl | rfl | rfl | rfl | rfl | rfl | rfl | rfl | rfl | rfl <;> first | (exfalso; omega) | rfl | exact (cI_t rfl).symm | exact (cI_f (by decide)).symm), rfl, (by first | exact Fr.rf | exact hF7 | exact hF22 | exact hF37 | exact hF51 | exact hF77 | exact hF103 | exact hF129 | exact hF149)⟩ (Nat.le_of_ble_eq_true rfl) (Nat.le_of_ble_eq_true rfl)
                · refine r_iconst C dL_ask_124 ?_
                  refine r_goto C (tgt := 129) dL_ask_125 (by decide) ?_
                  refine q_V3J C (cZ_revalued hfl hP hak (by omega)) dL_ask_129 lk_L_100 hl6 ⟨Nat.le_of_ble_eq_true rfl, Nat.le_of_ble_eq_true rfl⟩ (catLe (Nat.le_of_ble_eq_true rfl)) ⟨rfl, rfl⟩ rfl (Nat.le_of_ble_eq_true rfl) (Nat.le_of_ble_eq_true rfl) (fun z129 S129 A129 i129 p129 => ?_)
                  obtain ⟨rfl, rfl, hF129⟩ := p129
                  have hP := pi_fr hP hF129
                  refine r_goto C (tgt := 152) dL_ask_132 (by decide) ?_
                  exact f_J F dL_ask_152 (by first | assumption | omega) ⟨(by rcases hw12 with rfl | rfl | rfl | rfl | rfl | rfl | rfl | rfl | rfl | rfl | rfl | rfl <;> first | (exfalso; omega) | rfl | exact (cI_t rfl).symm | exact (cI_f (by decide)).symm), rfl, (by first | exact Fr.rf | exact hF7 | exact hF22 | exact hF37 | exact hF51 | exact hF77 | exact hF103 | exact hF129 | exact hF149)⟩ (Nat.le_of_ble_eq_true rfl) (Nat.le_of_ble_eq_true rfl)
            · refine r_aload_n C dL_ask_89 lg_0 ?_
              refine r_iload_n C dL_ask_90 lg_1 ?_
              refine r_iload_n C dL_ask_91 lg_2 ?_
              refine r_iload_n C dL_ask_92 lg_3 ?_
              refine r_bipush C dL_ask_93 (by decide) ?_
              refine r_icne C (tgt := 102) dL_ask_95 (by decide) (by omega) (by omega) (fun c95 => ?_) (fun c95 => ?_)
              · refine r_iconst C dL_ask_102 ?_
                refine q_V3J C (cZ_issued hfl hP hak (by omega)) dL_ask_103 lk_L_97 hl6 ⟨Nat.le_of_ble_eq_true rfl, Nat.le_of_ble_eq_true rfl⟩ (catLe (Nat.le_of_ble_eq_true rfl)) ⟨rfl, rfl⟩ rfl (Nat.le_of_ble_eq_true rfl) (Nat.le_of_ble_eq_true rfl) (fun z103 S103 A103 i103 p103 => ?_)
                obtain ⟨rfl, rfl, hF103⟩ := p103
                have hP := pi_fr hP hF103
                refine r_goto C (tgt := 152) dL_ask_106 (by decide) ?_
                exact f_J F dL_ask_152 (by first | assumption | omega) ⟨(by rcases hw12 with rfl | rfl | rfl | rfl | rfl | rfl | rfl | rfl | rfl | rfl | rfl | rfl <;> first | (exfalso; omega) | rfl | exact (cI_t rfl).symm | exact (cI_f (by decide)).symm), rfl, (by first | exact Fr.rf | exact hF7 | exact hF22 | exact hF37 | exact hF51 | exact hF77 | exact hF103 | exact hF129 | exact hF149)⟩ (Nat.le_of_ble_eq_true rfl) (Nat.le_of_ble_eq_true rfl)
              · refine r_iconst C dL_ask_98 ?_
                refine r_goto C (tgt := 103) dL_ask_99 (by decide) ?_
                refine q_V3J C (cZ_issued hfl hP hak (by omega)) dL_ask_103 lk_L_97 hl6 ⟨Nat.le_of_ble_eq_true rfl, Nat.le_of_ble_eq_true rfl⟩ (catLe (Nat.le_of_ble_eq_true rfl)) ⟨rfl, rfl⟩ rfl (Nat.le_of_ble_eq_true rfl) (Nat.le_of_ble_eq_true rfl) (fun z103 S103 A103 i103 p103 => ?_)
                obtain ⟨rfl, rfl, hF103⟩ := p103
                have hP := pi_fr hP hF103
                refine r_goto C (tgt := 152) dL_ask_106 (by decide) ?_
                exact f_J F dL_ask_152 (by first | assumption | omega) ⟨(by rcases hw12 with rfl | rfl | rfl | rfl | rfl | rfl | rfl | rfl | rfl | rfl | rfl | rfl <;> first | (exfalso; omega) | rfl | exact (cI_t rfl).symm | exact (cI_f (by decide)).symm), rfl, (by first | exact Fr.rf | exact hF7 | exact hF22 | exact hF37 | exact hF51 | exact hF77 | exact hF103 | exact hF129 | exact hF149)⟩ (Nat.le_of_ble_eq_true rfl) (Nat.le_of_ble_eq_true rfl)
          · refine r_aload_n C dL_ask_64 lg_0 ?_
            refine r_iload_n C dL_ask_65 lg_1 ?_
            refine r_iload_n C dL_ask_66 lg_2 ?_
            refine r_iload_n C dL_ask_67 lg_3 ?_
            refine r_iconst C dL_ask_68 ?_
            refine r_icne C (tgt := 76) dL_ask_69 (by decide) (by omega) (by omega) (fun c69 => ?_) (fun c69 => ?_)
            · refine r_iconst C dL_ask_76 ?_
              refine q_V3J C (cZ_value hfl hP hak (by omega)) dL_ask_77 lk_L_93 hl6 ⟨Nat.le_of_ble_eq_true rfl, Nat.le_of_ble_eq_true rfl⟩ (catLe (Nat.le_of_ble_eq_true rfl)) ⟨rfl, rfl⟩ rfl (Nat.le_of_ble_eq_true rfl) (Nat.le_of_ble_eq_true rfl) (fun z77 S77 A77 i77 p77 => ?_)
              obtain ⟨rfl, rfl, hF77⟩ := p77
              have hP := pi_fr hP hF77
              refine r_goto C (tgt := 152) dL_ask_80 (by decide) ?_
              exact f_J F dL_ask_152 (by first | assumption | omega) ⟨(by rcases hw12 with rfl | rfl | rfl | rfl | rfl | rfl | rfl | rfl | rfl | rfl | rfl | rfl <;> first | (exfalso; omega) | rfl | exact (cI_t rfl).symm | exact (cI_f (by decide)).symm), rfl, (by first | exact Fr.rf | exact hF7 | exact hF22 | exact hF37 | exact hF51 | exact hF77 | exact hF103 | exact hF129 | exact hF149)⟩ (Nat.le_of_ble_eq_true rfl) (Nat.le_of_ble_eq_true rfl)
            · refine r_iconst C dL_ask_72 ?_
              refine r_goto C (tgt := 77) dL_ask_73 (by decide) ?_
              refine q_V3J C (cZ_value hfl hP hak (by omega)) dL_ask_77 lk_L_93 hl6 ⟨Nat.le_of_ble_eq_true rfl, Nat.le_of_ble_eq_true rfl⟩ (catLe (Nat.le_of_ble_eq_true rfl)) ⟨rfl, rfl⟩ rfl (Nat.le_of_ble_eq_true rfl) (Nat.le_of_ble_eq_true rfl) (fun z77 S77 A77 i77 p77 => ?_)
              obtain ⟨rfl, rfl, hF77⟩ := p77
              have hP := pi_fr hP hF77
              refine r_goto C (tgt := 152) dL_ask_80 (by decide) ?_
              exact f_J F dL_ask_152 (by first | assumption | omega) ⟨(by rcases hw12 with rfl | rfl | rfl | rfl | rfl | rfl | rfl | rfl | rfl | rfl | rfl | rfl <;> first | (exfalso; omega) | rfl | exact (cI_t rfl).symm | exact (cI_f (by decide)).symm), rfl, (by first | exact Fr.rf | exact hF7 | exact hF22 | exact hF37 | exact hF51 | exact hF77 | exact hF103 | exact hF129 | exact hF149)⟩ (Nat.le_of_ble_eq_true rfl) (Nat.le_of_ble_eq_true rfl)
        · refine r_aload_n C dL_ask_48 lg_0 ?_
          refine r_iload_n C dL_ask_49 lg_1 ?_
          refine r_iload_n C dL_ask_50 lg_2 ?_
          refine q_V2I C (cZ_layers hfl hP hak) dL_ask_51 lk_L_90 hl6 ⟨Nat.le_of_ble_eq_true rfl, Nat.le_of_ble_eq_true rfl⟩ (catLe (Nat.le_of_ble_eq_true rfl)) ⟨rfl, rfl⟩ rfl (Nat.le_of_ble_eq_true rfl) (Nat.le_of_ble_eq_true rfl) (fun z51 S51 A51 i51 p51 => ?_)
          obtain ⟨rfl, rfl, hF51⟩ := p51
          have hP := pi_fr hP hF51
          refine r_i2l C dL_ask_54 i51 ?_
          refine r_goto C (tgt := 152) dL_ask_55 (by decide) ?_
          exact f_J F dL_ask_152 (by first | assumption | omega) ⟨(by rcases hw12 with rfl | rfl | rfl | rfl | rfl | rfl | rfl | rfl | rfl | rfl | rfl | rfl <;> first | (exfalso; omega) | rfl | exact (cI_t rfl).symm | exact (cI_f (by decide)).symm), rfl, (by first | exact Fr.rf | exact hF7 | exact hF22 | exact hF37 | exact hF51 | exact hF77 | exact hF103 | exact hF129 | exact hF149)⟩ (Nat.le_of_ble_eq_true rfl) (Nat.le_of_ble_eq_true rfl)
      · refine r_aload_n C dL_ask_34 lg_0 ?_
        refine r_iload_n C dL_ask_35 lg_1 ?_
        refine r_iload_n C dL_ask_36 lg_2 ?_
        refine q_V2J C (cZ_received hfl hP hak) dL_ask_37 lk_L_86 hl6 ⟨Nat.le_of_ble_eq_true rfl, Nat.le_of_ble_eq_true rfl⟩ (catLe (Nat.le_of_ble_eq_true rfl)) ⟨rfl, rfl⟩ rfl (Nat.le_of_ble_eq_true rfl) (Nat.le_of_ble_eq_true rfl) (fun z37 S37 A37 i37 p37 => ?_)
        obtain ⟨rfl, rfl, hF37⟩ := p37
        have hP := pi_fr hP hF37
        refine r_goto C (tgt := 152) dL_ask_40 (by decide) ?_
        exact f_J F dL_ask_152 (by first | assumption | omega) ⟨(by rcases hw12 with rfl | rfl | rfl | rfl | rfl | rfl | rfl | rfl | rfl | rfl | rfl | rfl <;> first | (exfalso; omega) | rfl | exact (cI_t rfl).symm | exact (cI_f (by decide)).symm), rfl, (by first | exact Fr.rf | exact hF7 | exact hF22 | exact hF37 | exact hF51 | exact hF77 | exact hF103 | exact hF129 | exact hF149)⟩ (Nat.le_of_ble_eq_true rfl) (Nat.le_of_ble_eq_true rfl)
    · refine r_aload_n C dL_ask_19 lg_0 ?_
      refine r_iload_n C dL_ask_20 lg_1 ?_
      refine r_iload_n C dL_ask_21 lg_2 ?_
      refine q_V2I C (cZ_available hfl hP hak) dL_ask_22 lk_L_83 hl6 ⟨Nat.le_of_ble_eq_true rfl, Nat.le_of_ble_eq_true rfl⟩ (catLe (Nat.le_of_ble_eq_true rfl)) ⟨rfl, rfl⟩ rfl (Nat.le_of_ble_eq_true rfl) (Nat.le_of_ble_eq_true rfl) (fun z22 S22 A22 i22 p22 => ?_)
      obtain ⟨rfl, rfl, rfl⟩ := p22
      refine r_i2l C dL_ask_25 i22 ?_
      refine r_goto C (tgt := 152) dL_ask_26 (by decide) ?_
      exact f_J F dL_ask_152 (by first | assumption | omega) ⟨(by rcases hw12 with rfl | rfl | rfl | rfl | rfl | rfl | rfl | rfl | rfl | rfl | rfl | rfl <;> first | (exfalso; omega) | rfl | exact (cI_t rfl).symm | exact (cI_f (by decide)).symm), rfl, (by first | exact Fr.rf | exact hF7 | exact hF22 | exact hF37 | exact hF51 | exact hF77 | exact hF103 | exact hF129 | exact hF149)⟩ (Nat.le_of_ble_eq_true rfl) (Nat.le_of_ble_eq_true rfl)
  · refine r_aload_n C dL_ask_4 lg_0 ?_
    refine r_iload_n C dL_ask_5 lg_1 ?_
    refine r_iload_n C dL_ask_6 lg_2 ?_
    refine q_V2I C (cZ_onHand hfl hP hak) dL_ask_7 lk_L_80 hl6 ⟨Nat.le_of_ble_eq_true rfl, Nat.le_of_ble_eq_true rfl⟩ (catLe (Nat.le_of_ble_eq_true rfl)) ⟨rfl, rfl⟩ rfl (Nat.le_of_ble_eq_true rfl) (Nat.le_of_ble_eq_true rfl) (fun z7 S7 A7 i7 p7 => ?_)
    obtain ⟨rfl, rfl, rfl⟩ := p7
    refine r_i2l C dL_ask_10 i7 ?_
    refine r_goto C (tgt := 152) dL_ask_11 (by decide) ?_
    exact f_J F dL_ask_152 (by first | assumption | omega) ⟨(by rcases hw12 with rfl | rfl | rfl | rfl | rfl | rfl | rfl | rfl | rfl | rfl | rfl | rfl <;> first | (exfalso; omega) | rfl | exact (cI_t rfl).symm | exact (cI_f (by decide)).symm), rfl, (by first | exact Fr.rf | exact hF7 | exact hF22 | exact hF37 | exact hF51 | exact hF77 | exact hF103 | exact hF129 | exact hF149)⟩ (Nat.le_of_ble_eq_true rfl) (Nat.le_of_ble_eq_true rfl)
theorem ct_imp {G : GT} {l : Launch} {y : MethodName} {cc : ByteArray} {maxL : Nat} {ret : Option FieldType} {rm : Room} {S : ST} {A : AB} {av : List Value} {P Q : Int → ST → AB → Prop} {XPo XQo : String → ST → AB → Prop} (h : CT G l y cc maxL ret rm S A av (oJ P) XPo) (hi : ∀ z S' A', P z S' A' → Q z S' A') (hx : ∀ E S' A', XPo E S' A' → XQo E S' A') : CT G l y cc maxL ret rm S A av (oJ Q) XQo := by
  have e : ∀ r S' A', oJ P r S' A' → oJ Q r S' A' := fun r S' A' ⟨z, h1, h2, h3⟩ => ⟨z, h1, h2, hi z S' A' h3⟩
  intro sz p e9 ha hc hk s m args below hf happ hP hK
  obtain ⟨n, o, h1, h2, h3, h4⟩ := h sz p e9 ha hc hk s m args below hf happ hP hK
  refine ⟨n, o, h1, h2, h3, ?_⟩
  rcases h4 with ⟨⟨⟨r, S', A', e1, e2, e3⟩, hF⟩, hL⟩ | ⟨q, h5, E, ce, L, ⟨⟨S', A', e1, e2⟩, hF⟩, h6⟩
  · exact Or.inl ⟨⟨⟨r, S', A', e1, e r S' A' e2, e3⟩, hF⟩, hL⟩
  · exact Or.inr ⟨q, h5, E, ce, L, ⟨⟨S', A', hx E S' A' e1, e2⟩, hF⟩, h6⟩
theorem cW_value {G : GT} {l : Launch} (hfl : l.stackTraces = false) {S : ST} {A : AB} {item day y : Int} {R : RW} (hP : PI R S A) (hi : rI item) (hd : rI day) (hx : ¬ akOk item day) (hy : y = 0 ∨ y = 1) : CT G l yX7_value cX7_value 4 (some .long) (rmk 8 2 12 133) S A [vR A 6 0, vI item, vI day, vI y] (oJ fun _ _ _ => False) (fun E S' A' => (E = xIA ∧ ¬ akOk item day) ∧ S = S' ∧ A = A') := by
  obtain ⟨hCK, hR, hR2, hV⟩ := hP
  by_cases hy0 : y = 0
  · exact ct_imp (cB0_value hfl hCK hR hR2 hV hi hd (rI_b hy) hy0) (fun z S' A' h => hx h.2.1) (fun _ _ _ h => h)
  · exact ct_imp (cB4_value hfl hCK hR hR2 hV hi hd (rI_b hy) hy0) (fun z S' A' h => hx h.2.1) (fun _ _ _ h => h)
theorem cW_issued {G : GT} {l : Launch} (hfl : l.stackTraces = false) {S : ST} {A : AB} {item day y : Int} {R : RW} (hP : PI R S A) (hi : rI item) (hd : rI day) (hx : ¬ akOk item day) (hy : y = 0 ∨ y = 1) : CT G l yX7_issued cX7_issued 4 (some .long) (rmk 8 2 12 133) S A [vR A 6 0, vI item, vI day, vI y] (oJ fun _ _ _ => False) (fun E S' A' => (E = xIA ∧ ¬ akOk item day) ∧ S = S' ∧ A = A') := by
  obtain ⟨hCK, hR, hR2, hV⟩ := hP
  by_cases hy0 : y = 0
  · exact ct_imp (cB0_issued hfl hCK hR hR2 hV hi hd (rI_b hy) hy0) (fun z S' A' h => hx h.2.1) (fun _ _ _ h => h)
  · exact ct_imp (cB4_issued hfl hCK hR hR2 hV hi hd (rI_b hy) hy0) (fun z S' A' h => hx h.2.1) (fun _ _ _ h => h)
theorem cW_revalued {G : GT} {l : Launch} (hfl : l.stackTraces = false) {S : ST} {A : AB} {item day y : Int} {R : RW} (hP : PI R S A) (hi : rI item) (hd : rI day) (hx : ¬ akOk item day) (hy : y = 0 ∨ y = 1) : CT G l yX7_revalued cX7_revalued 4 (some .long) (rmk 8 2 12 133) S A [vR A 6 0, vI item, vI day, vI y] (oJ fun _ _ _ => False) (fun E S' A' => (E = xIA ∧ ¬ akOk item day) ∧ S = S' ∧ A = A') := by
  obtain ⟨hCK, hR, hR2, hV⟩ := hP
  by_cases hy0 : y = 0
  · exact ct_imp (cB0_revalued hfl hCK hR hR2 hV hi hd (rI_b hy) hy0) (fun z S' A' h => hx h.2.1) (fun _ _ _ h => h)
  · exact ct_imp (cB4_revalued hfl hCK hR hR2 hV hi hd (rI_b hy) hy0) (fun z S' A' h => hx h.2.1) (fun _ _ _ h => h)
theorem cW_expensed {G : GT} {l : Launch} (hfl : l.stackTraces = false) {S : ST} {A : AB} {item day y : Int} {R : RW} (hP : PI R S A) (hi : rI item) (hd : rI day) (hx : ¬ akOk item day) (hy : y = 0 ∨ y = 1) : CT G l yX7_expensed cX7_expensed 4 (some .long) (rmk 8 2 12 133) S A [vR A 6 0, vI item, vI day, vI y] (oJ fun _ _ _ => False) (fun E S' A' => (E = xIA ∧ ¬ akOk item day) ∧ S = S' ∧ A = A') := by
  obtain ⟨hCK, hR, hR2, hV⟩ := hP
  by_cases hy0 : y = 0
  · exact ct_imp (cB0_expensed hfl hCK hR hR2 hV hi hd (rI_b hy) hy0) (fun z S' A' h => hx h.2.1) (fun _ _ _ h => h)
  · exact ct_imp (cB4_expensed hfl hCK hR hR2 hV hi hd (rI_b hy) hy0) (fun z S' A' h => hx h.2.1) (fun _ _ _ h => h)
set_option maxRecDepth 20000 in
theorem cQ_askX {G : GT} {l : Launch} (hfl : l.stackTraces = false) {S : ST} {A : AB} {item day w : Int} {R : RW} (hP : PI R S A) (hi : rI item) (hd : rI day) (hx : ¬ akOk item day) (hw : 0 ≤ w ∧ w < 12) : CTH G l yL_ask cL_ask 5 (some .long) [(0, 152, 153, 16)] (rmk 9 2 12 156) S A [vR A 6 0, vI item, vI day, vI w] (oJ fun z S' A' => -900000000000 = z ∧ S = S' ∧ A = A') (noX) := by
  obtain ⟨hCK, hR, hR2, hV⟩ := id hP
  have hl6 := hCK.1.1
  refine ct_ofNH (own := RL) (mn := "ask") rfl rfl (by decide) hfl (lv0 := [some (vR A 6 0), some (vI item), some (vI day), some (vI w), none]) (ent_1 (cat_R _ _ _) (ent_1 rfl (ent_1 rfl (ent_1 rfl (ent_n ent_0))))) rfl ?_
  intro J X C F hW hA
  refine r_iload_n C dL_ask_0 lg_3 ?_
  refine r_ifne C (tgt := 14) dL_ask_1 (by decide) (by omega) (fun c1 => ?_) (fun c1 => ?_)
  · refine r_iload_n C dL_ask_14 lg_3 ?_
    refine r_iconst C dL_ask_15 ?_
    refine r_icne C (tgt := 29) dL_ask_16 (by decide) (by omega) (by omega) (fun c16 => ?_) (fun c16 => ?_)
    · refine r_iload_n C dL_ask_29 lg_3 ?_
      refine r_iconst C dL_ask_30 ?_
      refine r_icne C (tgt := 43) dL_ask_31 (by decide) (by omega) (by omega) (fun c31 => ?_) (fun c31 => ?_)
      · refine r_iload_n C dL_ask_43 lg_3 ?_
        refine r_iconst C dL_ask_44 ?_
        refine r_icne C (tgt := 58) dL_ask_45 (by decide) (by omega) (by omega) (fun c45 => ?_) (fun c45 => ?_)
        · refine r_iload_n C dL_ask_58 lg_3 ?_
          refine r_bipush C dL_ask_59 (by decide) ?_
          refine r_icge C (tgt := 83) dL_ask_61 (by decide) (by omega) (by omega) (fun c61 => ?_) (fun c61 => ?_)
          · refine r_iload_n C dL_ask_83 lg_3 ?_
            refine r_bipush C dL_ask_84 (by decide) ?_
            refine r_icge C (tgt := 109) dL_ask_86 (by decide) (by omega) (by omega) (fun c86 => ?_) (fun c86 => ?_)
            · refine r_iload_n C dL_ask_109 lg_3 ?_
              refine r_bipush C dL_ask_110 (by decide) ?_
              refine r_icge C (tgt := 135) dL_ask_112 (by decide) (by omega) (by omega) (fun c112 => ?_) (fun c112 => ?_)
              · refine r_aload_n C dL_ask_135 lg_0 ?_
                refine r_iload_n C dL_ask_136 lg_1 ?_
                refine r_iload_n C dL_ask_137 lg_2 ?_
                refine r_iload_n C dL_ask_138 lg_3 ?_
                refine r_bipush C dL_ask_139 (by decide) ?_
                refine r_icne C (tgt := 148) dL_ask_141 (by decide) (by omega) (by omega) (fun c141 => ?_) (fun c141 => ?_)
                · refine r_iconst C dL_ask_148 ?_
                  refine r_V3J C (cW_expensed hfl hP hi hd hx (by omega)) dL_ask_149 lk_L_103 hl6 ⟨Nat.le_of_ble_eq_true rfl, Nat.le_of_ble_eq_true rfl⟩ (catLe (Nat.le_of_ble_eq_true rfl)) 2 12 ⟨rfl, rfl⟩ (Nat.le_of_ble_eq_true rfl) (Nat.le_of_ble_eq_true rfl) (by
                      rintro E9 S9 A9 ⟨⟨rfl, h8⟩, rfl, rfl⟩
                      refine r_catch C (tableOf []) (tableOf []) (a := 0) (b := 152) (h := 153) (t := 16) rfl (by decide) (by decide) (by decide) (by decide) xl_16 pass_0 (fun q9 => ?_)
                      refine r_astoreq C dL_ask_153 (ls1_4 rfl rfl) ?_
                      refine r_ldc2 C dL_ask_155 cs_L_106 (-900000000000) (by decide) ?_
                      exact f_J F dL_ask_158 (by omega) ⟨rfl, rfl, rfl⟩ (Nat.le_of_ble_eq_true rfl) (Nat.le_of_ble_eq_true rfl)) (fun z149 S149 A149 i149 p149 => ?_)
                  exact p149.elim
                · refine r_iconst C dL_ask_144 ?_
                  refine r_goto C (tgt := 149) dL_ask_145 (by decide) ?_
                  refine r_V3J C (cW_expensed hfl hP hi hd hx (by omega)) dL_ask_149 lk_L_103 hl6 ⟨Nat.le_of_ble_eq_true rfl, Nat.le_of_ble_eq_true rfl⟩ (catLe (Nat.le_of_ble_eq_true rfl)) 2 12 ⟨rfl, rfl⟩ (Nat.le_of_ble_eq_true rfl) (Nat.le_of_ble_eq_true rfl) (by
                      rintro E9 S9 A9 ⟨⟨rfl, h8⟩, rfl, rfl⟩
                      refine r_catch C (tableOf []) (tableOf []) (a := 0) (b := 152) (h := 153) (t := 16) rfl (by decide) (by decide) (by decide) (by decide) xl_16 pass_0 (fun q9 => ?_)
                      refine r_astoreq C dL_ask_153 (ls1_4 rfl rfl) ?_
                      refine r_ldc2 C dL_ask_155 cs_L_106 (-900000000000) (by decide) ?_
                      exact f_J F dL_ask_158 (by omega) ⟨rfl, rfl, rfl⟩ (Nat.le_of_ble_eq_true rfl) (Nat.le_of_ble_eq_true rfl)) (fun z149 S149 A149 i149 p149 => ?_)
                  exact p149.elim
              · refine r_aload_n C dL_ask_115 lg_0 ?_
                refine r_iload_n C dL_ask_116 lg_1 ?_
                refine r_iload_n C dL_ask_117 lg_2 ?_
                refine r_iload_n C dL_ask_118 lg_3 ?_
                refine r_bipush C dL_ask_119 (by decide) ?_
                refine r_icne C (tgt := 128) dL_ask_121 (by decide) (by omega) (by omega) (fun c121 => ?_) (fun c121 => ?_)
                · refine r_iconst C dL_ask_128 ?_
                  refine r_V3J C (cW_revalued hfl hP hi hd hx (by omega)) dL_ask_129 lk_L_100 hl6 ⟨Nat.le_of_ble_eq_true rfl, Nat.le_of_ble_eq_true rfl⟩ (catLe (Nat.le_of_ble_eq_true rfl)) 2 12 ⟨rfl, rfl⟩ (Nat.le_of_ble_eq_true rfl) (Nat.le_of_ble_eq_true rfl) (by
                      rintro E9 S9 A9 ⟨⟨rfl, h8⟩, rfl, rfl⟩
                      refine r_catch C (tableOf []) (tableOf []) (a := 0) (b := 152) (h := 153) (t := 16) rfl (by decide) (by decide) (by decide) (by decide) xl_16 pass_0 (fun q9 => ?_)
                      refine r_astoreq C dL_ask_153 (ls1_4 rfl rfl) ?_
                      refine r_ldc2 C dL_ask_155 cs_L_106 (-900000000000) (by decide) ?_
                      exact f_J F dL_ask_158 (by omega) ⟨rfl, rfl, rfl⟩ (Nat.le_of_ble_eq_true rfl) (Nat.le_of_ble_eq_true rfl)) (fun z129 S129 A129 i129 p129 => ?_)
                  exact p129.elim
                · refine r_iconst C dL_ask_124 ?_
                  refine r_goto C (tgt := 129) dL_ask_125 (by decide) ?_
                  refine r_V3J C (cW_revalued hfl hP hi hd hx (by omega)) dL_ask_129 lk_L_100 hl6 ⟨Nat.le_of_ble_eq_true rfl, Nat.le_of_ble_eq_true rfl⟩ (catLe (Nat.le_of_ble_eq_true rfl)) 2 12 ⟨rfl, rfl⟩ (Nat.le_of_ble_eq_true rfl) (Nat.le_of_ble_eq_true rfl) (by
                      rintro E9 S9 A9 ⟨⟨rfl, h8⟩, rfl, rfl⟩
                      refine r_catch C (tableOf []) (tableOf []) (a := 0) (b := 152) (h := 153) (t := 16) rfl (by decide) (by decide) (by decide) (by decide) xl_16 pass_0 (fun q9 => ?_)
                      refine r_astoreq C dL_ask_153 (ls1_4 rfl rfl) ?_
                      refine r_ldc2 C dL_ask_155 cs_L_106 (-900000000000) (by decide) ?_
                      exact f_J F dL_ask_158 (by omega) ⟨rfl, rfl, rfl⟩ (Nat.le_of_ble_eq_true rfl) (Nat.le_of_ble_eq_true rfl)) (fun z129 S129 A129 i129 p129 => ?_)
                  exact p129.elim
            · refine r_aload_n C dL_ask_89 lg_0 ?_
              refine r_iload_n C dL_ask_90 lg_1 ?_
              refine r_iload_n C dL_ask_91 lg_2 ?_
              refine r_iload_n C dL_ask_92 lg_3 ?_
              refine r_bipush C dL_ask_93 (by decide) ?_
              refine r_icne C (tgt := 102) dL_ask_95 (by decide) (by omega) (by omega) (fun c95 => ?_) (fun c95 => ?_)
              · refine r_iconst C dL_ask_102 ?_
                refine r_V3J C (cW_issued hfl hP hi hd hx (by omega)) dL_ask_103 lk_L_97 hl6 ⟨Nat.le_of_ble_eq_true rfl, Nat.le_of_ble_eq_true rfl⟩ (catLe (Nat.le_of_ble_eq_true rfl)) 2 12 ⟨rfl, rfl⟩ (Nat.le_of_ble_eq_true rfl) (Nat.le_of_ble_eq_true rfl) (by
                    rintro E9 S9 A9 ⟨⟨rfl, h8⟩, rfl, rfl⟩
                    refine r_catch C (tableOf []) (tableOf []) (a := 0) (b := 152) (h := 153) (t := 16) rfl (by decide) (by decide) (by decide) (by decide) xl_16 pass_0 (fun q9 => ?_)
                    refine r_astoreq C dL_ask_153 (ls1_4 rfl rfl) ?_
                    refine r_ldc2 C dL_ask_155 cs_L_106 (-900000000000) (by decide) ?_
                    exact f_J F dL_ask_158 (by omega) ⟨rfl, rfl, rfl⟩ (Nat.le_of_ble_eq_true rfl) (Nat.le_of_ble_eq_true rfl)) (fun z103 S103 A103 i103 p103 => ?_)
                exact p103.elim
              · refine r_iconst C dL_ask_98 ?_
                refine r_goto C (tgt := 103) dL_ask_99 (by decide) ?_
                refine r_V3J C (cW_issued hfl hP hi hd hx (by omega)) dL_ask_103 lk_L_97 hl6 ⟨Nat.le_of_ble_eq_true rfl, Nat.le_of_ble_eq_true rfl⟩ (catLe (Nat.le_of_ble_eq_true rfl)) 2 12 ⟨rfl, rfl⟩ (Nat.le_of_ble_eq_true rfl) (Nat.le_of_ble_eq_true rfl) (by
                    rintro E9 S9 A9 ⟨⟨rfl, h8⟩, rfl, rfl⟩
                    refine r_catch C (tableOf []) (tableOf []) (a := 0) (b := 152) (h := 153) (t := 16) rfl (by decide) (by decide) (by decide) (by decide) xl_16 pass_0 (fun q9 => ?_)
                    refine r_astoreq C dL_ask_153 (ls1_4 rfl rfl) ?_
                    refine r_ldc2 C dL_ask_155 cs_L_106 (-900000000000) (by decide) ?_
                    exact f_J F dL_ask_158 (by omega) ⟨rfl, rfl, rfl⟩ (Nat.le_of_ble_eq_true rfl) (Nat.le_of_ble_eq_true rfl)) (fun z103 S103 A103 i103 p103 => ?_)
                exact p103.elim
          · refine r_aload_n C dL_ask_64 lg_0 ?_
            refine r_iload_n C dL_ask_65 lg_1 ?_
            refine r_iload_n C dL_ask_66 lg_2 ?_
            refine r_iload_n C dL_ask_67 lg_3 ?_
            refine r_iconst C dL_ask_68 ?_
            refine r_icne C (tgt := 76) dL_ask_69 (by decide) (by omega) (by omega) (fun c69 => ?_) (fun c69 => ?_)
            · refine r_iconst C dL_ask_76 ?_
              refine r_V3J C (cW_value hfl hP hi hd hx (by omega)) dL_ask_77 lk_L_93 hl6 ⟨Nat.le_of_ble_eq_true rfl, Nat.le_of_ble_eq_true rfl⟩ (catLe (Nat.le_of_ble_eq_true rfl)) 2 12 ⟨rfl, rfl⟩ (Nat.le_of_ble_eq_true rfl) (Nat.le_of_ble_eq_true rfl) (by
                  rintro E9 S9 A9 ⟨⟨rfl, h8⟩, rfl, rfl⟩
                  refine r_catch C (tableOf []) (tableOf []) (a := 0) (b := 152) (h := 153) (t := 16) rfl (by decide) (by decide) (by decide) (by decide) xl_16 pass_0 (fun q9 => ?_)
                  refine r_astoreq C dL_ask_153 (ls1_4 rfl rfl) ?_
                  refine r_ldc2 C dL_ask_155 cs_L_106 (-900000000000) (by decide) ?_
                  exact f_J F dL_ask_158 (by omega) ⟨rfl, rfl, rfl⟩ (Nat.le_of_ble_eq_true rfl) (Nat.le_of_ble_eq_true rfl)) (fun z77 S77 A77 i77 p77 => ?_)
              exact p77.elim
            · refine r_iconst C dL_ask_72 ?_
              refine r_goto C (tgt := 77) dL_ask_73 (by decide) ?_
              refine r_V3J C (cW_value hfl hP hi hd hx (by omega)) dL_ask_77 lk_L_93 hl6 ⟨Nat.le_of_ble_eq_true rfl, Nat.le_of_ble_eq_true rfl⟩ (catLe (Nat.le_of_ble_eq_true rfl)) 2 12 ⟨rfl, rfl⟩ (Nat.le_of_ble_eq_true rfl) (Nat.le_of_ble_eq_true rfl) (by
                  rintro E9 S9 A9 ⟨⟨rfl, h8⟩, rfl, rfl⟩
                  refine r_catch C (tableOf []) (tableOf []) (a := 0) (b := 152) (h := 153) (t := 16) rfl (by decide) (by decide) (by decide) (by decide) xl_16 pass_0 (fun q9 => ?_)
                  refine r_astoreq C dL_ask_153 (ls1_4 rfl rfl) ?_
                  refine r_ldc2 C dL_ask_155 cs_L_106 (-900000000000) (by decide) ?_
                  exact f_J F dL_ask_158 (by omega) ⟨rfl, rfl, rfl⟩ (Nat.le_of_ble_eq_true rfl) (Nat.le_of_ble_eq_true rfl)) (fun z77 S77 A77 i77 p77 => ?_)
              exact p77.elim
        · refine r_aload_n C dL_ask_48 lg_0 ?_
          refine r_iload_n C dL_ask_49 lg_1 ?_
          refine r_iload_n C dL_ask_50 lg_2 ?_
          refine r_V2I C (cB_layers hfl hCK hR hR2 hV hi hd) dL_ask_51 lk_L_90 hl6 ⟨Nat.le_of_ble_eq_true rfl, Nat.le_of_ble_eq_true rfl⟩ (catLe (Nat.le_of_ble_eq_true rfl)) 2 12 ⟨rfl, rfl⟩ (Nat.le_of_ble_eq_true rfl) (Nat.le_of_ble_eq_true rfl) (by
              rintro E9 S9 A9 ⟨⟨rfl, h8⟩, rfl, rfl⟩
              refine r_catch C (tableOf []) (tableOf []) (a := 0) (b := 152) (h := 153) (t := 16) rfl (by decide) (by decide) (by decide) (by decide) xl_16 pass_0 (fun q9 => ?_)
              refine r_astoreq C dL_ask_153 (ls1_4 rfl rfl) ?_
              refine r_ldc2 C dL_ask_155 cs_L_106 (-900000000000) (by decide) ?_
              exact f_J F dL_ask_158 (by omega) ⟨rfl, rfl, rfl⟩ (Nat.le_of_ble_eq_true rfl) (Nat.le_of_ble_eq_true rfl)) (fun z51 S51 A51 i51 p51 => ?_)
          exact absurd p51.2.1 hx
      · refine r_aload_n C dL_ask_34 lg_0 ?_
        refine r_iload_n C dL_ask_35 lg_1 ?_
        refine r_iload_n C dL_ask_36 lg_2 ?_
        refine r_V2J C (cB4_received hfl hCK hR hR2 hV hi hd) dL_ask_37 lk_L_86 hl6 ⟨Nat.le_of_ble_eq_true rfl, Nat.le_of_ble_eq_true rfl⟩ (catLe (Nat.le_of_ble_eq_true rfl)) 2 12 ⟨rfl, rfl⟩ (Nat.le_of_ble_eq_true rfl) (Nat.le_of_ble_eq_true rfl) (by
            rintro E9 S9 A9 ⟨⟨rfl, h8⟩, rfl, rfl⟩
            refine r_catch C (tableOf []) (tableOf []) (a := 0) (b := 152) (h := 153) (t := 16) rfl (by decide) (by decide) (by decide) (by decide) xl_16 pass_0 (fun q9 => ?_)
            refine r_astoreq C dL_ask_153 (ls1_4 rfl rfl) ?_
            refine r_ldc2 C dL_ask_155 cs_L_106 (-900000000000) (by decide) ?_
            exact f_J F dL_ask_158 (by omega) ⟨rfl, rfl, rfl⟩ (Nat.le_of_ble_eq_true rfl) (Nat.le_of_ble_eq_true rfl)) (fun z37 S37 A37 i37 p37 => ?_)
        exact absurd p37.2.1 hx
    · refine r_aload_n C dL_ask_19 lg_0 ?_
      refine r_iload_n C dL_ask_20 lg_1 ?_
      refine r_iload_n C dL_ask_21 lg_2 ?_
      refine r_V2I C (cB_available hfl hCK hR.1 hR hi hd) dL_ask_22 lk_L_83 hl6 ⟨Nat.le_of_ble_eq_true rfl, Nat.le_of_ble_eq_true rfl⟩ (catLe (Nat.le_of_ble_eq_true rfl)) 2 12 ⟨rfl, rfl⟩ (Nat.le_of_ble_eq_true rfl) (Nat.le_of_ble_eq_true rfl) (by
          rintro E9 S9 A9 ⟨⟨rfl, h8⟩, rfl, rfl⟩
          refine r_catch C (tableOf []) (tableOf []) (a := 0) (b := 152) (h := 153) (t := 16) rfl (by decide) (by decide) (by decide) (by decide) xl_16 pass_0 (fun q9 => ?_)
          refine r_astoreq C dL_ask_153 (ls1_4 rfl rfl) ?_
          refine r_ldc2 C dL_ask_155 cs_L_106 (-900000000000) (by decide) ?_
          exact f_J F dL_ask_158 (by omega) ⟨rfl, rfl, rfl⟩ (Nat.le_of_ble_eq_true rfl) (Nat.le_of_ble_eq_true rfl)) (fun z22 S22 A22 i22 p22 => ?_)
      exact absurd p22.2.1 hx
  · refine r_aload_n C dL_ask_4 lg_0 ?_
    refine r_iload_n C dL_ask_5 lg_1 ?_
    refine r_iload_n C dL_ask_6 lg_2 ?_
    refine r_V2I C (cB_onHand hfl hCK hR.1 hR hi hd) dL_ask_7 lk_L_80 hl6 ⟨Nat.le_of_ble_eq_true rfl, Nat.le_of_ble_eq_true rfl⟩ (catLe (Nat.le_of_ble_eq_true rfl)) 2 12 ⟨rfl, rfl⟩ (Nat.le_of_ble_eq_true rfl) (Nat.le_of_ble_eq_true rfl) (by
        rintro E9 S9 A9 ⟨⟨rfl, h8⟩, rfl, rfl⟩
        refine r_catch C (tableOf []) (tableOf []) (a := 0) (b := 152) (h := 153) (t := 16) rfl (by decide) (by decide) (by decide) (by decide) xl_16 pass_0 (fun q9 => ?_)
        refine r_astoreq C dL_ask_153 (ls1_4 rfl rfl) ?_
        refine r_ldc2 C dL_ask_155 cs_L_106 (-900000000000) (by decide) ?_
        exact f_J F dL_ask_158 (by omega) ⟨rfl, rfl, rfl⟩ (Nat.le_of_ble_eq_true rfl) (Nat.le_of_ble_eq_true rfl)) (fun z7 S7 A7 i7 p7 => ?_)
    exact absurd p7.2.1 hx
set_option maxRecDepth 20000 in
theorem cQ_layer {G : GT} {l : Launch} (hfl : l.stackTraces = false) {S : ST} {A : AB} {item day lay w : Int} {R : RW} (hP : PI R S A) (hi : rI item) (hd : rI day) (hl : rI lay) (hw : rI w) (hlay : akOk item day → ¬ (0 ≤ lay ∧ lay < ((wk R item day).q.length : Int))) : CTH G l yL_layer cL_layer 6 (some .long) [(0, 40, 41, 16), (0, 40, 47, 31)] (rmk 10 3 18 180) S A [vR A 6 0, vI item, vI day, vI lay, vI w] (oJ fun z S' A' => ((z = -6 ∧ ¬ akOk item day) ∨ (z = -5 ∧ akOk item day)) ∧ A = A' ∧ Fr QF S S') (noX) := by
  obtain ⟨hCK, hR, hR2, hV⟩ := id hP
  have hl6 := hCK.1.1
  rw [← (wk_of R item day (icF S)).1] at hlay
  refine ct_ofNH (own := RL) (mn := "layer") rfl rfl (by decide) hfl (lv0 := [some (vR A 6 0), some (vI item), some (vI day), some (vI lay), some (vI w), none]) (ent_1 (cat_R _ _ _) (ent_1 rfl (ent_1 rfl (ent_1 rfl (ent_1 rfl (ent_n ent_0)))))) rfl ?_
  intro J X C F hW hA
  refine r_iload C dL_layer_0 lg_4 ?_
  refine r_ifne C (tgt := 16) dL_layer_2 (by decide) (by omega) (fun c2 => ?_) (fun c2 => ?_)
  · refine r_iload C dL_layer_16 lg_4 ?_
    refine r_iconst C dL_layer_18 ?_
    refine r_icne C (tgt := 32) dL_layer_19 (by decide) (by omega) (by omega) (fun c19 => ?_) (fun c19 => ?_)
    · refine r_aload_n C dL_layer_32 lg_0 ?_
      refine r_iload_n C dL_layer_33 lg_1 ?_
      refine r_iload_n C dL_layer_34 lg_2 ?_
      refine r_iload_n C dL_layer_35 lg_3 ?_
      refine r_V3I C (cB_layerOrigin hfl hCK hR hR2 hV hi hd hl) dL_layer_36 lk_L_75 hl6 ⟨Nat.le_of_ble_eq_true rfl, Nat.le_of_ble_eq_true rfl⟩ (catLe (Nat.le_of_ble_eq_true rfl)) 3 18 ⟨rfl, rfl⟩ (Nat.le_of_ble_eq_true rfl) (Nat.le_of_ble_eq_true rfl) (by
          rintro E9 S9 A9 (⟨rfl, h8, rfl, rfl⟩ | ⟨rfl, h7, h8, rfl, hF⟩)
          · refine r_catch C (tableOf []) (tableOf [(0, 40, 47, 31)]) (a := 0) (b := 40) (h := 41) (t := 16) rfl (by decide) (by decide) (by decide) (by decide) xl_16 pass_0 (fun q9 => ?_)
            refine r_astoreq C dL_layer_41 (ls1_5 rfl rfl) ?_
            refine r_ldc2 C dL_layer_43 cs_L_78 (-6) (by decide) ?_
            exact f_J F dL_layer_46 (by omega) ⟨Or.inl ⟨rfl, h8⟩, rfl, Fr.rf⟩ (Nat.le_of_ble_eq_true rfl) (Nat.le_of_ble_eq_true rfl)
          · refine r_catch C (tableOf [(0, 40, 41, 16)]) (tableOf []) (a := 0) (b := 40) (h := 47) (t := 31) rfl (by decide) (by decide) (by decide) (by decide) xl_31 (pass_1 (q := (0, 40, 41, 16)) (by decide) xl_16 (by decide) pass_0) (fun q9 => ?_)
            refine r_astoreq C dL_layer_47 (ls1_5 rfl rfl) ?_
            refine r_ldc2 C dL_layer_49 cs_L_64 (-5) (by decide) ?_
            exact f_J F dL_layer_52 (by omega) ⟨Or.inr ⟨rfl, h7⟩, rfl, hF.sub (by decide)⟩ (Nat.le_of_ble_eq_true rfl) (Nat.le_of_ble_eq_true rfl)) (fun z36 S36 A36 i36 p36 => ?_)
      exact absurd p36.2.1.1 (hlay p36.2.1.2)
    · refine r_aload_n C dL_layer_22 lg_0 ?_
      refine r_iload_n C dL_layer_23 lg_1 ?_
      refine r_iload_n C dL_layer_24 lg_2 ?_
      refine r_iload_n C dL_layer_25 lg_3 ?_
      refine r_V3J C (cB_layerCost hfl hCK hR hR2 hV hi hd hl) dL_layer_26 lk_L_71 hl6 ⟨Nat.le_of_ble_eq_true rfl, Nat.le_of_ble_eq_true rfl⟩ (catLe (Nat.le_of_ble_eq_true rfl)) 3 18 ⟨rfl, rfl⟩ (Nat.le_of_ble_eq_true rfl) (Nat.le_of_ble_eq_true rfl) (by
          rintro E9 S9 A9 (⟨rfl, h8, rfl, rfl⟩ | ⟨rfl, h7, h8, rfl, hF⟩)
          · refine r_catch C (tableOf []) (tableOf [(0, 40, 47, 31)]) (a := 0) (b := 40) (h := 41) (t := 16) rfl (by decide) (by decide) (by decide) (by decide) xl_16 pass_0 (fun q9 => ?_)
            refine r_astoreq C dL_layer_41 (ls1_5 rfl rfl) ?_
            refine r_ldc2 C dL_layer_43 cs_L_78 (-6) (by decide) ?_
            exact f_J F dL_layer_46 (by omega) ⟨Or.inl ⟨rfl, h8⟩, rfl, Fr.rf⟩ (Nat.le_of_ble_eq_true rfl) (Nat.le_of_ble_eq_true rfl)
          · refine r_catch C (tableOf [(0, 40, 41, 16)]) (tableOf []) (a := 0) (b := 40) (h := 47) (t := 31) rfl (by decide) (by decide) (by decide) (by decide) xl_31 (pass_1 (q := (0, 40, 41, 16)) (by decide) xl_16 (by decide) pass_0) (fun q9 => ?_)
            refine r_astoreq C dL_layer_47 (ls1_5 rfl rfl) ?_
            refine r_ldc2 C dL_layer_49 cs_L_64 (-5) (by decide) ?_
            exact f_J F dL_layer_52 (by omega) ⟨Or.inr ⟨rfl, h7⟩, rfl, hF.sub (by decide)⟩ (Nat.le_of_ble_eq_true rfl) (Nat.le_of_ble_eq_true rfl)) (fun z26 S26 A26 i26 p26 => ?_)
      exact absurd p26.2.1.1 (hlay p26.2.1.2)
  · refine r_aload_n C dL_layer_5 lg_0 ?_
    refine r_iload_n C dL_layer_6 lg_1 ?_
    refine r_iload_n C dL_layer_7 lg_2 ?_
    refine r_iload_n C dL_layer_8 lg_3 ?_
    refine r_V3I C (cB_layerQuantity hfl hCK hR hR2 hV hi hd hl) dL_layer_9 lk_L_68 hl6 ⟨Nat.le_of_ble_eq_true rfl, Nat.le_of_ble_eq_true rfl⟩ (catLe (Nat.le_of_ble_eq_true rfl)) 3 18 ⟨rfl, rfl⟩ (Nat.le_of_ble_eq_true rfl) (Nat.le_of_ble_eq_true rfl) (by
        rintro E9 S9 A9 (⟨rfl, h8, rfl, rfl⟩ | ⟨rfl, h7, h8, rfl, hF⟩)
        · refine r_catch C (tableOf []) (tableOf [(0, 40, 47, 31)]) (a := 0) (b := 40) (h := 41) (t := 16) rfl (by decide) (by decide) (by decide) (by decide) xl_16 pass_0 (fun q9 => ?_)
          refine r_astoreq C dL_layer_41 (ls1_5 rfl rfl) ?_
          refine r_ldc2 C dL_layer_43 cs_L_78 (-6) (by decide) ?_
          exact f_J F dL_layer_46 (by omega) ⟨Or.inl ⟨rfl, h8⟩, rfl, Fr.rf⟩ (Nat.le_of_ble_eq_true rfl) (Nat.le_of_ble_eq_true rfl)
        · refine r_catch C (tableOf [(0, 40, 41, 16)]) (tableOf []) (a := 0) (b := 40) (h := 47) (t := 31) rfl (by decide) (by decide) (by decide) (by decide) xl_31 (pass_1 (q := (0, 40, 41, 16)) (by decide) xl_16 (by decide) pass_0) (fun q9 => ?_)
          refine r_astoreq C dL_layer_47 (ls1_5 rfl rfl) ?_
          refine r_ldc2 C dL_layer_49 cs_L_64 (-5) (by decide) ?_
          exact f_J F dL_layer_52 (by omega) ⟨Or.inr ⟨rfl, h7⟩, rfl, hF.sub (by decide)⟩ (Nat.le_of_ble_eq_true rfl) (Nat.le_of_ble_eq_true rfl)) (fun z9 S9 A9 i9 p9 => ?_)
    exact absurd p9.2.1.1 (hlay p9.2.1.2)
set_option maxRecDepth 20000 in
theorem cQ_movement {G : GT} {l : Launch} (hfl : l.stackTraces = false) {S : ST} {A : AB} {m w : Int} {R : RW} (hP : PI R S A) (hm : rI m) (hw : rI w) (hx : ¬ (0 ≤ m ∧ m < R.n)) : CTH G l yL_movement cL_movement 4 (some .int) [(0, 51, 52, 31)] (rmk 8 1 6 134) S A [vR A 6 0, vI m, vI w] (oI fun z S' A' => -5 = z ∧ S = S' ∧ A = A') (noX) := by
  obtain ⟨hCK, hR, hR2, hV⟩ := id hP
  have hl6 := hCK.1.1
  refine ct_ofNH (own := RL) (mn := "movement") rfl rfl (by decide) hfl (lv0 := [some (vR A 6 0), some (vI m), some (vI w), none]) (ent_1 (cat_R _ _ _) (ent_1 rfl (ent_1 rfl (ent_n ent_0)))) rfl ?_
  intro J X C F hW hA
  refine r_iload_n C dL_movement_0 lg_2 ?_
  refine r_ifne C (tgt := 12) dL_movement_1 (by decide) (by omega) (fun c1 => ?_) (fun c1 => ?_)
  · refine r_iload_n C dL_movement_12 lg_2 ?_
    refine r_iconst C dL_movement_13 ?_
    refine r_icne C (tgt := 25) dL_movement_14 (by decide) (by omega) (by omega) (fun c14 => ?_) (fun c14 => ?_)
    · refine r_iload_n C dL_movement_25 lg_2 ?_
      refine r_iconst C dL_movement_26 ?_
      refine r_icne C (tgt := 38) dL_movement_27 (by decide) (by omega) (by omega) (fun c27 => ?_) (fun c27 => ?_)
      · refine r_aload_n C dL_movement_38 lg_0 ?_
        refine r_iload_n C dL_movement_39 lg_1 ?_
        refine r_V1Z C (cB_isCancelled hfl hCK hR.1 hm) dL_movement_40 lk_L_53 hl6 ⟨Nat.le_of_ble_eq_true rfl, Nat.le_of_ble_eq_true rfl⟩ (catLe (Nat.le_of_ble_eq_true rfl)) 1 6 ⟨rfl, rfl⟩ (Nat.le_of_ble_eq_true rfl) (Nat.le_of_ble_eq_true rfl) (by
            rintro E9 S9 A9 ⟨⟨rfl, h8⟩, rfl, rfl⟩
            refine r_catch C (tableOf []) (tableOf []) (a := 0) (b := 51) (h := 52) (t := 31) rfl (by decide) (by decide) (by decide) (by decide) xl_31 pass_0 (fun q9 => ?_)
            refine r_astoreq_n C dL_movement_52 (ls1_3 rfl rfl) ?_
            refine r_bipush C dL_movement_53 (by decide) ?_
            exact f_I F dL_movement_55 (by omega) ⟨rfl, rfl, rfl⟩ (Nat.le_of_ble_eq_true rfl) (Nat.le_of_ble_eq_true rfl)) (fun z40 S40 A40 i40 p40 => ?_)
        exact absurd p40.2.1 hx
      · refine r_aload_n C dL_movement_30 lg_0 ?_
        refine r_iload_n C dL_movement_31 lg_1 ?_
        refine r_V1I C (cB_place hfl hCK hR.1 hR hm) dL_movement_32 lk_L_50 hl6 ⟨Nat.le_of_ble_eq_true rfl, Nat.le_of_ble_eq_true rfl⟩ (catLe (Nat.le_of_ble_eq_true rfl)) 1 6 ⟨rfl, rfl⟩ (Nat.le_of_ble_eq_true rfl) (Nat.le_of_ble_eq_true rfl) (by
            rintro E9 S9 A9 ⟨⟨rfl, h8⟩, rfl, rfl⟩
            refine r_catch C (tableOf []) (tableOf []) (a := 0) (b := 51) (h := 52) (t := 31) rfl (by decide) (by decide) (by decide) (by decide) xl_31 pass_0 (fun q9 => ?_)
            refine r_astoreq_n C dL_movement_52 (ls1_3 rfl rfl) ?_
            refine r_bipush C dL_movement_53 (by decide) ?_
            exact f_I F dL_movement_55 (by omega) ⟨rfl, rfl, rfl⟩ (Nat.le_of_ble_eq_true rfl) (Nat.le_of_ble_eq_true rfl)) (fun z32 S32 A32 i32 p32 => ?_)
        exact absurd p32.2.1 hx
    · refine r_aload_n C dL_movement_17 lg_0 ?_
      refine r_iload_n C dL_movement_18 lg_1 ?_
      refine r_V1I C (cB_dayOf hfl hCK hR.1 hm) dL_movement_19 lk_L_47 hl6 ⟨Nat.le_of_ble_eq_true rfl, Nat.le_of_ble_eq_true rfl⟩ (catLe (Nat.le_of_ble_eq_true rfl)) 1 6 ⟨rfl, rfl⟩ (Nat.le_of_ble_eq_true rfl) (Nat.le_of_ble_eq_true rfl) (by
          rintro E9 S9 A9 ⟨⟨rfl, h8⟩, rfl, rfl⟩
          refine r_catch C (tableOf []) (tableOf []) (a := 0) (b := 51) (h := 52) (t := 31) rfl (by decide) (by decide) (by decide) (by decide) xl_31 pass_0 (fun q9 => ?_)
          refine r_astoreq_n C dL_movement_52 (ls1_3 rfl rfl) ?_
          refine r_bipush C dL_movement_53 (by decide) ?_
          exact f_I F dL_movement_55 (by omega) ⟨rfl, rfl, rfl⟩ (Nat.le_of_ble_eq_true rfl) (Nat.le_of_ble_eq_true rfl)) (fun z19 S19 A19 i19 p19 => ?_)
      exact absurd p19.2.1 hx
  · refine r_aload_n C dL_movement_4 lg_0 ?_
    refine r_iload_n C dL_movement_5 lg_1 ?_
    refine r_V1I C (cB_kindOf hfl hCK hR.1 hm) dL_movement_6 lk_L_44 hl6 ⟨Nat.le_of_ble_eq_true rfl, Nat.le_of_ble_eq_true rfl⟩ (catLe (Nat.le_of_ble_eq_true rfl)) 1 6 ⟨rfl, rfl⟩ (Nat.le_of_ble_eq_true rfl) (Nat.le_of_ble_eq_true rfl) (by
        rintro E9 S9 A9 ⟨⟨rfl, h8⟩, rfl, rfl⟩
        refine r_catch C (tableOf []) (tableOf []) (a := 0) (b := 51) (h := 52) (t := 31) rfl (by decide) (by decide) (by decide) (by decide) xl_31 pass_0 (fun q9 => ?_)
        refine r_astoreq_n C dL_movement_52 (ls1_3 rfl rfl) ?_
        refine r_bipush C dL_movement_53 (by decide) ?_
        exact f_I F dL_movement_55 (by omega) ⟨rfl, rfl, rfl⟩ (Nat.le_of_ble_eq_true rfl) (Nat.le_of_ble_eq_true rfl)) (fun z6 S6 A6 i6 p6 => ?_)
    exact absurd p6.2.1 hx
theorem pt_v {R : RW} (hR : RG R) (hX : RX R) {a b z : Int} (h1 : (0 ≤ a ∧ a < R.n) ∧ (0 ≤ b ∧ b < R.n)) (k3 : R.kd a = 3) (h : ptC R a b z) : R.pt (60 * a + b) = z := by
  have hn := hR.1
  rcases h with ⟨q1, q2⟩ | ⟨p, q1, q2⟩
  · rw [q2]
    have hb : ¬ hasB (R.sp a) b := fun hb => q1 (List.mem_map.mpr ⟨(b, R.pt (60 * a + b)), by
      unfold shl
      rw [b60_e]
      exact List.mem_map.mpr ⟨b, (bl_mem 60).mpr ⟨by omega, hb⟩, rfl⟩, rfl⟩)
    exact ((hX a h1.1.1 h1.1.2 k3).1 b h1.2.1 (by omega)).1 hb
  · rw [q2]
    exact (mem_shl q1).2.symm
set_option maxRecDepth 20000 in
theorem cQ_partOf {G : GT} {l : Launch} (hfl : l.stackTraces = false) {S : ST} {A : AB} {a b : Int} {R : RW} (hP : PI R S A) (hX : RX R) (ha : rI a) (hb : rI b) : CTH G l yL_partOf cL_partOf 4 (some .int) [(0, 6, 7, 31), (0, 6, 11, 18)] (rmk 8 3 18 137) S A [vR A 6 0, vI a, vI b] (oI fun z S' A' => ((z = R.pt (60 * a + b) ∧ ((0 ≤ a ∧ a < R.n) ∧ (0 ≤ b ∧ b < R.n)) ∧ R.kd a = 3) ∨ (z = -5 ∧ ¬ ((0 ≤ a ∧ a < R.n) ∧ (0 ≤ b ∧ b < R.n))) ∨ (z = -7 ∧ ((0 ≤ a ∧ a < R.n) ∧ (0 ≤ b ∧ b < R.n)) ∧ ¬ R.kd a = 3)) ∧ S = S' ∧ A = A') (noX) := by
  obtain ⟨hCK, hR, hR2, hV⟩ := id hP
  have hl6 := hCK.1.1
  refine ct_ofNH (own := RL) (mn := "partOf") rfl rfl (by decide) hfl (lv0 := [some (vR A 6 0), some (vI a), some (vI b), none]) (ent_1 (cat_R _ _ _) (ent_1 rfl (ent_1 rfl (ent_n ent_0)))) rfl ?_
  intro J X C F hW hA
  refine r_aload_n C dL_partOf_0 lg_0 ?_
  refine r_iload_n C dL_partOf_1 lg_1 ?_
  refine r_iload_n C dL_partOf_2 lg_2 ?_
  refine r_V2I C (cB_partOf hfl hCK hR.1 hR ha hb) dL_partOf_3 lk_L_57 hl6 ⟨Nat.le_of_ble_eq_true rfl, Nat.le_of_ble_eq_true rfl⟩ (catLe (Nat.le_of_ble_eq_true rfl)) 3 18 ⟨rfl, rfl⟩ (Nat.le_of_ble_eq_true rfl) (Nat.le_of_ble_eq_true rfl) (by
      rintro E9 S9 A9 ⟨⟨rfl, h8⟩ | ⟨rfl, h8⟩, rfl, rfl⟩
      · refine r_catch C (tableOf []) (tableOf [(0, 6, 11, 18)]) (a := 0) (b := 6) (h := 7) (t := 31) rfl (by decide) (by decide) (by decide) (by decide) xl_31 pass_0 (fun q9 => ?_)
        refine r_astoreq_n C dL_partOf_7 (ls1_3 rfl rfl) ?_
        refine r_bipush C dL_partOf_8 (by decide) ?_
        exact f_I F dL_partOf_10 (by omega) ⟨Or.inr (Or.inl ⟨rfl, h8⟩), rfl, rfl⟩ (Nat.le_of_ble_eq_true rfl) (Nat.le_of_ble_eq_true rfl)
      · refine r_catch C (tableOf [(0, 6, 7, 31)]) (tableOf []) (a := 0) (b := 6) (h := 11) (t := 18) rfl (by decide) (by decide) (by decide) (by decide) xl_18 (pass_1 (q := (0, 6, 7, 31)) (by decide) xl_31 (by decide) pass_0) (fun q9 => ?_)
        refine r_astoreq_n C dL_partOf_11 (ls1_3 rfl rfl) ?_
        refine r_bipush C dL_partOf_12 (by decide) ?_
        exact f_I F dL_partOf_14 (by omega) ⟨Or.inr (Or.inr ⟨rfl, h8⟩), rfl, rfl⟩ (Nat.le_of_ble_eq_true rfl) (Nat.le_of_ble_eq_true rfl)) (fun z3 S3 A3 i3 p3 => ?_)
  obtain ⟨hp3, hc3, rfl, rfl⟩ := p3
  exact f_I F dL_partOf_6 i3 ⟨Or.inl ⟨(pt_v hR hX hc3.1 hc3.2 hp3).symm, hc3⟩, rfl, rfl⟩ (Nat.le_of_ble_eq_true rfl) (Nat.le_of_ble_eq_true rfl)
theorem cW_costOf {G : GT} {l : Launch} (hfl : l.stackTraces = false) {S : ST} {A : AB} {m y : Int} {R : RW} (hP : PI R S A) (hm : rI m) (hy : y = 0 ∨ y = 1) : CT G l yX7_costOf cX7_costOf 4 (some .long) (rmk 7 2 12 125) S A [vR A 6 0, vI m, vI y] (oJ fun z S' A' => cI (y = 0) (c0R R m) (c1R R m) = z ∧ ((0 ≤ m ∧ m < R.n) ∧ (R.kd m = 1 ∧ R.gn m = 0)) ∧ A = A' ∧ Fr QF S S') (fun E S' A' => ((E = xIO ∧ ¬ (0 ≤ m ∧ m < R.n)) ∨ (E = xIS ∧ (0 ≤ m ∧ m < R.n) ∧ ¬ (R.kd m = 1 ∧ R.gn m = 0))) ∧ S = S' ∧ A = A') := by
  obtain ⟨hCK, hR, hR2, hV⟩ := hP
  by_cases hy0 : y = 0
  · exact ct_imp (cB0_costOf hfl hCK hR hR2 hV hm (rI_b hy) hy0) (fun z S' A' h => ⟨(cI_t hy0).trans ((cost_R hR h.2.1.1.1 h.2.1.1.2 h.2.1.2.1 h.2.1.2.2 (icF S)).1.symm.trans h.1), h.2.1, h.2.2.1, h.2.2.2.sub (by decide)⟩) (fun _ _ _ h => h)
  · exact ct_imp (cB4_costOf hfl hCK hR hR2 hV hm (rI_b hy) hy0) (fun z S' A' h => ⟨(cI_f hy0).trans ((cost_R hR h.2.1.1.1 h.2.1.1.2 h.2.1.2.1 h.2.1.2.2 (icF S)).2.symm.trans h.1), h.2.1, h.2.2.1, h.2.2.2.sub (by decide)⟩) (fun _ _ _ h => h)
set_option maxRecDepth 20000 in
theorem cQ_costOf {G : GT} {l : Launch} (hfl : l.stackTraces = false) {S : ST} {A : AB} {m y : Int} {R : RW} (hP : PI R S A) (hm : rI m) (hy : y = 0 ∨ y = 1) : CTH G l yL_costOf cL_costOf 4 (some .long) [(0, 6, 7, 31), (0, 6, 12, 18)] (rmk 8 2 12 148) S A [vR A 6 0, vI m, vI y] (oJ fun z S' A' => ((z = cI (y = 0) (c0R R m) (c1R R m) ∧ ((0 ≤ m ∧ m < R.n) ∧ (R.kd m = 1 ∧ R.gn m = 0))) ∨ (z = -5 ∧ ¬ (0 ≤ m ∧ m < R.n)) ∨ (z = -7 ∧ (0 ≤ m ∧ m < R.n) ∧ ¬ (R.kd m = 1 ∧ R.gn m = 0))) ∧ A = A' ∧ Fr QF S S') (noX) := by
  obtain ⟨hCK, hR, hR2, hV⟩ := id hP
  have hl6 := hCK.1.1
  refine ct_ofNH (own := RL) (mn := "costOf") rfl rfl (by decide) hfl (lv0 := [some (vR A 6 0), some (vI m), some (vI y), none]) (ent_1 (cat_R _ _ _) (ent_1 rfl (ent_1 rfl (ent_n ent_0)))) rfl ?_
  intro J X C F hW hA
  refine r_aload_n C dL_costOf_0 lg_0 ?_
  refine r_iload_n C dL_costOf_1 lg_1 ?_
  refine r_iload_n C dL_costOf_2 lg_2 ?_
  refine r_V2J C (cW_costOf hfl hP hm hy) dL_costOf_3 lk_L_60 hl6 ⟨Nat.le_of_ble_eq_true rfl, Nat.le_of_ble_eq_true rfl⟩ (catLe (Nat.le_of_ble_eq_true rfl)) 2 12 ⟨rfl, rfl⟩ (Nat.le_of_ble_eq_true rfl) (Nat.le_of_ble_eq_true rfl) (by
      rintro E9 S9 A9 ⟨⟨rfl, h8⟩ | ⟨rfl, h8⟩, rfl, rfl⟩
      · refine r_catch C (tableOf []) (tableOf [(0, 6, 12, 18)]) (a := 0) (b := 6) (h := 7) (t := 31) rfl (by decide) (by decide) (by decide) (by decide) xl_31 pass_0 (fun q9 => ?_)
        refine r_astoreq_n C dL_costOf_7 (ls1_3 rfl rfl) ?_
        refine r_ldc2 C dL_costOf_8 cs_L_64 (-5) (by decide) ?_
        exact f_J F dL_costOf_11 (by omega) ⟨Or.inr (Or.inl ⟨rfl, h8⟩), rfl, Fr.rf⟩ (Nat.le_of_ble_eq_true rfl) (Nat.le_of_ble_eq_true rfl)
      · refine r_catch C (tableOf [(0, 6, 7, 31)]) (tableOf []) (a := 0) (b := 6) (h := 12) (t := 18) rfl (by decide) (by decide) (by decide) (by decide) xl_18 (pass_1 (q := (0, 6, 7, 31)) (by decide) xl_31 (by decide) pass_0) (fun q9 => ?_)
        refine r_astoreq_n C dL_costOf_12 (ls1_3 rfl rfl) ?_
        refine r_ldc2 C dL_costOf_13 cs_L_66 (-7) (by decide) ?_
        exact f_J F dL_costOf_16 (by omega) ⟨Or.inr (Or.inr ⟨rfl, h8⟩), rfl, Fr.rf⟩ (Nat.le_of_ble_eq_true rfl) (Nat.le_of_ble_eq_true rfl)) (fun z3 S3 A3 i3 p3 => ?_)
  obtain ⟨rfl, hc3, rfl, hF3⟩ := p3
  exact f_J F dL_costOf_6 i3 ⟨Or.inl ⟨rfl, hc3⟩, rfl, hF3⟩ (Nat.le_of_ble_eq_true rfl) (Nat.le_of_ble_eq_true rfl)
set_option maxRecDepth 20000 in
theorem cQ_receive {G : GT} {l : Launch} (hfl : l.stackTraces = false) {S : ST} {A : AB} {d item q c : Int} {R : RW} (hP : PI R S A) (h1 : rI d) (h2 : rI item) (h3 : rI q) (h4 : rI c) : CTH G l yL_receive cL_receive 6 (some .int) [(0, 9, 10, 16), (0, 9, 15, 18)] (rmk 9 8 51 157) S A [vR A 6 0, vI d, vI item, vI q, vI c] (oI fun z S' A' => (z = R.n ∧ ((akOk item d ∧ (1 ≤ q ∧ q ≤ 1000) ∧ (0 ≤ c ∧ c ≤ 1000000)) ∧ (S 198 0 < d ∧ S 197 0 < 60) ∧ True) ∧ CK (rwP R 0 d item q c 0 R.pt) S' A' ∧ CN S A S' A') ∨ (z = -6 ∧ ¬ (akOk item d ∧ (1 ≤ q ∧ q ≤ 1000) ∧ (0 ≤ c ∧ c ≤ 1000000)) ∧ S = S' ∧ A = A') ∨ (z = -7 ∧ ((akOk item d ∧ (1 ≤ q ∧ q ≤ 1000) ∧ (0 ≤ c ∧ c ≤ 1000000)) ∧ ¬ ((S 198 0 < d ∧ S 197 0 < 60) ∧ True)) ∧ S = S' ∧ A = A')) (noX) := by
  obtain ⟨hCK, hR, hR2, hV⟩ := id hP
  have hl6 := hCK.1.1
  have hSP := ck_spR hCK hR
  have hHA := ck_haR hCK hR
  refine ct_ofNH (own := RL) (mn := "receive") rfl rfl (by decide) hfl (lv0 := [some (vR A 6 0), some (vI d), some (vI item), some (vI q), some (vI c), none]) (ent_1 (cat_R _ _ _) (ent_1 rfl (ent_1 rfl (ent_1 rfl (ent_1 rfl (ent_n ent_0)))))) rfl ?_
  intro J X C F hW hA
  refine r_aload_n C dL_receive_0 lg_0 ?_
  refine r_iload_n C dL_receive_1 lg_1 ?_
  refine r_iload_n C dL_receive_2 lg_2 ?_
  refine r_iload_n C dL_receive_3 lg_3 ?_
  refine r_iload C dL_receive_4 lg_4 ?_
  refine r_V4I C (cB_receive hfl hCK hR h1 h2 h3 h4) dL_receive_6 lk_L_10 hl6 ⟨Nat.le_of_ble_eq_true rfl, Nat.le_of_ble_eq_true rfl⟩ (catLe (Nat.le_of_ble_eq_true rfl)) 8 51 ⟨rfl, rfl⟩ (Nat.le_of_ble_eq_true rfl) (Nat.le_of_ble_eq_true rfl) (by
      rintro E9 S9 A9 ⟨⟨rfl, h8⟩ | ⟨rfl, h8⟩, rfl, rfl⟩
      · refine r_catch C (tableOf []) (tableOf [(0, 9, 15, 18)]) (a := 0) (b := 9) (h := 10) (t := 16) rfl (by decide) (by decide) (by decide) (by decide) xl_16 pass_0 (fun q9 => ?_)
        refine r_astoreq C dL_receive_10 (ls1_5 rfl rfl) ?_
        refine r_bipush C dL_receive_12 (by decide) ?_
        exact f_I F dL_receive_14 (by omega) (Or.inr (Or.inl ⟨rfl, h8, rfl, rfl⟩)) (Nat.le_of_ble_eq_true rfl) (Nat.le_of_ble_eq_true rfl)
      · refine r_catch C (tableOf [(0, 9, 10, 16)]) (tableOf []) (a := 0) (b := 9) (h := 15) (t := 18) rfl (by decide) (by decide) (by decide) (by decide) xl_18 (pass_1 (q := (0, 9, 10, 16)) (by decide) xl_16 (by decide) pass_0) (fun q9 => ?_)
        refine r_astoreq C dL_receive_15 (ls1_5 rfl rfl) ?_
        refine r_bipush C dL_receive_17 (by decide) ?_
        exact f_I F dL_receive_19 (by omega) (Or.inr (Or.inr ⟨rfl, h8, rfl, rfl⟩)) (Nat.le_of_ble_eq_true rfl) (Nat.le_of_ble_eq_true rfl)) (fun z6 S6 A6 i6 p6 => ?_)
  obtain ⟨rfl, hc6, hk6, hn6⟩ := p6
  exact f_I F dL_receive_9 i6 (Or.inl ⟨rfl, hc6, hk6, hn6⟩) (Nat.le_of_ble_eq_true rfl) (Nat.le_of_ble_eq_true rfl)
set_option maxRecDepth 20000 in
theorem cQ_issue {G : GT} {l : Launch} (hfl : l.stackTraces = false) {S : ST} {A : AB} {d item q : Int} {R : RW} (hP : PI R S A) (h1 : rI d) (h2 : rI item) (h3 : rI q) : CTH G l yL_issue cL_issue 5 (some .int) [(0, 7, 8, 16), (0, 7, 13, 18)] (rmk 9 8 51 156) S A [vR A 6 0, vI d, vI item, vI q] (oI fun z S' A' => (z = R.n ∧ ((akOk item d ∧ (1 ≤ q ∧ q ≤ 1000)) ∧ (S 198 0 < d ∧ S 197 0 < 60) ∧ q ≤ spR R item d 60) ∧ CK (rwP R 1 d item q 0 0 R.pt) S' A' ∧ CN S A S' A') ∨ (z = -6 ∧ ¬ (akOk item d ∧ (1 ≤ q ∧ q ≤ 1000)) ∧ S = S' ∧ A = A') ∨ (z = -7 ∧ ((akOk item d ∧ (1 ≤ q ∧ q ≤ 1000)) ∧ ¬ ((S 198 0 < d ∧ S 197 0 < 60) ∧ q ≤ spR R item d 60)) ∧ S = S' ∧ A = A')) (noX) := by
  obtain ⟨hCK, hR, hR2, hV⟩ := id hP
  have hl6 := hCK.1.1
  have hSP := ck_spR hCK hR
  have hHA := ck_haR hCK hR
  refine ct_ofNH (own := RL) (mn := "issue") rfl rfl (by decide) hfl (lv0 := [some (vR A 6 0), some (vI d), some (vI item), some (vI q), none]) (ent_1 (cat_R _ _ _) (ent_1 rfl (ent_1 rfl (ent_1 rfl (ent_n ent_0))))) rfl ?_
  intro J X C F hW hA
  refine r_aload_n C dL_issue_0 lg_0 ?_
  refine r_iload_n C dL_issue_1 lg_1 ?_
  refine r_iload_n C dL_issue_2 lg_2 ?_
  refine r_iload_n C dL_issue_3 lg_3 ?_
  refine r_V3I C (cB_issue hfl hCK hR h1 h2 h3) dL_issue_4 lk_L_20 hl6 ⟨Nat.le_of_ble_eq_true rfl, Nat.le_of_ble_eq_true rfl⟩ (catLe (Nat.le_of_ble_eq_true rfl)) 8 51 ⟨rfl, rfl⟩ (Nat.le_of_ble_eq_true rfl) (Nat.le_of_ble_eq_true rfl) (by
      rintro E9 S9 A9 ⟨⟨rfl, h8⟩ | ⟨rfl, h8⟩, rfl, rfl⟩
      · refine r_catch C (tableOf []) (tableOf [(0, 7, 13, 18)]) (a := 0) (b := 7) (h := 8) (t := 16) rfl (by decide) (by decide) (by decide) (by decide) xl_16 pass_0 (fun q9 => ?_)
        refine r_astoreq C dL_issue_8 (ls1_4 rfl rfl) ?_
        refine r_bipush C dL_issue_10 (by decide) ?_
        exact f_I F dL_issue_12 (by omega) (Or.inr (Or.inl ⟨rfl, (by first | exact h8 | (rw [← hSP]; exact h8)), rfl, rfl⟩)) (Nat.le_of_ble_eq_true rfl) (Nat.le_of_ble_eq_true rfl)
      · refine r_catch C (tableOf [(0, 7, 8, 16)]) (tableOf []) (a := 0) (b := 7) (h := 13) (t := 18) rfl (by decide) (by decide) (by decide) (by decide) xl_18 (pass_1 (q := (0, 7, 8, 16)) (by decide) xl_16 (by decide) pass_0) (fun q9 => ?_)
        refine r_astoreq C dL_issue_13 (ls1_4 rfl rfl) ?_
        refine r_bipush C dL_issue_15 (by decide) ?_
        exact f_I F dL_issue_17 (by omega) (Or.inr (Or.inr ⟨rfl, (by first | exact h8 | (rw [← hSP]; exact h8)), rfl, rfl⟩)) (Nat.le_of_ble_eq_true rfl) (Nat.le_of_ble_eq_true rfl)) (fun z4 S4 A4 i4 p4 => ?_)
  obtain ⟨rfl, hc4, hk4, hn4⟩ := p4
  exact f_I F dL_issue_7 i4 (Or.inl ⟨rfl, (by rw [← hSP]; exact hc4), hk4, hn4⟩) (Nat.le_of_ble_eq_true rfl) (Nat.le_of_ble_eq_true rfl)
set_option maxRecDepth 20000 in
theorem cQ_revalue {G : GT} {l : Launch} (hfl : l.stackTraces = false) {S : ST} {A : AB} {d item q c : Int} {R : RW} (hP : PI R S A) (h1 : rI d) (h2 : rI item) (h3 : rI q) (h4 : rI c) : CTH G l yL_revalue cL_revalue 6 (some .int) [(0, 9, 10, 16), (0, 9, 15, 18)] (rmk 9 9 57 157) S A [vR A 6 0, vI d, vI item, vI q, vI c] (oI fun z S' A' => (z = R.n ∧ ((akOk item d ∧ (1 ≤ q ∧ q ≤ 1000) ∧ (0 ≤ c ∧ c ≤ 1000000)) ∧ (S 198 0 < d ∧ S 197 0 < 60) ∧ q ≤ haR R item d) ∧ CK (rwP R 2 d item q c 0 R.pt) S' A' ∧ CN S A S' A') ∨ (z = -6 ∧ ¬ (akOk item d ∧ (1 ≤ q ∧ q ≤ 1000) ∧ (0 ≤ c ∧ c ≤ 1000000)) ∧ S = S' ∧ A = A') ∨ (z = -7 ∧ ((akOk item d ∧ (1 ≤ q ∧ q ≤ 1000) ∧ (0 ≤ c ∧ c ≤ 1000000)) ∧ ¬ ((S 198 0 < d ∧ S 197 0 < 60) ∧ q ≤ haR R item d)) ∧ S = S' ∧ A = A')) (noX) := by
  obtain ⟨hCK, hR, hR2, hV⟩ := id hP
  have hl6 := hCK.1.1
  have hSP := ck_spR hCK hR
  have hHA := ck_haR hCK hR
  refine ct_ofNH (own := RL) (mn := "revalue") rfl rfl (by decide) hfl (lv0 := [some (vR A 6 0), some (vI d), some (vI item), some (vI q), some (vI c), none]) (ent_1 (cat_R _ _ _) (ent_1 rfl (ent_1 rfl (ent_1 rfl (ent_1 rfl (ent_n ent_0)))))) rfl ?_
  intro J X C F hW hA
  refine r_aload_n C dL_revalue_0 lg_0 ?_
  refine r_iload_n C dL_revalue_1 lg_1 ?_
  refine r_iload_n C dL_revalue_2 lg_2 ?_
  refine r_iload_n C dL_revalue_3 lg_3 ?_
  refine r_iload C dL_revalue_4 lg_4 ?_
  refine r_V4I C (cB_revalue hfl hCK hR h1 h2 h3 h4) dL_revalue_6 lk_L_24 hl6 ⟨Nat.le_of_ble_eq_true rfl, Nat.le_of_ble_eq_true rfl⟩ (catLe (Nat.le_of_ble_eq_true rfl)) 9 57 ⟨rfl, rfl⟩ (Nat.le_of_ble_eq_true rfl) (Nat.le_of_ble_eq_true rfl) (by
      rintro E9 S9 A9 ⟨⟨rfl, h8⟩ | ⟨rfl, h8⟩, rfl, rfl⟩
      · refine r_catch C (tableOf []) (tableOf [(0, 9, 15, 18)]) (a := 0) (b := 9) (h := 10) (t := 16) rfl (by decide) (by decide) (by decide) (by decide) xl_16 pass_0 (fun q9 => ?_)
        refine r_astoreq C dL_revalue_10 (ls1_5 rfl rfl) ?_
        refine r_bipush C dL_revalue_12 (by decide) ?_
        exact f_I F dL_revalue_14 (by omega) (Or.inr (Or.inl ⟨rfl, (by first | exact h8 | (rw [← hHA]; exact h8)), rfl, rfl⟩)) (Nat.le_of_ble_eq_true rfl) (Nat.le_of_ble_eq_true rfl)
      · refine r_catch C (tableOf [(0, 9, 10, 16)]) (tableOf []) (a := 0) (b := 9) (h := 15) (t := 18) rfl (by decide) (by decide) (by decide) (by decide) xl_18 (pass_1 (q := (0, 9, 10, 16)) (by decide) xl_16 (by decide) pass_0) (fun q9 => ?_)
        refine r_astoreq C dL_revalue_15 (ls1_5 rfl rfl) ?_
        refine r_bipush C dL_revalue_17 (by decide) ?_
        exact f_I F dL_revalue_19 (by omega) (Or.inr (Or.inr ⟨rfl, (by first | exact h8 | (rw [← hHA]; exact h8)), rfl, rfl⟩)) (Nat.le_of_ble_eq_true rfl) (Nat.le_of_ble_eq_true rfl)) (fun z6 S6 A6 i6 p6 => ?_)
  obtain ⟨rfl, hc6, hk6, hn6⟩ := p6
  exact f_I F dL_revalue_9 i6 (Or.inl ⟨rfl, (by rw [← hHA]; exact hc6), hk6, hn6⟩) (Nat.le_of_ble_eq_true rfl) (Nat.le_of_ble_eq_true rfl)
set_option maxRecDepth 20000 in
theorem cQ_land {G : GT} {l : Launch} (hfl : l.stackTraces = false) {S : ST} {A : AB} {d a b s : Int} {R : RW} (hP : PI R S A) (h1 : rI d) (h2 : rI a) (h3 : rI b) (hs : rL s) (hwt : ∀ i, 0 ≤ i → i ≤ 5 → 0 ≤ S 288 i ∧ S 288 i ≤ 100) (hA5 : A.2 5 ≤ 100000) : CTH G l yL_land cL_land 7 (some .int) [(0, 9, 10, 16), (0, 9, 15, 31), (0, 9, 20, 18)] (rmk 9 68 291 160) S A [vR A 6 0, vI d, vI a, vI b, vL s] (oI fun z S' A' => (z = R.n ∧ (((0 ≤ d ∧ d ≤ 364) ∧ (1 ≤ a ∧ a ≤ 1000000) ∧ (0 ≤ b ∧ b ≤ 2) ∧ ¬ s = 0) ∧ allR R.n 64 (fun m => ¬ hasB s m) ∧ (S 198 0 < d ∧ S 197 0 < 60) ∧ allR 0 R.n (fun m => hasB s m → S 103 m = 0 ∧ S 97 m = 0 ∧ S 98 m ≤ d) ∧ 0 < sumI (fun m => cI (hasB s m ∧ m < R.n) (bsC S b m) 0) 60) ∧ CK (rwP R 3 d (-1) 0 a s (ptL R S a b s (sumI (fun m => cI (hasB s m ∧ m < R.n) (bsC S b m) 0) 60))) S' A' ∧ CN S A S' A') ∨ (z = -6 ∧ ¬ ((0 ≤ d ∧ d ≤ 364) ∧ (1 ≤ a ∧ a ≤ 1000000) ∧ (0 ≤ b ∧ b ≤ 2) ∧ ¬ s = 0) ∧ S = S' ∧ A = A') ∨ (z = -5 ∧ (((0 ≤ d ∧ d ≤ 364) ∧ (1 ≤ a ∧ a ≤ 1000000) ∧ (0 ≤ b ∧ b ≤ 2) ∧ ¬ s = 0) ∧ ¬ allR R.n 64 (fun m => ¬ hasB s m)) ∧ S = S' ∧ A = A') ∨ (z = -7 ∧ (((0 ≤ d ∧ d ≤ 364) ∧ (1 ≤ a ∧ a ≤ 1000000) ∧ (0 ≤ b ∧ b ≤ 2) ∧ ¬ s = 0) ∧ allR R.n 64 (fun m => ¬ hasB s m) ∧ ¬ ((S 198 0 < d ∧ S 197 0 < 60) ∧ allR 0 R.n (fun m => hasB s m → S 103 m = 0 ∧ S 97 m = 0 ∧ S 98 m ≤ d) ∧ 0 < sumI (fun m => cI (hasB s m ∧ m < R.n) (bsC S b m) 0) 60)) ∧ S = S' ∧ A = A')) (noX) := by
  obtain ⟨hCK, hR, hR2, hV⟩ := id hP
  have hl6 := hCK.1.1
  have hSP := ck_spR hCK hR
  have hHA := ck_haR hCK hR
  refine ct_ofNH (own := RL) (mn := "land") rfl rfl (by decide) hfl (lv0 := [some (vR A 6 0), some (vI d), some (vI a), some (vI b), some (vL s), none, none]) (ent_1 (cat_R _ _ _) (ent_1 rfl (ent_1 rfl (ent_1 rfl (ent_2 rfl (ent_n ent_0)))))) rfl ?_
  intro J X C F hW hA
  refine r_aload_n C dL_land_0 lg_0 ?_
  refine r_iload_n C dL_land_1 lg_1 ?_
  refine r_iload_n C dL_land_2 lg_2 ?_
  refine r_iload_n C dL_land_3 lg_3 ?_
  refine r_lload C dL_land_4 lg_4 ?_
  refine r_V4I C (cB_land hfl hCK hR h1 h2 h3 hs hwt hA5) dL_land_6 lk_L_27 hl6 ⟨Nat.le_of_ble_eq_true rfl, Nat.le_of_ble_eq_true rfl⟩ (catLe (Nat.le_of_ble_eq_true rfl)) 68 291 ⟨rfl, rfl⟩ (Nat.le_of_ble_eq_true rfl) (Nat.le_of_ble_eq_true rfl) (by
      rintro E9 S9 A9 ⟨⟨rfl, h8⟩ | ⟨rfl, h8⟩ | ⟨rfl, h8⟩, rfl, rfl⟩
      · refine r_catch C (tableOf []) (tableOf [(0, 9, 15, 31), (0, 9, 20, 18)]) (a := 0) (b := 9) (h := 10) (t := 16) rfl (by decide) (by decide) (by decide) (by decide) xl_16 pass_0 (fun q9 => ?_)
        refine r_astoreq C dL_land_10 (ls1_6 rfl trivial) ?_
        refine r_bipush C dL_land_12 (by decide) ?_
        exact f_I F dL_land_14 (by omega) (Or.inr (Or.inl ⟨rfl, h8, rfl, rfl⟩)) (Nat.le_of_ble_eq_true rfl) (Nat.le_of_ble_eq_true rfl)
      · refine r_catch C (tableOf [(0, 9, 10, 16)]) (tableOf [(0, 9, 20, 18)]) (a := 0) (b := 9) (h := 15) (t := 31) rfl (by decide) (by decide) (by decide) (by decide) xl_31 (pass_1 (q := (0, 9, 10, 16)) (by decide) xl_16 (by decide) pass_0) (fun q9 => ?_)
        refine r_astoreq C dL_land_15 (ls1_6 rfl trivial) ?_
        refine r_bipush C dL_land_17 (by decide) ?_
        exact f_I F dL_land_19 (by omega) (Or.inr (Or.inr (Or.inl ⟨rfl, h8, rfl, rfl⟩))) (Nat.le_of_ble_eq_true rfl) (Nat.le_of_ble_eq_true rfl)
      · refine r_catch C (tableOf [(0, 9, 10, 16), (0, 9, 15, 31)]) (tableOf []) (a := 0) (b := 9) (h := 20) (t := 18) rfl (by decide) (by decide) (by decide) (by decide) xl_18 (pass_1 (q := (0, 9, 10, 16)) (by decide) xl_16 (by decide) (pass_1 (q := (0, 9, 15, 31)) (by decide) xl_31 (by decide) pass_0)) (fun q9 => ?_)
        refine r_astoreq C dL_land_20 (ls1_6 rfl trivial) ?_
        refine r_bipush C dL_land_22 (by decide) ?_
        exact f_I F dL_land_24 (by omega) (Or.inr (Or.inr (Or.inr ⟨rfl, h8, rfl, rfl⟩))) (Nat.le_of_ble_eq_true rfl) (Nat.le_of_ble_eq_true rfl)) (fun z6 S6 A6 i6 p6 => ?_)
  obtain ⟨rfl, hc6, hk6, hn6⟩ := p6
  exact f_I F dL_land_9 i6 (Or.inl ⟨rfl, hc6, hk6, hn6⟩) (Nat.le_of_ble_eq_true rfl) (Nat.le_of_ble_eq_true rfl)
set_option maxRecDepth 20000 in
theorem cQ_close {G : GT} {l : Launch} (hfl : l.stackTraces = false) {S : ST} {A : AB} {d : Int} {R : RW} (hP : PI R S A) (hd : rI d) : CTH G l yL_close cL_close 3 (some .int) [(0, 5, 6, 16), (0, 5, 10, 18)] (rmk 8 2 12 134) S A [vR A 6 0, vI d] (oI fun z S' A' => A = A' ∧ ((z = S 198 0 ∧ ((0 ≤ d ∧ d ≤ 364) ∧ S 198 0 < d) ∧ upS S 198 0 d = S') ∨ (z = -6 ∧ ¬ (0 ≤ d ∧ d ≤ 364) ∧ S = S') ∨ (z = -7 ∧ ((0 ≤ d ∧ d ≤ 364) ∧ ¬ S 198 0 < d) ∧ S = S'))) (noX) := by
  obtain ⟨hCK, hR, hR2, hV⟩ := id hP
  have hl6 := hCK.1.1
  refine ct_ofNH (own := RL) (mn := "close") rfl rfl (by decide) hfl (lv0 := [some (vR A 6 0), some (vI d), none]) (ent_1 (cat_R _ _ _) (ent_1 rfl (ent_n ent_0))) rfl ?_
  intro J X C F hW hA
  refine r_aload_n C dL_close_0 lg_0 ?_
  refine r_iload_n C dL_close_1 lg_1 ?_
  refine r_V1I C (cB_close hfl hl6 hd) dL_close_2 lk_L_37 hl6 ⟨Nat.le_of_ble_eq_true rfl, Nat.le_of_ble_eq_true rfl⟩ (catLe (Nat.le_of_ble_eq_true rfl)) 2 12 ⟨rfl, rfl⟩ (Nat.le_of_ble_eq_true rfl) (Nat.le_of_ble_eq_true rfl) (by
      rintro E9 S9 A9 ⟨⟨rfl, h8⟩ | ⟨rfl, h8⟩, rfl, rfl⟩
      · refine r_catch C (tableOf []) (tableOf [(0, 5, 10, 18)]) (a := 0) (b := 5) (h := 6) (t := 16) rfl (by decide) (by decide) (by decide) (by decide) xl_16 pass_0 (fun q9 => ?_)
        refine r_astoreq_n C dL_close_6 (ls1_2 rfl rfl) ?_
        refine r_bipush C dL_close_7 (by decide) ?_
        exact f_I F dL_close_9 (by omega) ⟨rfl, Or.inr (Or.inl ⟨rfl, h8, rfl⟩)⟩ (Nat.le_of_ble_eq_true rfl) (Nat.le_of_ble_eq_true rfl)
      · refine r_catch C (tableOf [(0, 5, 6, 16)]) (tableOf []) (a := 0) (b := 5) (h := 10) (t := 18) rfl (by decide) (by decide) (by decide) (by decide) xl_18 (pass_1 (q := (0, 5, 6, 16)) (by decide) xl_16 (by decide) pass_0) (fun q9 => ?_)
        refine r_astoreq_n C dL_close_10 (ls1_2 rfl rfl) ?_
        refine r_bipush C dL_close_11 (by decide) ?_
        exact f_I F dL_close_13 (by omega) ⟨rfl, Or.inr (Or.inr ⟨rfl, h8, rfl⟩)⟩ (Nat.le_of_ble_eq_true rfl) (Nat.le_of_ble_eq_true rfl)) (fun z2 S2 A2 i2 p2 => ?_)
  obtain ⟨rfl, hc2, rfl, rfl⟩ := p2
  exact f_I F dL_close_5 i2 ⟨rfl, Or.inl ⟨rfl, hc2, rfl⟩⟩ (Nat.le_of_ble_eq_true rfl) (Nat.le_of_ble_eq_true rfl)
set_option maxRecDepth 20000 in
theorem cQ_setWeight {G : GT} {l : Launch} (hfl : l.stackTraces = false) {S : ST} {A : AB} {i v : Int} {R : RW} (hP : PI R S A) (hi : rI i) (hv : rI v) : CTH G l yL_setWeight cL_setWeight 4 (some .int) [(0, 6, 7, 16)] (rmk 8 2 12 135) S A [vR A 6 0, vI i, vI v] (oI fun z S' A' => A = A' ∧ ((z = S 288 i ∧ ((0 ≤ i ∧ i ≤ 5) ∧ (1 ≤ v ∧ v ≤ 100)) ∧ upS S 288 i v = S') ∨ (z = -6 ∧ ¬ ((0 ≤ i ∧ i ≤ 5) ∧ (1 ≤ v ∧ v ≤ 100)) ∧ S = S'))) (noX) := by
  obtain ⟨hCK, hR, hR2, hV⟩ := id hP
  have hl6 := hCK.1.1
  refine ct_ofNH (own := RL) (mn := "setWeight") rfl rfl (by decide) hfl (lv0 := [some (vR A 6 0), some (vI i), some (vI v), none]) (ent_1 (cat_R _ _ _) (ent_1 rfl (ent_1 rfl (ent_n ent_0)))) rfl ?_
  intro J X C F hW hA
  refine r_aload_n C dL_setWeight_0 lg_0 ?_
  refine r_iload_n C dL_setWeight_1 lg_1 ?_
  refine r_iload_n C dL_setWeight_2 lg_2 ?_
  refine r_V2I C (cB_setw hfl hl6 hCK.1.2.2.2.2.2 hCK.2.1.2.2.2.2 hi hv) dL_setWeight_3 lk_L_40 hl6 ⟨Nat.le_of_ble_eq_true rfl, Nat.le_of_ble_eq_true rfl⟩ (catLe (Nat.le_of_ble_eq_true rfl)) 2 12 ⟨rfl, rfl⟩ (Nat.le_of_ble_eq_true rfl) (Nat.le_of_ble_eq_true rfl) (by
      rintro E9 S9 A9 ⟨⟨rfl, h8⟩, rfl, rfl⟩
      refine r_catch C (tableOf []) (tableOf []) (a := 0) (b := 6) (h := 7) (t := 16) rfl (by decide) (by decide) (by decide) (by decide) xl_16 pass_0 (fun q9 => ?_)
      refine r_astoreq_n C dL_setWeight_7 (ls1_3 rfl rfl) ?_
      refine r_bipush C dL_setWeight_8 (by decide) ?_
      exact f_I F dL_setWeight_10 (by omega) ⟨rfl, Or.inr ⟨rfl, h8, rfl⟩⟩ (Nat.le_of_ble_eq_true rfl) (Nat.le_of_ble_eq_true rfl)) (fun z3 S3 A3 i3 p3 => ?_)
  obtain ⟨rfl, hc3, rfl, rfl⟩ := p3
  exact f_I F dL_setWeight_6 i3 ⟨rfl, Or.inl ⟨rfl, hc3, rfl⟩⟩ (Nat.le_of_ble_eq_true rfl) (Nat.le_of_ble_eq_true rfl)
set_option maxRecDepth 20000 in
theorem cQ_cancel {G : GT} {l : Launch} (hfl : l.stackTraces = false) {S : ST} {A : AB} {m : Int} {R : RW} (hP : PI R S A) (hm : rI m) : CTH G l yL_cancel cL_cancel 3 (some .int) [(0, 5, 6, 31), (0, 5, 10, 18)] (rmk 9 4 24 154) S A [vR A 6 0, vI m] (oI fun z S' A' => A = A' ∧ ((z = ((LdR (rwC R m)).length : Int) ∧ ((0 ≤ m ∧ m < R.n) ∧ (S 103 m = 0 ∧ S 198 0 < S 98 m ∧ (S 97 m = 0 → (¬ (∃ x ∈ LdR R, m ∈ (shR R x).map Prod.fst) ∧ S 100 m ≤ spf (S 98) (S 96) (S 99) (dlt (S 97) (S 100)) (S 100) (fun m => S 97 m = 1 ∨ S 97 m = 2) (S 99 m) (S 98 m) (S 96 m) (LdR R) 0 0)))) ∧ CK (rwC R m) S' A' ∧ Fr [103, 104, 64, 65] S S') ∨ (z = -5 ∧ ¬ (0 ≤ m ∧ m < R.n) ∧ S = S') ∨ (z = -7 ∧ ((0 ≤ m ∧ m < R.n) ∧ ¬ (S 103 m = 0 ∧ S 198 0 < S 98 m ∧ (S 97 m = 0 → (¬ (∃ x ∈ LdR R, m ∈ (shR R x).map Prod.fst) ∧ S 100 m ≤ spf (S 98) (S 96) (S 99) (dlt (S 97) (S 100)) (S 100) (fun m => S 97 m = 1 ∨ S 97 m = 2) (S 99 m) (S 98 m) (S 96 m) (LdR R) 0 0)))) ∧ S = S'))) (noX) := by
  obtain ⟨hCK, hR, hR2, hV⟩ := id hP
  have hl6 := hCK.1.1
  refine ct_ofNH (own := RL) (mn := "cancel") rfl rfl (by decide) hfl (lv0 := [some (vR A 6 0), some (vI m), none]) (ent_1 (cat_R _ _ _) (ent_1 rfl (ent_n ent_0))) rfl ?_
  intro J X C F hW hA
  refine r_aload_n C dL_cancel_0 lg_0 ?_
  refine r_iload_n C dL_cancel_1 lg_1 ?_
  refine r_V1I C (cB_cancel hfl hCK hR hm) dL_cancel_2 lk_L_33 hl6 ⟨Nat.le_of_ble_eq_true rfl, Nat.le_of_ble_eq_true rfl⟩ (catLe (Nat.le_of_ble_eq_true rfl)) 4 24 ⟨rfl, rfl⟩ (Nat.le_of_ble_eq_true rfl) (Nat.le_of_ble_eq_true rfl) (by
      rintro E9 S9 A9 ⟨⟨rfl, h8⟩ | ⟨rfl, h8⟩, rfl, rfl⟩
      · refine r_catch C (tableOf []) (tableOf [(0, 5, 10, 18)]) (a := 0) (b := 5) (h := 6) (t := 31) rfl (by decide) (by decide) (by decide) (by decide) xl_31 pass_0 (fun q9 => ?_)
        refine r_astoreq_n C dL_cancel_6 (ls1_2 rfl rfl) ?_
        refine r_bipush C dL_cancel_7 (by decide) ?_
        exact f_I F dL_cancel_9 (by omega) ⟨rfl, Or.inr (Or.inl ⟨rfl, h8, rfl⟩)⟩ (Nat.le_of_ble_eq_true rfl) (Nat.le_of_ble_eq_true rfl)
      · refine r_catch C (tableOf [(0, 5, 6, 31)]) (tableOf []) (a := 0) (b := 5) (h := 10) (t := 18) rfl (by decide) (by decide) (by decide) (by decide) xl_18 (pass_1 (q := (0, 5, 6, 31)) (by decide) xl_31 (by decide) pass_0) (fun q9 => ?_)
        refine r_astoreq_n C dL_cancel_10 (ls1_2 rfl rfl) ?_
        refine r_bipush C dL_cancel_11 (by decide) ?_
        exact f_I F dL_cancel_13 (by omega) ⟨rfl, Or.inr (Or.inr ⟨rfl, h8, rfl⟩)⟩ (Nat.le_of_ble_eq_true rfl) (Nat.le_of_ble_eq_true rfl)) (fun z2 S2 A2 i2 p2 => ?_)
  obtain ⟨rfl, hc2, hk2, rfl, hF2⟩ := p2
  exact f_I F dL_cancel_5 i2 ⟨rfl, Or.inl ⟨rfl, hc2, hk2, hF2⟩⟩ (Nat.le_of_ble_eq_true rfl) (Nat.le_of_ble_eq_true rfl)
