/-! the law's small methods: a call of the class, its answer laid in out, its throws told by numbers -/
abbrev CHG : List Nat := [249, 672, 236, 237, 238, 239, 244, 832, 864, 896, 928, 992, 1024, 1056, 1088, 1280, 0, 1, 2, 3, 4, 5, 6, 33, 34, 35, 106, 128, 129, 130, 131, 132, 133]
theorem ct_ofNH {G : GT} {l : Launch} {y : MethodName} {own mn : String} {cc : ByteArray} {maxL : Nat} {ret : Option FieldType} {hh : List (Nat × Nat × Nat × Nat)} {fr mc ms lc : Nat} {S : ST} {A : AB} {av : List Value} {Po : Option Value → ST → AB → Prop} {XPo : String → ST → AB → Prop} {lv0 : List (Option Value)} (ho : y.cls = own) (hmn : y.name = mn) (hy : plainName own = true) (hfl : l.stackTraces = false) (hav : Ent av lv0) (hlen : lv0.length = maxL)
    (body : ∀ (J : JT) (X : XT), Cx G l (rmk fr mc ms lc) cc maxL own mn (tableOf hh) J X → FinR cc ret Po mc ms J → WT S A → AI A → J 0 lv0 [] S A 0 0) : CTH G l y cc maxL ret hh (rmk fr mc ms lc) S A av Po XPo := by
  subst ho; subst hmn
  intro sz
  refine vx_ofWH (cc := cc) (maxL := maxL) (ret := ret) (hh := hh) (ws' := WA) hy rfl ?_
  intro p e s m args below meth c s₁ B hml hv
  obtain ⟨rfl, rfl, hw, hG⟩ := hv
  have hts0 := atoms_spec (ws := Cond.codeWith y cc maxL ret hh :: WA) B.pre
  have hts : ∀ w ∈ WA, w.before av.toArray s = true := fun w h => hts0 w (List.mem_cons_of_mem _ h)
  have hown : s.vm.findClass y.cls = some m.cls := findClass_of_methodNamed B.named
  have htb' : c.exceptionTable.toList = tableOf hh := vx_table (x := y) B (hts0 _ List.mem_cons_self)
  have hts2 : ∀ w ∈ lw_tbl, goodWord w = true → w.before av.toArray s = true := fun w h g => hts w (List.mem_filter.mpr ⟨List.mem_append_right _ h, g⟩)
  have hF := fins (p := p) (l := l) (e := e) (R := (headSpec (Cond.codeWith y cc maxL ret hh :: WA) (rmk fr mc ms lc)).room) (s := s) (m := m) (args := av.toArray) (below := below) (meth := meth) (c := c) (G := G) (A0 := A) (cc := cc) (rt := ret) (Po := Po) (XPo := XPo) (nL := maxL) (own := y.cls) rfl rfl B.exec B.bytes B.returns B.notSynchronized hml hown hts hts2 hG hfl
  have hC : Cx G l (rmk fr mc ms lc) cc maxL y.cls y.name (tableOf hh) _ _ := ⟨p, e, s, m, av.toArray, below, meth, c, fA A s.heap.size, (vx_MQ below (QB G Po A s.heap.size) (XB G XPo A s.heap.size) av.toArray s (rmk fr mc ms lc).cells (rmk fr mc ms lc).slots (fA A s.heap.size)), rfl, rfl, B.exec, B.bytes, hml, hown, hts, hG, fun q h => Or.inr h, hfl, (name_of_methodNamed B.named B.method).1, htb'⟩
  have hJ := body _ _ hC hF.1 hw.wt.1 hw.wt.2
  rw [lg_entry_eq]
  exact hJ s.heap [] _ (ent_LH hav hlen) hw.self va_S.rf
theorem r_catch {G : GT} {l : Launch} {R : Room} {cc : ByteArray} {nL : Nat} {mn : String} {tb : List ExceptionTableEntry} {J : JT} {X : XT} (C : Cx G l R cc nL RL mn tb J X) {E : String} {pc : Nat} {lv : List (Option Value)} {S : ST} {A : AB} {k n : Nat} {a b h t : Nat} (pre suf : List ExceptionTableEntry) (hsp : tb = pre ++ (⟨a, b, h, t⟩ : ExceptionTableEntry) :: suf) (hE : E ∈ nxL) (hxa : a ≤ pc) (hxb : pc < b) (h0 : t ≠ 0) (hlk : Cond.classLink RL t E ∈ WA) (hpass : ∀ z ∈ pre, z.catchType ≠ 0 ∧ ∃ nm : String, Cond.classLink RL z.catchType nm ∈ WA ∧ (E, nm) ∈ ncL) (kk : ∀ q9 : Nat, J h lv [.ref q9] S A k n) : X E pc lv S A k n := by
  obtain ⟨p, e, s, m, args, below, meth, c, Al, Q, rfl, rfl, hx9, hb, hml, hown, hts, hG, hAl, hfl, hmn, htb⟩ := C
  intro H locs ls rest q9 ce hl9 hw hs hce hcv hcl
  refine vx_catch hown pre ⟨a, b, h, t⟩ suf (htb.trans hsp) (fun z hz => ?_) ?_ h0 (hts _ hlk) (va_Nw.use rfl (hG.2.2.2.2.2.2.1 E hE)) hce hcv hcl (kk q9 H locs ls hl9 hw hs)
  · obtain ⟨h1, nm, h2, h3⟩ := hpass z hz
    exact Or.inr ⟨h1, nm, hts _ h2, hG.2.2.2.2.2.1 (E, nm) h3⟩
  · show (decide (a ≤ pc) && decide (pc < b)) = true
    rw [decide_eq_true hxa, decide_eq_true hxb]; rfl
theorem pass_0 {E : String} : ∀ z ∈ ([] : List ExceptionTableEntry), z.catchType ≠ 0 ∧ ∃ nm : String, Cond.classLink RL z.catchType nm ∈ WA ∧ (E, nm) ∈ ncL := fun z hz => by cases hz
theorem pass_1 {E nm : String} {q : Nat × Nat × Nat × Nat} {r : List ExceptionTableEntry} (h0 : q.2.2.2 ≠ 0) (h1 : Cond.classLink RL q.2.2.2 nm ∈ WA) (h2 : (E, nm) ∈ ncL) (h : ∀ z ∈ r, z.catchType ≠ 0 ∧ ∃ nm : String, Cond.classLink RL z.catchType nm ∈ WA ∧ (E, nm) ∈ ncL) : ∀ z ∈ (⟨q.1, q.2.1, q.2.2.1, q.2.2.2⟩ : ExceptionTableEntry) :: r, z.catchType ≠ 0 ∧ ∃ nm : String, Cond.classLink RL z.catchType nm ∈ WA ∧ (E, nm) ∈ ncL := fun z hz => by
  rcases List.mem_cons.mp hz with rfl | hz
  · exact ⟨h0, nm, h1, h2⟩
  · exact h z hz
theorem xl_13 : Cond.classLink RL 13 xIA ∈ WA := WA_of (i := 170) (by decide +kernel) (by decide +kernel)
theorem xl_15 : Cond.classLink RL 15 xIS ∈ WA := WA_of (i := 171) (by decide +kernel) (by decide +kernel)
theorem xl_28 : Cond.classLink RL 28 xIO ∈ WA := WA_of (i := 415) (by decide +kernel) (by decide +kernel)
set_option maxRecDepth 20000 in
theorem cL_kindOf_ {G : GT} {l : Launch} (hfl : l.stackTraces = false) {S : ST} {A : AB} {m : Int} {R : RW} (hCK : CK R S A) (hR : RG R) (hm : rI m) (h40 : lv1 A 40 0) : CTH G l yL_kindOf cL_kindOf 4 (some .int) [(0, 9, 12, 28)] (rmk 8 1 6 133) S A [vR A 6 0, vI m, vR A 40 0] (oI fun z S' A' => A = A' ∧ Fr CHG S S' ∧ ((z = 0 ∧ ((0 ≤ m ∧ m < R.n)) ∧ S' 1280 0 = S 97 m) ∨ (z = 1 ∧ ¬ ((0 ≤ m ∧ m < R.n))))) (noX) := by
  have hl6 := hCK.1.1
  refine ct_ofNH (own := RL) (mn := "kindOf") rfl rfl (by decide) hfl (lv0 := [some (vR A 6 0), some (vI m), some (vR A 40 0), none]) (ent_1 (cat_R _ _ _) (ent_1 rfl (ent_1 (cat_R _ _ _) (ent_n ent_0)))) rfl ?_
  intro J X C F hW hA
  refine r_aload_n C dL_kindOf_0 lg_2 ?_
  refine r_iconst C dL_kindOf_1 ?_
  refine r_aload_n C dL_kindOf_2 lg_0 ?_
  refine r_iload_n C dL_kindOf_3 lg_1 ?_
  refine r_V1I C (cB_kindOf hfl hCK hR.1 hm) dL_kindOf_4 lk_L_41 hl6 ⟨Nat.le_of_ble_eq_true rfl, Nat.le_of_ble_eq_true rfl⟩ (catLe (Nat.le_of_ble_eq_true rfl)) 1 6 ⟨rfl, rfl⟩ (Nat.le_of_ble_eq_true rfl) (Nat.le_of_ble_eq_true rfl) (by
      rintro E9 S9 A9 ⟨⟨rfl, h8⟩, rfl, rfl⟩
      refine r_catch C (tableOf []) (tableOf []) (a := 0) (b := 9) (h := 12) (t := 28) rfl (by decide) (by decide) (by decide) (by decide) xl_28 pass_0 (fun q9 => ?_)
      refine r_astoreq_n C dL_kindOf_12 (ls1_3 rfl (cat_R _ _ _)) ?_
      refine r_iconst C dL_kindOf_13 ?_
      exact f_I F dL_kindOf_14 (by omega) ⟨rfl, Fr.rf, Or.inr ⟨rfl, h8⟩⟩ (Nat.le_of_ble_eq_true rfl) (Nat.le_of_ble_eq_true rfl)) (fun z4 S4 A4 i4 p4 => ?_)
  obtain ⟨rfl, hc4, rfl, rfl⟩ := p4
  have h40x := h40
  refine r_i2l C dL_kindOf_7 (by omega) ?_
  refine r_last C (N := 1) 1280 dL_kindOf_8 (by decide) rfl rfl h40x (by omega) (by omega) (by omega) (by omega) ?_
  refine r_goto C (tgt := 15) dL_kindOf_9 (by decide) ?_
  refine r_iconst C dL_kindOf_15 ?_
  exact f_I F dL_kindOf_16 (by omega) ⟨rfl, Fr.up (by decide), Or.inl ⟨rfl, hc4, upS_self _ _ _ _⟩⟩ (Nat.le_of_ble_eq_true rfl) (Nat.le_of_ble_eq_true rfl)
set_option maxRecDepth 20000 in
theorem cL_dayOf_ {G : GT} {l : Launch} (hfl : l.stackTraces = false) {S : ST} {A : AB} {m : Int} {R : RW} (hCK : CK R S A) (hR : RG R) (hm : rI m) (h40 : lv1 A 40 0) : CTH G l yL_dayOf cL_dayOf 4 (some .int) [(0, 9, 12, 28)] (rmk 8 1 6 133) S A [vR A 6 0, vI m, vR A 40 0] (oI fun z S' A' => A = A' ∧ Fr CHG S S' ∧ ((z = 0 ∧ ((0 ≤ m ∧ m < R.n)) ∧ S' 1280 0 = S 98 m) ∨ (z = 1 ∧ ¬ ((0 ≤ m ∧ m < R.n))))) (noX) := by
  have hl6 := hCK.1.1
  refine ct_ofNH (own := RL) (mn := "dayOf") rfl rfl (by decide) hfl (lv0 := [some (vR A 6 0), some (vI m), some (vR A 40 0), none]) (ent_1 (cat_R _ _ _) (ent_1 rfl (ent_1 (cat_R _ _ _) (ent_n ent_0)))) rfl ?_
  intro J X C F hW hA
  refine r_aload_n C dL_dayOf_0 lg_2 ?_
  refine r_iconst C dL_dayOf_1 ?_
  refine r_aload_n C dL_dayOf_2 lg_0 ?_
  refine r_iload_n C dL_dayOf_3 lg_1 ?_
  refine r_V1I C (cB_dayOf hfl hCK hR.1 hm) dL_dayOf_4 lk_L_44 hl6 ⟨Nat.le_of_ble_eq_true rfl, Nat.le_of_ble_eq_true rfl⟩ (catLe (Nat.le_of_ble_eq_true rfl)) 1 6 ⟨rfl, rfl⟩ (Nat.le_of_ble_eq_true rfl) (Nat.le_of_ble_eq_true rfl) (by
      rintro E9 S9 A9 ⟨⟨rfl, h8⟩, rfl, rfl⟩
      refine r_catch C (tableOf []) (tableOf []) (a := 0) (b := 9) (h := 12) (t := 28) rfl (by decide) (by decide) (by decide) (by decide) xl_28 pass_0 (fun q9 => ?_)
      refine r_astoreq_n C dL_dayOf_12 (ls1_3 rfl (cat_R _ _ _)) ?_
      refine r_iconst C dL_dayOf_13 ?_
      exact f_I F dL_dayOf_14 (by omega) ⟨rfl, Fr.rf, Or.inr ⟨rfl, h8⟩⟩ (Nat.le_of_ble_eq_true rfl) (Nat.le_of_ble_eq_true rfl)) (fun z4 S4 A4 i4 p4 => ?_)
  obtain ⟨rfl, hc4, rfl, rfl⟩ := p4
  have h40x := h40
  refine r_i2l C dL_dayOf_7 (by omega) ?_
  refine r_last C (N := 1) 1280 dL_dayOf_8 (by decide) rfl rfl h40x (by omega) (by omega) (by omega) (by omega) ?_
  refine r_goto C (tgt := 15) dL_dayOf_9 (by decide) ?_
  refine r_iconst C dL_dayOf_15 ?_
  exact f_I F dL_dayOf_16 (by omega) ⟨rfl, Fr.up (by decide), Or.inl ⟨rfl, hc4, upS_self _ _ _ _⟩⟩ (Nat.le_of_ble_eq_true rfl) (Nat.le_of_ble_eq_true rfl)
set_option maxRecDepth 20000 in
theorem cL_isCancelled_ {G : GT} {l : Launch} (hfl : l.stackTraces = false) {S : ST} {A : AB} {m : Int} {R : RW} (hCK : CK R S A) (hR : RG R) (hm : rI m) (h40 : lv1 A 40 0) : CTH G l yL_isCancelled cL_isCancelled 4 (some .int) [(0, 16, 19, 28)] (rmk 8 1 6 133) S A [vR A 6 0, vI m, vR A 40 0] (oI fun z S' A' => A = A' ∧ Fr CHG S S' ∧ ((z = 0 ∧ ((0 ≤ m ∧ m < R.n)) ∧ S' 1280 0 = cI (S 103 m = 0) 0 1) ∨ (z = 1 ∧ ¬ ((0 ≤ m ∧ m < R.n))))) (noX) := by
  have hl6 := hCK.1.1
  refine ct_ofNH (own := RL) (mn := "isCancelled") rfl rfl (by decide) hfl (lv0 := [some (vR A 6 0), some (vI m), some (vR A 40 0), none]) (ent_1 (cat_R _ _ _) (ent_1 rfl (ent_1 (cat_R _ _ _) (ent_n ent_0)))) rfl ?_
  intro J X C F hW hA
  refine r_aload_n C dL_isCancelled_0 lg_2 ?_
  refine r_iconst C dL_isCancelled_1 ?_
  refine r_aload_n C dL_isCancelled_2 lg_0 ?_
  refine r_iload_n C dL_isCancelled_3 lg_1 ?_
  refine r_V1Z C (cB_isCancelled hfl hCK hR.1 hm) dL_isCancelled_4 lk_L_47 hl6 ⟨Nat.le_of_ble_eq_true rfl, Nat.le_of_ble_eq_true rfl⟩ (catLe (Nat.le_of_ble_eq_true rfl)) 1 6 ⟨rfl, rfl⟩ (Nat.le_of_ble_eq_true rfl) (Nat.le_of_ble_eq_true rfl) (by
      rintro E9 S9 A9 ⟨⟨rfl, h8⟩, rfl, rfl⟩
      refine r_catch C (tableOf []) (tableOf []) (a := 0) (b := 16) (h := 19) (t := 28) rfl (by decide) (by decide) (by decide) (by decide) xl_28 pass_0 (fun q9 => ?_)
      refine r_astoreq_n C dL_isCancelled_19 (ls1_3 rfl (cat_R _ _ _)) ?_
      refine r_iconst C dL_isCancelled_20 ?_
      exact f_I F dL_isCancelled_21 (by omega) ⟨rfl, Fr.rf, Or.inr ⟨rfl, h8⟩⟩ (Nat.le_of_ble_eq_true rfl) (Nat.le_of_ble_eq_true rfl)) (fun z4 S4 A4 i4 p4 => ?_)
  obtain ⟨rfl, hc4, rfl, rfl⟩ := p4
  have h40x := h40
  refine r_ifeq C (tgt := 14) dL_isCancelled_7 (by decide) (by omega) (fun c7 => ?_) (fun c7 => ?_)
  · refine r_lconst C dL_isCancelled_14 0 rfl ?_
    refine r_last C (N := 1) 1280 dL_isCancelled_15 (by decide) rfl rfl h40x (by omega) (by omega) (by omega) (by omega) ?_
    refine r_goto C (tgt := 22) dL_isCancelled_16 (by decide) ?_
    refine r_iconst C dL_isCancelled_22 ?_
    exact f_I F dL_isCancelled_23 (by omega) ⟨rfl, Fr.up (by decide), Or.inl ⟨rfl, hc4, (by rw [upS_self]; first | exact (cI_t c7).symm | exact (cI_f c7).symm)⟩⟩ (Nat.le_of_ble_eq_true rfl) (Nat.le_of_ble_eq_true rfl)
  · refine r_lconst C dL_isCancelled_10 1 rfl ?_
    refine r_goto C (tgt := 15) dL_isCancelled_11 (by decide) ?_
    refine r_last C (N := 1) 1280 dL_isCancelled_15 (by decide) rfl rfl h40x (by omega) (by omega) (by omega) (by omega) ?_
    refine r_goto C (tgt := 22) dL_isCancelled_16 (by decide) ?_
    refine r_iconst C dL_isCancelled_22 ?_
    exact f_I F dL_isCancelled_23 (by omega) ⟨rfl, Fr.up (by decide), Or.inl ⟨rfl, hc4, (by rw [upS_self]; first | exact (cI_t c7).symm | exact (cI_f c7).symm)⟩⟩ (Nat.le_of_ble_eq_true rfl) (Nat.le_of_ble_eq_true rfl)
set_option maxRecDepth 20000 in
theorem cL_placeOf_ {G : GT} {l : Launch} (hfl : l.stackTraces = false) {S : ST} {A : AB} {m : Int} {R : RW} (hCK : CK R S A) (hR : RG R) (hm : rI m) (h40 : lv1 A 40 0) : CTH G l yL_placeOf cL_placeOf 4 (some .int) [(0, 9, 12, 28)] (rmk 8 1 6 134) S A [vR A 6 0, vI m, vR A 40 0] (oI fun z S' A' => A = A' ∧ Fr CHG S S' ∧ ((z = 0 ∧ ((0 ≤ m ∧ m < R.n)) ∧ S' 1280 0 = cI (S 103 m = 0) (fst m (LdR R)) (-1)) ∨ (z = 1 ∧ ¬ ((0 ≤ m ∧ m < R.n))))) (noX) := by
  have hl6 := hCK.1.1
  refine ct_ofNH (own := RL) (mn := "placeOf") rfl rfl (by decide) hfl (lv0 := [some (vR A 6 0), some (vI m), some (vR A 40 0), none]) (ent_1 (cat_R _ _ _) (ent_1 rfl (ent_1 (cat_R _ _ _) (ent_n ent_0)))) rfl ?_
  intro J X C F hW hA
  refine r_aload_n C dL_placeOf_0 lg_2 ?_
  refine r_iconst C dL_placeOf_1 ?_
  refine r_aload_n C dL_placeOf_2 lg_0 ?_
  refine r_iload_n C dL_placeOf_3 lg_1 ?_
  refine r_V1I C (cB_place hfl hCK hR.1 hR hm) dL_placeOf_4 lk_L_51 hl6 ⟨Nat.le_of_ble_eq_true rfl, Nat.le_of_ble_eq_true rfl⟩ (catLe (Nat.le_of_ble_eq_true rfl)) 1 6 ⟨rfl, rfl⟩ (Nat.le_of_ble_eq_true rfl) (Nat.le_of_ble_eq_true rfl) (by
      rintro E9 S9 A9 ⟨⟨rfl, h8⟩, rfl, rfl⟩
      refine r_catch C (tableOf []) (tableOf []) (a := 0) (b := 9) (h := 12) (t := 28) rfl (by decide) (by decide) (by decide) (by decide) xl_28 pass_0 (fun q9 => ?_)
      refine r_astoreq_n C dL_placeOf_12 (ls1_3 rfl (cat_R _ _ _)) ?_
      refine r_iconst C dL_placeOf_13 ?_
      exact f_I F dL_placeOf_14 (by omega) ⟨rfl, Fr.rf, Or.inr ⟨rfl, h8⟩⟩ (Nat.le_of_ble_eq_true rfl) (Nat.le_of_ble_eq_true rfl)) (fun z4 S4 A4 i4 p4 => ?_)
  obtain ⟨rfl, hc4, rfl, rfl⟩ := p4
  have h40x := h40
  refine r_i2l C dL_placeOf_7 (by omega) ?_
  refine r_last C (N := 1) 1280 dL_placeOf_8 (by decide) rfl rfl h40x (by omega) (by omega) (by omega) (by omega) ?_
  refine r_goto C (tgt := 15) dL_placeOf_9 (by decide) ?_
  refine r_iconst C dL_placeOf_15 ?_
  exact f_I F dL_placeOf_16 (by omega) ⟨rfl, Fr.up (by decide), Or.inl ⟨rfl, hc4, upS_self _ _ _ _⟩⟩ (Nat.le_of_ble_eq_true rfl) (Nat.le_of_ble_eq_true rfl)
set_option maxRecDepth 20000 in
theorem cL_onHand_ {G : GT} {l : Launch} (hfl : l.stackTraces = false) {S : ST} {A : AB} {item day : Int} {R : RW} (hCK : CK R S A) (hR : RG R) (hi : rI item) (hd : rI day) (h40 : lv1 A 40 0) : CTH G l yL_onHand cL_onHand 5 (some .int) [(0, 10, 13, 13)] (rmk 9 2 12 155) S A [vR A 6 0, vI item, vI day, vR A 40 0] (oI fun z S' A' => A = A' ∧ Fr CHG S S' ∧ ((z = 0 ∧ (akOk item day) ∧ S' 1280 0 = hAt (S 98) (dA S item) day (LdR R) 0) ∨ (z = 1 ∧ ¬ (akOk item day)))) (noX) := by
  have hl6 := hCK.1.1
  refine ct_ofNH (own := RL) (mn := "onHand") rfl rfl (by decide) hfl (lv0 := [some (vR A 6 0), some (vI item), some (vI day), some (vR A 40 0), none]) (ent_1 (cat_R _ _ _) (ent_1 rfl (ent_1 rfl (ent_1 (cat_R _ _ _) (ent_n ent_0))))) rfl ?_
  intro J X C F hW hA
  refine r_aload_n C dL_onHand_0 lg_3 ?_
  refine r_iconst C dL_onHand_1 ?_
  refine r_aload_n C dL_onHand_2 lg_0 ?_
  refine r_iload_n C dL_onHand_3 lg_1 ?_
  refine r_iload_n C dL_onHand_4 lg_2 ?_
  refine r_V2I C (cB_onHand hfl hCK hR.1 hR hi hd) dL_onHand_5 lk_L_61 hl6 ⟨Nat.le_of_ble_eq_true rfl, Nat.le_of_ble_eq_true rfl⟩ (catLe (Nat.le_of_ble_eq_true rfl)) 2 12 ⟨rfl, rfl⟩ (Nat.le_of_ble_eq_true rfl) (Nat.le_of_ble_eq_true rfl) (by
      rintro E9 S9 A9 ⟨⟨rfl, h8⟩, rfl, rfl⟩
      refine r_catch C (tableOf []) (tableOf []) (a := 0) (b := 10) (h := 13) (t := 13) rfl (by decide) (by decide) (by decide) (by decide) xl_13 pass_0 (fun q9 => ?_)
      refine r_astoreq C dL_onHand_13 (ls1_4 rfl (cat_R _ _ _)) ?_
      refine r_iconst C dL_onHand_15 ?_
      exact f_I F dL_onHand_16 (by omega) ⟨rfl, Fr.rf, Or.inr ⟨rfl, h8⟩⟩ (Nat.le_of_ble_eq_true rfl) (Nat.le_of_ble_eq_true rfl)) (fun z5 S5 A5 i5 p5 => ?_)
  obtain ⟨rfl, hc5, rfl, rfl⟩ := p5
  have h40x := h40
  refine r_i2l C dL_onHand_8 (by omega) ?_
  refine r_last C (N := 1) 1280 dL_onHand_9 (by decide) rfl rfl h40x (by omega) (by omega) (by omega) (by omega) ?_
  refine r_goto C (tgt := 17) dL_onHand_10 (by decide) ?_
  refine r_iconst C dL_onHand_17 ?_
  exact f_I F dL_onHand_18 (by omega) ⟨rfl, Fr.up (by decide), Or.inl ⟨rfl, hc5, upS_self _ _ _ _⟩⟩ (Nat.le_of_ble_eq_true rfl) (Nat.le_of_ble_eq_true rfl)
set_option maxRecDepth 20000 in
theorem cL_available_ {G : GT} {l : Launch} (hfl : l.stackTraces = false) {S : ST} {A : AB} {item day : Int} {R : RW} (hCK : CK R S A) (hR : RG R) (hi : rI item) (hd : rI day) (h40 : lv1 A 40 0) : CTH G l yL_available cL_available 5 (some .int) [(0, 10, 13, 13)] (rmk 9 2 12 155) S A [vR A 6 0, vI item, vI day, vR A 40 0] (oI fun z S' A' => A = A' ∧ Fr CHG S S' ∧ ((z = 0 ∧ (akOk item day) ∧ S' 1280 0 = mn 1000 (spf (S 98) (S 96) (S 99) (dlt (S 97) (S 100)) (S 100) (fun m => S 97 m = 1 ∨ S 97 m = 2) item day 60 (LdR R) 0 0)) ∨ (z = 1 ∧ ¬ (akOk item day)))) (noX) := by
  have hl6 := hCK.1.1
  refine ct_ofNH (own := RL) (mn := "available") rfl rfl (by decide) hfl (lv0 := [some (vR A 6 0), some (vI item), some (vI day), some (vR A 40 0), none]) (ent_1 (cat_R _ _ _) (ent_1 rfl (ent_1 rfl (ent_1 (cat_R _ _ _) (ent_n ent_0))))) rfl ?_
  intro J X C F hW hA
  refine r_aload_n C dL_available_0 lg_3 ?_
  refine r_iconst C dL_available_1 ?_
  refine r_aload_n C dL_available_2 lg_0 ?_
  refine r_iload_n C dL_available_3 lg_1 ?_
  refine r_iload_n C dL_available_4 lg_2 ?_
  refine r_V2I C (cB_available hfl hCK hR.1 hR hi hd) dL_available_5 lk_L_64 hl6 ⟨Nat.le_of_ble_eq_true rfl, Nat.le_of_ble_eq_true rfl⟩ (catLe (Nat.le_of_ble_eq_true rfl)) 2 12 ⟨rfl, rfl⟩ (Nat.le_of_ble_eq_true rfl) (Nat.le_of_ble_eq_true rfl) (by
      rintro E9 S9 A9 ⟨⟨rfl, h8⟩, rfl, rfl⟩
      refine r_catch C (tableOf []) (tableOf []) (a := 0) (b := 10) (h := 13) (t := 13) rfl (by decide) (by decide) (by decide) (by decide) xl_13 pass_0 (fun q9 => ?_)
      refine r_astoreq C dL_available_13 (ls1_4 rfl (cat_R _ _ _)) ?_
      refine r_iconst C dL_available_15 ?_
      exact f_I F dL_available_16 (by omega) ⟨rfl, Fr.rf, Or.inr ⟨rfl, h8⟩⟩ (Nat.le_of_ble_eq_true rfl) (Nat.le_of_ble_eq_true rfl)) (fun z5 S5 A5 i5 p5 => ?_)
  obtain ⟨rfl, hc5, rfl, rfl⟩ := p5
  have h40x := h40
  refine r_i2l C dL_available_8 (by omega) ?_
  refine r_last C (N := 1) 1280 dL_available_9 (by decide) rfl rfl h40x (by omega) (by omega) (by omega) (by omega) ?_
  refine r_goto C (tgt := 17) dL_available_10 (by decide) ?_
  refine r_iconst C dL_available_17 ?_
  exact f_I F dL_available_18 (by omega) ⟨rfl, Fr.up (by decide), Or.inl ⟨rfl, hc5, upS_self _ _ _ _⟩⟩ (Nat.le_of_ble_eq_true rfl) (Nat.le_of_ble_eq_true rfl)
set_option maxRecDepth 20000 in
theorem cL_received_ {G : GT} {l : Launch} (hfl : l.stackTraces = false) {S : ST} {A : AB} {item day : Int} {R : RW} (hCK : CK R S A) (hR : RG R) (hR2 : RG2 R) (hV : ∀ i, 0 ≤ i → i ≤ 5 → RV R i) (hi : rI item) (hd : rI day) (h40 : lv1 A 40 0) : CTH G l yL_received cL_received 5 (some .int) [(0, 9, 12, 13)] (rmk 9 2 12 155) S A [vR A 6 0, vI item, vI day, vR A 40 0] (oI fun z S' A' => A = A' ∧ Fr CHG S S' ∧ ((z = 0 ∧ (akOk item day) ∧ S' 1280 0 = (WKr R item day (icF S)).rcv) ∨ (z = 1 ∧ ¬ (akOk item day)))) (noX) := by
  have hl6 := hCK.1.1
  refine ct_ofNH (own := RL) (mn := "received") rfl rfl (by decide) hfl (lv0 := [some (vR A 6 0), some (vI item), some (vI day), some (vR A 40 0), none]) (ent_1 (cat_R _ _ _) (ent_1 rfl (ent_1 rfl (ent_1 (cat_R _ _ _) (ent_n ent_0))))) rfl ?_
  intro J X C F hW hA
  refine r_aload_n C dL_received_0 lg_3 ?_
  refine r_iconst C dL_received_1 ?_
  refine r_aload_n C dL_received_2 lg_0 ?_
  refine r_iload_n C dL_received_3 lg_1 ?_
  refine r_iload_n C dL_received_4 lg_2 ?_
  refine r_V2J C (cB4_received hfl hCK hR hR2 hV hi hd) dL_received_5 lk_L_71 hl6 ⟨Nat.le_of_ble_eq_true rfl, Nat.le_of_ble_eq_true rfl⟩ (catLe (Nat.le_of_ble_eq_true rfl)) 2 12 ⟨rfl, rfl⟩ (Nat.le_of_ble_eq_true rfl) (Nat.le_of_ble_eq_true rfl) (by
      rintro E9 S9 A9 ⟨⟨rfl, h8⟩, rfl, rfl⟩
      refine r_catch C (tableOf []) (tableOf []) (a := 0) (b := 9) (h := 12) (t := 13) rfl (by decide) (by decide) (by decide) (by decide) xl_13 pass_0 (fun q9 => ?_)
      refine r_astoreq C dL_received_12 (ls1_4 rfl (cat_R _ _ _)) ?_
      refine r_iconst C dL_received_14 ?_
      exact f_I F dL_received_15 (by omega) ⟨rfl, Fr.rf, Or.inr ⟨rfl, h8⟩⟩ (Nat.le_of_ble_eq_true rfl) (Nat.le_of_ble_eq_true rfl)) (fun z5 S5 A5 i5 p5 => ?_)
  obtain ⟨rfl, hc5, rfl, hF5⟩ := p5
  have h40x := h40
  refine r_last C (N := 1) 1280 dL_received_8 (by decide) rfl rfl h40x (by omega) (by omega) (by omega) (by omega) ?_
  refine r_goto C (tgt := 16) dL_received_9 (by decide) ?_
  refine r_iconst C dL_received_16 ?_
  exact f_I F dL_received_17 (by omega) ⟨rfl, ((hF5.sub (by decide)).tr (Fr.up (by decide))), Or.inl ⟨rfl, hc5, upS_self _ _ _ _⟩⟩ (Nat.le_of_ble_eq_true rfl) (Nat.le_of_ble_eq_true rfl)
set_option maxRecDepth 20000 in
theorem cL_layers_ {G : GT} {l : Launch} (hfl : l.stackTraces = false) {S : ST} {A : AB} {item day : Int} {R : RW} (hCK : CK R S A) (hR : RG R) (hR2 : RG2 R) (hV : ∀ i, 0 ≤ i → i ≤ 5 → RV R i) (hi : rI item) (hd : rI day) (h40 : lv1 A 40 0) : CTH G l yL_layers cL_layers 5 (some .int) [(0, 10, 13, 13)] (rmk 9 2 12 155) S A [vR A 6 0, vI item, vI day, vR A 40 0] (oI fun z S' A' => A = A' ∧ Fr CHG S S' ∧ ((z = 0 ∧ (akOk item day) ∧ S' 1280 0 = ((WKr R item day (icF S)).q.length : Int)) ∨ (z = 1 ∧ ¬ (akOk item day)))) (noX) := by
  have hl6 := hCK.1.1
  refine ct_ofNH (own := RL) (mn := "layers") rfl rfl (by decide) hfl (lv0 := [some (vR A 6 0), some (vI item), some (vI day), some (vR A 40 0), none]) (ent_1 (cat_R _ _ _) (ent_1 rfl (ent_1 rfl (ent_1 (cat_R _ _ _) (ent_n ent_0))))) rfl ?_
  intro J X C F hW hA
  refine r_aload_n C dL_layers_0 lg_3 ?_
  refine r_iconst C dL_layers_1 ?_
  refine r_aload_n C dL_layers_2 lg_0 ?_
  refine r_iload_n C dL_layers_3 lg_1 ?_
  refine r_iload_n C dL_layers_4 lg_2 ?_
  refine r_V2I C (cB_layers hfl hCK hR hR2 hV hi hd) dL_layers_5 lk_L_84 hl6 ⟨Nat.le_of_ble_eq_true rfl, Nat.le_of_ble_eq_true rfl⟩ (catLe (Nat.le_of_ble_eq_true rfl)) 2 12 ⟨rfl, rfl⟩ (Nat.le_of_ble_eq_true rfl) (Nat.le_of_ble_eq_true rfl) (by
      rintro E9 S9 A9 ⟨⟨rfl, h8⟩, rfl, rfl⟩
      refine r_catch C (tableOf []) (tableOf []) (a := 0) (b := 10) (h := 13) (t := 13) rfl (by decide) (by decide) (by decide) (by decide) xl_13 pass_0 (fun q9 => ?_)
      refine r_astoreq C dL_layers_13 (ls1_4 rfl (cat_R _ _ _)) ?_
      refine r_iconst C dL_layers_15 ?_
      exact f_I F dL_layers_16 (by omega) ⟨rfl, Fr.rf, Or.inr ⟨rfl, h8⟩⟩ (Nat.le_of_ble_eq_true rfl) (Nat.le_of_ble_eq_true rfl)) (fun z5 S5 A5 i5 p5 => ?_)
  obtain ⟨rfl, hc5, rfl, hF5⟩ := p5
  have h40x := h40
  refine r_i2l C dL_layers_8 (by omega) ?_
  refine r_last C (N := 1) 1280 dL_layers_9 (by decide) rfl rfl h40x (by omega) (by omega) (by omega) (by omega) ?_
  refine r_goto C (tgt := 17) dL_layers_10 (by decide) ?_
  refine r_iconst C dL_layers_17 ?_
  exact f_I F dL_layers_18 (by omega) ⟨rfl, ((hF5.sub (by decide)).tr (Fr.up (by decide))), Or.inl ⟨rfl, hc5, upS_self _ _ _ _⟩⟩ (Nat.le_of_ble_eq_true rfl) (Nat.le_of_ble_eq_true rfl)
set_option maxRecDepth 20000 in
theorem cL_value_ {G : GT} {l : Launch} (hfl : l.stackTraces = false) {S : ST} {A : AB} {item day y : Int} {R : RW} (hCK : CK R S A) (hR : RG R) (hR2 : RG2 R) (hV : ∀ i, 0 ≤ i → i ≤ 5 → RV R i) (hi : rI item) (hd : rI day) (hy : rI y) (h40 : lv1 A 40 0) : CTH G l yL_value cL_value 6 (some .int) [(0, 11, 14, 13)] (rmk 9 2 12 156) S A [vR A 6 0, vI item, vI day, vI y, vR A 40 0] (oI fun z S' A' => A = A' ∧ Fr CHG S S' ∧ ((z = 0 ∧ (akOk item day) ∧ S' 1280 0 = cI (y = 0) (qc (WKr R item day (icF S)).q) (WKr R item day (icF S)).avg) ∨ (z = 1 ∧ ¬ (akOk item day)))) (noX) := by
  have hl6 := hCK.1.1
  refine ct_ofNH (own := RL) (mn := "value") rfl rfl (by decide) hfl (lv0 := [some (vR A 6 0), some (vI item), some (vI day), some (vI y), some (vR A 40 0), none]) (ent_1 (cat_R _ _ _) (ent_1 rfl (ent_1 rfl (ent_1 rfl (ent_1 (cat_R _ _ _) (ent_n ent_0)))))) rfl ?_
  intro J X C F hW hA
  by_cases hy0 : y = 0
  · refine r_aload C dL_value_0 lg_4 ?_
    refine r_iconst C dL_value_2 ?_
    refine r_aload_n C dL_value_3 lg_0 ?_
    refine r_iload_n C dL_value_4 lg_1 ?_
    refine r_iload_n C dL_value_5 lg_2 ?_
    refine r_iload_n C dL_value_6 lg_3 ?_
    refine r_V3J C (cB0_value hfl hCK hR hR2 hV hi hd hy hy0) dL_value_7 lk_L_67 hl6 ⟨Nat.le_of_ble_eq_true rfl, Nat.le_of_ble_eq_true rfl⟩ (catLe (Nat.le_of_ble_eq_true rfl)) 2 12 ⟨rfl, rfl⟩ (Nat.le_of_ble_eq_true rfl) (Nat.le_of_ble_eq_true rfl) (by
        rintro E9 S9 A9 ⟨⟨rfl, h8⟩, rfl, rfl⟩
        refine r_catch C (tableOf []) (tableOf []) (a := 0) (b := 11) (h := 14) (t := 13) rfl (by decide) (by decide) (by decide) (by decide) xl_13 pass_0 (fun q9 => ?_)
        refine r_astoreq C dL_value_14 (ls1_5 rfl (cat_R _ _ _)) ?_
        refine r_iconst C dL_value_16 ?_
        exact f_I F dL_value_17 (by omega) ⟨rfl, Fr.rf, Or.inr ⟨rfl, h8⟩⟩ (Nat.le_of_ble_eq_true rfl) (Nat.le_of_ble_eq_true rfl)) (fun z7 S7 A7 i7 p7 => ?_)
    obtain ⟨rfl, hc7, rfl, hF7⟩ := p7
    have h40x := h40
    refine r_last C (N := 1) 1280 dL_value_10 (by decide) rfl rfl h40x (by omega) (by omega) (by omega) (by omega) ?_
    refine r_goto C (tgt := 18) dL_value_11 (by decide) ?_
    refine r_iconst C dL_value_18 ?_
    exact f_I F dL_value_19 (by omega) ⟨rfl, ((hF7.sub (by decide)).tr (Fr.up (by decide))), Or.inl ⟨rfl, hc7, (by rw [upS_self]; first | exact (cI_t hy0).symm | exact (cI_f hy0).symm)⟩⟩ (Nat.le_of_ble_eq_true rfl) (Nat.le_of_ble_eq_true rfl)
  · refine r_aload C dL_value_0 lg_4 ?_
    refine r_iconst C dL_value_2 ?_
    refine r_aload_n C dL_value_3 lg_0 ?_
    refine r_iload_n C dL_value_4 lg_1 ?_
    refine r_iload_n C dL_value_5 lg_2 ?_
    refine r_iload_n C dL_value_6 lg_3 ?_
    refine r_V3J C (cB4_value hfl hCK hR hR2 hV hi hd hy hy0) dL_value_7 lk_L_67 hl6 ⟨Nat.le_of_ble_eq_true rfl, Nat.le_of_ble_eq_true rfl⟩ (catLe (Nat.le_of_ble_eq_true rfl)) 2 12 ⟨rfl, rfl⟩ (Nat.le_of_ble_eq_true rfl) (Nat.le_of_ble_eq_true rfl) (by
        rintro E9 S9 A9 ⟨⟨rfl, h8⟩, rfl, rfl⟩
        refine r_catch C (tableOf []) (tableOf []) (a := 0) (b := 11) (h := 14) (t := 13) rfl (by decide) (by decide) (by decide) (by decide) xl_13 pass_0 (fun q9 => ?_)
        refine r_astoreq C dL_value_14 (ls1_5 rfl (cat_R _ _ _)) ?_
        refine r_iconst C dL_value_16 ?_
        exact f_I F dL_value_17 (by omega) ⟨rfl, Fr.rf, Or.inr ⟨rfl, h8⟩⟩ (Nat.le_of_ble_eq_true rfl) (Nat.le_of_ble_eq_true rfl)) (fun z7 S7 A7 i7 p7 => ?_)
    obtain ⟨rfl, hc7, rfl, hF7⟩ := p7
    have h40x := h40
    refine r_last C (N := 1) 1280 dL_value_10 (by decide) rfl rfl h40x (by omega) (by omega) (by omega) (by omega) ?_
    refine r_goto C (tgt := 18) dL_value_11 (by decide) ?_
    refine r_iconst C dL_value_18 ?_
    exact f_I F dL_value_19 (by omega) ⟨rfl, ((hF7.sub (by decide)).tr (Fr.up (by decide))), Or.inl ⟨rfl, hc7, (by rw [upS_self]; first | exact (cI_t hy0).symm | exact (cI_f hy0).symm)⟩⟩ (Nat.le_of_ble_eq_true rfl) (Nat.le_of_ble_eq_true rfl)
set_option maxRecDepth 20000 in
theorem cL_issued_ {G : GT} {l : Launch} (hfl : l.stackTraces = false) {S : ST} {A : AB} {item day y : Int} {R : RW} (hCK : CK R S A) (hR : RG R) (hR2 : RG2 R) (hV : ∀ i, 0 ≤ i → i ≤ 5 → RV R i) (hi : rI item) (hd : rI day) (hy : rI y) (h40 : lv1 A 40 0) : CTH G l yL_issued cL_issued 6 (some .int) [(0, 11, 14, 13)] (rmk 9 2 12 156) S A [vR A 6 0, vI item, vI day, vI y, vR A 40 0] (oI fun z S' A' => A = A' ∧ Fr CHG S S' ∧ ((z = 0 ∧ (akOk item day) ∧ S' 1280 0 = cI (y = 0) (WKr R item day (icF S)).i0 (WKr R item day (icF S)).i1) ∨ (z = 1 ∧ ¬ (akOk item day)))) (noX) := by
  have hl6 := hCK.1.1
  refine ct_ofNH (own := RL) (mn := "issued") rfl rfl (by decide) hfl (lv0 := [some (vR A 6 0), some (vI item), some (vI day), some (vI y), some (vR A 40 0), none]) (ent_1 (cat_R _ _ _) (ent_1 rfl (ent_1 rfl (ent_1 rfl (ent_1 (cat_R _ _ _) (ent_n ent_0)))))) rfl ?_
  intro J X C F hW hA
  by_cases hy0 : y = 0
  · refine r_aload C dL_issued_0 lg_4 ?_
    refine r_iconst C dL_issued_2 ?_
    refine r_aload_n C dL_issued_3 lg_0 ?_
    refine r_iload_n C dL_issued_4 lg_1 ?_
    refine r_iload_n C dL_issued_5 lg_2 ?_
    refine r_iload_n C dL_issued_6 lg_3 ?_
    refine r_V3J C (cB0_issued hfl hCK hR hR2 hV hi hd hy hy0) dL_issued_7 lk_L_75 hl6 ⟨Nat.le_of_ble_eq_true rfl, Nat.le_of_ble_eq_true rfl⟩ (catLe (Nat.le_of_ble_eq_true rfl)) 2 12 ⟨rfl, rfl⟩ (Nat.le_of_ble_eq_true rfl) (Nat.le_of_ble_eq_true rfl) (by
        rintro E9 S9 A9 ⟨⟨rfl, h8⟩, rfl, rfl⟩
        refine r_catch C (tableOf []) (tableOf []) (a := 0) (b := 11) (h := 14) (t := 13) rfl (by decide) (by decide) (by decide) (by decide) xl_13 pass_0 (fun q9 => ?_)
        refine r_astoreq C dL_issued_14 (ls1_5 rfl (cat_R _ _ _)) ?_
        refine r_iconst C dL_issued_16 ?_
        exact f_I F dL_issued_17 (by omega) ⟨rfl, Fr.rf, Or.inr ⟨rfl, h8⟩⟩ (Nat.le_of_ble_eq_true rfl) (Nat.le_of_ble_eq_true rfl)) (fun z7 S7 A7 i7 p7 => ?_)
    obtain ⟨rfl, hc7, rfl, hF7⟩ := p7
    have h40x := h40
    refine r_last C (N := 1) 1280 dL_issued_10 (by decide) rfl rfl h40x (by omega) (by omega) (by omega) (by omega) ?_
    refine r_goto C (tgt := 18) dL_issued_11 (by decide) ?_
    refine r_iconst C dL_issued_18 ?_
    exact f_I F dL_issued_19 (by omega) ⟨rfl, ((hF7.sub (by decide)).tr (Fr.up (by decide))), Or.inl ⟨rfl, hc7, (by rw [upS_self]; first | exact (cI_t hy0).symm | exact (cI_f hy0).symm)⟩⟩ (Nat.le_of_ble_eq_true rfl) (Nat.le_of_ble_eq_true rfl)
  · refine r_aload C dL_issued_0 lg_4 ?_
    refine r_iconst C dL_issued_2 ?_
    refine r_aload_n C dL_issued_3 lg_0 ?_
    refine r_iload_n C dL_issued_4 lg_1 ?_
    refine r_iload_n C dL_issued_5 lg_2 ?_
    refine r_iload_n C dL_issued_6 lg_3 ?_
    refine r_V3J C (cB4_issued hfl hCK hR hR2 hV hi hd hy hy0) dL_issued_7 lk_L_75 hl6 ⟨Nat.le_of_ble_eq_true rfl, Nat.le_of_ble_eq_true rfl⟩ (catLe (Nat.le_of_ble_eq_true rfl)) 2 12 ⟨rfl, rfl⟩ (Nat.le_of_ble_eq_true rfl) (Nat.le_of_ble_eq_true rfl) (by
        rintro E9 S9 A9 ⟨⟨rfl, h8⟩, rfl, rfl⟩
        refine r_catch C (tableOf []) (tableOf []) (a := 0) (b := 11) (h := 14) (t := 13) rfl (by decide) (by decide) (by decide) (by decide) xl_13 pass_0 (fun q9 => ?_)
        refine r_astoreq C dL_issued_14 (ls1_5 rfl (cat_R _ _ _)) ?_
        refine r_iconst C dL_issued_16 ?_
        exact f_I F dL_issued_17 (by omega) ⟨rfl, Fr.rf, Or.inr ⟨rfl, h8⟩⟩ (Nat.le_of_ble_eq_true rfl) (Nat.le_of_ble_eq_true rfl)) (fun z7 S7 A7 i7 p7 => ?_)
    obtain ⟨rfl, hc7, rfl, hF7⟩ := p7
    have h40x := h40
    refine r_last C (N := 1) 1280 dL_issued_10 (by decide) rfl rfl h40x (by omega) (by omega) (by omega) (by omega) ?_
    refine r_goto C (tgt := 18) dL_issued_11 (by decide) ?_
    refine r_iconst C dL_issued_18 ?_
    exact f_I F dL_issued_19 (by omega) ⟨rfl, ((hF7.sub (by decide)).tr (Fr.up (by decide))), Or.inl ⟨rfl, hc7, (by rw [upS_self]; first | exact (cI_t hy0).symm | exact (cI_f hy0).symm)⟩⟩ (Nat.le_of_ble_eq_true rfl) (Nat.le_of_ble_eq_true rfl)
set_option maxRecDepth 20000 in
theorem cL_revalued_ {G : GT} {l : Launch} (hfl : l.stackTraces = false) {S : ST} {A : AB} {item day y : Int} {R : RW} (hCK : CK R S A) (hR : RG R) (hR2 : RG2 R) (hV : ∀ i, 0 ≤ i → i ≤ 5 → RV R i) (hi : rI item) (hd : rI day) (hy : rI y) (h40 : lv1 A 40 0) : CTH G l yL_revalued cL_revalued 6 (some .int) [(0, 11, 14, 13)] (rmk 9 2 12 156) S A [vR A 6 0, vI item, vI day, vI y, vR A 40 0] (oI fun z S' A' => A = A' ∧ Fr CHG S S' ∧ ((z = 0 ∧ (akOk item day) ∧ S' 1280 0 = cI (y = 0) (WKr R item day (icF S)).v0 (WKr R item day (icF S)).v1) ∨ (z = 1 ∧ ¬ (akOk item day)))) (noX) := by
  have hl6 := hCK.1.1
  refine ct_ofNH (own := RL) (mn := "revalued") rfl rfl (by decide) hfl (lv0 := [some (vR A 6 0), some (vI item), some (vI day), some (vI y), some (vR A 40 0), none]) (ent_1 (cat_R _ _ _) (ent_1 rfl (ent_1 rfl (ent_1 rfl (ent_1 (cat_R _ _ _) (ent_n ent_0)))))) rfl ?_
  intro J X C F hW hA
  by_cases hy0 : y = 0
  · refine r_aload C dL_revalued_0 lg_4 ?_
    refine r_iconst C dL_revalued_2 ?_
    refine r_aload_n C dL_revalued_3 lg_0 ?_
    refine r_iload_n C dL_revalued_4 lg_1 ?_
    refine r_iload_n C dL_revalued_5 lg_2 ?_
    refine r_iload_n C dL_revalued_6 lg_3 ?_
    refine r_V3J C (cB0_revalued hfl hCK hR hR2 hV hi hd hy hy0) dL_revalued_7 lk_L_78 hl6 ⟨Nat.le_of_ble_eq_true rfl, Nat.le_of_ble_eq_true rfl⟩ (catLe (Nat.le_of_ble_eq_true rfl)) 2 12 ⟨rfl, rfl⟩ (Nat.le_of_ble_eq_true rfl) (Nat.le_of_ble_eq_true rfl) (by
        rintro E9 S9 A9 ⟨⟨rfl, h8⟩, rfl, rfl⟩
        refine r_catch C (tableOf []) (tableOf []) (a := 0) (b := 11) (h := 14) (t := 13) rfl (by decide) (by decide) (by decide) (by decide) xl_13 pass_0 (fun q9 => ?_)
        refine r_astoreq C dL_revalued_14 (ls1_5 rfl (cat_R _ _ _)) ?_
        refine r_iconst C dL_revalued_16 ?_
        exact f_I F dL_revalued_17 (by omega) ⟨rfl, Fr.rf, Or.inr ⟨rfl, h8⟩⟩ (Nat.le_of_ble_eq_true rfl) (Nat.le_of_ble_eq_true rfl)) (fun z7 S7 A7 i7 p7 => ?_)
    obtain ⟨rfl, hc7, rfl, hF7⟩ := p7
    have h40x := h40
    refine r_last C (N := 1) 1280 dL_revalued_10 (by decide) rfl rfl h40x (by omega) (by omega) (by omega) (by omega) ?_
    refine r_goto C (tgt := 18) dL_revalued_11 (by decide) ?_
    refine r_iconst C dL_revalued_18 ?_
    exact f_I F dL_revalued_19 (by omega) ⟨rfl, ((hF7.sub (by decide)).tr (Fr.up (by decide))), Or.inl ⟨rfl, hc7, (by rw [upS_self]; first | exact (cI_t hy0).symm | exact (cI_f hy0).symm)⟩⟩ (Nat.le_of_ble_eq_true rfl) (Nat.le_of_ble_eq_true rfl)
  · refine r_aload C dL_revalued_0 lg_4 ?_
    refine r_iconst C dL_revalued_2 ?_
    refine r_aload_n C dL_revalued_3 lg_0 ?_
    refine r_iload_n C dL_revalued_4 lg_1 ?_
    refine r_iload_n C dL_revalued_5 lg_2 ?_
    refine r_iload_n C dL_revalued_6 lg_3 ?_
    refine r_V3J C (cB4_revalued hfl hCK hR hR2 hV hi hd hy hy0) dL_revalued_7 lk_L_78 hl6 ⟨Nat.le_of_ble_eq_true rfl, Nat.le_of_ble_eq_true rfl⟩ (catLe (Nat.le_of_ble_eq_true rfl)) 2 12 ⟨rfl, rfl⟩ (Nat.le_of_ble_eq_true rfl) (Nat.le_of_ble_eq_true rfl) (by
        rintro E9 S9 A9 ⟨⟨rfl, h8⟩, rfl, rfl⟩
        refine r_catch C (tableOf []) (tableOf []) (a := 0) (b := 11) (h := 14) (t := 13) rfl (by decide) (by decide) (by decide) (by decide) xl_13 pass_0 (fun q9 => ?_)
        refine r_astoreq C dL_revalued_14 (ls1_5 rfl (cat_R _ _ _)) ?_
        refine r_iconst C dL_revalued_16 ?_
        exact f_I F dL_revalued_17 (by omega) ⟨rfl, Fr.rf, Or.inr ⟨rfl, h8⟩⟩ (Nat.le_of_ble_eq_true rfl) (Nat.le_of_ble_eq_true rfl)) (fun z7 S7 A7 i7 p7 => ?_)
    obtain ⟨rfl, hc7, rfl, hF7⟩ := p7
    have h40x := h40
    refine r_last C (N := 1) 1280 dL_revalued_10 (by decide) rfl rfl h40x (by omega) (by omega) (by omega) (by omega) ?_
    refine r_goto C (tgt := 18) dL_revalued_11 (by decide) ?_
    refine r_iconst C dL_revalued_18 ?_
    exact f_I F dL_revalued_19 (by omega) ⟨rfl, ((hF7.sub (by decide)).tr (Fr.up (by decide))), Or.inl ⟨rfl, hc7, (by rw [upS_self]; first | exact (cI_t hy0).symm | exact (cI_f hy0).symm)⟩⟩ (Nat.le_of_ble_eq_true rfl) (Nat.le_of_ble_eq_true rfl)
set_option maxRecDepth 20000 in
theorem cL_expensed_ {G : GT} {l : Launch} (hfl : l.stackTraces = false) {S : ST} {A : AB} {item day y : Int} {R : RW} (hCK : CK R S A) (hR : RG R) (hR2 : RG2 R) (hV : ∀ i, 0 ≤ i → i ≤ 5 → RV R i) (hi : rI item) (hd : rI day) (hy : rI y) (h40 : lv1 A 40 0) : CTH G l yL_expensed cL_expensed 6 (some .int) [(0, 11, 14, 13)] (rmk 9 2 12 156) S A [vR A 6 0, vI item, vI day, vI y, vR A 40 0] (oI fun z S' A' => A = A' ∧ Fr CHG S S' ∧ ((z = 0 ∧ (akOk item day) ∧ S' 1280 0 = cI (y = 0) (WKr R item day (icF S)).e0 (WKr R item day (icF S)).e1) ∨ (z = 1 ∧ ¬ (akOk item day)))) (noX) := by
  have hl6 := hCK.1.1
  refine ct_ofNH (own := RL) (mn := "expensed") rfl rfl (by decide) hfl (lv0 := [some (vR A 6 0), some (vI item), some (vI day), some (vI y), some (vR A 40 0), none]) (ent_1 (cat_R _ _ _) (ent_1 rfl (ent_1 rfl (ent_1 rfl (ent_1 (cat_R _ _ _) (ent_n ent_0)))))) rfl ?_
  intro J X C F hW hA
  by_cases hy0 : y = 0
  · refine r_aload C dL_expensed_0 lg_4 ?_
    refine r_iconst C dL_expensed_2 ?_
    refine r_aload_n C dL_expensed_3 lg_0 ?_
    refine r_iload_n C dL_expensed_4 lg_1 ?_
    refine r_iload_n C dL_expensed_5 lg_2 ?_
    refine r_iload_n C dL_expensed_6 lg_3 ?_
    refine r_V3J C (cB0_expensed hfl hCK hR hR2 hV hi hd hy hy0) dL_expensed_7 lk_L_81 hl6 ⟨Nat.le_of_ble_eq_true rfl, Nat.le_of_ble_eq_true rfl⟩ (catLe (Nat.le_of_ble_eq_true rfl)) 2 12 ⟨rfl, rfl⟩ (Nat.le_of_ble_eq_true rfl) (Nat.le_of_ble_eq_true rfl) (by
        rintro E9 S9 A9 ⟨⟨rfl, h8⟩, rfl, rfl⟩
        refine r_catch C (tableOf []) (tableOf []) (a := 0) (b := 11) (h := 14) (t := 13) rfl (by decide) (by decide) (by decide) (by decide) xl_13 pass_0 (fun q9 => ?_)
        refine r_astoreq C dL_expensed_14 (ls1_5 rfl (cat_R _ _ _)) ?_
        refine r_iconst C dL_expensed_16 ?_
        exact f_I F dL_expensed_17 (by omega) ⟨rfl, Fr.rf, Or.inr ⟨rfl, h8⟩⟩ (Nat.le_of_ble_eq_true rfl) (Nat.le_of_ble_eq_true rfl)) (fun z7 S7 A7 i7 p7 => ?_)
    obtain ⟨rfl, hc7, rfl, hF7⟩ := p7
    have h40x := h40
    refine r_last C (N := 1) 1280 dL_expensed_10 (by decide) rfl rfl h40x (by omega) (by omega) (by omega) (by omega) ?_
    refine r_goto C (tgt := 18) dL_expensed_11 (by decide) ?_
    refine r_iconst C dL_expensed_18 ?_
    exact f_I F dL_expensed_19 (by omega) ⟨rfl, ((hF7.sub (by decide)).tr (Fr.up (by decide))), Or.inl ⟨rfl, hc7, (by rw [upS_self]; first | exact (cI_t hy0).symm | exact (cI_f hy0).symm)⟩⟩ (Nat.le_of_ble_eq_true rfl) (Nat.le_of_ble_eq_true rfl)
  · refine r_aload C dL_expensed_0 lg_4 ?_
    refine r_iconst C dL_expensed_2 ?_
    refine r_aload_n C dL_expensed_3 lg_0 ?_
    refine r_iload_n C dL_expensed_4 lg_1 ?_
    refine r_iload_n C dL_expensed_5 lg_2 ?_
    refine r_iload_n C dL_expensed_6 lg_3 ?_
    refine r_V3J C (cB4_expensed hfl hCK hR hR2 hV hi hd hy hy0) dL_expensed_7 lk_L_81 hl6 ⟨Nat.le_of_ble_eq_true rfl, Nat.le_of_ble_eq_true rfl⟩ (catLe (Nat.le_of_ble_eq_true rfl)) 2 12 ⟨rfl, rfl⟩ (Nat.le_of_ble_eq_true rfl) (Nat.le_of_ble_eq_true rfl) (by
        rintro E9 S9 A9 ⟨⟨rfl, h8⟩, rfl, rfl⟩
        refine r_catch C (tableOf []) (tableOf []) (a := 0) (b := 11) (h := 14) (t := 13) rfl (by decide) (by decide) (by decide) (by decide) xl_13 pass_0 (fun q9 => ?_)
        refine r_astoreq C dL_expensed_14 (ls1_5 rfl (cat_R _ _ _)) ?_
        refine r_iconst C dL_expensed_16 ?_
        exact f_I F dL_expensed_17 (by omega) ⟨rfl, Fr.rf, Or.inr ⟨rfl, h8⟩⟩ (Nat.le_of_ble_eq_true rfl) (Nat.le_of_ble_eq_true rfl)) (fun z7 S7 A7 i7 p7 => ?_)
    obtain ⟨rfl, hc7, rfl, hF7⟩ := p7
    have h40x := h40
    refine r_last C (N := 1) 1280 dL_expensed_10 (by decide) rfl rfl h40x (by omega) (by omega) (by omega) (by omega) ?_
    refine r_goto C (tgt := 18) dL_expensed_11 (by decide) ?_
    refine r_iconst C dL_expensed_18 ?_
    exact f_I F dL_expensed_19 (by omega) ⟨rfl, ((hF7.sub (by decide)).tr (Fr.up (by decide))), Or.inl ⟨rfl, hc7, (by rw [upS_self]; first | exact (cI_t hy0).symm | exact (cI_f hy0).symm)⟩⟩ (Nat.le_of_ble_eq_true rfl) (Nat.le_of_ble_eq_true rfl)
set_option maxRecDepth 20000 in
theorem cL_costOf_ {G : GT} {l : Launch} (hfl : l.stackTraces = false) {S : ST} {A : AB} {m y : Int} {R : RW} (hCK : CK R S A) (hR : RG R) (hR2 : RG2 R) (hV : ∀ i, 0 ≤ i → i ≤ 5 → RV R i) (hm : rI m) (hy : rI y) (h40 : lv1 A 40 0) : CTH G l yL_costOf cL_costOf 5 (some .int) [(0, 9, 12, 28), (0, 9, 16, 15)] (rmk 8 2 12 148) S A [vR A 6 0, vI m, vI y, vR A 40 0] (oI fun z S' A' => A = A' ∧ Fr CHG S S' ∧ ((z = 0 ∧ ((0 ≤ m ∧ m < R.n) ∧ (R.kd m = 1 ∧ R.gn m = 0)) ∧ S' 1280 0 = cI (y = 0) ((WKr R (R.it m) (R.dy m) (icF S)).ic (2 * m)) ((WKr R (R.it m) (R.dy m) (icF S)).ic (2 * m + 1))) ∨ (z = 1 ∧ ¬ (0 ≤ m ∧ m < R.n)) ∨ (z = 2 ∧ ((0 ≤ m ∧ m < R.n) ∧ ¬ (R.kd m = 1 ∧ R.gn m = 0))))) (noX) := by
  have hl6 := hCK.1.1
  refine ct_ofNH (own := RL) (mn := "costOf") rfl rfl (by decide) hfl (lv0 := [some (vR A 6 0), some (vI m), some (vI y), some (vR A 40 0), none]) (ent_1 (cat_R _ _ _) (ent_1 rfl (ent_1 rfl (ent_1 (cat_R _ _ _) (ent_n ent_0))))) rfl ?_
  intro J X C F hW hA
  by_cases hy0 : y = 0
  · refine r_aload_n C dL_costOf_0 lg_3 ?_
    refine r_iconst C dL_costOf_1 ?_
    refine r_aload_n C dL_costOf_2 lg_0 ?_
    refine r_iload_n C dL_costOf_3 lg_1 ?_
    refine r_iload_n C dL_costOf_4 lg_2 ?_
    refine r_V2J C (cB0_costOf hfl hCK hR hR2 hV hm hy hy0) dL_costOf_5 lk_L_57 hl6 ⟨Nat.le_of_ble_eq_true rfl, Nat.le_of_ble_eq_true rfl⟩ (catLe (Nat.le_of_ble_eq_true rfl)) 2 12 ⟨rfl, rfl⟩ (Nat.le_of_ble_eq_true rfl) (Nat.le_of_ble_eq_true rfl) (by
        rintro E9 S9 A9 ⟨⟨rfl, h8⟩ | ⟨rfl, h8⟩, rfl, rfl⟩
        · refine r_catch C (tableOf []) (tableOf [(0, 9, 16, 15)]) (a := 0) (b := 9) (h := 12) (t := 28) rfl (by decide) (by decide) (by decide) (by decide) xl_28 pass_0 (fun q9 => ?_)
          refine r_astoreq C dL_costOf_12 (ls1_4 rfl (cat_R _ _ _)) ?_
          refine r_iconst C dL_costOf_14 ?_
          exact f_I F dL_costOf_15 (by omega) ⟨rfl, Fr.rf, Or.inr (Or.inl ⟨rfl, h8⟩)⟩ (Nat.le_of_ble_eq_true rfl) (Nat.le_of_ble_eq_true rfl)
        · refine r_catch C (tableOf [(0, 9, 12, 28)]) (tableOf []) (a := 0) (b := 9) (h := 16) (t := 15) rfl (by decide) (by decide) (by decide) (by decide) xl_15 (pass_1 (q := (0, 9, 12, 28)) (by decide) xl_28 (by decide) pass_0) (fun q9 => ?_)
          refine r_astoreq C dL_costOf_16 (ls1_4 rfl (cat_R _ _ _)) ?_
          refine r_iconst C dL_costOf_18 ?_
          exact f_I F dL_costOf_19 (by omega) ⟨rfl, Fr.rf, Or.inr (Or.inr ⟨rfl, h8⟩)⟩ (Nat.le_of_ble_eq_true rfl) (Nat.le_of_ble_eq_true rfl)) (fun z5 S5 A5 i5 p5 => ?_)
    obtain ⟨rfl, hc5, rfl, hF5⟩ := p5
    have h40x := h40
    refine r_last C (N := 1) 1280 dL_costOf_8 (by decide) rfl rfl h40x (by omega) (by omega) (by omega) (by omega) ?_
    refine r_goto C (tgt := 20) dL_costOf_9 (by decide) ?_
    refine r_iconst C dL_costOf_20 ?_
    exact f_I F dL_costOf_21 (by omega) ⟨rfl, ((hF5.sub (by decide)).tr (Fr.up (by decide))), Or.inl ⟨rfl, hc5, (by rw [upS_self]; first | exact (cI_t hy0).symm | exact (cI_f hy0).symm)⟩⟩ (Nat.le_of_ble_eq_true rfl) (Nat.le_of_ble_eq_true rfl)
  · refine r_aload_n C dL_costOf_0 lg_3 ?_
    refine r_iconst C dL_costOf_1 ?_
    refine r_aload_n C dL_costOf_2 lg_0 ?_
    refine r_iload_n C dL_costOf_3 lg_1 ?_
    refine r_iload_n C dL_costOf_4 lg_2 ?_
    refine r_V2J C (cB4_costOf hfl hCK hR hR2 hV hm hy hy0) dL_costOf_5 lk_L_57 hl6 ⟨Nat.le_of_ble_eq_true rfl, Nat.le_of_ble_eq_true rfl⟩ (catLe (Nat.le_of_ble_eq_true rfl)) 2 12 ⟨rfl, rfl⟩ (Nat.le_of_ble_eq_true rfl) (Nat.le_of_ble_eq_true rfl) (by
        rintro E9 S9 A9 ⟨⟨rfl, h8⟩ | ⟨rfl, h8⟩, rfl, rfl⟩
        · refine r_catch C (tableOf []) (tableOf [(0, 9, 16, 15)]) (a := 0) (b := 9) (h := 12) (t := 28) rfl (by decide) (by decide) (by decide) (by decide) xl_28 pass_0 (fun q9 => ?_)
          refine r_astoreq C dL_costOf_12 (ls1_4 rfl (cat_R _ _ _)) ?_
          refine r_iconst C dL_costOf_14 ?_
          exact f_I F dL_costOf_15 (by omega) ⟨rfl, Fr.rf, Or.inr (Or.inl ⟨rfl, h8⟩)⟩ (Nat.le_of_ble_eq_true rfl) (Nat.le_of_ble_eq_true rfl)
        · refine r_catch C (tableOf [(0, 9, 12, 28)]) (tableOf []) (a := 0) (b := 9) (h := 16) (t := 15) rfl (by decide) (by decide) (by decide) (by decide) xl_15 (pass_1 (q := (0, 9, 12, 28)) (by decide) xl_28 (by decide) pass_0) (fun q9 => ?_)
          refine r_astoreq C dL_costOf_16 (ls1_4 rfl (cat_R _ _ _)) ?_
          refine r_iconst C dL_costOf_18 ?_
          exact f_I F dL_costOf_19 (by omega) ⟨rfl, Fr.rf, Or.inr (Or.inr ⟨rfl, h8⟩)⟩ (Nat.le_of_ble_eq_true rfl) (Nat.le_of_ble_eq_true rfl)) (fun z5 S5 A5 i5 p5 => ?_)
    obtain ⟨rfl, hc5, rfl, hF5⟩ := p5
    have h40x := h40
    refine r_last C (N := 1) 1280 dL_costOf_8 (by decide) rfl rfl h40x (by omega) (by omega) (by omega) (by omega) ?_
    refine r_goto C (tgt := 20) dL_costOf_9 (by decide) ?_
    refine r_iconst C dL_costOf_20 ?_
    exact f_I F dL_costOf_21 (by omega) ⟨rfl, ((hF5.sub (by decide)).tr (Fr.up (by decide))), Or.inl ⟨rfl, hc5, (by rw [upS_self]; first | exact (cI_t hy0).symm | exact (cI_f hy0).symm)⟩⟩ (Nat.le_of_ble_eq_true rfl) (Nat.le_of_ble_eq_true rfl)
set_option maxRecDepth 20000 in
theorem cL_partOf_ {G : GT} {l : Launch} (hfl : l.stackTraces = false) {S : ST} {A : AB} {a b : Int} {R : RW} (hCK : CK R S A) (hR : RG R) (ha : rI a) (hb : rI b) (h40 : lv1 A 40 0) : CTH G l yL_partOf cL_partOf 5 (some .int) [(0, 10, 13, 28), (0, 10, 17, 15)] (rmk 8 3 18 137) S A [vR A 6 0, vI a, vI b, vR A 40 0] (oI fun z S' A' => A = A' ∧ Fr CHG S S' ∧ ((z = 0 ∧ (((0 ≤ a ∧ a < R.n) ∧ (0 ≤ b ∧ b < R.n)) ∧ R.kd a = 3) ∧ ptC R a b (S' 1280 0)) ∨ (z = 1 ∧ ¬ ((0 ≤ a ∧ a < R.n) ∧ (0 ≤ b ∧ b < R.n))) ∨ (z = 2 ∧ (((0 ≤ a ∧ a < R.n) ∧ (0 ≤ b ∧ b < R.n)) ∧ ¬ R.kd a = 3)))) (noX) := by
  have hl6 := hCK.1.1
  refine ct_ofNH (own := RL) (mn := "partOf") rfl rfl (by decide) hfl (lv0 := [some (vR A 6 0), some (vI a), some (vI b), some (vR A 40 0), none]) (ent_1 (cat_R _ _ _) (ent_1 rfl (ent_1 rfl (ent_1 (cat_R _ _ _) (ent_n ent_0))))) rfl ?_
  intro J X C F hW hA
  refine r_aload_n C dL_partOf_0 lg_3 ?_
  refine r_iconst C dL_partOf_1 ?_
  refine r_aload_n C dL_partOf_2 lg_0 ?_
  refine r_iload_n C dL_partOf_3 lg_1 ?_
  refine r_iload_n C dL_partOf_4 lg_2 ?_
  refine r_V2I C (cB_partOf hfl hCK hR.1 hR ha hb) dL_partOf_5 lk_L_54 hl6 ⟨Nat.le_of_ble_eq_true rfl, Nat.le_of_ble_eq_true rfl⟩ (catLe (Nat.le_of_ble_eq_true rfl)) 3 18 ⟨rfl, rfl⟩ (Nat.le_of_ble_eq_true rfl) (Nat.le_of_ble_eq_true rfl) (by
      rintro E9 S9 A9 ⟨⟨rfl, h8⟩ | ⟨rfl, h8⟩, rfl, rfl⟩
      · refine r_catch C (tableOf []) (tableOf [(0, 10, 17, 15)]) (a := 0) (b := 10) (h := 13) (t := 28) rfl (by decide) (by decide) (by decide) (by decide) xl_28 pass_0 (fun q9 => ?_)
        refine r_astoreq C dL_partOf_13 (ls1_4 rfl (cat_R _ _ _)) ?_
        refine r_iconst C dL_partOf_15 ?_
        exact f_I F dL_partOf_16 (by omega) ⟨rfl, Fr.rf, Or.inr (Or.inl ⟨rfl, h8⟩)⟩ (Nat.le_of_ble_eq_true rfl) (Nat.le_of_ble_eq_true rfl)
      · refine r_catch C (tableOf [(0, 10, 13, 28)]) (tableOf []) (a := 0) (b := 10) (h := 17) (t := 15) rfl (by decide) (by decide) (by decide) (by decide) xl_15 (pass_1 (q := (0, 10, 13, 28)) (by decide) xl_28 (by decide) pass_0) (fun q9 => ?_)
        refine r_astoreq C dL_partOf_17 (ls1_4 rfl (cat_R _ _ _)) ?_
        refine r_iconst C dL_partOf_19 ?_
        exact f_I F dL_partOf_20 (by omega) ⟨rfl, Fr.rf, Or.inr (Or.inr ⟨rfl, h8⟩)⟩ (Nat.le_of_ble_eq_true rfl) (Nat.le_of_ble_eq_true rfl)) (fun z5 S5 A5 i5 p5 => ?_)
  obtain ⟨hp5, hc5, rfl, rfl⟩ := p5
  have h40x := h40
  refine r_i2l C dL_partOf_8 (by omega) ?_
  refine r_last C (N := 1) 1280 dL_partOf_9 (by decide) rfl rfl h40x (by omega) (by omega) (by omega) (by omega) ?_
  refine r_goto C (tgt := 21) dL_partOf_10 (by decide) ?_
  refine r_iconst C dL_partOf_21 ?_
  exact f_I F dL_partOf_22 (by omega) ⟨rfl, Fr.up (by decide), Or.inl ⟨rfl, hc5, (by rw [upS_self]; exact hp5)⟩⟩ (Nat.le_of_ble_eq_true rfl) (Nat.le_of_ble_eq_true rfl)
set_option maxRecDepth 20000 in
theorem cL_layerQuantity_ {G : GT} {l : Launch} (hfl : l.stackTraces = false) {S : ST} {A : AB} {item day lay : Int} {R : RW} (hCK : CK R S A) (hR : RG R) (hR2 : RG2 R) (hV : ∀ i, 0 ≤ i → i ≤ 5 → RV R i) (hi : rI item) (hd : rI day) (hl : rI lay) (h40 : lv1 A 40 0) : CTH G l yL_layerQuantity cL_layerQuantity 6 (some .int) [(0, 12, 15, 13), (0, 12, 19, 28)] (rmk 10 3 18 180) S A [vR A 6 0, vI item, vI day, vI lay, vR A 40 0] (oI fun z S' A' => A = A' ∧ Fr CHG S S' ∧ ((z = 0 ∧ ((0 ≤ lay ∧ lay < (WKr R item day (icF S)).q.length) ∧ akOk item day) ∧ S' 1280 0 = (qat (WKr R item day (icF S)).q lay).1) ∨ (z = 1 ∧ ¬ akOk item day) ∨ (z = 2 ∧ (akOk item day ∧ ¬ (0 ≤ lay ∧ lay < (WKr R item day (icF S)).q.length))))) (noX) := by
  have hl6 := hCK.1.1
  refine ct_ofNH (own := RL) (mn := "layerQuantity") rfl rfl (by decide) hfl (lv0 := [some (vR A 6 0), some (vI item), some (vI day), some (vI lay), some (vR A 40 0), none]) (ent_1 (cat_R _ _ _) (ent_1 rfl (ent_1 rfl (ent_1 rfl (ent_1 (cat_R _ _ _) (ent_n ent_0)))))) rfl ?_
  intro J X C F hW hA
  refine r_aload C dL_layerQuantity_0 lg_4 ?_
  refine r_iconst C dL_layerQuantity_2 ?_
  refine r_aload_n C dL_layerQuantity_3 lg_0 ?_
  refine r_iload_n C dL_layerQuantity_4 lg_1 ?_
  refine r_iload_n C dL_layerQuantity_5 lg_2 ?_
  refine r_iload_n C dL_layerQuantity_6 lg_3 ?_
  refine r_V3I C (cB_layerQuantity hfl hCK hR hR2 hV hi hd hl) dL_layerQuantity_7 lk_L_87 hl6 ⟨Nat.le_of_ble_eq_true rfl, Nat.le_of_ble_eq_true rfl⟩ (catLe (Nat.le_of_ble_eq_true rfl)) 3 18 ⟨rfl, rfl⟩ (Nat.le_of_ble_eq_true rfl) (Nat.le_of_ble_eq_true rfl) (by
      rintro E9 S9 A9 (⟨rfl, h8, rfl, rfl⟩ | ⟨rfl, h7, h8, rfl, hF⟩)
      · refine r_catch C (tableOf []) (tableOf [(0, 12, 19, 28)]) (a := 0) (b := 12) (h := 15) (t := 13) rfl (by decide) (by decide) (by decide) (by decide) xl_13 pass_0 (fun q9 => ?_)
        refine r_astoreq C dL_layerQuantity_15 (ls1_5 rfl (cat_R _ _ _)) ?_
        refine r_iconst C dL_layerQuantity_17 ?_
        exact f_I F dL_layerQuantity_18 (by omega) ⟨rfl, Fr.rf, Or.inr (Or.inl ⟨rfl, h8⟩)⟩ (Nat.le_of_ble_eq_true rfl) (Nat.le_of_ble_eq_true rfl)
      · refine r_catch C (tableOf [(0, 12, 15, 13)]) (tableOf []) (a := 0) (b := 12) (h := 19) (t := 28) rfl (by decide) (by decide) (by decide) (by decide) xl_28 (pass_1 (q := (0, 12, 15, 13)) (by decide) xl_13 (by decide) pass_0) (fun q9 => ?_)
        refine r_astoreq C dL_layerQuantity_19 (ls1_5 rfl (cat_R _ _ _)) ?_
        refine r_iconst C dL_layerQuantity_21 ?_
        exact f_I F dL_layerQuantity_22 (by omega) ⟨rfl, (hF.sub (by decide)), Or.inr (Or.inr ⟨rfl, h7, h8⟩)⟩ (Nat.le_of_ble_eq_true rfl) (Nat.le_of_ble_eq_true rfl)) (fun z7 S7 A7 i7 p7 => ?_)
  obtain ⟨rfl, hc7, rfl, hF7⟩ := p7
  have h40x := h40
  refine r_i2l C dL_layerQuantity_10 (by omega) ?_
  refine r_last C (N := 1) 1280 dL_layerQuantity_11 (by decide) rfl rfl h40x (by omega) (by omega) (by omega) (by omega) ?_
  refine r_goto C (tgt := 23) dL_layerQuantity_12 (by decide) ?_
  refine r_iconst C dL_layerQuantity_23 ?_
  exact f_I F dL_layerQuantity_24 (by omega) ⟨rfl, ((hF7.sub (by decide)).tr (Fr.up (by decide))), Or.inl ⟨rfl, hc7, upS_self _ _ _ _⟩⟩ (Nat.le_of_ble_eq_true rfl) (Nat.le_of_ble_eq_true rfl)
set_option maxRecDepth 20000 in
theorem cL_layerCost_ {G : GT} {l : Launch} (hfl : l.stackTraces = false) {S : ST} {A : AB} {item day lay : Int} {R : RW} (hCK : CK R S A) (hR : RG R) (hR2 : RG2 R) (hV : ∀ i, 0 ≤ i → i ≤ 5 → RV R i) (hi : rI item) (hd : rI day) (hl : rI lay) (h40 : lv1 A 40 0) : CTH G l yL_layerCost cL_layerCost 6 (some .int) [(0, 11, 14, 13), (0, 11, 18, 28)] (rmk 10 3 18 180) S A [vR A 6 0, vI item, vI day, vI lay, vR A 40 0] (oI fun z S' A' => A = A' ∧ Fr CHG S S' ∧ ((z = 0 ∧ ((0 ≤ lay ∧ lay < (WKr R item day (icF S)).q.length) ∧ akOk item day) ∧ S' 1280 0 = (qat (WKr R item day (icF S)).q lay).2.1) ∨ (z = 1 ∧ ¬ akOk item day) ∨ (z = 2 ∧ (akOk item day ∧ ¬ (0 ≤ lay ∧ lay < (WKr R item day (icF S)).q.length))))) (noX) := by
  have hl6 := hCK.1.1
  refine ct_ofNH (own := RL) (mn := "layerCost") rfl rfl (by decide) hfl (lv0 := [some (vR A 6 0), some (vI item), some (vI day), some (vI lay), some (vR A 40 0), none]) (ent_1 (cat_R _ _ _) (ent_1 rfl (ent_1 rfl (ent_1 rfl (ent_1 (cat_R _ _ _) (ent_n ent_0)))))) rfl ?_
  intro J X C F hW hA
  refine r_aload C dL_layerCost_0 lg_4 ?_
  refine r_iconst C dL_layerCost_2 ?_
  refine r_aload_n C dL_layerCost_3 lg_0 ?_
  refine r_iload_n C dL_layerCost_4 lg_1 ?_
  refine r_iload_n C dL_layerCost_5 lg_2 ?_
  refine r_iload_n C dL_layerCost_6 lg_3 ?_
  refine r_V3J C (cB_layerCost hfl hCK hR hR2 hV hi hd hl) dL_layerCost_7 lk_L_90 hl6 ⟨Nat.le_of_ble_eq_true rfl, Nat.le_of_ble_eq_true rfl⟩ (catLe (Nat.le_of_ble_eq_true rfl)) 3 18 ⟨rfl, rfl⟩ (Nat.le_of_ble_eq_true rfl) (Nat.le_of_ble_eq_true rfl) (by
      rintro E9 S9 A9 (⟨rfl, h8, rfl, rfl⟩ | ⟨rfl, h7, h8, rfl, hF⟩)
      · refine r_catch C (tableOf []) (tableOf [(0, 11, 18, 28)]) (a := 0) (b := 11) (h := 14) (t := 13) rfl (by decide) (by decide) (by decide) (by decide) xl_13 pass_0 (fun q9 => ?_)
        refine r_astoreq C dL_layerCost_14 (ls1_5 rfl (cat_R _ _ _)) ?_
        refine r_iconst C dL_layerCost_16 ?_
        exact f_I F dL_layerCost_17 (by omega) ⟨rfl, Fr.rf, Or.inr (Or.inl ⟨rfl, h8⟩)⟩ (Nat.le_of_ble_eq_true rfl) (Nat.le_of_ble_eq_true rfl)
      · refine r_catch C (tableOf [(0, 11, 14, 13)]) (tableOf []) (a := 0) (b := 11) (h := 18) (t := 28) rfl (by decide) (by decide) (by decide) (by decide) xl_28 (pass_1 (q := (0, 11, 14, 13)) (by decide) xl_13 (by decide) pass_0) (fun q9 => ?_)
        refine r_astoreq C dL_layerCost_18 (ls1_5 rfl (cat_R _ _ _)) ?_
        refine r_iconst C dL_layerCost_20 ?_
        exact f_I F dL_layerCost_21 (by omega) ⟨rfl, (hF.sub (by decide)), Or.inr (Or.inr ⟨rfl, h7, h8⟩)⟩ (Nat.le_of_ble_eq_true rfl) (Nat.le_of_ble_eq_true rfl)) (fun z7 S7 A7 i7 p7 => ?_)
  obtain ⟨rfl, hc7, rfl, hF7⟩ := p7
  have h40x := h40
  refine r_last C (N := 1) 1280 dL_layerCost_10 (by decide) rfl rfl h40x (by omega) (by omega) (by omega) (by omega) ?_
  refine r_goto C (tgt := 22) dL_layerCost_11 (by decide) ?_
  refine r_iconst C dL_layerCost_22 ?_
  exact f_I F dL_layerCost_23 (by omega) ⟨rfl, ((hF7.sub (by decide)).tr (Fr.up (by decide))), Or.inl ⟨rfl, hc7, upS_self _ _ _ _⟩⟩ (Nat.le_of_ble_eq_true rfl) (Nat.le_of_ble_eq_true rfl)
set_option maxRecDepth 20000 in
theorem cL_layerOrigin_ {G : GT} {l : Launch} (hfl : l.stackTraces = false) {S : ST} {A : AB} {item day lay : Int} {R : RW} (hCK : CK R S A) (hR : RG R) (hR2 : RG2 R) (hV : ∀ i, 0 ≤ i → i ≤ 5 → RV R i) (hi : rI item) (hd : rI day) (hl : rI lay) (h40 : lv1 A 40 0) : CTH G l yL_layerOrigin cL_layerOrigin 6 (some .int) [(0, 12, 15, 13), (0, 12, 19, 28)] (rmk 10 3 18 180) S A [vR A 6 0, vI item, vI day, vI lay, vR A 40 0] (oI fun z S' A' => A = A' ∧ Fr CHG S S' ∧ ((z = 0 ∧ ((0 ≤ lay ∧ lay < (WKr R item day (icF S)).q.length) ∧ akOk item day) ∧ S' 1280 0 = (qat (WKr R item day (icF S)).q lay).2.2) ∨ (z = 1 ∧ ¬ akOk item day) ∨ (z = 2 ∧ (akOk item day ∧ ¬ (0 ≤ lay ∧ lay < (WKr R item day (icF S)).q.length))))) (noX) := by
  have hl6 := hCK.1.1
  refine ct_ofNH (own := RL) (mn := "layerOrigin") rfl rfl (by decide) hfl (lv0 := [some (vR A 6 0), some (vI item), some (vI day), some (vI lay), some (vR A 40 0), none]) (ent_1 (cat_R _ _ _) (ent_1 rfl (ent_1 rfl (ent_1 rfl (ent_1 (cat_R _ _ _) (ent_n ent_0)))))) rfl ?_
  intro J X C F hW hA
  refine r_aload C dL_layerOrigin_0 lg_4 ?_
  refine r_iconst C dL_layerOrigin_2 ?_
  refine r_aload_n C dL_layerOrigin_3 lg_0 ?_
  refine r_iload_n C dL_layerOrigin_4 lg_1 ?_
  refine r_iload_n C dL_layerOrigin_5 lg_2 ?_
  refine r_iload_n C dL_layerOrigin_6 lg_3 ?_
  refine r_V3I C (cB_layerOrigin hfl hCK hR hR2 hV hi hd hl) dL_layerOrigin_7 lk_L_94 hl6 ⟨Nat.le_of_ble_eq_true rfl, Nat.le_of_ble_eq_true rfl⟩ (catLe (Nat.le_of_ble_eq_true rfl)) 3 18 ⟨rfl, rfl⟩ (Nat.le_of_ble_eq_true rfl) (Nat.le_of_ble_eq_true rfl) (by
      rintro E9 S9 A9 (⟨rfl, h8, rfl, rfl⟩ | ⟨rfl, h7, h8, rfl, hF⟩)
      · refine r_catch C (tableOf []) (tableOf [(0, 12, 19, 28)]) (a := 0) (b := 12) (h := 15) (t := 13) rfl (by decide) (by decide) (by decide) (by decide) xl_13 pass_0 (fun q9 => ?_)
        refine r_astoreq C dL_layerOrigin_15 (ls1_5 rfl (cat_R _ _ _)) ?_
        refine r_iconst C dL_layerOrigin_17 ?_
        exact f_I F dL_layerOrigin_18 (by omega) ⟨rfl, Fr.rf, Or.inr (Or.inl ⟨rfl, h8⟩)⟩ (Nat.le_of_ble_eq_true rfl) (Nat.le_of_ble_eq_true rfl)
      · refine r_catch C (tableOf [(0, 12, 15, 13)]) (tableOf []) (a := 0) (b := 12) (h := 19) (t := 28) rfl (by decide) (by decide) (by decide) (by decide) xl_28 (pass_1 (q := (0, 12, 15, 13)) (by decide) xl_13 (by decide) pass_0) (fun q9 => ?_)
        refine r_astoreq C dL_layerOrigin_19 (ls1_5 rfl (cat_R _ _ _)) ?_
        refine r_iconst C dL_layerOrigin_21 ?_
        exact f_I F dL_layerOrigin_22 (by omega) ⟨rfl, (hF.sub (by decide)), Or.inr (Or.inr ⟨rfl, h7, h8⟩)⟩ (Nat.le_of_ble_eq_true rfl) (Nat.le_of_ble_eq_true rfl)) (fun z7 S7 A7 i7 p7 => ?_)
  obtain ⟨rfl, hc7, rfl, hF7⟩ := p7
  have h40x := h40
  refine r_i2l C dL_layerOrigin_10 (by omega) ?_
  refine r_last C (N := 1) 1280 dL_layerOrigin_11 (by decide) rfl rfl h40x (by omega) (by omega) (by omega) (by omega) ?_
  refine r_goto C (tgt := 23) dL_layerOrigin_12 (by decide) ?_
  refine r_iconst C dL_layerOrigin_23 ?_
  exact f_I F dL_layerOrigin_24 (by omega) ⟨rfl, ((hF7.sub (by decide)).tr (Fr.up (by decide))), Or.inl ⟨rfl, hc7, upS_self _ _ _ _⟩⟩ (Nat.le_of_ble_eq_true rfl) (Nat.le_of_ble_eq_true rfl)
set_option maxRecDepth 20000 in
theorem cL_close_ {G : GT} {l : Launch} (hfl : l.stackTraces = false) {S : ST} {A : AB} {d : Int} (hl6 : lv1 A 6 0) (hd : rI d) (h40 : lv1 A 40 0) : CTH G l yL_close cL_close 4 (some .int) [(0, 9, 12, 13), (0, 9, 15, 15)] (rmk 8 2 12 134) S A [vR A 6 0, vI d, vR A 40 0] (oI fun z S' A' => A = A' ∧ ((z = 0 ∧ ((0 ≤ d ∧ d ≤ 364) ∧ S 198 0 < d) ∧ S' = upS (upS S 198 0 d) 1280 0 (S 198 0)) ∨ (z = 1 ∧ ¬ (0 ≤ d ∧ d ≤ 364) ∧ S' = S) ∨ (z = 2 ∧ ((0 ≤ d ∧ d ≤ 364) ∧ ¬ S 198 0 < d) ∧ S' = S))) (noX) := by
  refine ct_ofNH (own := RL) (mn := "close") rfl rfl (by decide) hfl (lv0 := [some (vR A 6 0), some (vI d), some (vR A 40 0), none]) (ent_1 (cat_R _ _ _) (ent_1 rfl (ent_1 (cat_R _ _ _) (ent_n ent_0)))) rfl ?_
  intro J X C F hW hA
  refine r_aload_n C dL_close_0 lg_2 ?_
  refine r_iconst C dL_close_1 ?_
  refine r_aload_n C dL_close_2 lg_0 ?_
  refine r_iload_n C dL_close_3 lg_1 ?_
  refine r_V1I C (cB_close hfl hl6 hd) dL_close_4 lk_L_34 hl6 ⟨Nat.le_of_ble_eq_true rfl, Nat.le_of_ble_eq_true rfl⟩ (catLe (Nat.le_of_ble_eq_true rfl)) 2 12 ⟨rfl, rfl⟩ (Nat.le_of_ble_eq_true rfl) (Nat.le_of_ble_eq_true rfl) (by
      rintro E9 S9 A9 ⟨⟨rfl, h8⟩ | ⟨rfl, h8⟩, rfl, rfl⟩
      · refine r_catch C (tableOf []) (tableOf [(0, 9, 15, 15)]) (a := 0) (b := 9) (h := 12) (t := 13) rfl (by decide) (by decide) (by decide) (by decide) xl_13 pass_0 (fun q9 => ?_)
        refine r_astoreq_n C dL_close_12 (ls1_3 rfl (cat_R _ _ _)) ?_
        refine r_iconst C dL_close_13 ?_
        exact f_I F dL_close_14 (by omega) ⟨rfl, Or.inr (Or.inl ⟨rfl, h8, rfl⟩)⟩ (Nat.le_of_ble_eq_true rfl) (Nat.le_of_ble_eq_true rfl)
      · refine r_catch C (tableOf [(0, 9, 12, 13)]) (tableOf []) (a := 0) (b := 9) (h := 15) (t := 15) rfl (by decide) (by decide) (by decide) (by decide) xl_15 (pass_1 (q := (0, 9, 12, 13)) (by decide) xl_13 (by decide) pass_0) (fun q9 => ?_)
        refine r_astoreq_n C dL_close_15 (ls1_3 rfl (cat_R _ _ _)) ?_
        refine r_iconst C dL_close_16 ?_
        exact f_I F dL_close_17 (by omega) ⟨rfl, Or.inr (Or.inr ⟨rfl, h8, rfl⟩)⟩ (Nat.le_of_ble_eq_true rfl) (Nat.le_of_ble_eq_true rfl)) (fun z4 S4 A4 i4 p4 => ?_)
  obtain ⟨rfl, hc4, rfl, rfl⟩ := p4
  have h40x := h40
  refine r_i2l C dL_close_7 (by omega) ?_
  refine r_last C (N := 1) 1280 dL_close_8 (by decide) rfl rfl h40x (by omega) (by omega) (by omega) (by omega) ?_
  refine r_goto C (tgt := 18) dL_close_9 (by decide) ?_
  refine r_iconst C dL_close_18 ?_
  exact f_I F dL_close_19 (by omega) ⟨rfl, Or.inl ⟨rfl, hc4, rfl⟩⟩ (Nat.le_of_ble_eq_true rfl) (Nat.le_of_ble_eq_true rfl)
set_option maxRecDepth 20000 in
theorem cL_setWeight_ {G : GT} {l : Launch} (hfl : l.stackTraces = false) {S : ST} {A : AB} {i v : Int} (hl6 : lv1 A 6 0) (hl9 : lv1 A 9 0) (h196 : S 196 0 = 0) (hi : rI i) (hv : rI v) (h40 : lv1 A 40 0) : CTH G l yL_setWeight cL_setWeight 5 (some .int) [(0, 10, 13, 13)] (rmk 8 2 12 135) S A [vR A 6 0, vI i, vI v, vR A 40 0] (oI fun z S' A' => A = A' ∧ ((z = 0 ∧ ((0 ≤ i ∧ i ≤ 5) ∧ (1 ≤ v ∧ v ≤ 100)) ∧ S' = upS (upS S 288 i v) 1280 0 (S 288 i)) ∨ (z = 1 ∧ ¬ ((0 ≤ i ∧ i ≤ 5) ∧ (1 ≤ v ∧ v ≤ 100)) ∧ S' = S))) (noX) := by
  refine ct_ofNH (own := RL) (mn := "setWeight") rfl rfl (by decide) hfl (lv0 := [some (vR A 6 0), some (vI i), some (vI v), some (vR A 40 0), none]) (ent_1 (cat_R _ _ _) (ent_1 rfl (ent_1 rfl (ent_1 (cat_R _ _ _) (ent_n ent_0))))) rfl ?_
  intro J X C F hW hA
  refine r_aload_n C dL_setWeight_0 lg_3 ?_
  refine r_iconst C dL_setWeight_1 ?_
  refine r_aload_n C dL_setWeight_2 lg_0 ?_
  refine r_iload_n C dL_setWeight_3 lg_1 ?_
  refine r_iload_n C dL_setWeight_4 lg_2 ?_
  refine r_V2I C (cB_setw hfl hl6 hl9 h196 hi hv) dL_setWeight_5 lk_L_37 hl6 ⟨Nat.le_of_ble_eq_true rfl, Nat.le_of_ble_eq_true rfl⟩ (catLe (Nat.le_of_ble_eq_true rfl)) 2 12 ⟨rfl, rfl⟩ (Nat.le_of_ble_eq_true rfl) (Nat.le_of_ble_eq_true rfl) (by
      rintro E9 S9 A9 ⟨⟨rfl, h8⟩, rfl, rfl⟩
      refine r_catch C (tableOf []) (tableOf []) (a := 0) (b := 10) (h := 13) (t := 13) rfl (by decide) (by decide) (by decide) (by decide) xl_13 pass_0 (fun q9 => ?_)
      refine r_astoreq C dL_setWeight_13 (ls1_4 rfl (cat_R _ _ _)) ?_
      refine r_iconst C dL_setWeight_15 ?_
      exact f_I F dL_setWeight_16 (by omega) ⟨rfl, Or.inr ⟨rfl, h8, rfl⟩⟩ (Nat.le_of_ble_eq_true rfl) (Nat.le_of_ble_eq_true rfl)) (fun z5 S5 A5 i5 p5 => ?_)
  obtain ⟨rfl, hc5, rfl, rfl⟩ := p5
  have h40x := h40
  refine r_i2l C dL_setWeight_8 (by omega) ?_
  refine r_last C (N := 1) 1280 dL_setWeight_9 (by decide) rfl rfl h40x (by omega) (by omega) (by omega) (by omega) ?_
  refine r_goto C (tgt := 17) dL_setWeight_10 (by decide) ?_
  refine r_iconst C dL_setWeight_17 ?_
  exact f_I F dL_setWeight_18 (by omega) ⟨rfl, Or.inl ⟨rfl, hc5, rfl⟩⟩ (Nat.le_of_ble_eq_true rfl) (Nat.le_of_ble_eq_true rfl)
set_option maxRecDepth 20000 in
theorem cL_cancel_ {G : GT} {l : Launch} (hfl : l.stackTraces = false) {S : ST} {A : AB} {m : Int} {R : RW} (hCK : CK R S A) (hR : RG R) (hm : rI m) (h40 : lv1 A 40 0) : CTH G l yL_cancel cL_cancel 4 (some .int) [(0, 9, 12, 28), (0, 9, 15, 15)] (rmk 9 4 24 154) S A [vR A 6 0, vI m, vR A 40 0] (oI fun z S' A' => A = A' ∧ ((z = 0 ∧ ((0 ≤ m ∧ m < R.n) ∧ (S 103 m = 0 ∧ S 198 0 < S 98 m ∧ (S 97 m = 0 → (¬ (∃ x ∈ LdR R, m ∈ (shR R x).map Prod.fst) ∧ S 100 m ≤ spf (S 98) (S 96) (S 99) (dlt (S 97) (S 100)) (S 100) (fun m => S 97 m = 1 ∨ S 97 m = 2) (S 99 m) (S 98 m) (S 96 m) (LdR R) 0 0)))) ∧ ∃ S9, CK (rwC R m) S9 A ∧ Fr [103, 104, 64, 65] S S9 ∧ S' = upS S9 1280 0 ((LdR (rwC R m)).length : Int)) ∨ (z = 1 ∧ ¬ (0 ≤ m ∧ m < R.n) ∧ S' = S) ∨ (z = 2 ∧ ((0 ≤ m ∧ m < R.n) ∧ ¬ (S 103 m = 0 ∧ S 198 0 < S 98 m ∧ (S 97 m = 0 → (¬ (∃ x ∈ LdR R, m ∈ (shR R x).map Prod.fst) ∧ S 100 m ≤ spf (S 98) (S 96) (S 99) (dlt (S 97) (S 100)) (S 100) (fun m => S 97 m = 1 ∨ S 97 m = 2) (S 99 m) (S 98 m) (S 96 m) (LdR R) 0 0)))) ∧ S' = S))) (noX) := by
  have hl6 := hCK.1.1
  refine ct_ofNH (own := RL) (mn := "cancel") rfl rfl (by decide) hfl (lv0 := [some (vR A 6 0), some (vI m), some (vR A 40 0), none]) (ent_1 (cat_R _ _ _) (ent_1 rfl (ent_1 (cat_R _ _ _) (ent_n ent_0)))) rfl ?_
  intro J X C F hW hA
  refine r_aload_n C dL_cancel_0 lg_2 ?_
  refine r_iconst C dL_cancel_1 ?_
  refine r_aload_n C dL_cancel_2 lg_0 ?_
  refine r_iload_n C dL_cancel_3 lg_1 ?_
  refine r_V1I C (cB_cancel hfl hCK hR hm) dL_cancel_4 lk_L_30 hl6 ⟨Nat.le_of_ble_eq_true rfl, Nat.le_of_ble_eq_true rfl⟩ (catLe (Nat.le_of_ble_eq_true rfl)) 4 24 ⟨rfl, rfl⟩ (Nat.le_of_ble_eq_true rfl) (Nat.le_of_ble_eq_true rfl) (by
      rintro E9 S9 A9 ⟨⟨rfl, h8⟩ | ⟨rfl, h8⟩, rfl, rfl⟩
      · refine r_catch C (tableOf []) (tableOf [(0, 9, 15, 15)]) (a := 0) (b := 9) (h := 12) (t := 28) rfl (by decide) (by decide) (by decide) (by decide) xl_28 pass_0 (fun q9 => ?_)
        refine r_astoreq_n C dL_cancel_12 (ls1_3 rfl (cat_R _ _ _)) ?_
        refine r_iconst C dL_cancel_13 ?_
        exact f_I F dL_cancel_14 (by omega) ⟨rfl, Or.inr (Or.inl ⟨rfl, h8, rfl⟩)⟩ (Nat.le_of_ble_eq_true rfl) (Nat.le_of_ble_eq_true rfl)
      · refine r_catch C (tableOf [(0, 9, 12, 28)]) (tableOf []) (a := 0) (b := 9) (h := 15) (t := 15) rfl (by decide) (by decide) (by decide) (by decide) xl_15 (pass_1 (q := (0, 9, 12, 28)) (by decide) xl_28 (by decide) pass_0) (fun q9 => ?_)
        refine r_astoreq_n C dL_cancel_15 (ls1_3 rfl (cat_R _ _ _)) ?_
        refine r_iconst C dL_cancel_16 ?_
        exact f_I F dL_cancel_17 (by omega) ⟨rfl, Or.inr (Or.inr ⟨rfl, h8, rfl⟩)⟩ (Nat.le_of_ble_eq_true rfl) (Nat.le_of_ble_eq_true rfl)) (fun z4 S4 A4 i4 p4 => ?_)
  obtain ⟨rfl, hc4, hk4, rfl, hF4⟩ := p4
  have h40x := h40
  refine r_i2l C dL_cancel_7 (by omega) ?_
  refine r_last C (N := 1) 1280 dL_cancel_8 (by decide) rfl rfl h40x (by omega) (by omega) (by omega) (by omega) ?_
  refine r_goto C (tgt := 18) dL_cancel_9 (by decide) ?_
  refine r_iconst C dL_cancel_18 ?_
  exact f_I F dL_cancel_19 (by omega) ⟨rfl, Or.inl ⟨rfl, hc4, _, hk4, hF4, rfl⟩⟩ (Nat.le_of_ble_eq_true rfl) (Nat.le_of_ble_eq_true rfl)
set_option maxRecDepth 20000 in
theorem cL_receive_ {G : GT} {l : Launch} (hfl : l.stackTraces = false) {S : ST} {A : AB} {d item q c : Int} {R : RW} (hCK : CK R S A) (hR : RG R) (h1 : rI d) (h2 : rI item) (h3 : rI q) (h4 : rI c) (h40 : lv1 A 40 0) : CTH G l yL_receive cL_receive 7 (some .int) [(0, 14, 17, 13), (0, 14, 21, 15)] (rmk 9 8 51 157) S A [vR A 6 0, vI d, vI item, vI q, vI c, vR A 40 0] (oI fun z S' A' => (z = 0 ∧ ((akOk item d ∧ (1 ≤ q ∧ q ≤ 1000) ∧ (0 ≤ c ∧ c ≤ 1000000)) ∧ (S 198 0 < d ∧ S 197 0 < 60) ∧ True) ∧ ∃ S9, CK (rwP R 0 d item q c 0 R.pt) S9 A' ∧ CN S A S9 A' ∧ S' = upS S9 1280 0 R.n) ∨ (z = 1 ∧ ¬ (akOk item d ∧ (1 ≤ q ∧ q ≤ 1000) ∧ (0 ≤ c ∧ c ≤ 1000000)) ∧ S' = S ∧ A' = A) ∨ (z = 2 ∧ ((akOk item d ∧ (1 ≤ q ∧ q ≤ 1000) ∧ (0 ≤ c ∧ c ≤ 1000000)) ∧ ¬ ((S 198 0 < d ∧ S 197 0 < 60) ∧ True)) ∧ S' = S ∧ A' = A)) (noX) := by
  have hl6 := hCK.1.1
  refine ct_ofNH (own := RL) (mn := "receive") rfl rfl (by decide) hfl (lv0 := [some (vR A 6 0), some (vI d), some (vI item), some (vI q), some (vI c), some (vR A 40 0), none]) (ent_1 (cat_R _ _ _) (ent_1 rfl (ent_1 rfl (ent_1 rfl (ent_1 rfl (ent_1 (cat_R _ _ _) (ent_n ent_0))))))) rfl ?_
  intro J X C F hW hA
  refine r_aload C dL_receive_0 lg_5 ?_
  refine r_iconst C dL_receive_2 ?_
  refine r_aload_n C dL_receive_3 lg_0 ?_
  refine r_iload_n C dL_receive_4 lg_1 ?_
  refine r_iload_n C dL_receive_5 lg_2 ?_
  refine r_iload_n C dL_receive_6 lg_3 ?_
  refine r_iload C dL_receive_7 lg_4 ?_
  refine r_V4I C (cB_receive hfl hCK hR h1 h2 h3 h4) dL_receive_9 lk_L_7 hl6 ⟨Nat.le_of_ble_eq_true rfl, Nat.le_of_ble_eq_true rfl⟩ (catLe (Nat.le_of_ble_eq_true rfl)) 8 51 ⟨rfl, rfl⟩ (Nat.le_of_ble_eq_true rfl) (Nat.le_of_ble_eq_true rfl) (by
      rintro E9 S9 A9 ⟨⟨rfl, h8⟩ | ⟨rfl, h8⟩, rfl, rfl⟩
      · refine r_catch C (tableOf []) (tableOf [(0, 14, 21, 15)]) (a := 0) (b := 14) (h := 17) (t := 13) rfl (by decide) (by decide) (by decide) (by decide) xl_13 pass_0 (fun q9 => ?_)
        refine r_astoreq C dL_receive_17 (ls1_6 rfl (cat_R _ _ _)) ?_
        refine r_iconst C dL_receive_19 ?_
        exact f_I F dL_receive_20 (by omega) (Or.inr (Or.inl ⟨rfl, h8, rfl, rfl⟩)) (Nat.le_of_ble_eq_true rfl) (Nat.le_of_ble_eq_true rfl)
      · refine r_catch C (tableOf [(0, 14, 17, 13)]) (tableOf []) (a := 0) (b := 14) (h := 21) (t := 15) rfl (by decide) (by decide) (by decide) (by decide) xl_15 (pass_1 (q := (0, 14, 17, 13)) (by decide) xl_13 (by decide) pass_0) (fun q9 => ?_)
        refine r_astoreq C dL_receive_21 (ls1_6 rfl (cat_R _ _ _)) ?_
        refine r_iconst C dL_receive_23 ?_
        exact f_I F dL_receive_24 (by omega) (Or.inr (Or.inr ⟨rfl, h8, rfl, rfl⟩)) (Nat.le_of_ble_eq_true rfl) (Nat.le_of_ble_eq_true rfl)) (fun z9 S9 A9 i9 p9 => ?_)
  obtain ⟨rfl, hc9, hk9, hn9⟩ := p9
  rw [← (hn9.1 40 0 h40.2).1]
  have h40x := (show lv1 _ 40 0 from ⟨h40.1, (hn9.1 40 0 h40.2).2⟩)
  refine r_i2l C dL_receive_12 (by omega) ?_
  refine r_last C (N := 1) 1280 dL_receive_13 (by decide) rfl rfl h40x (by omega) (by omega) (by omega) (by omega) ?_
  refine r_goto C (tgt := 25) dL_receive_14 (by decide) ?_
  refine r_iconst C dL_receive_25 ?_
  exact f_I F dL_receive_26 (by omega) (Or.inl ⟨rfl, hc9, _, hk9, hn9, rfl⟩) (Nat.le_of_ble_eq_true rfl) (Nat.le_of_ble_eq_true rfl)
set_option maxRecDepth 20000 in
theorem cL_issue_ {G : GT} {l : Launch} (hfl : l.stackTraces = false) {S : ST} {A : AB} {d item q : Int} {R : RW} (hCK : CK R S A) (hR : RG R) (h1 : rI d) (h2 : rI item) (h3 : rI q) (h40 : lv1 A 40 0) : CTH G l yL_issue cL_issue 6 (some .int) [(0, 12, 15, 13), (0, 12, 19, 15)] (rmk 9 8 51 156) S A [vR A 6 0, vI d, vI item, vI q, vR A 40 0] (oI fun z S' A' => (z = 0 ∧ ((akOk item d ∧ (1 ≤ q ∧ q ≤ 1000)) ∧ (S 198 0 < d ∧ S 197 0 < 60) ∧ q ≤ spf (S 98) (S 96) (S 99) (dlt (S 97) (S 100)) (S 100) (fun m => S 97 m = 1 ∨ S 97 m = 2) item d 60 (LdR R) 0 0) ∧ ∃ S9, CK (rwP R 1 d item q 0 0 R.pt) S9 A' ∧ CN S A S9 A' ∧ S' = upS S9 1280 0 R.n) ∨ (z = 1 ∧ ¬ (akOk item d ∧ (1 ≤ q ∧ q ≤ 1000)) ∧ S' = S ∧ A' = A) ∨ (z = 2 ∧ ((akOk item d ∧ (1 ≤ q ∧ q ≤ 1000)) ∧ ¬ ((S 198 0 < d ∧ S 197 0 < 60) ∧ q ≤ spf (S 98) (S 96) (S 99) (dlt (S 97) (S 100)) (S 100) (fun m => S 97 m = 1 ∨ S 97 m = 2) item d 60 (LdR R) 0 0)) ∧ S' = S ∧ A' = A)) (noX) := by
  have hl6 := hCK.1.1
  refine ct_ofNH (own := RL) (mn := "issue") rfl rfl (by decide) hfl (lv0 := [some (vR A 6 0), some (vI d), some (vI item), some (vI q), some (vR A 40 0), none]) (ent_1 (cat_R _ _ _) (ent_1 rfl (ent_1 rfl (ent_1 rfl (ent_1 (cat_R _ _ _) (ent_n ent_0)))))) rfl ?_
  intro J X C F hW hA
  refine r_aload C dL_issue_0 lg_4 ?_
  refine r_iconst C dL_issue_2 ?_
  refine r_aload_n C dL_issue_3 lg_0 ?_
  refine r_iload_n C dL_issue_4 lg_1 ?_
  refine r_iload_n C dL_issue_5 lg_2 ?_
  refine r_iload_n C dL_issue_6 lg_3 ?_
  refine r_V3I C (cB_issue hfl hCK hR h1 h2 h3) dL_issue_7 lk_L_17 hl6 ⟨Nat.le_of_ble_eq_true rfl, Nat.le_of_ble_eq_true rfl⟩ (catLe (Nat.le_of_ble_eq_true rfl)) 8 51 ⟨rfl, rfl⟩ (Nat.le_of_ble_eq_true rfl) (Nat.le_of_ble_eq_true rfl) (by
      rintro E9 S9 A9 ⟨⟨rfl, h8⟩ | ⟨rfl, h8⟩, rfl, rfl⟩
      · refine r_catch C (tableOf []) (tableOf [(0, 12, 19, 15)]) (a := 0) (b := 12) (h := 15) (t := 13) rfl (by decide) (by decide) (by decide) (by decide) xl_13 pass_0 (fun q9 => ?_)
        refine r_astoreq C dL_issue_15 (ls1_5 rfl (cat_R _ _ _)) ?_
        refine r_iconst C dL_issue_17 ?_
        exact f_I F dL_issue_18 (by omega) (Or.inr (Or.inl ⟨rfl, h8, rfl, rfl⟩)) (Nat.le_of_ble_eq_true rfl) (Nat.le_of_ble_eq_true rfl)
      · refine r_catch C (tableOf [(0, 12, 15, 13)]) (tableOf []) (a := 0) (b := 12) (h := 19) (t := 15) rfl (by decide) (by decide) (by decide) (by decide) xl_15 (pass_1 (q := (0, 12, 15, 13)) (by decide) xl_13 (by decide) pass_0) (fun q9 => ?_)
        refine r_astoreq C dL_issue_19 (ls1_5 rfl (cat_R _ _ _)) ?_
        refine r_iconst C dL_issue_21 ?_
        exact f_I F dL_issue_22 (by omega) (Or.inr (Or.inr ⟨rfl, h8, rfl, rfl⟩)) (Nat.le_of_ble_eq_true rfl) (Nat.le_of_ble_eq_true rfl)) (fun z7 S7 A7 i7 p7 => ?_)
  obtain ⟨rfl, hc7, hk7, hn7⟩ := p7
  rw [← (hn7.1 40 0 h40.2).1]
  have h40x := (show lv1 _ 40 0 from ⟨h40.1, (hn7.1 40 0 h40.2).2⟩)
  refine r_i2l C dL_issue_10 (by omega) ?_
  refine r_last C (N := 1) 1280 dL_issue_11 (by decide) rfl rfl h40x (by omega) (by omega) (by omega) (by omega) ?_
  refine r_goto C (tgt := 23) dL_issue_12 (by decide) ?_
  refine r_iconst C dL_issue_23 ?_
  exact f_I F dL_issue_24 (by omega) (Or.inl ⟨rfl, hc7, _, hk7, hn7, rfl⟩) (Nat.le_of_ble_eq_true rfl) (Nat.le_of_ble_eq_true rfl)
set_option maxRecDepth 20000 in
theorem cL_revalue_ {G : GT} {l : Launch} (hfl : l.stackTraces = false) {S : ST} {A : AB} {d item q c : Int} {R : RW} (hCK : CK R S A) (hR : RG R) (h1 : rI d) (h2 : rI item) (h3 : rI q) (h4 : rI c) (h40 : lv1 A 40 0) : CTH G l yL_revalue cL_revalue 7 (some .int) [(0, 14, 17, 13), (0, 14, 21, 15)] (rmk 9 9 57 157) S A [vR A 6 0, vI d, vI item, vI q, vI c, vR A 40 0] (oI fun z S' A' => (z = 0 ∧ ((akOk item d ∧ (1 ≤ q ∧ q ≤ 1000) ∧ (0 ≤ c ∧ c ≤ 1000000)) ∧ (S 198 0 < d ∧ S 197 0 < 60) ∧ q ≤ hAt (S 98) (dA S item) d (LdR R) 0) ∧ ∃ S9, CK (rwP R 2 d item q c 0 R.pt) S9 A' ∧ CN S A S9 A' ∧ S' = upS S9 1280 0 R.n) ∨ (z = 1 ∧ ¬ (akOk item d ∧ (1 ≤ q ∧ q ≤ 1000) ∧ (0 ≤ c ∧ c ≤ 1000000)) ∧ S' = S ∧ A' = A) ∨ (z = 2 ∧ ((akOk item d ∧ (1 ≤ q ∧ q ≤ 1000) ∧ (0 ≤ c ∧ c ≤ 1000000)) ∧ ¬ ((S 198 0 < d ∧ S 197 0 < 60) ∧ q ≤ hAt (S 98) (dA S item) d (LdR R) 0)) ∧ S' = S ∧ A' = A)) (noX) := by
  have hl6 := hCK.1.1
  refine ct_ofNH (own := RL) (mn := "revalue") rfl rfl (by decide) hfl (lv0 := [some (vR A 6 0), some (vI d), some (vI item), some (vI q), some (vI c), some (vR A 40 0), none]) (ent_1 (cat_R _ _ _) (ent_1 rfl (ent_1 rfl (ent_1 rfl (ent_1 rfl (ent_1 (cat_R _ _ _) (ent_n ent_0))))))) rfl ?_
  intro J X C F hW hA
  refine r_aload C dL_revalue_0 lg_5 ?_
  refine r_iconst C dL_revalue_2 ?_
  refine r_aload_n C dL_revalue_3 lg_0 ?_
  refine r_iload_n C dL_revalue_4 lg_1 ?_
  refine r_iload_n C dL_revalue_5 lg_2 ?_
  refine r_iload_n C dL_revalue_6 lg_3 ?_
  refine r_iload C dL_revalue_7 lg_4 ?_
  refine r_V4I C (cB_revalue hfl hCK hR h1 h2 h3 h4) dL_revalue_9 lk_L_21 hl6 ⟨Nat.le_of_ble_eq_true rfl, Nat.le_of_ble_eq_true rfl⟩ (catLe (Nat.le_of_ble_eq_true rfl)) 9 57 ⟨rfl, rfl⟩ (Nat.le_of_ble_eq_true rfl) (Nat.le_of_ble_eq_true rfl) (by
      rintro E9 S9 A9 ⟨⟨rfl, h8⟩ | ⟨rfl, h8⟩, rfl, rfl⟩
      · refine r_catch C (tableOf []) (tableOf [(0, 14, 21, 15)]) (a := 0) (b := 14) (h := 17) (t := 13) rfl (by decide) (by decide) (by decide) (by decide) xl_13 pass_0 (fun q9 => ?_)
        refine r_astoreq C dL_revalue_17 (ls1_6 rfl (cat_R _ _ _)) ?_
        refine r_iconst C dL_revalue_19 ?_
        exact f_I F dL_revalue_20 (by omega) (Or.inr (Or.inl ⟨rfl, h8, rfl, rfl⟩)) (Nat.le_of_ble_eq_true rfl) (Nat.le_of_ble_eq_true rfl)
      · refine r_catch C (tableOf [(0, 14, 17, 13)]) (tableOf []) (a := 0) (b := 14) (h := 21) (t := 15) rfl (by decide) (by decide) (by decide) (by decide) xl_15 (pass_1 (q := (0, 14, 17, 13)) (by decide) xl_13 (by decide) pass_0) (fun q9 => ?_)
        refine r_astoreq C dL_revalue_21 (ls1_6 rfl (cat_R _ _ _)) ?_
        refine r_iconst C dL_revalue_23 ?_
        exact f_I F dL_revalue_24 (by omega) (Or.inr (Or.inr ⟨rfl, h8, rfl, rfl⟩)) (Nat.le_of_ble_eq_true rfl) (Nat.le_of_ble_eq_true rfl)) (fun z9 S9 A9 i9 p9 => ?_)
  obtain ⟨rfl, hc9, hk9, hn9⟩ := p9
  rw [← (hn9.1 40 0 h40.2).1]
  have h40x := (show lv1 _ 40 0 from ⟨h40.1, (hn9.1 40 0 h40.2).2⟩)
  refine r_i2l C dL_revalue_12 (by omega) ?_
  refine r_last C (N := 1) 1280 dL_revalue_13 (by decide) rfl rfl h40x (by omega) (by omega) (by omega) (by omega) ?_
  refine r_goto C (tgt := 25) dL_revalue_14 (by decide) ?_
  refine r_iconst C dL_revalue_25 ?_
  exact f_I F dL_revalue_26 (by omega) (Or.inl ⟨rfl, hc9, _, hk9, hn9, rfl⟩) (Nat.le_of_ble_eq_true rfl) (Nat.le_of_ble_eq_true rfl)
set_option maxRecDepth 20000 in
theorem cL_land_ {G : GT} {l : Launch} (hfl : l.stackTraces = false) {S : ST} {A : AB} {d a b s : Int} {R : RW} (hCK : CK R S A) (hR : RG R) (h1 : rI d) (h2 : rI a) (h3 : rI b) (hs : rL s) (hwt : ∀ i, 0 ≤ i → i ≤ 5 → 0 ≤ S 288 i ∧ S 288 i ≤ 100) (hA5 : A.2 5 ≤ 100000) (h40 : lv1 A 40 0) : CTH G l yL_land cL_land 8 (some .int) [(0, 14, 17, 13), (0, 14, 21, 28), (0, 14, 25, 15)] (rmk 9 68 291 160) S A [vR A 6 0, vI d, vI a, vI b, vL s, vR A 40 0] (oI fun z S' A' => (z = 0 ∧ (((0 ≤ d ∧ d ≤ 364) ∧ (1 ≤ a ∧ a ≤ 1000000) ∧ (0 ≤ b ∧ b ≤ 2) ∧ ¬ s = 0) ∧ allR R.n 64 (fun m => ¬ hasB s m) ∧ (S 198 0 < d ∧ S 197 0 < 60) ∧ allR 0 R.n (fun m => hasB s m → S 103 m = 0 ∧ S 97 m = 0 ∧ S 98 m ≤ d) ∧ 0 < sumI (fun m => cI (hasB s m ∧ m < R.n) (bsC S b m) 0) 60) ∧ ∃ S9, CK (rwP R 3 d (-1) 0 a s (ptL R S a b s (sumI (fun m => cI (hasB s m ∧ m < R.n) (bsC S b m) 0) 60))) S9 A' ∧ CN S A S9 A' ∧ S' = upS S9 1280 0 R.n) ∨ (z = 1 ∧ ¬ ((0 ≤ d ∧ d ≤ 364) ∧ (1 ≤ a ∧ a ≤ 1000000) ∧ (0 ≤ b ∧ b ≤ 2) ∧ ¬ s = 0) ∧ S' = S ∧ A' = A) ∨ (z = 2 ∧ (((0 ≤ d ∧ d ≤ 364) ∧ (1 ≤ a ∧ a ≤ 1000000) ∧ (0 ≤ b ∧ b ≤ 2) ∧ ¬ s = 0) ∧ ¬ allR R.n 64 (fun m => ¬ hasB s m)) ∧ S' = S ∧ A' = A) ∨ (z = 3 ∧ (((0 ≤ d ∧ d ≤ 364) ∧ (1 ≤ a ∧ a ≤ 1000000) ∧ (0 ≤ b ∧ b ≤ 2) ∧ ¬ s = 0) ∧ allR R.n 64 (fun m => ¬ hasB s m) ∧ ¬ ((S 198 0 < d ∧ S 197 0 < 60) ∧ allR 0 R.n (fun m => hasB s m → S 103 m = 0 ∧ S 97 m = 0 ∧ S 98 m ≤ d) ∧ 0 < sumI (fun m => cI (hasB s m ∧ m < R.n) (bsC S b m) 0) 60)) ∧ S' = S ∧ A' = A)) (noX) := by
  have hl6 := hCK.1.1
  refine ct_ofNH (own := RL) (mn := "land") rfl rfl (by decide) hfl (lv0 := [some (vR A 6 0), some (vI d), some (vI a), some (vI b), some (vL s), none, some (vR A 40 0), none]) (ent_1 (cat_R _ _ _) (ent_1 rfl (ent_1 rfl (ent_1 rfl (ent_2 rfl (ent_1 (cat_R _ _ _) (ent_n ent_0))))))) rfl ?_
  intro J X C F hW hA
  refine r_aload C dL_land_0 lg_6 ?_
  refine r_iconst C dL_land_2 ?_
  refine r_aload_n C dL_land_3 lg_0 ?_
  refine r_iload_n C dL_land_4 lg_1 ?_
  refine r_iload_n C dL_land_5 lg_2 ?_
  refine r_iload_n C dL_land_6 lg_3 ?_
  refine r_lload C dL_land_7 lg_4 ?_
  refine r_V4I C (cB_land hfl hCK hR h1 h2 h3 hs hwt hA5) dL_land_9 lk_L_24 hl6 ⟨Nat.le_of_ble_eq_true rfl, Nat.le_of_ble_eq_true rfl⟩ (catLe (Nat.le_of_ble_eq_true rfl)) 68 291 ⟨rfl, rfl⟩ (Nat.le_of_ble_eq_true rfl) (Nat.le_of_ble_eq_true rfl) (by
      rintro E9 S9 A9 ⟨⟨rfl, h8⟩ | ⟨rfl, h8⟩ | ⟨rfl, h8⟩, rfl, rfl⟩
      · refine r_catch C (tableOf []) (tableOf [(0, 14, 21, 28), (0, 14, 25, 15)]) (a := 0) (b := 14) (h := 17) (t := 13) rfl (by decide) (by decide) (by decide) (by decide) xl_13 pass_0 (fun q9 => ?_)
        refine r_astoreq C dL_land_17 (ls1_7 rfl (cat_R _ _ _)) ?_
        refine r_iconst C dL_land_19 ?_
        exact f_I F dL_land_20 (by omega) (Or.inr (Or.inl ⟨rfl, h8, rfl, rfl⟩)) (Nat.le_of_ble_eq_true rfl) (Nat.le_of_ble_eq_true rfl)
      · refine r_catch C (tableOf [(0, 14, 17, 13)]) (tableOf [(0, 14, 25, 15)]) (a := 0) (b := 14) (h := 21) (t := 28) rfl (by decide) (by decide) (by decide) (by decide) xl_28 (pass_1 (q := (0, 14, 17, 13)) (by decide) xl_13 (by decide) pass_0) (fun q9 => ?_)
        refine r_astoreq C dL_land_21 (ls1_7 rfl (cat_R _ _ _)) ?_
        refine r_iconst C dL_land_23 ?_
        exact f_I F dL_land_24 (by omega) (Or.inr (Or.inr (Or.inl ⟨rfl, h8, rfl, rfl⟩))) (Nat.le_of_ble_eq_true rfl) (Nat.le_of_ble_eq_true rfl)
      · refine r_catch C (tableOf [(0, 14, 17, 13), (0, 14, 21, 28)]) (tableOf []) (a := 0) (b := 14) (h := 25) (t := 15) rfl (by decide) (by decide) (by decide) (by decide) xl_15 (pass_1 (q := (0, 14, 17, 13)) (by decide) xl_13 (by decide) (pass_1 (q := (0, 14, 21, 28)) (by decide) xl_28 (by decide) pass_0)) (fun q9 => ?_)
        refine r_astoreq C dL_land_25 (ls1_7 rfl (cat_R _ _ _)) ?_
        refine r_iconst C dL_land_27 ?_
        exact f_I F dL_land_28 (by omega) (Or.inr (Or.inr (Or.inr ⟨rfl, h8, rfl, rfl⟩))) (Nat.le_of_ble_eq_true rfl) (Nat.le_of_ble_eq_true rfl)) (fun z9 S9 A9 i9 p9 => ?_)
  obtain ⟨rfl, hc9, hk9, hn9⟩ := p9
  rw [← (hn9.1 40 0 h40.2).1]
  have h40x := (show lv1 _ 40 0 from ⟨h40.1, (hn9.1 40 0 h40.2).2⟩)
  refine r_i2l C dL_land_12 (by omega) ?_
  refine r_last C (N := 1) 1280 dL_land_13 (by decide) rfl rfl h40x (by omega) (by omega) (by omega) (by omega) ?_
  refine r_goto C (tgt := 29) dL_land_14 (by decide) ?_
  refine r_iconst C dL_land_29 ?_
  exact f_I F dL_land_30 (by omega) (Or.inl ⟨rfl, hc9, _, hk9, hn9, rfl⟩) (Nat.le_of_ble_eq_true rfl) (Nat.le_of_ble_eq_true rfl)
