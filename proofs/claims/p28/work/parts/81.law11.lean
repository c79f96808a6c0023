/-! the law: its script, read by a method of its own; its end -/
def CxL (G : GT) (l : Launch) (R : Room) (cc : ByteArray) (nL : Nat) (own mn : String) (tb : List ExceptionTableEntry) (b0 L : Nat) (xs : Nat → Int32) (J : JT) (X : XT) : Prop :=
  ∃ (p : Program) (e : Env) (s : State) (m : MethodId) (args : Array Value) (below : List Frame) (meth : Method) (c : Code) (Al : Nat → Prop) (Q : State → Prop),
    (J = (fun pc lv st S A k n => ∀ (H : Heap) (locs : List Loc) (ls : Array Slot), LH ls nL lv → HW G S A Al H → va_S Al s.heap H locs → W p l e R s m args below meth c H locs k n Q (F0 m pc ls st)) ∧
    X = (fun E pc lv S A k n => ∀ (H : Heap) (locs : List Loc) (ls : Array Slot) (rest : List Value) (q9 : Addr) (ce : Cell), LH ls nL lv → HW G S A Al H → va_S Al s.heap H locs → H[q9]? = some ce → ce.vm = .none → s.vm.findClass E = some ce.cls → vx_W p l e R s m args below meth c H locs k n Q (F0 m pc ls rest) q9) ∧
    p.tables.exec = Jvm.exec ∧ c.code = cc ∧ c.maxLocals = nL ∧ s.vm.findClass own = some m.cls ∧ (∀ w ∈ WA, w.before args s = true) ∧ GE G Al s ∧ (∀ q, s.heap.size ≤ q → Al q) ∧ l.stackTraces = false ∧ meth.name = mn ∧ c.exceptionTable.toList = tb) ∧ (va_X b0 L xs s s.heap ∧ b0 < s.heap.size ∧ ¬ Al b0)
theorem CxL.cx {G : GT} {l : Launch} {R : Room} {cc : ByteArray} {nL : Nat} {own mn : String} {tb : List ExceptionTableEntry} {b0 L : Nat} {xs : Nat → Int32} {J : JT} {X : XT} (C : CxL G l R cc nL own mn tb b0 L xs J X) : Cx G l R cc nL own mn tb J X := by
  obtain ⟨p, e, s, m, args, below, meth, c, Al, Q, h, _⟩ := C
  exact ⟨p, e, s, m, args, below, meth, c, Al, Q, h⟩
/-- the script's number of a place -/
def sc (xs : Nat → Int32) (j : Int) : Int := (xs j.toNat).toInt
theorem sc_r (xs : Nat → Int32) (j : Int) : rI (sc xs j) := (iI_of (xs j.toNat)).2
theorem r_slen {G : GT} {l : Launch} {R : Room} {cc : ByteArray} {nL : Nat} {own mn : String} {tb : List ExceptionTableEntry} {b0 L : Nat} {xs : Nat → Int32} {J : JT} {X : XT} (C : CxL G l R cc nL own mn tb b0 L xs J X) {pc : Nat} {lv : List (Option Value)} {st : List Value} {S : ST} {A : AB} {k n : Nat} (d : decode cc pc = .ok (.arraylength, 1)) (kk : J (pc + 1) lv (vI (L : Int) :: st) S A k n) : J pc lv (.ref b0 :: st) S A k n := by
  obtain ⟨p, e, s, m, args, below, meth, c, Al, Q, ⟨rfl, rfl, hx, hb, hml, hown, hts, hG, hAl, hfl, hmn, htb⟩, hX, hbl, hbA⟩ := C
  intro H locs ls hl hw hs
  refine va_slen hx hb hX hbl hbA hs d ?_
  have e9 : Int32.ofNat L = iI (L : Int) := by
    unfold iI
    exact (Int32.ofInt_eq_ofNat).symm
  rw [e9]
  exact kk H locs ls hl hw hs
theorem r_sld {G : GT} {l : Launch} {R : Room} {cc : ByteArray} {nL : Nat} {own mn : String} {tb : List ExceptionTableEntry} {b0 L : Nat} {xs : Nat → Int32} {J : JT} {X : XT} (C : CxL G l R cc nL own mn tb b0 L xs J X) {pc : Nat} {lv : List (Option Value)} {st : List Value} {S : ST} {A : AB} {k n : Nat} {i : Int} (d : decode cc pc = .ok (.iaload, 1)) (h0 : 0 ≤ i) (h1 : i < L) (hr : rI i) (kk : J (pc + 1) lv (vI (sc xs i) :: st) S A k n) : J pc lv (vI i :: .ref b0 :: st) S A k n := by
  obtain ⟨p, e, s, m, args, below, meth, c, Al, Q, ⟨rfl, rfl, hx, hb, hml, hown, hts, hG, hAl, hfl, hmn, htb⟩, hX, hbl, hbA⟩ := C
  intro H locs ls hl hw hs
  refine va_sld hx hb hX hbl hbA hs (vp_in_iI h0 h1 hr) d ?_
  have e9 : xs (iI i).toNatClampNeg = iI (sc xs i) := by
    rw [iI_clamp hr]
    exact (iI_of (xs i.toNat)).1
  rw [e9]
  exact kk H locs ls hl hw hs
theorem ck_fr2 {R : RW} {S S' : ST} {A A' : AB} (hCK : CK R S A) (hE : AE A A') (h3 : A'.2 3 = A.2 3) (h1 : A'.2 1 = A.2 1) (h5 : A.2 5 ≤ A'.2 5) (f : ∀ c ∈ [32, 64, 65, 96, 97, 98, 99, 100, 101, 102, 103, 104, 105, 160, 161, 162, 192, 193, 194, 195, 196, 197, 256], S' c = S c) : CK R S' A' := by
  obtain ⟨⟨l6, l2, l0, l4, l8, l9⟩, g, ⟨e1, e2, e3⟩, gpo, grw, gch, gsz⟩ := hCK
  have up : ∀ (k : Nat) (z : Int), lv1 A k z → lv1 A' k z := fun k z h => ⟨h.1, (hE k z h.2).2⟩
  refine ⟨⟨up _ _ l6, up _ _ l2, up _ _ l0, up _ _ l4, up _ _ l8, up _ _ l9⟩, ?_, ⟨?_, by rw [h3]; exact e2, by rw [h1]; exact e3⟩, ?_, fun m m0 m1 => ?_, ?_, ?_⟩
  · rw [f 192 (by decide), f 193 (by decide), f 194 (by decide), f 195 (by decide), f 196 (by decide)]; exact g
  · rw [f 197 (by decide)]; exact e1
  · rw [f 256 (by decide)]; exact gpo
  · rw [f 96 (by decide), f 97 (by decide), f 98 (by decide), f 99 (by decide), f 100 (by decide), f 101 (by decide), f 102 (by decide), f 103 (by decide), f 32 (by decide), f 105 (by decide)]
    refine ⟨(grw m m0 m1).1, fun k => ((grw m m0 m1).2.1 k).fr h5 (fun c z h _ _ => ?_), (grw m m0 m1).2.2⟩
    rcases h with rfl | rfl | rfl
    · rw [f 160 (by decide)]
    · rw [f 161 (by decide)]
    · rw [f 162 (by decide)]
  · rw [f 104 (by decide), f 64 (by decide)]; exact gch
  · rw [f 65 (by decide)]; exact gsz
/-- the law's end -/
def FinL (J : JT) : Prop := ∀ (pc : Nat) (lv : List (Option Value)) (S : ST) (A : AB) (k n : Nat), decode cL_law pc = .ok (.ireturn, 1) → k ≤ 671858 → n ≤ 7086125 → J pc lv [vI 1] S A k n
theorem iand_nn (x : Int) : 0 ≤ fIand x 2147483647 := by
  unfold fIand
  have h1 : (iI x &&& iI 2147483647).toInt = ((iI x).toBitVec &&& 0x7fffffff#32).toInt := rfl
  rw [h1]
  refine BitVec.toInt_nonneg_of_msb_false ?_
  rw [BitVec.msb_and]
  have h2 : (0x7fffffff#32).msb = false := by decide
  rw [h2, Bool.and_false]
/-- what a callee that reads the script may take for granted -/
def PreD (G : GT) (S : ST) (A : AB) (sz : Nat) (av : List Value) (b0 L : Nat) (xs : Nat → Int32) : Array Value → State → Prop := va_Pc av (fun U => U.heap.size = sz ∧ HW G S A (fun _ => True) U.heap ∧ GE G (fA A sz) U ∧ va_X b0 L xs U U.heap ∧ b0 < U.heap.size ∧ ¬ fA A sz b0)
def CTD (G : GT) (l : Launch) (y : MethodName) (cc : ByteArray) (maxL : Nat) (ret : Option FieldType) (rm : Room) (S : ST) (A : AB) (av : List Value) (b0 L : Nat) (xs : Nat → Int32) (Po : Option Value → ST → AB → Prop) (XPo : String → ST → AB → Prop) : Prop :=
  ∀ sz : Nat, vx_Met l y (Cond.code y cc maxL ret :: WA) rm (PreD G S A sz av b0 L xs) (QB G Po A sz) (XB G XPo A sz) rm.cells rm.slots (fA A sz)
theorem preD_blind {G : GT} {S : ST} {A : AB} {sz : Nat} {av : List Value} {b0 L : Nat} {xs : Nat → Int32} : FrameBlind (PreD G S A sz av b0 L xs) := fun a U g mk h => ⟨h.1, h.2.1, h.2.2.1, h.2.2.2.1.calling g mk a, va_X.moved (Vm.Alike.refl U.vm) h.2.2.2.2.1, h.2.2.2.2.2⟩
theorem preD_ok {G : GT} {S : ST} {A : AB} {Al : Nat → Prop} {s : State} {H : Heap} {locs : List Loc} {b0 L : Nat} {xs : Nat → Int32} (hw : HW G S A Al H) (hs : va_S Al s.heap H locs) (hG : GE G Al s) (hAl : ∀ q, s.heap.size ≤ q → Al q) (hX : va_X b0 L xs s s.heap) (hbl : b0 < s.heap.size) (hbA : ¬ Al b0) (av : List Value) : ∀ U : State, U.heap = H → s.WarmedH U.vm → PreD G S A H.size av b0 L xs av.toArray U := fun U hU hW => by
  obtain ⟨h1, h2, h3, h4⟩ := preB_ok hw hs hG hAl av U hU hW
  refine ⟨h1, h2, h3, h4, ?_, ?_, ?_⟩
  · rw [hU]
    exact va_X.moved hW.alike (va_X.kept hX (hs.2.1 b0 hbl hbA))
  · rw [hU]; exact Nat.lt_of_lt_of_le hbl hs.1
  · rintro (⟨k, z, hl, e⟩ | hq)
    · exact hbA (e ▸ (hw.in hl).1)
    · exact absurd hbl (Nat.not_lt.mpr (Nat.le_trans hs.1 hq))
theorem ct_ofD {G : GT} {l : Launch} {y : MethodName} {own mn : String} {cc : ByteArray} {maxL : Nat} {ret : Option FieldType} {fr mc ms lc : Nat} {S : ST} {A : AB} {av : List Value} {b0 L : Nat} {xs : Nat → Int32} {Po : Option Value → ST → AB → Prop} {XPo : String → ST → AB → Prop} {lv0 : List (Option Value)} (ho : y.cls = own) (hmn : y.name = mn) (hy : plainName own = true) (hfl : l.stackTraces = false) (hav : Ent av lv0) (hlen : lv0.length = maxL)
    (body : ∀ (J : JT) (X : XT), CxL G l (rmk fr mc ms lc) cc maxL own mn [] b0 L xs J X → FinR cc ret Po mc ms J → J 0 lv0 [] S A 0 0) : CTD G l y cc maxL ret (rmk fr mc ms lc) S A av b0 L xs Po XPo := by
  subst ho; subst hmn
  intro sz
  refine vx_ofW (cc := cc) (maxL := maxL) (ret := ret) (ws' := WA) hy rfl ?_
  intro p e s m args below meth c s₁ B hml htb hv
  obtain ⟨rfl, rfl, hw, hG, hX, hbl, hbA⟩ := hv
  have hts0 := atoms_spec (ws := Cond.code y cc maxL ret :: WA) B.pre
  have hts : ∀ w ∈ WA, w.before av.toArray s = true := fun w h => hts0 w (List.mem_cons_of_mem _ h)
  have hown : s.vm.findClass y.cls = some m.cls := findClass_of_methodNamed B.named
  have htb' : c.exceptionTable.toList = [] := by
    cases h9 : c.exceptionTable.toList with
    | nil => rfl
    | cons x t => exact (htb x (by rw [h9]; exact List.mem_cons_self)).elim
  have hts2 : ∀ w ∈ lw_tbl, goodWord w = true → w.before av.toArray s = true := fun w h g => hts w (List.mem_filter.mpr ⟨List.mem_append_right _ h, g⟩)
  have hF := fins (p := p) (l := l) (e := e) (R := (headSpec (Cond.code y cc maxL ret :: WA) (rmk fr mc ms lc)).room) (s := s) (m := m) (args := av.toArray) (below := below) (meth := meth) (c := c) (G := G) (A0 := A) (cc := cc) (rt := ret) (Po := Po) (XPo := XPo) (nL := maxL) (own := y.cls) rfl rfl B.exec B.bytes B.returns B.notSynchronized hml hown hts hts2 hG hfl
  have hC : CxL G l (rmk fr mc ms lc) cc maxL y.cls y.name [] b0 L xs _ _ := ⟨p, e, s, m, av.toArray, below, meth, c, fA A s.heap.size, (vx_MQ below (QB G Po A s.heap.size) (XB G XPo A s.heap.size) av.toArray s (rmk fr mc ms lc).cells (rmk fr mc ms lc).slots (fA A s.heap.size)), ⟨rfl, rfl, B.exec, B.bytes, hml, hown, hts, hG, fun q h => Or.inr h, hfl, (name_of_methodNamed B.named B.method).1, htb'⟩, hX, hbl, hbA⟩
  have hJ := body _ _ hC hF.1
  rw [lg_entry_eq]
  exact hJ s.heap [] _ (ent_LH hav hlen) hw.self va_S.rf
theorem r_callD {G : GT} {l : Launch} {R : Room} {cc : ByteArray} {nL : Nat} {own mn : String} {tb : List ExceptionTableEntry} {b0 L : Nat} {xs : Nat → Int32} {J : JT} {X : XT} (C : CxL G l R cc nL own mn tb b0 L xs J X) {pc : Nat} {lv : List (Option Value)} {S : ST} {A : AB} {k n : Nat} {idx : Nat} {bytes : ByteArray} {maxL np : Nat} {rm : Room} {Po : Option Value → ST → AB → Prop} {XPo : String → ST → AB → Prop} {av rest : List Value} {y : MethodName} {ret : Option FieldType} (hc : CTD G l y bytes maxL ret rm S A av b0 L xs Po XPo) (d : decode cc pc = .ok (.invokestatic idx, 3)) (Lk : LkS own idx y bytes maxL ret np) (hn : av.length = np) (hR : rm.frames + 1 ≤ R.frames ∧ 8 + (maxL + 11) + rm.locals ≤ R.locals) (hcat : (rest.map fun v => v.category).sum ≤ 8) (hkc : k + rm.cells ≤ R.cells) (hns : n + rm.slots ≤ R.slots) (kx : ∀ (E : String) (S' : ST) (A' : AB), XPo E S' A' → X E pc lv S' A' (k + rm.cells) (n + rm.slots)) (kk : ∀ (r : Option Value) (S' : ST) (A' : AB), Po r S' A' → J (pc + 3) lv (r.toList ++ rest) S' A' (k + rm.cells) (n + rm.slots)) : J pc lv (av.reverse ++ rest) S A k n := by
  obtain ⟨p, e, s, m, args, below, meth, c, Al, Q, ⟨rfl, rfl, hx, hb, hml, hown, hts, hG, hAl, hfl, hmn, htb⟩, hX, hbl, hbA⟩ := C
  intro H locs ls hl hw hs
  obtain ⟨l1, l2, l3, l4, l5⟩ := Lk
  exact j_run (vx_runS (As := av) (rest := rest) ⟨hx, hb, hml, hown, hts⟩ (hc H.size) (va_cwS np hts (WA_app (in_3 l1 l2 l3) (WA_code l4)) rfl rfl rfl l5 hR) ⟨preD_blind, preD_ok hw hs hG hAl hX hbl hbA _⟩ rfl hn hl.1 rfl (lv_room hcat) d ⟨hkc, hns⟩) hl hw hs hAl kx kk
theorem cD_dice {G : GT} {l : Launch} (hfl : l.stackTraces = false) {S : ST} {A : AB} {b0 L : Nat} {xs : Nat → Int32} {i : Int} (hi : 0 ≤ i ∧ i ≤ 100) (hL : L ≤ 260) : CTD G l yL_dice cL_dice 2 (some .int) (rmk 0 0 0 0) S A [.ref b0, vI i] b0 L xs (oI fun z S' A' => 0 ≤ z ∧ S = S' ∧ A = A') (noX) := by
  refine ct_ofD (own := RL) (mn := "dice") rfl rfl (by decide) hfl (lv0 := [some (.ref b0), some (vI i)]) (ent_1 rfl (ent_1 rfl ent_0)) rfl ?_
  intro J X CL F
  have C := CL.cx
  refine r_iload_n C dL_dice_0 lg_1 ?_
  refine r_aloadq_n C dL_dice_1 lg_0 ?_
  refine r_slen CL dL_dice_2 ?_
  refine r_icge C (tgt := 12) dL_dice_3 (by decide) (by omega) (by omega) (fun c3 => ?_) (fun c3 => ?_)
  · refine r_ldc C dL_dice_12 cs_L_7 2082089781 (by decide) ?_
    refine r_iload_n C dL_dice_14 lg_1 ?_
    refine r_bipush C dL_dice_15 (by decide) ?_
    refine r_iadd C dL_dice_17 ?_
    refine r_imul C dL_dice_18 ?_
    refine r_sipush C dL_dice_19 (by decide) ?_
    refine r_iload_n C dL_dice_22 lg_1 ?_
    refine r_imul C dL_dice_23 ?_
    refine r_iload_n C dL_dice_24 lg_1 ?_
    refine r_imul C dL_dice_25 ?_
    refine r_iadd C dL_dice_26 ?_
    refine r_ldc C dL_dice_27 cs_L_8 50021 (by decide) ?_
    refine r_iadd C dL_dice_29 ?_
    refine r_ldc C dL_dice_30 cs_L_9 2147483647 (by decide) ?_
    refine r_iand C dL_dice_32 (fun b32 => ?_)
    exact f_I F dL_dice_33 b32 ⟨iand_nn _, rfl, rfl⟩ (Nat.le_of_ble_eq_true rfl) (Nat.le_of_ble_eq_true rfl)
  · refine r_aloadq_n C dL_dice_6 lg_0 ?_
    refine r_iload_n C dL_dice_7 lg_1 ?_
    refine r_sld CL dL_dice_8 (by omega) (by omega) (by omega) ?_
    refine r_goto C (tgt := 30) dL_dice_9 (by decide) ?_
    refine r_ldc C dL_dice_30 cs_L_9 2147483647 (by decide) ?_
    refine r_iand C dL_dice_32 (fun b32 => ?_)
    exact f_I F dL_dice_33 b32 ⟨iand_nn _, rfl, rfl⟩ (Nat.le_of_ble_eq_true rfl) (Nat.le_of_ble_eq_true rfl)
theorem r_dice {G : GT} {l : Launch} (hfl : l.stackTraces = false) {cc : ByteArray} {nL : Nat} {mn : String} {tb : List ExceptionTableEntry} {b0 L : Nat} {xs : Nat → Int32} {J : JT} {X : XT} (C : CxL G l room_1 cc nL RL mn tb b0 L xs J X) {pc : Nat} {lv : List (Option Value)} {S : ST} {A : AB} {k n : Nat} {i : Int} (d : decode cc pc = .ok (.invokestatic 185, 3)) (hi : 0 ≤ i ∧ i ≤ 100) (hL : L ≤ 260) (hkc : k ≤ 671858) (hns : n ≤ 7086125) (kk : ∀ z : Int, 0 ≤ z ∧ z ≤ 2147483647 → J (pc + 3) lv [vI z] S A k n) : J pc lv [vI i, .ref b0] S A k n := by
  refine r_callD C (av := [.ref b0, vI i]) (rest := []) (cD_dice hfl hi hL) d lk_L_185 rfl ⟨Nat.le_of_ble_eq_true rfl, Nat.le_of_ble_eq_true rfl⟩ (Nat.zero_le _) hkc hns (fun _ _ _ h => h.elim) (fun r S' A' h => ?_)
  obtain ⟨z, rfl, hz, h0, rfl, rfl⟩ := h
  exact kk z ⟨h0, hz.2⟩
