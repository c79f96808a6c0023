/-! the law: its script, its switch, its end -/
def CxL (G : GT) (l : Launch) (R : Room) (cc : ByteArray) (nL : Nat) (own mn : String) (tb : List ExceptionTableEntry) (b0 L : Nat) (xs : Nat → Int32) (J : JT) (X : XT) : Prop :=
  ∃ (p : Program) (e : Env) (s : State) (m : MethodId) (args : Array Value) (below : List Frame) (meth : Method) (c : Code) (Al : Nat → Prop) (Q : State → Prop),
    (J = (fun pc lv st S A k n => ∀ (H : Heap) (locs : List Loc) (ls : Array Slot), LH ls nL lv → HW G S A Al H → va_S Al s.heap H locs → W p l e R s m args below meth c H locs k n Q (F0 m pc ls st)) ∧
    X = (fun E pc lv S A k n => ∀ (H : Heap) (locs : List Loc) (ls : Array Slot) (rest : List Value) (q9 : Addr) (ce : Cell), LH ls nL lv → HW G S A Al H → va_S Al s.heap H locs → H[q9]? = some ce → ce.vm = .none → s.vm.findClass E = some ce.cls → vx_W p l e R s m args below meth c H locs k n Q (F0 m pc ls rest) q9) ∧
    p.tables.exec = Jvm.exec ∧ c.code = cc ∧ c.maxLocals = nL ∧ s.vm.findClass own = some m.cls ∧ (∀ w ∈ WA, w.before args s = true) ∧ GE G Al s ∧ (∀ q, s.heap.size ≤ q → Al q) ∧ l.stackTraces = false ∧ meth.name = mn ∧ c.exceptionTable.toList = tb) ∧ (va_X b0 L xs s s.heap ∧ b0 < s.heap.size ∧ ¬ Al b0)
theorem CxL.cx {G : GT} {l : Launch} {R : Room} {cc : ByteArray} {nL : Nat} {own mn : String} {tb : List ExceptionTableEntry} {b0 L : Nat} {xs : Nat → Int32} {J : JT} {X : XT} (C : CxL G l R cc nL own mn tb b0 L xs J X) : Cx G l R cc nL own mn tb J X := by
  obtain ⟨p, e, s, m, args, below, meth, c, Al, Q, h, _⟩ := C
  exact ⟨p, e, s, m, args, below, meth, c, Al, Q, h⟩
/-- the script's number of a place -/
def sc (xs : Nat → Int32) (j : Int) : Int := (xs j.toNat).toInt
theorem sc_r (xs : Nat → Int32) (j : Int) : rI (sc xs j) := (iI_of (xs j.toNat)).2
theorem r_slen {G : GT} {l : Launch} {R : Room} {cc : ByteArray} {nL : Nat} {own mn : String} {tb : List ExceptionTableEntry} {b0 L : Nat} {xs : Nat → Int32} {J : JT} {X : XT} (C : CxL G l R cc nL own mn tb b0 L xs J X) {pc : Nat} {lv : List (Option Value)} {st : List Value} {S : ST} {A : AB} {k n : Nat} (d : decode cc pc = .ok (.arraylength, 1)) (kk : J (pc + 1) lv (vI (L : Int) :: st) S A k n) : J pc lv (.ref b0 :: st) S A k n := by
  obtain ⟨p, e, s, m, args, below, meth, c, Al, Q, ⟨rfl, rfl, hx, hb, hml, hown, hts, hG, hAl, hfl, hmn, htb⟩, hX, hbl, hbA⟩ := C
  intro H locs ls hl hw hs
  refine va_slen hx hb hX hbl hbA hs d ?_
  have e9 : Int32.ofNat L = iI (L : Int) := by
    unfold iI
    exact (Int32.ofInt_eq_ofNat).symm
  rw [e9]
  exact kk H locs ls hl hw hs
theorem r_sld {G : GT} {l : Launch} {R : Room} {cc : ByteArray} {nL : Nat} {own mn : String} {tb : List ExceptionTableEntry} {b0 L : Nat} {xs : Nat → Int32} {J : JT} {X : XT} (C : CxL G l R cc nL own mn tb b0 L xs J X) {pc : Nat} {lv : List (Option Value)} {st : List Value} {S : ST} {A : AB} {k n : Nat} {i : Int} (d : decode cc pc = .ok (.iaload, 1)) (h0 : 0 ≤ i) (h1 : i < L) (hr : rI i) (kk : J (pc + 1) lv (vI (sc xs i) :: st) S A k n) : J pc lv (vI i :: .ref b0 :: st) S A k n := by
  obtain ⟨p, e, s, m, args, below, meth, c, Al, Q, ⟨rfl, rfl, hx, hb, hml, hown, hts, hG, hAl, hfl, hmn, htb⟩, hX, hbl, hbA⟩ := C
  intro H locs ls hl hw hs
  refine va_sld hx hb hX hbl hbA hs (vp_in_iI h0 h1 hr) d ?_
  have e9 : xs (iI i).toNatClampNeg = iI (sc xs i) := by
    rw [iI_clamp hr]
    exact (iI_of (xs i.toNat)).1
  rw [e9]
  exact kk H locs ls hl hw hs
theorem r_tswI {G : GT} {l : Launch} {R : Room} {cc : ByteArray} {nL : Nat} {own mn : String} {tb : List ExceptionTableEntry} {J : JT} {X : XT} (C : Cx G l R cc nL own mn tb J X) {pc : Nat} {lv : List (Option Value)} {st : List Value} {S : ST} {A : AB} {k n : Nat} {dflt lo hi : Int} {offs : Array Int} {len : Nat} {x off : Int} {tgt : Nat} (d : decode cc pc = .ok (.tableswitch dflt lo hi offs, len)) (hr : rI x) (h1 : lo ≤ x) (h2 : x ≤ hi) (ho : offs[(x - lo).toNat]? = some off) (ht : (pc : Int) + off = (tgt : Int)) (kk : J tgt lv st S A k n) : J pc lv (vI x :: st) S A k n := by
  obtain ⟨p, e, s, m, args, below, meth, c, Al, Q, rfl, rfl, hx, hb, hml, hown, hts, hG, hAl, hfl, hmn, htb⟩ := C
  intro H locs ls hl hw hs
  refine lv_tableIn hx hb d ?_ ?_ ?_ ht (kk H locs ls hl hw hs)
  · rw [iI_toInt hr]; omega
  · rw [iI_toInt hr]; omega
  · rw [iI_toInt hr]; exact ho
theorem r_tswO {G : GT} {l : Launch} {R : Room} {cc : ByteArray} {nL : Nat} {own mn : String} {tb : List ExceptionTableEntry} {J : JT} {X : XT} (C : Cx G l R cc nL own mn tb J X) {pc : Nat} {lv : List (Option Value)} {st : List Value} {S : ST} {A : AB} {k n : Nat} {dflt lo hi : Int} {offs : Array Int} {len : Nat} {x : Int} {tgt : Nat} (d : decode cc pc = .ok (.tableswitch dflt lo hi offs, len)) (hr : rI x) (h : x < lo ∨ hi < x) (ht : (pc : Int) + dflt = (tgt : Int)) (kk : J tgt lv st S A k n) : J pc lv (vI x :: st) S A k n := by
  obtain ⟨p, e, s, m, args, below, meth, c, Al, Q, rfl, rfl, hx, hb, hml, hown, hts, hG, hAl, hfl, hmn, htb⟩ := C
  intro H locs ls hl hw hs
  exact lv_tableOut hx hb d (by rw [iI_toInt hr]; exact h) ht (kk H locs ls hl hw hs)
/-- the law's end -/
def FinL (J : JT) : Prop := ∀ (pc : Nat) (lv : List (Option Value)) (S : ST) (A : AB) (k n : Nat), decode cL_law pc = .ok (.ireturn, 1) → k ≤ 601024 → n ≤ 7293034 → J pc lv [vI 1] S A k n
