/-! calls -/
theorem preB_blind {G : GT} {S : ST} {A : AB} {sz : Nat} {av : List Value} : FrameBlind (PreB G S A sz av) := fun a U g mk h => ⟨h.1, h.2.1, h.2.2.1, h.2.2.2.calling g mk a⟩
theorem preB_ok {G : GT} {S : ST} {A : AB} {Al : Nat → Prop} {s : State} {H : Heap} {locs : List Loc} (hw : HW G S A Al H) (hs : va_S Al s.heap H locs) (hG : GE G Al s) (hAl : ∀ q, s.heap.size ≤ q → Al q) (av : List Value) : ∀ U : State, U.heap = H → s.WarmedH U.vm → PreB G S A H.size av av.toArray U := fun U hU hW => by
  refine ⟨rfl, by rw [hU], by rw [hU]; exact hw.weaken (fun _ _ _ => trivial), hG.moved hW hU hs.2.1 (fun q hq => ?_)⟩
  rcases hq with ⟨k, z, hl, rfl⟩ | hq
  · exact (hw.in hl).1
  · exact hAl q (Nat.le_trans hs.1 hq)
theorem j_run {G : GT} {p : Program} {l : Launch} {e : Env} {R : Room} {s : State} {m : MethodId} {args : Array Value} {below : List Frame} {meth : Method} {c : Code} {H : Heap} {locs : List Loc} {k n mc ms pc nL : Nat} {ls : Array Slot} {lv : List (Option Value)} {st0 rest : List Value} {Q : State → Prop} {Al : Nat → Prop} {S : ST} {A : AB} {a : Array Value} {Po : Option Value → ST → AB → Prop} {XPo : String → ST → AB → Prop}
    (hr : vx_Run p l e R s m args below meth c H locs k n mc ms (F0 m pc ls st0) rest (QB G Po A H.size a) (XB G XPo A H.size) (fA A H.size)) (hl : LH ls nL lv) (hw : HW G S A Al H) (hs : va_S Al s.heap H locs) (hAl : ∀ q, s.heap.size ≤ q → Al q)
    (kx : ∀ (E : String) (S' : ST) (A' : AB), XPo E S' A' → ∀ (H1 : Heap) (locs1 : List Loc) (ls1 : Array Slot) (rest1 : List Value) (q9 : Addr) (ce : Cell), LH ls1 nL lv → HW G S' A' Al H1 → va_S Al s.heap H1 locs1 → H1[q9]? = some ce → ce.vm = .none → s.vm.findClass E = some ce.cls → vx_W p l e R s m args below meth c H1 locs1 (k + mc) (n + ms) Q (F0 m pc ls1 rest1) q9)
    (kk : ∀ (r : Option Value) (S' : ST) (A' : AB), Po r S' A' → ∀ (H1 : Heap) (locs1 : List Loc) (ls1 : Array Slot), LH ls1 nL lv → HW G S' A' Al H1 → va_S Al s.heap H1 locs1 → W p l e R s m args below meth c H1 locs1 (k + mc) (n + ms) Q (F0 m (pc + 3) ls1 (r.toList ++ rest))) : W p l e R s m args below meth c H locs k n Q (F0 m pc ls st0) := by
  have hsub : ∀ q, fA A H.size q → Al q := by
    intro q hq
    rcases hq with ⟨k9, z, hl9, rfl⟩ | hq
    · exact (hw.in hl9).1
    · exact hAl q (Nat.le_trans hs.1 hq)
  intro T hT X
  rcases hr T hT X with ⟨v, st₀, t, T', L, h0, X', hL, e1, e2, ⟨⟨r, S', A', hv, hpo, hw1⟩, hF⟩, st⟩ | ⟨q, st₀, t, T', L, E, ce, h0, X', hL, e1, e2, ⟨⟨S', A', hpo, hw1⟩, hF⟩, hce, hcv, hcl, st⟩
  · obtain ⟨k1, k2, k3⟩ := vx_keep h0 e1 hs (fun q _ h => hsub q h) hsub hL hF
    cases hv
    obtain ⟨t2, a1, b1⟩ := kk v S' A' hpo T'.heap (locs ++ L) ls hl (by rw [e1]; exact hw1.weaken (fun k z hlv => hsub _ (hw1.in hlv).1)) k3 T' rfl X'
    exact ⟨t2, st t2 a1, b1⟩
  · obtain ⟨k1, k2, k3⟩ := vx_keep h0 e1 hs (fun q _ h => hsub q h) hsub hL hF
    obtain ⟨t2, a1, b1⟩ := kx E S' A' hpo T'.heap (locs ++ L) ls rest q ce hl (by rw [e1]; exact hw1.weaken (fun k z hlv => hsub _ (hw1.in hlv).1)) k3 (by rw [e1]; exact hce) hcv hcl T' rfl X'
    exact ⟨t2, st.trans a1, b1⟩
def MHn (y : MethodName) (np : Nat) : Prop := y.cls ≠ "java/lang/invoke/MethodHandle" ∧ y.cls ≠ "java/lang/invoke/VarHandle" ∧ (parseMethodDescriptor y.desc).map (fun d => d.parameters.length) = some np
theorem WA_app {ws1 ws2 : List Cond} (h1 : ∀ w ∈ ws1, w ∈ WA) (h2 : GoodIn WA ws2) : GoodIn WA (ws1 ++ ws2) := fun w h => (List.mem_append.mp h).elim (fun h => ⟨h1 w h, WA_good w (h1 w h)⟩) (h2 w)
theorem WA_code {w : Cond} (h : w ∈ WA) : GoodIn WA (w :: WA) := fun w' h' => by
  rcases List.mem_cons.mp h' with rfl | h'
  · exact ⟨h, WA_good _ h⟩
  · exact ⟨h', WA_good _ h'⟩
theorem in_2 {a b : Cond} {P : Cond → Prop} (ha : P a) (hb : P b) : ∀ w ∈ [a, b], P w := fun w h => by
  rcases List.mem_cons.mp h with rfl | h
  · exact ha
  · rw [List.mem_singleton.mp h]; exact hb
theorem in_3 {a b c : Cond} {P : Cond → Prop} (ha : P a) (hb : P b) (hc : P c) : ∀ w ∈ [a, b, c], P w := fun w h => (List.mem_cons.mp h).elim (fun e => by rw [e]; exact ha) (in_2 hb hc w)
theorem in_4 {a b c d : Cond} {P : Cond → Prop} (ha : P a) (hb : P b) (hc : P c) (hd : P d) : ∀ w ∈ [a, b, c, d], P w := fun w h => (List.mem_cons.mp h).elim (fun e => by rw [e]; exact ha) (in_3 hb hc hd w)
theorem in_5 {a b c d e : Cond} {P : Cond → Prop} (ha : P a) (hb : P b) (hc : P c) (hd : P d) (he : P e) : ∀ w ∈ [a, b, c, d, e], P w := fun w h => (List.mem_cons.mp h).elim (fun e => by rw [e]; exact ha) (in_4 hb hc hd he w)
/-- a static call's link -/
def LkS (own : String) (idx : Nat) (y : MethodName) (bytes : ByteArray) (maxL : Nat) (ret : Option FieldType) (np : Nat) : Prop := Cond.methodLink own idx y ∈ WA ∧ Cond.static y ∈ WA ∧ Cond.initialized y.cls ∈ WA ∧ Cond.code y bytes maxL ret ∈ WA ∧ MHn y np
def LkW (own : String) (idx : Nat) (y : MethodName) (bytes : ByteArray) (maxL : Nat) (ret : Option FieldType) (hh : List (Nat × Nat × Nat × Nat)) (np : Nat) : Prop := Cond.methodLink own idx y ∈ WA ∧ Cond.static y ∈ WA ∧ Cond.initialized y.cls ∈ WA ∧ Cond.codeWith y bytes maxL ret hh ∈ WA ∧ MHn y np
def LkO (own : String) (idx : Nat) (x y : MethodName) (bytes : ByteArray) (maxL : Nat) (ret : Option FieldType) (np : Nat) : Prop := Cond.methodLink own idx x ∈ WA ∧ Cond.sameMethod x.cls y.cls x.name x.desc ∈ WA ∧ y = ⟨y.cls, x.name, x.desc⟩ ∧ Cond.static y ∈ WA ∧ Cond.initialized y.cls ∈ WA ∧ Cond.code y bytes maxL ret ∈ WA ∧ MHn y np
def LkV (own : String) (idx : Nat) (kd : Nat) (y : MethodName) (bytes : ByteArray) (maxL : Nat) (ret : Option FieldType) (np : Nat) : Prop := (∃ T N, vwCl[kd]? = some (y.cls, T, N)) ∧ Cond.methodLink own idx y ∈ WA ∧ Cond.instanceMethod y ∈ WA ∧ Cond.selects y.cls y y ∈ WA ∧ Cond.initialized y.cls ∈ WA ∧ Cond.code y bytes maxL ret ∈ WA ∧ MHn y np
/-- .. of a method that another class declares -/
def LkU (own : String) (idx : Nat) (kd : Nat) (owner : String) (x y : MethodName) (bytes : ByteArray) (maxL : Nat) (ret : Option FieldType) (np : Nat) : Prop := (∃ C T N, vwCl[kd]? = some (C, T, N) ∧ Cond.selects C x y ∈ WA) ∧ Cond.methodLink own idx x ∈ WA ∧ Cond.sameMethod x.cls owner x.name x.desc ∈ WA ∧ Cond.instanceMethod y ∈ WA ∧ Cond.initialized y.cls ∈ WA ∧ Cond.code y bytes maxL ret ∈ WA ∧ (⟨owner, x.name, x.desc⟩ ∈ ndL ∨ y = ⟨owner, x.name, x.desc⟩) ∧ owner ≠ "java/lang/invoke/MethodHandle" ∧ owner ≠ "java/lang/invoke/VarHandle" ∧ (parseMethodDescriptor x.desc).map (fun d => d.parameters.length) = some np
def LkI (own : String) (idx : Nat) (y : MethodName) (bytes : ByteArray) (maxL : Nat) (np : Nat) : Prop := Cond.methodLink own idx y ∈ WA ∧ Cond.instanceMethod y ∈ WA ∧ Cond.initialized y.cls ∈ WA ∧ Cond.code y bytes maxL none ∈ WA ∧ y.name = "<init>" ∧ MHn y np
/-- .. a nest mate's private constructor -/
def LkN (own : String) (idx : Nat) (y : MethodName) (bytes : ByteArray) (maxL : Nat) (np : Nat) : Prop := (own, idx, y) ∈ nmL ∧ Cond.instanceMethod y ∈ WA ∧ Cond.initialized y.cls ∈ WA ∧ Cond.code y bytes maxL none ∈ WA ∧ y.name = "<init>" ∧ MHn y np
theorem r_callS {G : GT} {l : Launch} {R : Room} {cc : ByteArray} {nL : Nat} {own mn : String} {tb : List ExceptionTableEntry} {J : JT} {X : XT} (C : Cx G l R cc nL own mn tb J X) {pc : Nat} {lv : List (Option Value)} {S : ST} {A : AB} {k n : Nat} {idx : Nat} {bytes : ByteArray} {maxL np : Nat} {rm : Room} {Po : Option Value → ST → AB → Prop} {XPo : String → ST → AB → Prop} {av rest : List Value} {y : MethodName} {ret : Option FieldType} (hc : CT G l y bytes maxL ret rm S A av Po XPo) (d : decode cc pc = .ok (.invokestatic idx, 3)) (L : LkS own idx y bytes maxL ret np) (hn : av.length = np) (hR : rm.frames + 1 ≤ R.frames ∧ 8 + (maxL + 11) + rm.locals ≤ R.locals) (hcat : (rest.map fun v => v.category).sum ≤ 8) (hkc : k + rm.cells ≤ R.cells) (hns : n + rm.slots ≤ R.slots) (kx : ∀ (E : String) (S' : ST) (A' : AB), XPo E S' A' → X E pc lv S' A' (k + rm.cells) (n + rm.slots)) (kk : ∀ (r : Option Value) (S' : ST) (A' : AB), Po r S' A' → J (pc + 3) lv (r.toList ++ rest) S' A' (k + rm.cells) (n + rm.slots)) : J pc lv (av.reverse ++ rest) S A k n := by
  obtain ⟨p, e, s, m, args, below, meth, c, Al, Q, rfl, rfl, hx, hb, hml, hown, hts, hG, hAl, hfl, hmn, htb⟩ := C
  intro H locs ls hl hw hs
  obtain ⟨l1, l2, l3, l4, l5⟩ := L
  exact j_run (vx_runS (As := av) (rest := rest) ⟨hx, hb, hml, hown, hts⟩ (hc H.size) (va_cwS np hts (WA_app (in_3 l1 l2 l3) (WA_code l4)) rfl rfl rfl l5 hR) ⟨preB_blind, preB_ok hw hs hG hAl _⟩ rfl hn hl.1 rfl (lv_room hcat) d ⟨hkc, hns⟩) hl hw hs hAl kx kk
theorem r_callW {G : GT} {l : Launch} {R : Room} {cc : ByteArray} {nL : Nat} {own mn : String} {tb : List ExceptionTableEntry} {J : JT} {X : XT} (C : Cx G l R cc nL own mn tb J X) {pc : Nat} {lv : List (Option Value)} {S : ST} {A : AB} {k n : Nat} {idx : Nat} {bytes : ByteArray} {maxL np : Nat} {rm : Room} {Po : Option Value → ST → AB → Prop} {XPo : String → ST → AB → Prop} {av rest : List Value} {y : MethodName} {ret : Option FieldType} {hh : List (Nat × Nat × Nat × Nat)} (hc : CTH G l y bytes maxL ret hh rm S A av Po XPo) (d : decode cc pc = .ok (.invokestatic idx, 3)) (L : LkW own idx y bytes maxL ret hh np) (hn : av.length = np) (hR : rm.frames + 1 ≤ R.frames ∧ 8 + (maxL + 11) + rm.locals ≤ R.locals) (hcat : (rest.map fun v => v.category).sum ≤ 8) (hkc : k + rm.cells ≤ R.cells) (hns : n + rm.slots ≤ R.slots) (kx : ∀ (E : String) (S' : ST) (A' : AB), XPo E S' A' → X E pc lv S' A' (k + rm.cells) (n + rm.slots)) (kk : ∀ (r : Option Value) (S' : ST) (A' : AB), Po r S' A' → J (pc + 3) lv (r.toList ++ rest) S' A' (k + rm.cells) (n + rm.slots)) : J pc lv (av.reverse ++ rest) S A k n := by
  obtain ⟨p, e, s, m, args, below, meth, c, Al, Q, rfl, rfl, hx, hb, hml, hown, hts, hG, hAl, hfl, hmn, htb⟩ := C
  intro H locs ls hl hw hs
  obtain ⟨l1, l2, l3, l4, l5⟩ := L
  exact j_run (vx_runSX (As := av) (rest := rest) ⟨hx, hb, hml, hown, hts⟩ (hc H.size) (vx_cwSW np hts (WA_app (in_3 l1 l2 l3) (WA_code l4)) rfl rfl rfl l5 hR) ⟨preB_blind, preB_ok hw hs hG hAl _⟩ rfl hn hl.1 rfl (lv_room hcat) d ⟨hkc, hns⟩) hl hw hs hAl kx kk
theorem r_callV {G : GT} {l : Launch} {R : Room} {cc : ByteArray} {nL : Nat} {own mn : String} {tb : List ExceptionTableEntry} {J : JT} {X : XT} (C : Cx G l R cc nL own mn tb J X) {pc : Nat} {lv : List (Option Value)} {S : ST} {A : AB} {k n : Nat} {idx : Nat} {bytes : ByteArray} {maxL np : Nat} {rm : Room} {Po : Option Value → ST → AB → Prop} {XPo : String → ST → AB → Prop} {av rest : List Value} {kd : Nat} {z : Int} {y : MethodName} {ret : Option FieldType} (hc : CT G l y bytes maxL ret rm S A (vR A kd z :: av) Po XPo) (d : decode cc pc = .ok (.invokevirtual idx, 3)) (L : LkV own idx kd y bytes maxL ret np) (hn : av.length = np) (hz : lv1 A kd z) (hR : rm.frames + 1 ≤ R.frames ∧ 8 + (maxL + 11) + rm.locals ≤ R.locals) (hcat : (rest.map fun v => v.category).sum ≤ 8) (hkc : k + rm.cells ≤ R.cells) (hns : n + rm.slots ≤ R.slots) (kx : ∀ (E : String) (S' : ST) (A' : AB), XPo E S' A' → X E pc lv S' A' (k + rm.cells) (n + rm.slots)) (kk : ∀ (r : Option Value) (S' : ST) (A' : AB), Po r S' A' → J (pc + 3) lv (r.toList ++ rest) S' A' (k + rm.cells) (n + rm.slots)) : J pc lv (av.reverse ++ vR A kd z :: rest) S A k n := by
  obtain ⟨p, e, s, m, args, below, meth, c, Al, Q, rfl, rfl, hx, hb, hml, hown, hts, hG, hAl, hfl, hmn, htb⟩ := C
  intro H locs ls hl hw hs
  obtain ⟨⟨T, N, l0⟩, l1, l2, l3, l4, l5, l6⟩ := L
  have hrecv : ∃ cellB : Cell, H[A.1 kd z]? = some cellB ∧ cellB.vm.isStatics = false ∧ s.vm.findClass y.cls = some cellB.cls := by
    obtain ⟨ws, g1, g2, hP, hD, hA, hW⟩ := hw
    obtain ⟨q0, hq⟩ := HW.at (Al := Al) (H := H) g1 hz
    rw [cellV_o (KF kd _ l0).1] at hq
    exact va_recv (q := (y.cls, T, N)) hG.1 hP l0 hq
  rw [vR_ref hz.1] at hc ⊢
  exact j_run (vx_runV (As := av) (rest := rest) (C := y.cls) ⟨hx, hb, hml, hown, hts⟩ (hc H.size) (cwV np hts (WA_app (in_4 l1 l2 l3 l4) (WA_code l5)) rfl rfl rfl ⟨rfl, l6⟩ hR) ⟨preB_blind, hrecv, preB_ok hw hs hG hAl _⟩ rfl hn hl.1 rfl (lv_room hcat) d ⟨hkc, hns⟩) hl hw hs hAl kx kk
theorem r_callU {G : GT} {l : Launch} {R : Room} {cc : ByteArray} {nL : Nat} {own mn : String} {tb : List ExceptionTableEntry} {J : JT} {X : XT} (C : Cx G l R cc nL own mn tb J X) {pc : Nat} {lv : List (Option Value)} {S : ST} {A : AB} {k n : Nat} {idx : Nat} {bytes : ByteArray} {maxL np : Nat} {rm : Room} {Po : Option Value → ST → AB → Prop} {XPo : String → ST → AB → Prop} {av rest : List Value} {kd : Nat} {z : Int} {owner : String} {x y : MethodName} {ret : Option FieldType} (hc : CT G l y bytes maxL ret rm S A (vR A kd z :: av) Po XPo) (d : decode cc pc = .ok (.invokevirtual idx, 3)) (L : LkU own idx kd owner x y bytes maxL ret np) (hn : av.length = np) (hz : lv1 A kd z) (hR : rm.frames + 1 ≤ R.frames ∧ 8 + (maxL + 11) + rm.locals ≤ R.locals) (hcat : (rest.map fun v => v.category).sum ≤ 8) (hkc : k + rm.cells ≤ R.cells) (hns : n + rm.slots ≤ R.slots) (kx : ∀ (E : String) (S' : ST) (A' : AB), XPo E S' A' → X E pc lv S' A' (k + rm.cells) (n + rm.slots)) (kk : ∀ (r : Option Value) (S' : ST) (A' : AB), Po r S' A' → J (pc + 3) lv (r.toList ++ rest) S' A' (k + rm.cells) (n + rm.slots)) : J pc lv (av.reverse ++ vR A kd z :: rest) S A k n := by
  obtain ⟨p, e, s, m, args, below, meth, c, Al, Q, rfl, rfl, hx, hb, hml, hown, hts, hG, hAl, hfl, hmn, htb⟩ := C
  intro H locs ls hl hw hs
  obtain ⟨⟨C0, T, N, l0, l3⟩, l1, l2, l4, l5, l6, l7, l8⟩ := L
  have hrecv : ∃ cellB : Cell, H[A.1 kd z]? = some cellB ∧ cellB.vm.isStatics = false ∧ s.vm.findClass C0 = some cellB.cls := by
    obtain ⟨ws, g1, g2, hP, hD, hA, hW⟩ := hw
    obtain ⟨q0, hq⟩ := HW.at (Al := Al) (H := H) g1 hz
    rw [cellV_o (KF kd _ l0).1] at hq
    exact va_recv (q := (C0, T, N)) hG.1 hP l0 hq
  rw [vR_ref hz.1] at hc ⊢
  have hGo : GoodIn WA (va_wsU own idx C0 owner x y (Cond.code y bytes maxL ret :: WA)) := WA_app (in_5 l1 l2 l3 l4 l5) (WA_code l6)
  have cw : va_CU R s args own C0 owner idx x y bytes maxL ret (Cond.code y bytes maxL ret :: WA) rm rm.cells rm.slots np := by
    rcases l7 with l7 | l7
    · exact va_cwA (ws' := WA) np hts hGo rfl rfl rfl (hG.2.2.2.2.1 _ l7) l8 hR
    · exact va_cwU (ws' := WA) np hts hGo rfl rfl rfl l7 l8 hR
  exact j_run (vx_runU (As := av) (rest := rest) (C := C0) ⟨hx, hb, hml, hown, hts⟩ (hc H.size) cw ⟨preB_blind, hrecv, preB_ok hw hs hG hAl _⟩ rfl hn hl.1 rfl (lv_room hcat) d ⟨hkc, hns⟩) hl hw hs hAl kx kk
theorem r_callI {G : GT} {l : Launch} {R : Room} {cc : ByteArray} {nL : Nat} {own mn : String} {tb : List ExceptionTableEntry} {J : JT} {X : XT} (C : Cx G l R cc nL own mn tb J X) {pc : Nat} {lv : List (Option Value)} {S : ST} {A : AB} {k n : Nat} {idx : Nat} {bytes : ByteArray} {maxL np : Nat} {rm : Room} {Po : Option Value → ST → AB → Prop} {XPo : String → ST → AB → Prop} {av rest : List Value} {kd : Nat} {z : Int} {y : MethodName} (hc : CT G l y bytes maxL none rm S A (vR A kd z :: av) Po XPo) (d : decode cc pc = .ok (.invokespecial idx, 3)) (L : LkI own idx y bytes maxL np) (hn : av.length = np) (hz : 0 ≤ z) (hR : rm.frames + 1 ≤ R.frames ∧ 8 + (maxL + 11) + rm.locals ≤ R.locals) (hcat : (rest.map fun v => v.category).sum ≤ 8) (hkc : k + rm.cells ≤ R.cells) (hns : n + rm.slots ≤ R.slots) (kx : ∀ (E : String) (S' : ST) (A' : AB), XPo E S' A' → X E pc lv S' A' (k + rm.cells) (n + rm.slots)) (kk : ∀ (r : Option Value) (S' : ST) (A' : AB), Po r S' A' → J (pc + 3) lv (r.toList ++ rest) S' A' (k + rm.cells) (n + rm.slots)) : J pc lv (av.reverse ++ vR A kd z :: rest) S A k n := by
  obtain ⟨p, e, s, m, args, below, meth, c, Al, Q, rfl, rfl, hx, hb, hml, hown, hts, hG, hAl, hfl, hmn, htb⟩ := C
  intro H locs ls hl hw hs
  obtain ⟨l1, l2, l3, l4, l5, l6⟩ := L
  rw [vR_ref hz] at hc ⊢
  exact j_run (vx_runI (As := av) (rest := rest) ⟨hx, hb, hml, hown, hts⟩ (hc H.size) (cwI np hts (WA_code l4) rfl rfl rfl (hts _ l3) (hts _ l1) (hts _ l2) l5 l6 hR) ⟨preB_blind, preB_ok hw hs hG hAl _⟩ rfl hn hl.1 rfl (lv_room hcat) d ⟨hkc, hns⟩) hl hw hs hAl kx kk
theorem r_callN {G : GT} {l : Launch} {R : Room} {cc : ByteArray} {nL : Nat} {own mn : String} {tb : List ExceptionTableEntry} {J : JT} {X : XT} (C : Cx G l R cc nL own mn tb J X) {pc : Nat} {lv : List (Option Value)} {S : ST} {A : AB} {k n : Nat} {idx : Nat} {bytes : ByteArray} {maxL np : Nat} {rm : Room} {Po : Option Value → ST → AB → Prop} {XPo : String → ST → AB → Prop} {av rest : List Value} {kd : Nat} {z : Int} {y : MethodName} (hc : CT G l y bytes maxL none rm S A (vR A kd z :: av) Po XPo) (d : decode cc pc = .ok (.invokespecial idx, 3)) (L : LkN own idx y bytes maxL np) (hn : av.length = np) (hz : 0 ≤ z) (hR : rm.frames + 1 ≤ R.frames ∧ 8 + (maxL + 11) + rm.locals ≤ R.locals) (hcat : (rest.map fun v => v.category).sum ≤ 8) (hkc : k + rm.cells ≤ R.cells) (hns : n + rm.slots ≤ R.slots) (kx : ∀ (E : String) (S' : ST) (A' : AB), XPo E S' A' → X E pc lv S' A' (k + rm.cells) (n + rm.slots)) (kk : ∀ (r : Option Value) (S' : ST) (A' : AB), Po r S' A' → J (pc + 3) lv (r.toList ++ rest) S' A' (k + rm.cells) (n + rm.slots)) : J pc lv (av.reverse ++ vR A kd z :: rest) S A k n := by
  obtain ⟨p, e, s, m, args, below, meth, c, Al, Q, rfl, rfl, hx, hb, hml, hown, hts, hG, hAl, hfl, hmn, htb⟩ := C
  intro H locs ls hl hw hs
  obtain ⟨l1, l2, l3, l4, l5, l6⟩ := L
  rw [vR_ref hz] at hc ⊢
  exact j_run (vx_runIN (As := av) (rest := rest) ⟨hx, hb, hml, hown, hts⟩ (hc H.size) ⟨va_cnB np hts (WA_code l4) rfl rfl rfl (hG.2.2.2.1 _ l1) (hts _ l3) l6 hR, l5, hts _ l2⟩ ⟨preB_blind, preB_ok hw hs hG hAl _⟩ rfl hn hl.1 rfl (lv_room hcat) d ⟨hkc, hns⟩) hl hw hs hAl kx kk
theorem vx_runSO {p : Program} {l : Launch} {e : Env} {R : Room} {s : State} {m : MethodId} {args : Array Value} {below : List Frame} {meth : Method} {c : Code} {H : Heap} {locs : List Loc} {cells slots : Nat} {x y : MethodName} {bytes cc : ByteArray} {maxL nL mc ms n index : Nat} {ret : Option FieldType} {ws : List Cond} {rm : Room} {Pc : Array Value → State → Prop} {Qc : Array Value → State → Outcome → State → Prop} {XC : String → State → State → Prop} {free : Addr → Prop} {Ts : List Cond} {own : String} {As rest : List Value} {g : JFrame}
    (S : CallFix p m c cc nL s args Ts own) (hM : vx_Met l y ws rm Pc Qc XC mc ms free) (hcb : rm.cells = mc ∧ rm.slots = ms ∧ rm.frames + 1 ≤ R.frames ∧ 8 + (maxL + 11) + rm.locals ≤ R.locals ∧ (∀ w ∈ ws, ∀ (a' : Array Value) (U : State), s.WarmedH U.vm → w.before a' U = true) ∧ Cond.code y bytes maxL ret ∈ ws) (hcode : (Cond.code y bytes maxL ret).before args s = true) (hini : (Cond.initialized y.cls).before args s = true) (hy : y.cls ≠ "java/lang/invoke/MethodHandle" ∧ y.cls ≠ "java/lang/invoke/VarHandle") (hlen : ∀ sig, parseMethodDescriptor y.desc = some sig → n = sig.parameters.length) (hl : (Cond.methodLink own index x).before args s = true) (hsame : (Cond.sameMethod x.cls y.cls x.name x.desc).before args s = true) (hyx : y = ⟨y.cls, x.name, x.desc⟩) (hstt : (Cond.static y).before args s = true) (hp : PreS s H Pc As)
    (hg : g.method = m) (hn : As.length = n) (hsize : g.locals.size = nL) (hstack : g.stack = As.reverse ++ rest) (hW : 2 * g.monitorRoom + (rest.map fun v => v.category).sum ≤ 8) (hdg : decode cc g.pc = .ok (.invokestatic index, 3)) (hf : cells + mc ≤ R.cells ∧ slots + ms ≤ R.slots) :
    vx_Run p l e R s m args below meth c H locs cells slots mc ms g rest (Qc As.toArray) XC free := by
  obtain ⟨hrc, hrs, hfr, hlo, hws, hcw⟩ := hcb
  have hK : vx_Back l R p e below s args y 3 8 (PreOf R mc ms Pc) (PostOf Qc mc ms free) (vx_Post XC mc ms free) := vx_back (bytes := bytes) (maxL := maxL) (ret := ret) hM hp.1 hrc hrs hfr hlo hws hcw (fun a' U hW => word_at hW (Or.inl (by first | rfl | simp [Cond.onTables, Cond.keeps, Cond.steady])) hini)
  obtain ⟨hx, hb, hml, ho, -⟩ := S
  intro T hT X
  rcases vx_callSO X hx (bytes := bytes) (maxL := maxL) (ret := ret) ho hl hsame hyx hstt hini hcode hy hK hg (hsize.trans hml.symm) (argsL := As) (rest := rest) (fun sig h => hn.trans (hlen sig h)) hstack hW (by rw [hb]; exact hdg)
    (fun vm₁ hW₁ => ⟨hf.1, hf.2, hp.2 (T.setVm vm₁) hT hW₁⟩) with ⟨v, vm₁, ⟨U', l2, c2, s2⟩, hW₁, X', ⟨g', mk, t, L, e1, e2, hq, h1, hL, h2, h3⟩, st⟩ | ⟨q, vm₁, ⟨U', l2, c2, s2⟩, hW₁, X', ⟨g', mk, t, L, E, ce, e1, e2, hxc, hce, hcv, hcl, h1, hL, h2, h3⟩, st⟩
  · dsimp only [Pt.U, Pt.locs, Pt.cells, Pt.slots] at X' e1 e2 h1 h2 h3 st
    subst h1; subst h2; subst h3
    exact Or.inl ⟨v, (T.setVm vm₁).calling g' mk As.toArray, t, U', L, hT, X', hL, e1, e2, hq, st⟩
  · dsimp only [Pt.U, Pt.locs, Pt.cells, Pt.slots] at X' e1 e2 h1 h2 h3 st hxc hcl
    subst h1; subst h2; subst h3
    exact Or.inr ⟨q, (T.setVm vm₁).calling g' mk As.toArray, t, U', L, E, ce, hT, X', hL, e1, e2, hxc, hce, hcv, vx_cls hW₁ hcl, st⟩
theorem r_callO {G : GT} {l : Launch} {R : Room} {cc : ByteArray} {nL : Nat} {own mn : String} {tb : List ExceptionTableEntry} {J : JT} {X : XT} (C : Cx G l R cc nL own mn tb J X) {pc : Nat} {lv : List (Option Value)} {S : ST} {A : AB} {k n : Nat} {idx : Nat} {bytes : ByteArray} {maxL np : Nat} {rm : Room} {Po : Option Value → ST → AB → Prop} {XPo : String → ST → AB → Prop} {av rest : List Value} {x y : MethodName} {ret : Option FieldType} (hc : CT G l y bytes maxL ret rm S A av Po XPo) (d : decode cc pc = .ok (.invokestatic idx, 3)) (L : LkO own idx x y bytes maxL ret np) (hn : av.length = np) (hR : rm.frames + 1 ≤ R.frames ∧ 8 + (maxL + 11) + rm.locals ≤ R.locals) (hcat : (rest.map fun v => v.category).sum ≤ 8) (hkc : k + rm.cells ≤ R.cells) (hns : n + rm.slots ≤ R.slots) (kx : ∀ (E : String) (S' : ST) (A' : AB), XPo E S' A' → X E pc lv S' A' (k + rm.cells) (n + rm.slots)) (kk : ∀ (r : Option Value) (S' : ST) (A' : AB), Po r S' A' → J (pc + 3) lv (r.toList ++ rest) S' A' (k + rm.cells) (n + rm.slots)) : J pc lv (av.reverse ++ rest) S A k n := by
  obtain ⟨p, e, s, m, args, below, meth, c, Al, Q, rfl, rfl, hx, hb, hml, hown, hts, hG, hAl, hfl, hmn, htb⟩ := C
  intro H locs ls hl hw hs
  obtain ⟨l1, l2, l3, l4, l5, l6, l7, l8, l9⟩ := L
  refine j_run (vx_runSO (As := av) (rest := rest) ⟨hx, hb, hml, hown, hts⟩ (hc H.size) ⟨rfl, rfl, hR.1, hR.2, pay_in hts (WA_code l6), List.mem_cons_self⟩ (hts _ l6) (hts _ l5) ⟨l7, l8⟩ (fun sig h => ?_) (hts _ l1) (hts _ l2) l3 (hts _ l4) ⟨preB_blind, preB_ok hw hs hG hAl _⟩ rfl hn hl.1 rfl (lv_room hcat) d ⟨hkc, hns⟩) hl hw hs hAl kx kk
  rw [h] at l9
  exact (Option.some.inj l9).symm
theorem r_obj {G : GT} {l : Launch} {R : Room} {cc : ByteArray} {nL : Nat} {own mn : String} {tb : List ExceptionTableEntry} {J : JT} {X : XT} (C : Cx G l R cc nL own mn tb J X) {pc : Nat} {lv : List (Option Value)} {S : ST} {A : AB} {k n : Nat} {kd idx : Nat} {z : Int} {rest : List Value} (d : decode cc pc = .ok (.invokespecial idx, 3)) (hlk : Cond.methodLink own idx objectInit ∈ WA) (hz : 0 ≤ z) (hi : Cond.instanceMethod objectInit ∈ WA) (hcd : Cond.code objectInit ⟨#[0xb1]⟩ 1 none ∈ WA) (hf : 1 ≤ R.frames) (hcat : (rest.map fun v => v.category).sum + 12 ≤ R.locals) (kk : J (pc + 3) lv rest S A k n) : J pc lv (vR A kd z :: rest) S A k n := by
  obtain ⟨p, e, s, m, args, below, meth, c, Al, Q, rfl, rfl, hx, hb, hml, hown, hts, hG, hAl, hfl, hmn, htb⟩ := C
  intro H locs ls hl hw hs
  rw [vR_ref hz]
  exact W.objInit hx hb hown (hts _ hlk) (hts _ hi) (hts _ hcd) rfl (by rw [hml]; exact hl.1) rfl d hf (by show 2 * 0 + _ + 12 ≤ _; omega) (kk H locs ls hl hw hs)
theorem r_min {G : GT} {l : Launch} {R : Room} {cc : ByteArray} {nL : Nat} {own mn : String} {tb : List ExceptionTableEntry} {J : JT} {X : XT} (C : Cx G l R cc nL own mn tb J X) {pc : Nat} {lv : List (Option Value)} {S : ST} {A : AB} {k n : Nat} {idx : Nat} {x y : Int} {rest : List Value} (d : decode cc pc = .ok (.invokestatic idx, 3)) (hlk : Cond.methodLink own idx Lib.Math.min.name ∈ WA) (hst : Cond.static Lib.Math.min.name ∈ WA) (hin : Cond.initialized "java/lang/Math" ∈ WA) (hcd : Cond.code Lib.Math.min.name Lib.Math.min.code 2 (some .int) ∈ WA) (hf : 1 ≤ R.frames) (hcat : (rest.map fun v => v.category).sum + 13 ≤ R.locals) (hkc : k ≤ R.cells) (hns : n ≤ R.slots) (h1 : rI x) (h2 : rI y) (kk : J (pc + 3) lv (vI (if y < x then y else x) :: rest) S A k n) : J pc lv (vI y :: vI x :: rest) S A k n := by
  obtain ⟨p, e, s, m, args, below, meth, c, Al, Q, rfl, rfl, hx, hb, hml, hown, hts, hG, hAl, hfl, hmn, htb⟩ := C
  intro H locs ls hl hw hs
  refine va_mmin hx hb (by rw [hml]; exact hl.1.symm) hown (hts _ hlk) (hts _ hst) (hts _ hin) (hts _ hcd) hf hcat hkc hns d ?_
  have e9 : (if iI y < iI x then iI y else iI x) = iI (if y < x then y else x) := by
    by_cases h : y < x
    · rw [if_pos ((iI_lt h2 h1).mpr h), if_pos h]
    · rw [if_neg (fun q => h ((iI_lt h2 h1).mp q)), if_neg h]
  rw [e9]
  exact kk H locs ls hl hw hs
