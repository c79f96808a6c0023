/-! the ends of a body, and a contract out of a body -/
def retm (rt : Option FieldType) (ins : Instr) (st : List Value) (r : Option Value) : Prop :=
  (rt = none ∧ ins = .return_ ∧ st = [] ∧ r = none) ∨ (∃ z, rt = some .int ∧ ins = .ireturn ∧ st = [vI z] ∧ r = some (vI z)) ∨
  (∃ z, (z = 0 ∨ z = 1) ∧ rt = some .boolean ∧ ins = .ireturn ∧ st = [vI z] ∧ r = some (vI z)) ∨ (∃ z, rt = some .long ∧ ins = .lreturn ∧ st = [vL z] ∧ r = some (vL z)) ∨
  (∃ (o : Option Nat) (n : String), rt = some (.object n) ∧ ins = .areturn ∧ st = [va_rf o] ∧ r = some (va_rf o))
def FinR (cc : ByteArray) (rt : Option FieldType) (Po : Option Value → ST → AB → Prop) (mc ms : Nat) (J : JT) : Prop := ∀ (pc : Nat) (lv : List (Option Value)) (st : List Value) (S : ST) (A : AB) (k n : Nat) (ins : Instr) (r : Option Value), decode cc pc = .ok (ins, 1) → retm rt ins st r → Po r S A → k ≤ mc → n ≤ ms → J pc lv st S A k n
def FinX (XPo : String → ST → AB → Prop) (mc ms : Nat) (X : XT) : Prop := ∀ (E : String) (pc : Nat) (lv : List (Option Value)) (S : ST) (A : AB) (k n : Nat), XPo E S A → k ≤ mc → n ≤ ms → X E pc lv S A k n
def xnames : List String := ["java/lang/RuntimeException", "java/lang/Exception"]
def bdL : List Cond := nxL.map (fun q => Cond.castable q q) ++ ndL.map (fun q => Cond.declares q)
/-- the words of a throw, of a class and the pool number of its constructor -/
def XW (ic : Nat) (E : String) : Prop := (∀ w ∈ (vx_atS RX7 ic E xnames).filter goodWord, w ∈ lw_tbl) ∧ (∀ w ∈ (vx_atS RX7 ic E xnames).filter (fun w => !goodWord w), w ∈ bdL) ∧ (∀ w ∈ vx_atS RX7 ic E xnames, vx_ot w = true) ∧ Bundle.fit E = true ∧ Cond.initialized E ∈ WA
/-- 'throw new E(text)' -/
def FinT (cc : ByteArray) (R : Room) (own : String) (XPo : String → ST → AB → Prop) (J : JT) : Prop := ∀ (pc : Nat) (lv : List (Option Value)) (S : ST) (A : AB) (k n ik is ic : Nat) (E text : String), (is, text) ∈ strL → own = RX7 → XW ic E → Cond.classLink RX7 ik E ∈ WA →
  decode cc pc = .ok (.new ik, 3) → decode cc (pc + 3) = .ok (.dup, 1) → decode cc (pc + 4) = .ok (.ldc is, 2) → decode cc (pc + 6) = .ok (.invokespecial ic, 3) → decode cc (pc + 9) = .ok (.athrow, 1) → XPo E S A → 5 < R.frames → 82 ≤ R.locals → k + 1 ≤ R.cells → n + 6 ≤ R.slots → J pc lv [] S A k n
/-- .. with the text by a wide index -/
def FinU (cc : ByteArray) (R : Room) (own : String) (XPo : String → ST → AB → Prop) (J : JT) : Prop := ∀ (pc : Nat) (lv : List (Option Value)) (S : ST) (A : AB) (k n ik is ic : Nat) (E text : String), (is, text) ∈ strL → own = RX7 → XW ic E → Cond.classLink RX7 ik E ∈ WA →
  decode cc pc = .ok (.new ik, 3) → decode cc (pc + 3) = .ok (.dup, 1) → decode cc (pc + 4) = .ok (.ldc_w is, 3) → decode cc (pc + 7) = .ok (.invokespecial ic, 3) → decode cc (pc + 10) = .ok (.athrow, 1) → XPo E S A → 5 < R.frames → 82 ≤ R.locals → k + 1 ≤ R.cells → n + 6 ≤ R.slots → J pc lv [] S A k n
theorem HW.kept {G : GT} {S : ST} {A : AB} {Al : Nat → Prop} {H H1 : Heap} (h : HW G S A Al H) (hq : ∀ q : Nat, q < H.size → H1[q]? = H[q]?) : HW G S A Al H1 := by
  obtain ⟨ws, h1, h2, h3, h4, h5⟩ := h
  exact ⟨ws, h1, h2, h3.kept (fun k q hk => hq _ (h3 k q hk).lt), h4, h5⟩
theorem bd_at {G : GT} {Al : Nat → Prop} {s : State} {args : Array Value} (h : GE G Al s) : ∀ w ∈ bdL, w.before args s = true := by
  obtain ⟨-, -, -, -, h6, -, h8, -⟩ := h
  intro w hw
  rcases List.mem_append.mp hw with hw | hw
  · obtain ⟨q, hq, rfl⟩ := List.mem_map.mp hw
    exact va_Nw.use rfl (h8 q hq)
  · obtain ⟨q, hq, rfl⟩ := List.mem_map.mp hw
    exact va_Nw.use rfl (h6 q hq)
theorem cov_nil {c : Code} (h : c.exceptionTable.toList = []) (pc : Nat) : ∀ x ∈ c.exceptionTable.toList, covers x pc = false := by
  rw [h]
  intro x hx
  cases hx
/-- the five ends, over the machine -/
theorem fins {p : Program} {l : Launch} {e : Env} {R : Room} {s : State} {m : MethodId} {args : Array Value} {below : List Frame} {meth : Method} {c : Code} {G : GT} {A0 : AB} {cc : ByteArray} {rt : Option FieldType} {Po : Option Value → ST → AB → Prop} {XPo : String → ST → AB → Prop} {nL : Nat} {own : String} {J : JT} {X : XT}
    (hJ : J = (fun pc lv st S A k n => ∀ (H : Heap) (locs : List Loc) (ls : Array Slot), LH ls nL lv → HW G S A (fA A0 s.heap.size) H → va_S (fA A0 s.heap.size) s.heap H locs → W p l e R s m args below meth c H locs k n (vx_MQ below (QB G Po A0 s.heap.size) (XB G XPo A0 s.heap.size) args s R.cells R.slots (fA A0 s.heap.size)) (F0 m pc ls st)))
    (hX : X = (fun E pc lv S A k n => ∀ (H : Heap) (locs : List Loc) (ls : Array Slot) (rest : List Value) (q9 : Addr) (ce : Cell), LH ls nL lv → HW G S A (fA A0 s.heap.size) H → va_S (fA A0 s.heap.size) s.heap H locs → H[q9]? = some ce → ce.vm = .none → s.vm.findClass E = some ce.cls → vx_W p l e R s m args below meth c H locs k n (vx_MQ below (QB G Po A0 s.heap.size) (XB G XPo A0 s.heap.size) args s R.cells R.slots (fA A0 s.heap.size)) (F0 m pc ls rest) q9))
    (hx : p.tables.exec = Jvm.exec) (hb : c.code = cc) (hr : meth.sig.returnType = rt) (hlocks : meth.locks = false) (hml : c.maxLocals = nL) (hown : s.vm.findClass own = some m.cls) (hts : ∀ w ∈ WA, w.before args s = true) (hts2 : ∀ w ∈ lw_tbl, goodWord w = true → w.before args s = true) (hG : GE G (fA A0 s.heap.size) s) (hfl : l.stackTraces = false) :
    FinR cc rt Po R.cells R.slots J ∧ (c.exceptionTable.toList = [] → FinX XPo R.cells R.slots X ∧ FinT cc R own XPo J ∧ FinU cc R own XPo J) := by
  subst hJ; subst hX
  have thr : ∀ (S : ST) (A : AB) (E : String) (H : Heap) (locs : List Loc), XPo E S A → HW G S A (fA A0 s.heap.size) H → va_S (fA A0 s.heap.size) s.heap H locs → ∀ t : State, s.vm.Alike t.vm → H.size ≤ t.heap.size → (∀ q : Nat, q < H.size → t.heap[q]? = H[q]?) → XB G XPo A0 s.heap.size E s t := by
    intro S A E H locs hpo hw hs t _ hz hk
    exact ⟨⟨S, A, hpo, hw.kept hk⟩, Nat.le_trans hs.1 hz, fun q h1 h2 => (hk q (Nat.lt_of_lt_of_le h1 hs.1)).trans (hs.2.1 q h1 h2)⟩
  refine ⟨?_, fun htb => ⟨?_, ?_, ?_⟩⟩
  · intro pc lv st S A k n ins r d hm hpo hk hn H locs ls hl hw hs
    have hq : ∀ t : State, t.heap = H → s.WarmedH t.vm → QB G Po A0 s.heap.size args s (.returned r) t := fun t ht _ => ⟨⟨r, S, A, rfl, hpo, by rw [ht]; exact hw⟩, hs.F ht⟩
    refine W.widen hk hn (vx_ret ?_)
    rcases hm with ⟨h1, rfl, rfl, rfl⟩ | ⟨z, h1, rfl, rfl, rfl⟩ | ⟨z, hz, h1, rfl, rfl, rfl⟩ | ⟨z, h1, rfl, rfl, rfl⟩ | ⟨o, nm, h1, rfl, rfl, rfl⟩
    · exact W.vret hx hb (hr.trans h1) hq hs.2.2 d hlocks
    · exact W.iret hx hb (hr.trans h1) hq hs.2.2 d hlocks
    · exact W.zret hx hb (hr.trans h1) (by rcases hz with rfl | rfl <;> rfl) hq hs.2.2 d hlocks
    · exact W.lret hx hb (hr.trans h1) hq hs.2.2 d hlocks
    · exact W.aret hx hb (hr.trans h1) (Or.inl ⟨nm, rfl⟩) (by cases o with | none => exact Or.inl rfl | some a => exact Or.inr ⟨a, rfl⟩) hq hs.2.2 d hlocks
  · intro E pc lv S A k n hpo hk hn H locs ls rest q9 ce hl hw hs hce hcv hcl
    exact vx_out (cov_nil htb pc) hlocks hce hcv hcl (fun t ht ha => thr S A E H locs hpo hw hs t ha (by rw [ht]; exact Nat.le_refl _) (fun q _ => by rw [ht])) hs.2.2 hk hn
  · intro pc lv S A k n ik is ic E text hst ho hXW hcl d0 d3 d4 d6 d9 hpo hRf hRl hkc hns H locs ls hl hw hs
    subst ho
    obtain ⟨x1, x2, x3, x4, x5⟩ := hXW
    obtain ⟨sa, hstr⟩ := hG.2.2.1 (is, text) hst
    have hat : ∀ w ∈ vx_atS RX7 ic E xnames, w.before args s = true := vx_hat (B := bdL) (fun w hw => hts2 w (x1 w hw) (List.mem_filter.mp hw).2) x2 (bd_at hG)
    refine vx_throwS (names := xnames) hx hb hfl hown x4 (fun n hn => ?_) (hts _ hcl) (hts _ x5) hstr hat ?_ hG.2.1.1 hG.2.1.2 hs (by rw [hml]; exact hl.1) d0 d3 d4 d6 d9 (cov_nil htb _) hRf hRl hkc hns hlocks (thr S A E H locs hpo hw hs) hs.2.2 hkc hns
    · rcases List.mem_cons.mp hn with rfl | hn
      · decide
      · rcases List.mem_cons.mp hn with rfl | hn
        · decide
        · cases hn
    · intro w hw
      rcases List.mem_cons.mp hw with rfl | hw
      · rfl
      · rcases List.mem_cons.mp hw with rfl | hw
        · rfl
        · exact x3 w hw
  · intro pc lv S A k n ik is ic E text hst ho hXW hcl d0 d3 d4 d6 d9 hpo hRf hRl hkc hns H locs ls hl hw hs
    subst ho
    obtain ⟨x1, x2, x3, x4, x5⟩ := hXW
    obtain ⟨sa, hstr⟩ := hG.2.2.1 (is, text) hst
    have hat : ∀ w ∈ vx_atS RX7 ic E xnames, w.before args s = true := vx_hat (B := bdL) (fun w hw => hts2 w (x1 w hw) (List.mem_filter.mp hw).2) x2 (bd_at hG)
    refine vx_throwSW (names := xnames) hx hb hfl hown x4 (fun n hn => ?_) (hts _ hcl) (hts _ x5) hstr hat ?_ hG.2.1.1 hG.2.1.2 hs (by rw [hml]; exact hl.1) d0 d3 d4 d6 d9 (cov_nil htb _) hRf hRl hkc hns hlocks (thr S A E H locs hpo hw hs) hs.2.2 hkc hns
    · rcases List.mem_cons.mp hn with rfl | hn
      · decide
      · rcases List.mem_cons.mp hn with rfl | hn
        · decide
        · cases hn
    · intro w hw
      rcases List.mem_cons.mp hw with rfl | hw
      · rfl
      · rcases List.mem_cons.mp hw with rfl | hw
        · rfl
        · exact x3 w hw
/-- a contract out of a body -/
theorem ct_of {G : GT} {l : Launch} {y : MethodName} {cc : ByteArray} {maxL : Nat} {ret : Option FieldType} {rm : Room} {S : ST} {A : AB} {av : List Value} {Po : Option Value → ST → AB → Prop} {XPo : String → ST → AB → Prop} {lv0 : List (Option Value)} (hy : plainName y.cls = true) (hfl : l.stackTraces = false) (hav : Ent av lv0) (hlen : lv0.length = maxL)
    (body : ∀ (J : JT) (X : XT), Cx G l rm cc maxL y.cls y.name [] J X → FinR cc ret Po rm.cells rm.slots J → FinX XPo rm.cells rm.slots X → FinT cc rm y.cls XPo J → FinU cc rm y.cls XPo J → WT S A → AI A → J 0 lv0 [] S A 0 0) : CT G l y cc maxL ret rm S A av Po XPo := by
  intro sz
  refine vx_ofW (cc := cc) (maxL := maxL) (ret := ret) (ws' := WA) hy rfl ?_
  intro p e s m args below meth c s₁ B hml htb hv
  obtain ⟨rfl, rfl, hw, hG⟩ := hv
  have hts0 := atoms_spec (ws := Cond.code y cc maxL ret :: WA) B.pre
  have hts : ∀ w ∈ WA, w.before av.toArray s = true := fun w h => hts0 w (List.mem_cons_of_mem _ h)
  have hown : s.vm.findClass y.cls = some m.cls := findClass_of_methodNamed B.named
  have htb' : c.exceptionTable.toList = [] := by
    cases h9 : c.exceptionTable.toList with
    | nil => rfl
    | cons x t => exact (htb x (by rw [h9]; exact List.mem_cons_self)).elim
  have hts2 : ∀ w ∈ lw_tbl, goodWord w = true → w.before av.toArray s = true := fun w h g => hts w (List.mem_filter.mpr ⟨List.mem_append_right _ h, g⟩)
  have hF := fins (p := p) (l := l) (e := e) (R := (headSpec (Cond.code y cc maxL ret :: WA) rm).room) (s := s) (m := m) (args := av.toArray) (below := below) (meth := meth) (c := c) (G := G) (A0 := A) (cc := cc) (rt := ret) (Po := Po) (XPo := XPo) (nL := maxL) (own := y.cls) rfl rfl B.exec B.bytes B.returns B.notSynchronized hml hown hts hts2 hG hfl
  have hC : Cx G l rm cc maxL y.cls y.name [] _ _ := ⟨p, e, s, m, av.toArray, below, meth, c, fA A s.heap.size, (vx_MQ below (QB G Po A s.heap.size) (XB G XPo A s.heap.size) av.toArray s rm.cells rm.slots (fA A s.heap.size)), rfl, rfl, B.exec, B.bytes, hml, hown, hts, hG, fun q h => Or.inr h, hfl, (name_of_methodNamed B.named B.method).1, htb'⟩
  have hJ := body _ _ hC hF.1 (hF.2 htb').1 (hF.2 htb').2.1 (hF.2 htb').2.2 hw.wt.1 hw.wt.2
  rw [lg_entry_eq]
  exact hJ s.heap [] _ (ent_LH hav hlen) hw.self va_S.rf
