/-! what every method may take for granted, contracts, and the judgement J of a body: at pc, with locals, stack, numbers S, addresses A, cells and slots used -/
/-- a private method of a class above, called on an object of a class below: its selection, that the tables don't name -/
def slL : List Cond := [.selects RX0 yX6_applyShares yX6_applyShares, .selects RX4 yX6_applyShares yX6_applyShares, .selects RX0 yX6_apply yX6_apply, .selects RX4 yX6_apply yX6_apply]
def xtb : List Cond := slL ++ lw_tbl
def WA : List Cond := xtb.filter goodWord
theorem sel_priv {x : MethodName} {C : String} {s : State} {args : Array Value} {n : Nat} (hy : x.cls ≠ "java/lang/invoke/MethodHandle" ∧ x.cls ≠ "java/lang/invoke/VarHandle")
    (hins : (Cond.instantiable C n).before args s = true) (hpriv : (Cond.privateMethod x).before args s = true) (hinst : (Cond.instanceMethod x).before args s = true) (hsame : (Cond.sameMethod x.cls x.cls x.name x.desc).before args s = true) : (Cond.selects C x x).before args s = true := by
  obtain ⟨c, k, hc, hk, -, -, -, -⟩ := Cond.instantiable_spec hins
  obtain ⟨cn, ck, r1, hcn, hck, hni, hf, hn1⟩ := Cond.sameMethod_found hsame
  obtain ⟨mk, methM, hnamed, hmethM, -, -⟩ := Cond.instanceMethod_spec hinst
  have hfound : s.methodFound? x.cls x.name x.desc = some mk := State.methodFound?_of_named hnamed hy
  have hcls : mk.cls = cn := Option.some.inj ((findClass_of_methodNamed hnamed).symm.trans hcn)
  have hsel : selectMethod {} s.vm c mk = .method mk := selectMethod_private hmethM (Cond.privateMethod_at hpriv mk methM hnamed hmethM)
  simp only [Cond.before, Cond.holds, Cond.value, hc, hfound, hnamed, hsel, hcls, hck]
  simp; exact hni
theorem WA_good : ∀ w ∈ WA, (w.onTables && w.keeps) = true ∨ ∃ ty, w = .arrayClass ty := fun _ h => good_of_word (List.mem_filter.mp h).2
theorem WA_of {w : Cond} {i : Nat} (h : xtb[i]? = some w) (g : goodWord w = true) : w ∈ WA := List.mem_filter.mpr ⟨List.mem_of_getElem? h, g⟩
def strL : List (Nat × String) := [(220, "out of range"), (222, "the books are closed for the day"), (224, "no more movements"), (226, "the ledger would be invalid"), (80, "no receipts"), (87, "a bit stands for no movement"), (232, "no receipt to spread over"), (100, "nothing to spread by"), (246, "there is no such movement"), (119, "cancelled already"), (238, "a landed cost is spread over it"), (147, "no landed cost"), (158, "no issue of the ledger"), (252, "there is no such layer")]
def nmL : List (String × Nat × MethodName) := [(RX7, 17, yX2_init), (RX7, 24, yX0_init), (RX7, 31, yX4_init), (RX0, 1, yX6_init), (RX4, 1, yX6_init)]
def ndL : List MethodName := [⟨RX6, "empty", "()V"⟩, ⟨RX6, "absorb", "(LLayerbook$Movement;I)J"⟩, ⟨RX6, "bring", "(LLayerbook$Movement;)V"⟩, ⟨RX6, "take", "(I)J"⟩, ⟨RX6, "bringBack", "(LLayerbook$Movement;)V"⟩, ⟨RX6, "worth", "()J"⟩, ⟨RX6, "replay", "(LLayerbook$Movement;II)V"⟩, ⟨"java/lang/RuntimeException", "<init>", "()V"⟩, ⟨"java/lang/RuntimeException", "<init>", "(Ljava/lang/String;)V"⟩, ⟨"java/lang/Exception", "<init>", "()V"⟩, ⟨"java/lang/Exception", "<init>", "(Ljava/lang/String;)V"⟩, ⟨"java/lang/Throwable", "<init>", "()V"⟩, ⟨"java/lang/Throwable", "<init>", "(Ljava/lang/String;)V"⟩]
def xIA : String := "java/lang/IllegalArgumentException"
def xIS : String := "java/lang/IllegalStateException"
def xIO : String := "java/lang/IndexOutOfBoundsException"
def ncL : List (String × String) := [(xIS, xIA), (xIO, xIA), (xIA, xIS), (xIO, xIS), (xIA, xIO), (xIS, xIO)]
def nxL : List String := [xIA, xIS, xIO]
def GE (G : GT) (Al : Nat → Prop) (s : State) : Prop := va_K G.1 vwCl (tysG G) s ∧ (vx_Zq Bundle.tN "UNASSIGNED_STACK" Bundle.steD Al s s.heap ∧ vx_Zq Bundle.tN "SUPPRESSED_SENTINEL" Bundle.listD Al s s.heap) ∧ (∀ q ∈ strL, ∃ a, vk_R RX7 q.1 q.2 a s) ∧ (∀ q ∈ nmL, va_Nw (.methodLinkNest q.1 q.2.1 q.2.2 RX7) s) ∧ (∀ q ∈ ndL, va_Nw (.declares q) s) ∧ (∀ q ∈ ncL, va_Nc q.1 q.2 s) ∧ (∀ q ∈ nxL, va_Nw (.castable q q) s) ∧ va_AO RX3 s
theorem GE.moved {G : GT} {Al Al' : Nat → Prop} {s U : State} {H : Heap} (h : GE G Al s) (hW : s.WarmedH U.vm) (hH : U.heap = H) (hk : ∀ q : Nat, q < s.heap.size → ¬ Al q → H[q]? = s.heap[q]?) (hA : ∀ q, Al' q → Al q) : GE G Al' U := by
  obtain ⟨h1, ⟨h2, h3⟩, h4, h5, h6, h7, h8, h9⟩ := h
  subst hH
  exact ⟨va_K.moved hW.alike h1, ⟨((vx_Zq.moved hW.alike (h2.kept hk))).narrow hA, ((vx_Zq.moved hW.alike (h3.kept hk))).narrow hA⟩, fun q hq => (h4 q hq).imp fun _ hr => vk_R.warm hW hr, fun q hq => va_Nw.warmM hW (h5 q hq), fun q hq => va_Nw.warmD hW (h6 q hq), fun q hq => va_Nc.moved hW.alike (h7 q hq), fun q hq => va_Nw.warmC hW (h8 q hq), va_AO.moved hW.alike h9⟩
theorem GE.calling {G : GT} {Al : Nat → Prop} {U : State} (g : JFrame) (mk : MethodId) (a : Array Value) (h : GE G Al U) : GE G Al (U.calling g mk a) := by
  obtain ⟨h1, ⟨h2, h3⟩, h4, h5, h6, h7, h8, h9⟩ := h
  have hv : U.vm.Alike (U.calling g mk a).vm := Vm.Alike.refl U.vm
  exact ⟨va_K.moved hv h1, ⟨vx_Zq.moved hv h2, vx_Zq.moved hv h3⟩, fun q hq => (h4 q hq).imp fun _ hr => vk_R.same rfl hr, fun q hq => va_Nw.same rfl rfl (h5 q hq), fun q hq => va_Nw.same rfl rfl (h6 q hq), fun q hq => va_Nc.moved hv (h7 q hq), fun q hq => va_Nw.same rfl rfl (h8 q hq), va_AO.moved hv h9⟩
/-- the cells that a method may change: its things, and what is new -/
def fA (A : AB) (sz : Nat) : Nat → Prop := fun q => (∃ (k : Nat) (z : Int), lv1 A k z ∧ q = A.1 k z) ∨ sz ≤ q
theorem HW.weaken {G : GT} {S : ST} {A : AB} {Al Al' : Nat → Prop} {H : Heap} (h : HW G S A Al H) (hA : ∀ (k : Nat) (z : Int), lv1 A k z → Al' (A.1 k z)) : HW G S A Al' H := by
  obtain ⟨ws, h1, h2, h3, h4, h5⟩ := h
  refine ⟨ws, h1, h2, h3, h4.weaken (fun k q hk _ => ?_), h5⟩
  obtain ⟨k', z', hl, e⟩ := h2 q (List.mem_of_getElem? hk)
  rw [e]
  exact hA k' z' hl
theorem HW.self {G : GT} {S : ST} {A : AB} {Al : Nat → Prop} {H : Heap} {sz : Nat} (h : HW G S A Al H) : HW G S A (fA A sz) H := h.weaken fun k z hl => Or.inl ⟨k, z, hl, rfl⟩
theorem HW.in {G : GT} {S : ST} {A : AB} {Al : Nat → Prop} {H : Heap} (h : HW G S A Al H) {k : Nat} {z : Int} (hl : lv1 A k z) : Al (A.1 k z) ∧ A.1 k z < H.size := by
  obtain ⟨ws, h1, h2, h3, h4, h5⟩ := h
  obtain ⟨q0, hq⟩ := HW.at (Al := Al) (H := H) h1 hl
  exact ⟨h4.2 q0 _ hq, (h3 q0 _ hq).lt⟩
theorem HW.wt {G : GT} {S : ST} {A : AB} {Al : Nat → Prop} {H : Heap} (h : HW G S A Al H) : WT S A ∧ AI A := by
  obtain ⟨ws, h1, h2, h3, h4, h5, h6⟩ := h
  exact ⟨h6, h5⟩
def PreB (G : GT) (S : ST) (A : AB) (sz : Nat) (av : List Value) : Array Value → State → Prop := va_Pc av (fun U => U.heap.size = sz ∧ HW G S A (fun _ => True) U.heap ∧ GE G (fA A sz) U)
def QB (G : GT) (Po : Option Value → ST → AB → Prop) (A : AB) (sz : Nat) : Array Value → State → Outcome → State → Prop := fun _ st o t => (∃ (r : Option Value) (S' : ST) (A' : AB), o = .returned r ∧ Po r S' A' ∧ HW G S' A' (fA A sz) t.heap) ∧ va_F (fA A sz) st t
def XB (G : GT) (XPo : String → ST → AB → Prop) (A : AB) (sz : Nat) : String → State → State → Prop := fun E st t => (∃ (S' : ST) (A' : AB), XPo E S' A' ∧ HW G S' A' (fA A sz) t.heap) ∧ va_F (fA A sz) st t
/-- a method's contract -/
def CT (G : GT) (l : Launch) (y : MethodName) (cc : ByteArray) (maxL : Nat) (ret : Option FieldType) (rm : Room) (S : ST) (A : AB) (av : List Value) (Po : Option Value → ST → AB → Prop) (XPo : String → ST → AB → Prop) : Prop :=
  ∀ sz : Nat, vx_Met l y (Cond.code y cc maxL ret :: WA) rm (PreB G S A sz av) (QB G Po A sz) (XB G XPo A sz) rm.cells rm.slots (fA A sz)
/-- .. of a method with a table -/
def CTH (G : GT) (l : Launch) (y : MethodName) (cc : ByteArray) (maxL : Nat) (ret : Option FieldType) (hh : List (Nat × Nat × Nat × Nat)) (rm : Room) (S : ST) (A : AB) (av : List Value) (Po : Option Value → ST → AB → Prop) (XPo : String → ST → AB → Prop) : Prop :=
  ∀ sz : Nat, vx_Met l y (Cond.codeWith y cc maxL ret hh :: WA) rm (PreB G S A sz av) (QB G Po A sz) (XB G XPo A sz) rm.cells rm.slots (fA A sz)
abbrev JT : Type := Nat → List (Option Value) → List Value → ST → AB → Nat → Nat → Prop
abbrev XT : Type := String → Nat → List (Option Value) → ST → AB → Nat → Nat → Prop
def Cx (G : GT) (l : Launch) (R : Room) (cc : ByteArray) (nL : Nat) (own mn : String) (tb : List ExceptionTableEntry) (J : JT) (X : XT) : Prop :=
  ∃ (p : Program) (e : Env) (s : State) (m : MethodId) (args : Array Value) (below : List Frame) (meth : Method) (c : Code) (Al : Nat → Prop) (Q : State → Prop),
    J = (fun pc lv st S A k n => ∀ (H : Heap) (locs : List Loc) (ls : Array Slot), LH ls nL lv → HW G S A Al H → va_S Al s.heap H locs → W p l e R s m args below meth c H locs k n Q (F0 m pc ls st)) ∧
    X = (fun E pc lv S A k n => ∀ (H : Heap) (locs : List Loc) (ls : Array Slot) (rest : List Value) (q9 : Addr) (ce : Cell), LH ls nL lv → HW G S A Al H → va_S Al s.heap H locs → H[q9]? = some ce → ce.vm = .none → s.vm.findClass E = some ce.cls → vx_W p l e R s m args below meth c H locs k n Q (F0 m pc ls rest) q9) ∧
    p.tables.exec = Jvm.exec ∧ c.code = cc ∧ c.maxLocals = nL ∧ s.vm.findClass own = some m.cls ∧ (∀ w ∈ WA, w.before args s = true) ∧ GE G Al s ∧ (∀ q, s.heap.size ≤ q → Al q) ∧ l.stackTraces = false ∧ meth.name = mn ∧ c.exceptionTable.toList = tb
/-- how the entry's locals stand -/
def Ent : List Value → List (Option Value) → Prop
  | [], l => ∀ o ∈ l, o = none
  | v :: t, some w :: l => v = w ∧ ((v.category = 1 ∧ Ent t l) ∨ (v.category = 2 ∧ ∃ l', l = none :: l' ∧ Ent t l'))
  | _ :: _, _ => False
theorem ent_1 {v : Value} {t : List Value} {l : List (Option Value)} (h : v.category = 1) (k : Ent t l) : Ent (v :: t) (some v :: l) := ⟨rfl, Or.inl ⟨h, k⟩⟩
theorem ent_2 {v : Value} {t : List Value} {l : List (Option Value)} (h : v.category = 2) (k : Ent t l) : Ent (v :: t) (some v :: none :: l) := ⟨rfl, Or.inr ⟨h, l, rfl, k⟩⟩
theorem ent_0 : Ent [] [] := fun _ h => by cases h
theorem ent_n {l : List (Option Value)} (h : Ent [] l) : Ent [] (none :: l) := fun o ho => (List.mem_cons.mp ho).elim id (h o)
theorem cat_R (A : AB) (k : Nat) (z : Int) : (vR A k z).category = 1 := by
  unfold vR rfo
  split <;> rfl
theorem ent_args : ∀ (av : List Value) (lv : List (Option Value)) (n : Nat), Ent av lv → ∀ (i : Nat) (v : Value), lv[i]? = some (some v) → (n + i, v) ∈ lv_args n av
  | [], lv, n, h, i, v, hi => by cases h _ (List.mem_of_getElem? hi)
  | w :: t, [], n, h, i, v, hi => by cases h
  | w :: t, none :: l, n, h, i, v, hi => by cases h
  | w :: t, some u :: l, n, h, i, v, hi => by
    obtain ⟨rfl, h⟩ := h
    rcases h with ⟨hc, h⟩ | ⟨hc, l', rfl, h⟩
    · cases i with
      | zero => cases hi; exact List.mem_cons_self
      | succ i =>
        have h9 := ent_args t l (n + 1) h i v hi
        refine List.mem_cons_of_mem _ ?_
        rw [if_neg (by omega), show n + (i + 1) = n + 1 + i by omega]
        exact h9
    · cases i with
      | zero => cases hi; exact List.mem_cons_self
      | succ i =>
        cases i with
        | zero => cases hi
        | succ i =>
          have h9 := ent_args t l' (n + 2) h i v hi
          refine List.mem_cons_of_mem _ ?_
          rw [if_pos hc, show n + (i + 1 + 1) = n + 2 + i by omega]
          exact h9
theorem ent_len : ∀ (av : List Value) (lv : List (Option Value)), Ent av lv → (lg_sl av).length ≤ lv.length
  | [], lv, h => Nat.zero_le _
  | w :: t, [], h => by cases h
  | w :: t, none :: l, h => by cases h
  | w :: t, some u :: l, h => by
    obtain ⟨rfl, h⟩ := h
    rcases h with ⟨hc, h⟩ | ⟨hc, l', rfl, h⟩
    · have := ent_len t l h
      simp only [lg_sl, List.flatMap_cons, if_neg (show ¬ w.category = 2 by omega), List.length_append, List.length_cons, List.length_nil] at this ⊢
      omega
    · have := ent_len t l' h
      simp only [lg_sl, List.flatMap_cons, if_pos hc, List.length_append, List.length_cons, List.length_nil] at this ⊢
      omega
theorem ent_LH {av : List Value} {lv : List (Option Value)} {n : Nat} (h : Ent av lv) (hn : lv.length = n) : LH ((lg_sl av ++ List.replicate (n - (lg_sl av).length) Slot.unset).toArray) n lv := by
  have h9 := lv_entry av (n := n) (by rw [← hn]; exact ent_len av lv h)
  refine ⟨h9.1, h9.2.1, hn, fun i v hi => ?_⟩
  have := ent_args av lv 0 h i v hi
  rw [Nat.zero_add] at this
  exact h9.2.2 _ this
