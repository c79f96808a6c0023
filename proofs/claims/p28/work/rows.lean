section
-- ===== PART A: goes FIRST, ahead of the names: the tables' words, and 'selects' of the private methods out of them =====
/-- a private method of a class that the tables say can be made, by its rows of tables_1 -/
def lw_okq (q : MethodName × Nat) : Prop := (q.1.cls ≠ "java/lang/invoke/MethodHandle" ∧ q.1.cls ≠ "java/lang/invoke/VarHandle") ∧ Cond.instantiable q.1.cls q.2 ∈ tables_1 ∧ Cond.privateMethod q.1 ∈ tables_1 ∧ Cond.instanceMethod q.1 ∈ tables_1
theorem lw_p0 : lw_okq (⟨"Layerbook", "find", "(I)LLayerbook$Movement;"⟩, 7) := ⟨⟨by decide +kernel, by decide +kernel⟩, List.mem_of_getElem? (i := 17) (by decide +kernel), List.mem_of_getElem? (i := 125) (by decide +kernel), List.mem_of_getElem? (i := 126) (by decide +kernel)⟩
theorem lw_p1 : lw_okq (⟨"java/lang/Throwable", "fillInStackTrace", "(I)Ljava/lang/Throwable;"⟩, 6) := ⟨⟨by decide +kernel, by decide +kernel⟩, List.mem_of_getElem? (i := 167) (by decide +kernel), List.mem_of_getElem? (i := 165) (by decide +kernel), List.mem_of_getElem? (i := 166) (by decide +kernel)⟩
theorem lw_p2 : lw_okq (⟨"Layerbook", "checkPosting", "(I)V"⟩, 7) := ⟨⟨by decide +kernel, by decide +kernel⟩, List.mem_of_getElem? (i := 17) (by decide +kernel), List.mem_of_getElem? (i := 275) (by decide +kernel), List.mem_of_getElem? (i := 276) (by decide +kernel)⟩
theorem lw_p3 : lw_okq (⟨"Layerbook", "checkOpen", "(I)V"⟩, 7) := ⟨⟨by decide +kernel, by decide +kernel⟩, List.mem_of_getElem? (i := 17) (by decide +kernel), List.mem_of_getElem? (i := 279) (by decide +kernel), List.mem_of_getElem? (i := 280) (by decide +kernel)⟩
theorem lw_p4 : lw_okq (⟨"Layerbook", "post", "(LLayerbook$Movement;)I"⟩, 7) := ⟨⟨by decide +kernel, by decide +kernel⟩, List.mem_of_getElem? (i := 17) (by decide +kernel), List.mem_of_getElem? (i := 387) (by decide +kernel), List.mem_of_getElem? (i := 388) (by decide +kernel)⟩
theorem lw_p5 : lw_okq (⟨"Layerbook", "weightOf", "(I)I"⟩, 7) := ⟨⟨by decide +kernel, by decide +kernel⟩, List.mem_of_getElem? (i := 17) (by decide +kernel), List.mem_of_getElem? (i := 409) (by decide +kernel), List.mem_of_getElem? (i := 410) (by decide +kernel)⟩
theorem lw_p6 : lw_okq (⟨"Layerbook", "replayed", "(IIZ)LLayerbook$Valuation;"⟩, 7) := ⟨⟨by decide +kernel, by decide +kernel⟩, List.mem_of_getElem? (i := 17) (by decide +kernel), List.mem_of_getElem? (i := 439) (by decide +kernel), List.mem_of_getElem? (i := 440) (by decide +kernel)⟩
theorem lw_p7 : lw_okq (⟨"Layerbook", "findLayer", "(III)LLayerbook$Layer;"⟩, 7) := ⟨⟨by decide +kernel, by decide +kernel⟩, List.mem_of_getElem? (i := 17) (by decide +kernel), List.mem_of_getElem? (i := 564) (by decide +kernel), List.mem_of_getElem? (i := 565) (by decide +kernel)⟩
theorem lw_p8 : lw_okq (⟨"Layerbook", "checkReceipts", "(JI)V"⟩, 7) := ⟨⟨by decide +kernel, by decide +kernel⟩, List.mem_of_getElem? (i := 17) (by decide +kernel), List.mem_of_getElem? (i := 646) (by decide +kernel), List.mem_of_getElem? (i := 647) (by decide +kernel)⟩
theorem lw_p9 : lw_okq (⟨"Layerbook", "chosen", "(JI)LLayerbook$Movement;"⟩, 7) := ⟨⟨by decide +kernel, by decide +kernel⟩, List.mem_of_getElem? (i := 17) (by decide +kernel), List.mem_of_getElem? (i := 650) (by decide +kernel), List.mem_of_getElem? (i := 651) (by decide +kernel)⟩
theorem lw_p10 : lw_okq (⟨"Layerbook", "sumOfBasis", "(JI)J"⟩, 7) := ⟨⟨by decide +kernel, by decide +kernel⟩, List.mem_of_getElem? (i := 17) (by decide +kernel), List.mem_of_getElem? (i := 655) (by decide +kernel), List.mem_of_getElem? (i := 656) (by decide +kernel)⟩
theorem lw_p11 : lw_okq (⟨"Layerbook", "basisOf", "(LLayerbook$Movement;I)J"⟩, 7) := ⟨⟨by decide +kernel, by decide +kernel⟩, List.mem_of_getElem? (i := 17) (by decide +kernel), List.mem_of_getElem? (i := 659) (by decide +kernel), List.mem_of_getElem? (i := 660) (by decide +kernel)⟩
theorem lw_p12 : lw_okq (⟨"Layerbook", "spread", "(IIJJ)LLayerbook$Share;"⟩, 7) := ⟨⟨by decide +kernel, by decide +kernel⟩, List.mem_of_getElem? (i := 17) (by decide +kernel), List.mem_of_getElem? (i := 664) (by decide +kernel), List.mem_of_getElem? (i := 665) (by decide +kernel)⟩
theorem lw_p13 : lw_okq (⟨"Layerbook", "checkDispensable", "(LLayerbook$Movement;)V"⟩, 7) := ⟨⟨by decide +kernel, by decide +kernel⟩, List.mem_of_getElem? (i := 17) (by decide +kernel), List.mem_of_getElem? (i := 707) (by decide +kernel), List.mem_of_getElem? (i := 708) (by decide +kernel)⟩
def lw_privs_1 : List (MethodName × Nat) := [(⟨"Layerbook", "find", "(I)LLayerbook$Movement;"⟩, 7), (⟨"java/lang/Throwable", "fillInStackTrace", "(I)Ljava/lang/Throwable;"⟩, 6), (⟨"Layerbook", "checkPosting", "(I)V"⟩, 7), (⟨"Layerbook", "checkOpen", "(I)V"⟩, 7), (⟨"Layerbook", "post", "(LLayerbook$Movement;)I"⟩, 7), (⟨"Layerbook", "weightOf", "(I)I"⟩, 7), (⟨"Layerbook", "replayed", "(IIZ)LLayerbook$Valuation;"⟩, 7), (⟨"Layerbook", "findLayer", "(III)LLayerbook$Layer;"⟩, 7), (⟨"Layerbook", "checkReceipts", "(JI)V"⟩, 7), (⟨"Layerbook", "chosen", "(JI)LLayerbook$Movement;"⟩, 7), (⟨"Layerbook", "sumOfBasis", "(JI)J"⟩, 7), (⟨"Layerbook", "basisOf", "(LLayerbook$Movement;I)J"⟩, 7), (⟨"Layerbook", "spread", "(IIJJ)LLayerbook$Share;"⟩, 7), (⟨"Layerbook", "checkDispensable", "(LLayerbook$Movement;)V"⟩, 7)]
theorem lw_r1 : ∀ q ∈ lw_privs_1, lw_okq q := List.forall_mem_cons.mpr ⟨lw_p0, List.forall_mem_cons.mpr ⟨lw_p1, List.forall_mem_cons.mpr ⟨lw_p2, List.forall_mem_cons.mpr ⟨lw_p3, List.forall_mem_cons.mpr ⟨lw_p4, List.forall_mem_cons.mpr ⟨lw_p5, List.forall_mem_cons.mpr ⟨lw_p6, List.forall_mem_cons.mpr ⟨lw_p7, List.forall_mem_cons.mpr ⟨lw_p8, List.forall_mem_cons.mpr ⟨lw_p9, List.forall_mem_cons.mpr ⟨lw_p10, List.forall_mem_cons.mpr ⟨lw_p11, List.forall_mem_cons.mpr ⟨lw_p12, List.forall_mem_cons.mpr ⟨lw_p13, fun _ h => absurd h List.not_mem_nil⟩⟩⟩⟩⟩⟩⟩⟩⟩⟩⟩⟩⟩⟩
def lw_privs : List (MethodName × Nat) := lw_privs_1
def lw_tbl : List Cond := k2_sels lw_privs ++ tables_1
theorem lw_privs_ok : ∀ q ∈ lw_privs, lw_okq q := lw_r1
end
section
/-! ===== BEGIN words of one list among another's, by their places ===== -/
theorem goodIn_r {big : List Cond} (ws : List Cond) (ps : List Nat) (hp : ws = ps.filterMap (fun i => big[i]?)) (h : ws.all goodWord = true) : GoodIn big ws := by
  intro w hw
  have h1 := List.all_eq_true.mp h w hw
  rw [hp] at hw
  obtain ⟨i, -, hi⟩ := List.mem_filterMap.mp hw
  have hm : w ∈ big := by first | exact List.mem_of_getElem? hi | exact List.getElem?_mem hi
  exact ⟨hm, good_of_word h1⟩
theorem goodIn_app {big a b : List Cond} (ha : GoodIn big a) (hb : GoodIn big b) : GoodIn big (a ++ b) := fun w h => (List.mem_append.mp h).elim (ha w) (hb w)
theorem goodIn_ca {big a b : List Cond} {c : Cond} (ha : GoodIn big (c :: a)) (hb : GoodIn big b) : GoodIn big (c :: (a ++ b)) := fun w h => (List.mem_cons.mp h).elim (fun e => ha w (List.mem_cons.mpr (Or.inl e))) (fun h => (List.mem_append.mp h).elim (fun h => ha w (List.mem_cons.mpr (Or.inr h))) (hb w))
theorem goodIn_sub {big ws : List Cond} (hm : ∀ w ∈ ws, w ∈ big) (h : ws.all goodWord = true) : GoodIn big ws := fun w hw => ⟨hm w hw, good_of_word (List.all_eq_true.mp h w hw)⟩
/-! ===== END ===== -/

/-! ===== BEGIN exceptions that leave a method, and their catching by the caller (launches without stack traces) ===== -/
section VXA
/-! The laws vx_back, vx_callV, vx_callS, vx_callSW, vx_throw0, vx_throwS follow proofs of the library, with one case more: JvmDerived/Free/Laws.lean (Back.of_free), Shelf42/LK1.lean (callV, callS), Shelf/KitTraced.lean (throwNew0V, throwNewS). -/
/-- where a method has thrown q: the class by its name, the cell, what was written, the world -/
def vx_T (XC : String → State → State → Prop) (st : State) (q : Addr) (t : State) (mc ms : Nat) (free : Addr → Prop) : Prop :=
  ∃ (E : String) (ce : Cell) (L : List Loc), XC E st t ∧ t.heap[q]? = some ce ∧ ce.vm = .none ∧ st.vm.findClass E = some ce.cls ∧ st.WarmedH t.vm ∧ st.sameButNew ({ t with vm := st.vm } : State) L mc ms ∧ ∀ z ∈ L, free z.base
def vx_Q (Qc : Array Value → State → Outcome → State → Prop) (XC : String → State → State → Prop) (mc ms : Nat) (free : Addr → Prop) : Array Value → State → Outcome → State → Prop := fun a st o t =>
  (Qc a st o t ∧ ∃ L, FrameEnd st o t L mc ms ∧ ∀ q ∈ L, free q.base) ∨ ∃ q, o = .threw q ∧ vx_T XC st q t mc ms free
/-- a callee that returns or throws -/
def vx_Met (l : Launch) (y : MethodName) (ws : List Cond) (rm : Room) (Pc : Array Value → State → Prop) (Qc : Array Value → State → Outcome → State → Prop) (XC : String → State → State → Prop) (mc ms : Nat) (free : Addr → Prop) : Prop :=
  MetFree l y (headSpec ws rm) Pc (fun _ _ _ _ _ => True) (vx_Q Qc XC mc ms free)
def vx_Post (XC : String → State → State → Prop) (mc ms : Nat) (free : Addr → Prop) : Pt → Array Value → Addr → Pt → Prop := fun A a q B =>
  ∃ (g : JFrame) (mk : MethodId) (t : State) (L : List Loc) (E : String) (ce : Cell), B.U.heap = t.heap ∧ B.U.vm = t.vm ∧ XC E (A.U.calling g mk a) t ∧ t.heap[q]? = some ce ∧ ce.vm = .none ∧ A.U.vm.findClass E = some ce.cls ∧ B.locs = A.locs ++ L ∧ (∀ z ∈ L, free z.base) ∧ B.cells = A.cells + mc ∧ B.slots = A.slots + ms
def vx_Back (l : Launch) (R : Room) (p : Program) (e : Env) (below : List Frame) (s : State) (sargs : Array Value) (y : MethodName) (len W9 : Nat)
    (Pre : Pt → Array Value → Prop) (Post : Pt → Array Value → Option Value → Pt → Prop) (PostX : Pt → Array Value → Addr → Pt → Prop) : Prop :=
  ∀ (m : MethodId) (meth : Method) (c : Code) (A : Pt) (g : JFrame) (ig : Instr) (mk : MethodId) (a : Array Value),
    Stand p l e R s m sargs below meth c A.U A.locs A.cells A.slots → g.method = m → g.locals.size = c.maxLocals → decode c.code g.pc = .ok (ig, len) →
    2 * g.monitorRoom + (g.stack.map fun v => v.category).sum ≤ W9 → A.U.methodNamed? y = some mk → Pre A a →
    (∃ (v : Option Value) (B : Pt), Stand p l e R s m sargs below meth c B.U B.locs B.cells B.slots ∧ Post A a v B ∧
      Steps p.tables e below (doInvoke e (A.U.setTop g) [] mk a).1 (B.U.setTop { g with pc := g.pc + len, stack := v.toList ++ g.stack })) ∨
    (∃ (q : Addr) (B : Pt), Stand p l e R s m sargs below meth c B.U B.locs B.cells B.slots ∧ PostX A a q B ∧
      Steps p.tables e below (doInvoke e (A.U.setTop g) [] mk a).1 ((B.U.setTop g).pushFrame (.throwing q)))
section Payer
variable {l : Launch} {R : Room} {p : Program} {e : Env} {below : List Frame} {s : State} {sargs : Array Value} {y : MethodName} {len W9 : Nat}
theorem vx_back {ws : List Cond} {rm : Room} {Pc : Array Value → State → Prop} {Qc : Array Value → State → Outcome → State → Prop} {XC : String → State → State → Prop} {mc ms : Nat} {free : Addr → Prop} {bytes : ByteArray} {maxL : Nat} {ret : Option FieldType}
    (hM : vx_Met l y ws rm Pc Qc XC mc ms free) (hblind : FrameBlind Pc) (hrc : rm.cells = mc) (hrs : rm.slots = ms)
    (hframes : rm.frames + 1 ≤ R.frames) (hlocals : W9 + (maxL + 11) + rm.locals ≤ R.locals)
    (hws : ∀ w ∈ ws, ∀ a' U, s.WarmedH U.vm → w.before a' U = true) (hcode : Cond.code y bytes maxL ret ∈ ws) (hinit : ∀ a' U, s.WarmedH U.vm → (Cond.initialized y.cls).before a' U = true) :
    vx_Back l R p e below s sargs y len W9 (PreOf R mc ms Pc) (PostOf Qc mc ms free) (vx_Post XC mc ms free) := by
  intro m meth c A g ig mk a X hg hsize hdg hW hn hp
  have h1 : (headSpec ws rm).pre.before a A.U = true := atoms_intro fun w hw => hws w hw _ _ X.warmed
  have h2 : (Cond.code y bytes maxL ret).before a A.U = true := hws _ hcode _ _ X.warmed
  have h3 : (Cond.initialized y.cls).before a A.U = true := hinit _ _ X.warmed
  have h4 : A.cells + (headSpec ws rm).room.cells ≤ R.cells := by rw [show (headSpec ws rm).room.cells = mc from hrc]; exact hp.1
  have h5 : A.slots + (headSpec ws rm).room.slots ≤ R.slots := by rw [show (headSpec ws rm).room.slots = ms from hrs]; exact hp.2.1
  have hPc : Pc a (A.U.calling g mk a) := hblind _ _ _ _ hp.2.2
  obtain ⟨U, Ls, c0, s0⟩ := A
  dsimp only [Pt.U, Pt.locs, Pt.cells, Pt.slots] at h1 h2 h3 h4 h5 X hn hPc ⊢
  obtain ⟨methY, cY, hmY, hcY, -, hlY, -, -, -, -⟩ := Cond.code_spec hn h2
  obtain ⟨kY, hkY, -⟩ := className_of_methodNamed hn
  have hinitY : kY.init = .initialized := Cond.initialized_spec (findClass_of_methodNamed hn) hkY h3
  have h : At U g.method c below := by rw [hg]; exact X.here
  have hlocals9 : W9 + (maxL + 11) + (headSpec ws rm).room.locals ≤ R.locals := hlocals
  have happ : (headSpec ws rm).appliesLoose y e.platform (U.calling g mk a) = true :=
    Spec.appliesLoose_calling (g := g) h hdg hn hkY hinitY
      (X.room_calling (g := g) (R' := (headSpec ws rm).room) hsize hmY hcY hframes (by rw [hlY]; omega) h4 h5) h1
  obtain ⟨mid, hmid⟩ := h.above
  have hfr : (U.setTop g).frames = (.java g :: mid) ++ below := by rw [State.frames_setTop' g h.top, hmid]; rfl
  obtain ⟨o, s₂, hsteps, -, hend, hq⟩ := Steps.callFree hM p X.admits X.cas X.clock (acts := []) hfr happ hPc trivial
  have hq' : vx_Q Qc XC mc ms free a (U.calling g mk a) o s₂ := hq
  rw [State.frames_setTop' g h.top] at hend
  obtain ⟨g₀, hg0⟩ := Option.isSome_iff_exists.mp h.top
  obtain ⟨r, hr⟩ := State.topJava?_eq_some.mp hg0
  have hr' : (({ U with heap := s₂.heap, slotsUsed := s₂.slotsUsed } : State).setVm s₂.vm).frames = .java g₀ :: r := hr
  rcases hq' with ⟨hqc, L, hfe, hL⟩ | ⟨q, rfl, E, ce, L, hx, hce, hcv, hcl, hW₂, hsm, hL⟩
  · obtain ⟨⟨v, rfl⟩, hW₂, e2, q2, q3, q4, q5, q6⟩ := id hfe
    have e3 : s₂ = ({ (U.calling g mk a).setFrames s₂.frames with heap := s₂.heap, slotsUsed := s₂.slotsUsed } : State).setVm s₂.vm := by
      have : s₂ = ({ s₂ with vm := (U.calling g mk a).vm } : State).setVm s₂.vm := rfl
      rw [e2] at this
      exact this
    obtain ⟨c₂, i₂, len₂, hc₂, hd₂, hf₂⟩ := hend
    have hW' : U.WarmedH s₂.vm := hW₂
    have hcc : c₂ = c := by
      have h1 : s₂.code? g.method = U.code? g.method := by
        rw [State.code?_eq, State.code?_eq, hW'.alike.method?]
      exact Option.some.inj (hc₂.symm.trans (h1.trans h.code))
    subst hcc
    have hlen : len₂ = len := by rw [hdg] at hd₂; cases hd₂; rfl
    subst hlen
    have hs₂ : s₂ = (({ U with heap := s₂.heap, slotsUsed := s₂.slotsUsed } : State).setVm s₂.vm).setTop { g with pc := g.pc + len₂, stack := v.toList ++ g.stack } := by
      refine e3.trans ?_
      rw [hf₂, State.calling_eq h.top, State.setFrames_setFrames, State.setTop_of_frames _ hr', hr]
      rfl
    have hsame : U.sameButNew ({ U with heap := s₂.heap, slotsUsed := s₂.slotsUsed } : State) L mc ms := by
      refine ⟨?_, q2, q3, q4, q5, q6⟩
      obtain ⟨t, ht, -⟩ := State.frames_cons hr
      show ({ U with heap := s₂.heap, slotsUsed := s₂.slotsUsed } : State) = { U.setFrames U.frames with heap := s₂.heap, slotsUsed := s₂.slotsUsed }
      rw [State.setFrames_self ht]
    subst hg
    refine Or.inl ⟨v, ⟨(({ U with heap := s₂.heap, slotsUsed := s₂.slotsUsed } : State).setVm s₂.vm), Ls ++ L, c0 + mc, s0 + ms⟩,
      ⟨X.admits, X.cas, X.clock, X.frames, X.room, X.hears, X.method, X.code, (X.here.setHeapUsed s₂.heap s₂.slotsUsed).setVm hW'.alike, X.tail, State.WarmedH.trans X.warmed hW', X.limits, X.bytes, X.same.trans (hsame.setVm s.vm)⟩,
      ⟨g, mk, s₂, L, rfl, rfl, hqc, rfl, hL, rfl, rfl⟩, ?_⟩
    show Steps p.tables e below _ ((({ U with heap := s₂.heap, slotsUsed := s₂.slotsUsed } : State).setVm s₂.vm).setTop { g with pc := g.pc + len₂, stack := v.toList ++ g.stack })
    rw [← hs₂]
    exact hsteps
  · obtain ⟨e2, q2, q3, q4, q5, q6⟩ := id hsm
    have e3 : s₂ = ({ (U.calling g mk a).setFrames s₂.frames with heap := s₂.heap, slotsUsed := s₂.slotsUsed } : State).setVm s₂.vm := by
      have : s₂ = ({ s₂ with vm := (U.calling g mk a).vm } : State).setVm s₂.vm := rfl
      rw [e2] at this
      exact this
    have hf₂ : s₂.frames = .throwing q :: .java g :: U.frames.tail := hend
    have hW' : U.WarmedH s₂.vm := hW₂
    have hs₂ : s₂ = ((({ U with heap := s₂.heap, slotsUsed := s₂.slotsUsed } : State).setVm s₂.vm).setTop g).pushFrame (.throwing q) := by
      refine e3.trans ?_
      rw [hf₂, State.calling_eq h.top, State.setFrames_setFrames, State.pushFrame, State.frames_setTop _ hr', State.setTop_of_frames _ hr', State.setFrames_setFrames, hr]
      rfl
    have hsame : U.sameButNew ({ U with heap := s₂.heap, slotsUsed := s₂.slotsUsed } : State) L mc ms := by
      refine ⟨?_, q2, q3, q4, q5, q6⟩
      obtain ⟨t, ht, -⟩ := State.frames_cons hr
      show ({ U with heap := s₂.heap, slotsUsed := s₂.slotsUsed } : State) = { U.setFrames U.frames with heap := s₂.heap, slotsUsed := s₂.slotsUsed }
      rw [State.setFrames_self ht]
    subst hg
    refine Or.inr ⟨q, ⟨(({ U with heap := s₂.heap, slotsUsed := s₂.slotsUsed } : State).setVm s₂.vm), Ls ++ L, c0 + mc, s0 + ms⟩,
      ⟨X.admits, X.cas, X.clock, X.frames, X.room, X.hears, X.method, X.code, (X.here.setHeapUsed s₂.heap s₂.slotsUsed).setVm hW'.alike, X.tail, State.WarmedH.trans X.warmed hW', X.limits, X.bytes, X.same.trans (hsame.setVm s.vm)⟩,
      ⟨g, mk, s₂, L, E, ce, rfl, rfl, hx, hce, hcv, hcl, rfl, hL, rfl, rfl⟩, ?_⟩
    show Steps p.tables e below _ (((({ U with heap := s₂.heap, slotsUsed := s₂.slotsUsed } : State).setVm s₂.vm).setTop g).pushFrame (.throwing q))
    rw [← hs₂]
    exact hsteps
end Payer
section Calls
variable {p : Program} {l : Launch} {e : Env} {R : Room} {s : State} {m : MethodId} {args : Array Value} {below : List Frame} {meth : Method} {c : Code} {T : State} {locs : List Loc} {cells slots : Nat}
theorem vx_callV (X : Stand p l e R s m args below meth c T locs cells slots) (hexec : p.tables.exec = Jvm.exec) {own C : String} {index : Nat} {y : MethodName} {bytes : ByteArray} {maxL : Nat} {ret : Option FieldType}
    (hown : s.vm.findClass own = some m.cls) (hlink : (Cond.methodLink own index y).before args s = true) (hinst : (Cond.instanceMethod y).before args s = true) (hsel : (Cond.selects C y y).before args s = true)
    (hcode : (Cond.code y bytes maxL ret).before args s = true) (hy : y.cls ≠ "java/lang/invoke/MethodHandle" ∧ y.cls ≠ "java/lang/invoke/VarHandle")
    {W9 : Nat} {Pre : Pt → Array Value → Prop} {Post : Pt → Array Value → Option Value → Pt → Prop} {PostX : Pt → Array Value → Addr → Pt → Prop} (hK : vx_Back l R p e below s args y 3 W9 Pre Post PostX)
    {b : Addr} {cellB : Cell} (hcell : T.heap[b]? = some cellB) (hobj : cellB.vm.isStatics = false) (hcls : s.vm.findClass C = some cellB.cls)
    {g : JFrame} (hg : g.method = m) (hsize : g.locals.size = c.maxLocals) {argsL rest : List Value} (hlen : ∀ sig, parseMethodDescriptor y.desc = some sig → argsL.length = sig.parameters.length)
    (hstack : g.stack = argsL.reverse ++ .ref b :: rest) (hW : 2 * g.monitorRoom + (rest.map fun v => v.category).sum ≤ W9) (hdg : decode c.code g.pc = .ok (.invokevirtual index, 3))
    (hpre : ∀ vm₁, s.WarmedH vm₁ → Pre ⟨T.setVm vm₁, locs, cells, slots⟩ (Value.ref b :: argsL).toArray) :
    (∃ (v : Option Value) (vm₁ : Vm) (B : Pt), s.WarmedH vm₁ ∧ Stand p l e R s m args below meth c B.U B.locs B.cells B.slots ∧ Post ⟨T.setVm vm₁, locs, cells, slots⟩ (Value.ref b :: argsL).toArray v B ∧
      ∀ target, Steps p.tables e below (B.U.setTop { g with pc := g.pc + 3, stack := v.toList ++ rest }) target → Steps p.tables e below (T.setTop g) target) ∨
    (∃ (q : Addr) (vm₁ : Vm) (B : Pt), s.WarmedH vm₁ ∧ Stand p l e R s m args below meth c B.U B.locs B.cells B.slots ∧ PostX ⟨T.setVm vm₁, locs, cells, slots⟩ (Value.ref b :: argsL).toArray q B ∧
      Steps p.tables e below (T.setTop g) ((B.U.setTop { g with stack := rest }).pushFrame (.throwing q))) := by
  obtain ⟨mk, methM, hnamed, hmethM, hstM, habM⟩ := Cond.instanceMethod_spec hinst
  obtain ⟨methM', cM, hmethM', -, -, -, -, -, -, hsigM⟩ := Cond.code_spec hnamed hcode
  cases hmethM.symm.trans hmethM'
  obtain ⟨c2, r2, m2, q1, q2, q3, q4, kP, hkP, hkPi⟩ := Cond.selects_spec hsel
  cases hcls.symm.trans q1
  cases (State.methodFound?_of_named hnamed hy).symm.trans q2
  cases hnamed.symm.trans q3
  have hselP : selectMethod e.platform s.vm cellB.cls mk = .method mk := by rw [Launch.admits_selectMethod X.admits]; exact q4
  obtain ⟨vm₁, X₁, hstep₁⟩ := X.invokevirtual hexec hown hlink hnamed hmethM hstM hkP hkPi hy (a := b) (cell := cellB) hcell
    (fun z h => by rw [h] at hobj; cases hobj) hselP hmethM habM hkP hkPi (g := g) hg (argsL := argsL) (rest := rest) (hlen _ hsigM) hstack hdg
  rcases hK m meth c ⟨T.setVm vm₁, locs, cells, slots⟩ { g with stack := rest } (.invokevirtual index) mk (Value.ref b :: argsL).toArray X₁ hg hsize hdg hW (X₁.named hnamed) (hpre vm₁ X₁.warmed) with ⟨v, B, X', hpost, hsteps⟩ | ⟨q, B, X', hpost, hsteps⟩
  · exact Or.inl ⟨v, vm₁, B, X₁.warmed, X', hpost, fun target h => hstep₁ _ fun acts => by rw [doInvoke_state]; exact hsteps.trans h⟩
  · exact Or.inr ⟨q, vm₁, B, X₁.warmed, X', hpost, hstep₁ _ fun acts => by rw [doInvoke_state]; exact hsteps⟩
theorem vx_callS (X : Stand p l e R s m args below meth c T locs cells slots) (hexec : p.tables.exec = Jvm.exec) {own : String} {index : Nat} {y : MethodName} {bytes : ByteArray} {maxL : Nat} {ret : Option FieldType}
    (hown : s.vm.findClass own = some m.cls) (hlink : (Cond.methodLink own index y).before args s = true) (hstat : (Cond.static y).before args s = true) (hinit : (Cond.initialized y.cls).before args s = true)
    (hcode : (Cond.code y bytes maxL ret).before args s = true) (hy : y.cls ≠ "java/lang/invoke/MethodHandle" ∧ y.cls ≠ "java/lang/invoke/VarHandle")
    {W9 : Nat} {Pre : Pt → Array Value → Prop} {Post : Pt → Array Value → Option Value → Pt → Prop} {PostX : Pt → Array Value → Addr → Pt → Prop} (hK : vx_Back l R p e below s args y 3 W9 Pre Post PostX)
    {g : JFrame} (hg : g.method = m) (hsize : g.locals.size = c.maxLocals) {argsL rest : List Value} (hlen : ∀ sig, parseMethodDescriptor y.desc = some sig → argsL.length = sig.parameters.length)
    (hstack : g.stack = argsL.reverse ++ rest) (hW : 2 * g.monitorRoom + (rest.map fun v => v.category).sum ≤ W9) (hdg : decode c.code g.pc = .ok (.invokestatic index, 3))
    (hpre : ∀ vm₁, s.WarmedH vm₁ → Pre ⟨T.setVm vm₁, locs, cells, slots⟩ argsL.toArray) :
    (∃ (v : Option Value) (vm₁ : Vm) (B : Pt), s.WarmedH vm₁ ∧ Stand p l e R s m args below meth c B.U B.locs B.cells B.slots ∧ Post ⟨T.setVm vm₁, locs, cells, slots⟩ argsL.toArray v B ∧
      ∀ target, Steps p.tables e below (B.U.setTop { g with pc := g.pc + 3, stack := v.toList ++ rest }) target → Steps p.tables e below (T.setTop g) target) ∨
    (∃ (q : Addr) (vm₁ : Vm) (B : Pt), s.WarmedH vm₁ ∧ Stand p l e R s m args below meth c B.U B.locs B.cells B.slots ∧ PostX ⟨T.setVm vm₁, locs, cells, slots⟩ argsL.toArray q B ∧
      Steps p.tables e below (T.setTop g) ((B.U.setTop { g with stack := rest }).pushFrame (.throwing q))) := by
  obtain ⟨mk, hnamed⟩ := Cond.code_named hcode
  obtain ⟨methM, cM, hmethM, -, -, -, -, -, -, hsigM⟩ := Cond.code_spec hnamed hcode
  have hstatic : methM.isStatic = true := Cond.static_spec hnamed hmethM hstat
  obtain ⟨kP, hkP, -⟩ := className_of_methodNamed hnamed
  have hinitP : kP.init = .initialized := Cond.initialized_spec (findClass_of_methodNamed hnamed) hkP hinit
  obtain ⟨vm₁, X₁, hstep₁⟩ := X.invokestatic hexec hown hlink hnamed hmethM hstatic hkP hinitP hy (g := g) hg (argsL := argsL) (rest := rest) (hlen _ hsigM) hstack hdg
  rcases hK m meth c ⟨T.setVm vm₁, locs, cells, slots⟩ { g with stack := rest } (.invokestatic index) mk argsL.toArray X₁ hg hsize hdg hW (X₁.named hnamed) (hpre vm₁ X₁.warmed) with ⟨v, B, X', hpost, hsteps⟩ | ⟨q, B, X', hpost, hsteps⟩
  · exact Or.inl ⟨v, vm₁, B, X₁.warmed, X', hpost, fun target h => hstep₁ _ fun acts => by rw [doInvoke_state]; exact hsteps.trans h⟩
  · exact Or.inr ⟨q, vm₁, B, X₁.warmed, X', hpost, hstep₁ _ fun acts => by rw [doInvoke_state]; exact hsteps⟩
end Calls
theorem vx_cls {s : State} {T : State} {vm₁ : Vm} {E : String} {k : ClassId} (hW : s.WarmedH vm₁) (h : (T.setVm vm₁).vm.findClass E = some k) : s.vm.findClass E = some k := by
  have h1 : vm₁.findClass E = some k := h
  rw [hW.alike.findClass] at h1
  exact h1
/-- the method's frame g, with q thrown over it -/
def vx_W (p : Program) (l : Launch) (e : Env) (R : Room) (s : State) (m : MethodId) (args : Array Value) (below : List Frame) (meth : Method) (c : Code) (H : Heap) (locs : List Loc) (cells slots : Nat) (Q : State → Prop) (g : JFrame) (q : Addr) : Prop :=
  ∀ T : State, T.heap = H → Stand p l e R s m args below meth c T locs cells slots → ∃ t, Steps p.tables e below ((T.setTop g).pushFrame (.throwing q)) t ∧ Q t
def vx_Run (p : Program) (l : Launch) (e : Env) (R : Room) (s : State) (m : MethodId) (args : Array Value) (below : List Frame) (meth : Method) (c : Code) (H : Heap) (locs : List Loc) (cells slots mc ms : Nat) (g : JFrame) (rest : List Value) (Qa : State → Outcome → State → Prop) (XC : String → State → State → Prop) (free : Addr → Prop) : Prop :=
  ∀ T : State, T.heap = H → Stand p l e R s m args below meth c T locs cells slots →
    (∃ (v : Option Value) (st₀ t T' : State) (L : List Loc), st₀.heap = H ∧ Stand p l e R s m args below meth c T' (locs ++ L) (cells + mc) (slots + ms) ∧ (∀ q ∈ L, free q.base) ∧ T'.heap = t.heap ∧ T'.vm = t.vm ∧ Qa st₀ (.returned v) t ∧
      Goes p e below T g T' { g with pc := g.pc + 3, stack := v.toList ++ rest }) ∨
    (∃ (q : Addr) (st₀ t T' : State) (L : List Loc) (E : String) (ce : Cell), st₀.heap = H ∧ Stand p l e R s m args below meth c T' (locs ++ L) (cells + mc) (slots + ms) ∧ (∀ z ∈ L, free z.base) ∧ T'.heap = t.heap ∧ T'.vm = t.vm ∧ XC E st₀ t ∧ t.heap[q]? = some ce ∧ ce.vm = .none ∧ s.vm.findClass E = some ce.cls ∧
      Steps p.tables e below (T.setTop g) ((T'.setTop { g with stack := rest }).pushFrame (.throwing q)))
def vx_X {S : Type} (px : S → Prop) (B : String → S → State → Prop) (A : Nat → Prop) : String → State → State → Prop := fun E st t => ∃ u : S, px u ∧ B E u t ∧ va_F A st t
section Runs
variable {p : Program} {l : Launch} {e : Env} {R : Room} {s : State} {m : MethodId} {args : Array Value} {below : List Frame} {meth : Method} {c : Code} {H : Heap} {locs : List Loc} {cells slots : Nat}
variable {y : MethodName} {bytes cc : ByteArray} {maxL nL mc ms n index : Nat} {ret : Option FieldType} {ws : List Cond} {rm : Room} {Pc : Array Value → State → Prop} {Qc : Array Value → State → Outcome → State → Prop} {XC : String → State → State → Prop} {free : Addr → Prop} {Ts : List Cond} {own C : String} {b : Addr} {As rest : List Value} {g : JFrame}
theorem vx_callBack (cb : CallB R s args own index y bytes maxL ret ws rm mc ms n) (hM : vx_Met l y ws rm Pc Qc XC mc ms free) (hbl : FrameBlind Pc) : vx_Back l R p e below s args y 3 8 (PreOf R mc ms Pc) (PostOf Qc mc ms free) (vx_Post XC mc ms free) := by
  obtain ⟨hrc, hrs, hfr, hlo, hws, hcw, -, hini, -⟩ := cb
  exact vx_back (bytes := bytes) (maxL := maxL) (ret := ret) hM hbl hrc hrs hfr hlo hws hcw (fun a' U hW => word_at hW (Or.inl (by first | rfl | simp [Cond.onTables, Cond.keeps, Cond.steady])) hini)
theorem vx_runV (S : CallFix p m c cc nL s args Ts own) (hM : vx_Met l y ws rm Pc Qc XC mc ms free) (cw : CallW R s args own C index y bytes maxL ret ws rm mc ms n) (hp : PreV s H C b Pc As)
    (hg : g.method = m) (hn : As.length = n) (hsize : g.locals.size = nL) (hstack : g.stack = As.reverse ++ .ref b :: rest) (hW : 2 * g.monitorRoom + (rest.map fun v => v.category).sum ≤ 8) (hdg : decode cc g.pc = .ok (.invokevirtual index, 3)) (hf : cells + mc ≤ R.cells ∧ slots + ms ≤ R.slots) :
    vx_Run p l e R s m args below meth c H locs cells slots mc ms g rest (Qc (Value.ref b :: As).toArray) XC free := by
  have hK : vx_Back l R p e below s args y 3 8 (PreOf R mc ms Pc) (PostOf Qc mc ms free) (vx_Post XC mc ms free) := vx_callBack cw.1 hM hp.1
  obtain ⟨⟨-, -, -, -, -, -, hcode, -, hy, hlen, hl⟩, hin, hse⟩ := cw
  obtain ⟨hx, hb, hml, ho, -⟩ := S
  obtain ⟨-, ⟨cellB, hcB, hoB, hclB⟩, hPc⟩ := hp
  intro T hT X
  rcases vx_callV X hx (C := C) (bytes := bytes) (maxL := maxL) (ret := ret) ho hl hin hse hcode hy hK (by rw [hT]; exact hcB) hoB hclB hg (hsize.trans hml.symm) (argsL := As) (rest := rest) (fun sig h => hn.trans (hlen sig h)) hstack hW (by rw [hb]; exact hdg)
    (fun vm₁ hW₁ => ⟨hf.1, hf.2, hPc (T.setVm vm₁) hT hW₁⟩) with ⟨v, vm₁, ⟨U', l2, c2, s2⟩, hW₁, X', ⟨g', mk, t, L, e1, e2, hq, h1, hL, h2, h3⟩, st⟩ | ⟨q, vm₁, ⟨U', l2, c2, s2⟩, hW₁, X', ⟨g', mk, t, L, E, ce, e1, e2, hq, hce, hcv, hcl, h1, hL, h2, h3⟩, st⟩
  · dsimp only [Pt.U, Pt.locs, Pt.cells, Pt.slots] at X' e1 e2 h1 h2 h3 st
    subst h1; subst h2; subst h3
    exact Or.inl ⟨v, (T.setVm vm₁).calling g' mk (Value.ref b :: As).toArray, t, U', L, hT, X', hL, e1, e2, hq, st⟩
  · dsimp only [Pt.U, Pt.locs, Pt.cells, Pt.slots] at X' e1 e2 h1 h2 h3 st hcl
    subst h1; subst h2; subst h3
    exact Or.inr ⟨q, (T.setVm vm₁).calling g' mk (Value.ref b :: As).toArray, t, U', L, E, ce, hT, X', hL, e1, e2, hq, hce, hcv, vx_cls hW₁ hcl, st⟩
theorem vx_runS (S : CallFix p m c cc nL s args Ts own) (hM : vx_Met l y ws rm Pc Qc XC mc ms free) (cw : CallB R s args own index y bytes maxL ret ws rm mc ms n ∧ (Cond.static y).before args s = true) (hp : PreS s H Pc As)
    (hg : g.method = m) (hn : As.length = n) (hsize : g.locals.size = nL) (hstack : g.stack = As.reverse ++ rest) (hW : 2 * g.monitorRoom + (rest.map fun v => v.category).sum ≤ 8) (hdg : decode cc g.pc = .ok (.invokestatic index, 3)) (hf : cells + mc ≤ R.cells ∧ slots + ms ≤ R.slots) :
    vx_Run p l e R s m args below meth c H locs cells slots mc ms g rest (Qc As.toArray) XC free := by
  have hK : vx_Back l R p e below s args y 3 8 (PreOf R mc ms Pc) (PostOf Qc mc ms free) (vx_Post XC mc ms free) := vx_callBack cw.1 hM hp.1
  obtain ⟨⟨-, -, -, -, -, -, hcode, hini, hy, hlen, hl⟩, hstt⟩ := cw
  obtain ⟨hx, hb, hml, ho, -⟩ := S
  intro T hT X
  rcases vx_callS X hx (bytes := bytes) (maxL := maxL) (ret := ret) ho hl hstt hini hcode hy hK hg (hsize.trans hml.symm) (argsL := As) (rest := rest) (fun sig h => hn.trans (hlen sig h)) hstack hW (by rw [hb]; exact hdg)
    (fun vm₁ hW₁ => ⟨hf.1, hf.2, hp.2 (T.setVm vm₁) hT hW₁⟩) with ⟨v, vm₁, ⟨U', l2, c2, s2⟩, hW₁, X', ⟨g', mk, t, L, e1, e2, hq, h1, hL, h2, h3⟩, st⟩ | ⟨q, vm₁, ⟨U', l2, c2, s2⟩, hW₁, X', ⟨g', mk, t, L, E, ce, e1, e2, hq, hce, hcv, hcl, h1, hL, h2, h3⟩, st⟩
  · dsimp only [Pt.U, Pt.locs, Pt.cells, Pt.slots] at X' e1 e2 h1 h2 h3 st
    subst h1; subst h2; subst h3
    exact Or.inl ⟨v, (T.setVm vm₁).calling g' mk As.toArray, t, U', L, hT, X', hL, e1, e2, hq, st⟩
  · dsimp only [Pt.U, Pt.locs, Pt.cells, Pt.slots] at X' e1 e2 h1 h2 h3 st hcl
    subst h1; subst h2; subst h3
    exact Or.inr ⟨q, (T.setVm vm₁).calling g' mk As.toArray, t, U', L, E, ce, hT, X', hL, e1, e2, hq, hce, hcv, vx_cls hW₁ hcl, st⟩
end Runs
section Rows
variable {p : Program} {l : Launch} {e : Env} {R : Room} {s : State} {m : MethodId} {args : Array Value} {below : List Frame} {meth : Method} {c : Code} {H : Heap} {locs : List Loc} {cells slots : Nat} {Q : State → Prop}
variable {mc ms : Nat} {free : Addr → Prop} {A0 A1 : Nat → Prop} {H0 : Heap} {a : Array Value} {pc : Nat} {ls : Array Slot} {st0 rest : List Value}
theorem vx_keep {st₀ t T' : State} {L : List Loc} (h0 : st₀.heap = H) (e1 : T'.heap = t.heap) (hS : va_S A0 H0 H locs) (hA : ∀ q, q < H.size → A1 q → A0 q) (hf : ∀ q, free q → A0 q) (hL : ∀ q ∈ L, free q.base) (hF : va_F A1 st₀ t) :
    H.size ≤ T'.heap.size ∧ (∀ q : Nat, q < H.size → ¬ A1 q → T'.heap[q]? = H[q]?) ∧ va_S A0 H0 T'.heap (locs ++ L) := by
  obtain ⟨hz, hk⟩ := hF
  rw [h0] at hz hk
  exact ⟨by rw [e1]; exact hz, fun q h1 h2 => by rw [e1]; exact hk q h1 h2,
    ⟨Nat.le_trans hS.1 (by rw [e1]; exact hz), fun q h1 h2 => by rw [e1, hk q (Nat.lt_of_lt_of_le h1 hS.1) (fun z => h2 (hA q (Nat.lt_of_lt_of_le h1 hS.1) z))]; exact hS.2.1 q h1 h2, fun q hq => by
      rcases List.mem_append.mp hq with h | h
      · exact hS.2.2 q h
      · exact hf _ (hL q h)⟩⟩
theorem vx_calli {S SX : Type} {post : Int32 → S → Prop} {px : SX → Prop} {B : S → State → Prop} {BX : String → SX → State → Prop} {AX : Nat → Prop} (hr : vx_Run p l e R s m args below meth c H locs cells slots mc ms (F0 m pc ls st0) rest (va_Qi post B A1 a) (vx_X px BX AX) free) (hS : va_S A0 H0 H locs) (hA : ∀ q, q < H.size → A1 q → A0 q) (hf : ∀ q, free q → A0 q) (hAX : ∀ q, q < H.size → AX q → A0 q)
    (kx : ∀ (E : String) (ce : Cell) (q9 : Addr) (u : SX) (t : State) (H1 : Heap) (locs1 : List Loc), t.heap = H1 → s.vm.Alike t.vm → px u → BX E u t → H.size ≤ H1.size → (∀ q : Nat, q < H.size → ¬ AX q → H1[q]? = H[q]?) → va_S A0 H0 H1 locs1 → H1[q9]? = some ce → ce.vm = .none → s.vm.findClass E = some ce.cls → vx_W p l e R s m args below meth c H1 locs1 (cells + mc) (slots + ms) Q (F0 m pc ls rest) q9)
    (kk : ∀ (r : Int32) (u : S) (t : State) (H1 : Heap) (locs1 : List Loc), t.heap = H1 → s.vm.Alike t.vm → post r u → B u t → H.size ≤ H1.size → (∀ q : Nat, q < H.size → ¬ A1 q → H1[q]? = H[q]?) → va_S A0 H0 H1 locs1 → W p l e R s m args below meth c H1 locs1 (cells + mc) (slots + ms) Q (F0 m (pc + 3) ls (.int r :: rest))) : W p l e R s m args below meth c H locs cells slots Q (F0 m pc ls st0) := by
  intro T hT X
  rcases hr T hT X with ⟨v, st₀, t, T', L, h0, X', hL, e1, e2, ⟨⟨r, u, hv, hp, hb⟩, hF⟩, st⟩ | ⟨q, st₀, t, T', L, E, ce, h0, X', hL, e1, e2, ⟨u, hp, hb, hF⟩, hce, hcv, hcl, st⟩
  · cases hv
    obtain ⟨k1, k2, k3⟩ := vx_keep h0 e1 hS hA hf hL hF
    obtain ⟨t2, a1, b1⟩ := kk r u t T'.heap (locs ++ L) e1.symm (by rw [← e2]; exact X'.warmed.alike) hp hb k1 k2 k3 T' rfl X'
    exact ⟨t2, st t2 a1, b1⟩
  · obtain ⟨k1, k2, k3⟩ := vx_keep h0 e1 hS hAX hf hL hF
    obtain ⟨t2, a1, b1⟩ := kx E ce q u t T'.heap (locs ++ L) e1.symm (by rw [← e2]; exact X'.warmed.alike) hp hb k1 k2 k3 (by rw [e1]; exact hce) hcv hcl T' rfl X'
    exact ⟨t2, st.trans a1, b1⟩
theorem vx_calll {S SX : Type} {post : Int64 → S → Prop} {px : SX → Prop} {B : S → State → Prop} {BX : String → SX → State → Prop} {AX : Nat → Prop} (hr : vx_Run p l e R s m args below meth c H locs cells slots mc ms (F0 m pc ls st0) rest (va_Ql post B A1 a) (vx_X px BX AX) free) (hS : va_S A0 H0 H locs) (hA : ∀ q, q < H.size → A1 q → A0 q) (hf : ∀ q, free q → A0 q) (hAX : ∀ q, q < H.size → AX q → A0 q)
    (kx : ∀ (E : String) (ce : Cell) (q9 : Addr) (u : SX) (t : State) (H1 : Heap) (locs1 : List Loc), t.heap = H1 → s.vm.Alike t.vm → px u → BX E u t → H.size ≤ H1.size → (∀ q : Nat, q < H.size → ¬ AX q → H1[q]? = H[q]?) → va_S A0 H0 H1 locs1 → H1[q9]? = some ce → ce.vm = .none → s.vm.findClass E = some ce.cls → vx_W p l e R s m args below meth c H1 locs1 (cells + mc) (slots + ms) Q (F0 m pc ls rest) q9)
    (kk : ∀ (r : Int64) (u : S) (t : State) (H1 : Heap) (locs1 : List Loc), t.heap = H1 → s.vm.Alike t.vm → post r u → B u t → H.size ≤ H1.size → (∀ q : Nat, q < H.size → ¬ A1 q → H1[q]? = H[q]?) → va_S A0 H0 H1 locs1 → W p l e R s m args below meth c H1 locs1 (cells + mc) (slots + ms) Q (F0 m (pc + 3) ls (.long r :: rest))) : W p l e R s m args below meth c H locs cells slots Q (F0 m pc ls st0) := by
  intro T hT X
  rcases hr T hT X with ⟨v, st₀, t, T', L, h0, X', hL, e1, e2, ⟨⟨r, u, hv, hp, hb⟩, hF⟩, st⟩ | ⟨q, st₀, t, T', L, E, ce, h0, X', hL, e1, e2, ⟨u, hp, hb, hF⟩, hce, hcv, hcl, st⟩
  · cases hv
    obtain ⟨k1, k2, k3⟩ := vx_keep h0 e1 hS hA hf hL hF
    obtain ⟨t2, a1, b1⟩ := kk r u t T'.heap (locs ++ L) e1.symm (by rw [← e2]; exact X'.warmed.alike) hp hb k1 k2 k3 T' rfl X'
    exact ⟨t2, st t2 a1, b1⟩
  · obtain ⟨k1, k2, k3⟩ := vx_keep h0 e1 hS hAX hf hL hF
    obtain ⟨t2, a1, b1⟩ := kx E ce q u t T'.heap (locs ++ L) e1.symm (by rw [← e2]; exact X'.warmed.alike) hp hb k1 k2 k3 (by rw [e1]; exact hce) hcv hcl T' rfl X'
    exact ⟨t2, st.trans a1, b1⟩
theorem vx_callf {S SX : Type} {post : UInt32 → S → Prop} {px : SX → Prop} {B : S → State → Prop} {BX : String → SX → State → Prop} {AX : Nat → Prop} (hr : vx_Run p l e R s m args below meth c H locs cells slots mc ms (F0 m pc ls st0) rest (va_Qf post B A1 a) (vx_X px BX AX) free) (hS : va_S A0 H0 H locs) (hA : ∀ q, q < H.size → A1 q → A0 q) (hf : ∀ q, free q → A0 q) (hAX : ∀ q, q < H.size → AX q → A0 q)
    (kx : ∀ (E : String) (ce : Cell) (q9 : Addr) (u : SX) (t : State) (H1 : Heap) (locs1 : List Loc), t.heap = H1 → s.vm.Alike t.vm → px u → BX E u t → H.size ≤ H1.size → (∀ q : Nat, q < H.size → ¬ AX q → H1[q]? = H[q]?) → va_S A0 H0 H1 locs1 → H1[q9]? = some ce → ce.vm = .none → s.vm.findClass E = some ce.cls → vx_W p l e R s m args below meth c H1 locs1 (cells + mc) (slots + ms) Q (F0 m pc ls rest) q9)
    (kk : ∀ (r : UInt32) (u : S) (t : State) (H1 : Heap) (locs1 : List Loc), t.heap = H1 → s.vm.Alike t.vm → post r u → B u t → H.size ≤ H1.size → (∀ q : Nat, q < H.size → ¬ A1 q → H1[q]? = H[q]?) → va_S A0 H0 H1 locs1 → W p l e R s m args below meth c H1 locs1 (cells + mc) (slots + ms) Q (F0 m (pc + 3) ls (.float r :: rest))) : W p l e R s m args below meth c H locs cells slots Q (F0 m pc ls st0) := by
  intro T hT X
  rcases hr T hT X with ⟨v, st₀, t, T', L, h0, X', hL, e1, e2, ⟨⟨r, u, hv, hp, hb⟩, hF⟩, st⟩ | ⟨q, st₀, t, T', L, E, ce, h0, X', hL, e1, e2, ⟨u, hp, hb, hF⟩, hce, hcv, hcl, st⟩
  · cases hv
    obtain ⟨k1, k2, k3⟩ := vx_keep h0 e1 hS hA hf hL hF
    obtain ⟨t2, a1, b1⟩ := kk r u t T'.heap (locs ++ L) e1.symm (by rw [← e2]; exact X'.warmed.alike) hp hb k1 k2 k3 T' rfl X'
    exact ⟨t2, st t2 a1, b1⟩
  · obtain ⟨k1, k2, k3⟩ := vx_keep h0 e1 hS hAX hf hL hF
    obtain ⟨t2, a1, b1⟩ := kx E ce q u t T'.heap (locs ++ L) e1.symm (by rw [← e2]; exact X'.warmed.alike) hp hb k1 k2 k3 (by rw [e1]; exact hce) hcv hcl T' rfl X'
    exact ⟨t2, st.trans a1, b1⟩
theorem vx_calld {S SX : Type} {post : UInt64 → S → Prop} {px : SX → Prop} {B : S → State → Prop} {BX : String → SX → State → Prop} {AX : Nat → Prop} (hr : vx_Run p l e R s m args below meth c H locs cells slots mc ms (F0 m pc ls st0) rest (va_Qd post B A1 a) (vx_X px BX AX) free) (hS : va_S A0 H0 H locs) (hA : ∀ q, q < H.size → A1 q → A0 q) (hf : ∀ q, free q → A0 q) (hAX : ∀ q, q < H.size → AX q → A0 q)
    (kx : ∀ (E : String) (ce : Cell) (q9 : Addr) (u : SX) (t : State) (H1 : Heap) (locs1 : List Loc), t.heap = H1 → s.vm.Alike t.vm → px u → BX E u t → H.size ≤ H1.size → (∀ q : Nat, q < H.size → ¬ AX q → H1[q]? = H[q]?) → va_S A0 H0 H1 locs1 → H1[q9]? = some ce → ce.vm = .none → s.vm.findClass E = some ce.cls → vx_W p l e R s m args below meth c H1 locs1 (cells + mc) (slots + ms) Q (F0 m pc ls rest) q9)
    (kk : ∀ (r : UInt64) (u : S) (t : State) (H1 : Heap) (locs1 : List Loc), t.heap = H1 → s.vm.Alike t.vm → post r u → B u t → H.size ≤ H1.size → (∀ q : Nat, q < H.size → ¬ A1 q → H1[q]? = H[q]?) → va_S A0 H0 H1 locs1 → W p l e R s m args below meth c H1 locs1 (cells + mc) (slots + ms) Q (F0 m (pc + 3) ls (.double r :: rest))) : W p l e R s m args below meth c H locs cells slots Q (F0 m pc ls st0) := by
  intro T hT X
  rcases hr T hT X with ⟨v, st₀, t, T', L, h0, X', hL, e1, e2, ⟨⟨r, u, hv, hp, hb⟩, hF⟩, st⟩ | ⟨q, st₀, t, T', L, E, ce, h0, X', hL, e1, e2, ⟨u, hp, hb, hF⟩, hce, hcv, hcl, st⟩
  · cases hv
    obtain ⟨k1, k2, k3⟩ := vx_keep h0 e1 hS hA hf hL hF
    obtain ⟨t2, a1, b1⟩ := kk r u t T'.heap (locs ++ L) e1.symm (by rw [← e2]; exact X'.warmed.alike) hp hb k1 k2 k3 T' rfl X'
    exact ⟨t2, st t2 a1, b1⟩
  · obtain ⟨k1, k2, k3⟩ := vx_keep h0 e1 hS hAX hf hL hF
    obtain ⟨t2, a1, b1⟩ := kx E ce q u t T'.heap (locs ++ L) e1.symm (by rw [← e2]; exact X'.warmed.alike) hp hb k1 k2 k3 (by rw [e1]; exact hce) hcv hcl T' rfl X'
    exact ⟨t2, st.trans a1, b1⟩
theorem vx_callv {S SX : Type} {post : S → Prop} {px : SX → Prop} {B : S → State → Prop} {BX : String → SX → State → Prop} {AX : Nat → Prop} (hr : vx_Run p l e R s m args below meth c H locs cells slots mc ms (F0 m pc ls st0) rest (va_Qv post B A1 a) (vx_X px BX AX) free) (hS : va_S A0 H0 H locs) (hA : ∀ q, q < H.size → A1 q → A0 q) (hf : ∀ q, free q → A0 q) (hAX : ∀ q, q < H.size → AX q → A0 q)
    (kx : ∀ (E : String) (ce : Cell) (q9 : Addr) (u : SX) (t : State) (H1 : Heap) (locs1 : List Loc), t.heap = H1 → s.vm.Alike t.vm → px u → BX E u t → H.size ≤ H1.size → (∀ q : Nat, q < H.size → ¬ AX q → H1[q]? = H[q]?) → va_S A0 H0 H1 locs1 → H1[q9]? = some ce → ce.vm = .none → s.vm.findClass E = some ce.cls → vx_W p l e R s m args below meth c H1 locs1 (cells + mc) (slots + ms) Q (F0 m pc ls rest) q9)
    (kk : ∀ (u : S) (t : State) (H1 : Heap) (locs1 : List Loc), t.heap = H1 → s.vm.Alike t.vm → post u → B u t → H.size ≤ H1.size → (∀ q : Nat, q < H.size → ¬ A1 q → H1[q]? = H[q]?) → va_S A0 H0 H1 locs1 → W p l e R s m args below meth c H1 locs1 (cells + mc) (slots + ms) Q (F0 m (pc + 3) ls (rest))) : W p l e R s m args below meth c H locs cells slots Q (F0 m pc ls st0) := by
  intro T hT X
  rcases hr T hT X with ⟨v, st₀, t, T', L, h0, X', hL, e1, e2, ⟨⟨u, hv, hp, hb⟩, hF⟩, st⟩ | ⟨q, st₀, t, T', L, E, ce, h0, X', hL, e1, e2, ⟨u, hp, hb, hF⟩, hce, hcv, hcl, st⟩
  · cases hv
    obtain ⟨k1, k2, k3⟩ := vx_keep h0 e1 hS hA hf hL hF
    obtain ⟨t2, a1, b1⟩ := kk u t T'.heap (locs ++ L) e1.symm (by rw [← e2]; exact X'.warmed.alike) hp hb k1 k2 k3 T' rfl X'
    exact ⟨t2, st t2 a1, b1⟩
  · obtain ⟨k1, k2, k3⟩ := vx_keep h0 e1 hS hAX hf hL hF
    obtain ⟨t2, a1, b1⟩ := kx E ce q u t T'.heap (locs ++ L) e1.symm (by rw [← e2]; exact X'.warmed.alike) hp hb k1 k2 k3 (by rw [e1]; exact hce) hcv hcl T' rfl X'
    exact ⟨t2, st.trans a1, b1⟩
/-- caught by the row x of this method's table; the rows ahead don't take it -/
theorem vx_catch {own name : String} {E : String} {ce : Cell} {q : Addr} (hown : s.vm.findClass own = some m.cls) (pre : List ExceptionTableEntry) (x : ExceptionTableEntry) (suf : List ExceptionTableEntry) (hsplit : c.exceptionTable.toList = pre ++ x :: suf)
    (hpass : ∀ z ∈ pre, covers z pc = false ∨ (z.catchType ≠ 0 ∧ ∃ nm : String, (Cond.classLink own z.catchType nm).before args s = true ∧ va_Nc E nm s)) (hx : covers x pc = true) (h0 : x.catchType ≠ 0)
    (hlink : (Cond.classLink own x.catchType name).before args s = true) (hcast : (Cond.castable E name).before args s = true) (hcell : H[q]? = some ce) (hv : ce.vm = .none) (hcl : s.vm.findClass E = some ce.cls)
    (kk : W p l e R s m args below meth c H locs cells slots Q (F0 m x.handlerPc ls [.ref q])) : vx_W p l e R s m args below meth c H locs cells slots Q (F0 m pc ls rest) q := by
  intro T hT X
  have hpl : e.platform.magicAccessors = ({} : Platform).magicAccessors := by rw [X.admits.platform]
  obtain ⟨c3, c4, hc3, hc4, hasg⟩ := Cond.castable_spec hcast
  cases Option.some.inj (hc3.symm.trans hcl)
  obtain ⟨c5, hc5, hcl5⟩ := Cond.classLink_spec hown hlink e.platform hpl
  cases Option.some.inj (hc4.symm.trans hc5)
  obtain ⟨vm', X', st⟩ := X.thenCaughtThrough q (g := F0 m pc ls rest) rfl (Steps.refl _) (by rw [hT]; exact hcell) (by rw [hv]; rfl) (by obtain ⟨k9, h9, -⟩ := Vm.findClass_spec hcl; exact ⟨k9, h9⟩) pre x suf hsplit
    (fun z hz => by
      rcases hpass z hz with h | ⟨hz0, nm, hl1, hn1⟩
      · exact Or.inl h
      · obtain ⟨c6, hc6, hcl6⟩ := Cond.classLink_spec hown hl1 e.platform hpl
        obtain ⟨a8, b8, h1, h2, h3⟩ := hn1
        cases Option.some.inj (h1.symm.trans hcl)
        cases Option.some.inj (h2.symm.trans hc6)
        exact Or.inr ⟨hz0, _, hcl6, h3⟩) hx (Or.inr ⟨h0, c4, hcl5, hasg⟩)
  obtain ⟨t, a1, b1⟩ := kk (T.setVm vm') hT X'
  exact ⟨t, st.trans a1, b1⟩
end Rows
section Ends
variable {p : Program} {l : Launch} {e : Env} {R : Room} {s : State} {m : MethodId} {args : Array Value} {below : List Frame} {meth : Method} {c : Code} {H : Heap} {locs : List Loc} {cells slots : Nat} {Q : State → Prop}
variable {mc ms : Nat} {free : Addr → Prop} {A0 A1 : Nat → Prop} {H0 : Heap} {a : Array Value} {ls : Array Slot} {st0 rest : List Value}
variable {Qc : Array Value → State → Outcome → State → Prop} {XC : String → State → State → Prop}
/-- what a body that may throw owes at its end -/
def vx_MQ (below : List Frame) (Qc : Array Value → State → Outcome → State → Prop) (XC : String → State → State → Prop) (a : Array Value) (s : State) (mc ms : Nat) (free : Addr → Prop) : State → Prop := fun t =>
  ∃ o, t.status = .running ∧ Ended t below o ∧ vx_Q Qc XC mc ms free a s o t
theorem vx_ret {g : JFrame} {mc ms : Nat} (k : W p l e R s m args below meth c H locs cells slots (MQ below Qc args s mc ms free) g) : W p l e R s m args below meth c H locs cells slots (vx_MQ below Qc XC args s mc ms free) g := by
  intro T hT X
  obtain ⟨t, a1, o, b1, b2, b3, b4⟩ := k T hT X
  exact ⟨t, a1, o, b1, b2, Or.inl ⟨b3, b4⟩⟩
/-- not caught here: it goes on to the caller -/
theorem vx_widen {g : JFrame} {q : Addr} {k n : Nat} (h1 : cells ≤ k) (h2 : slots ≤ n) (kk : vx_W p l e R s m args below meth c H locs k n Q g q) : vx_W p l e R s m args below meth c H locs cells slots Q g q := fun T hT X => kk T hT (stand_widen X h1 h2)
theorem vx_out {pc : Nat} {E : String} {ce : Cell} {q : Addr} {mc ms : Nat} (hout : ∀ x ∈ c.exceptionTable.toList, covers x pc = false) (hlocks : meth.locks = false) (hcell : H[q]? = some ce) (hv : ce.vm = .none) (hcl : s.vm.findClass E = some ce.cls)
    (hx : ∀ t : State, t.heap = H → s.vm.Alike t.vm → XC E s t) (hf : ∀ z ∈ locs, free z.base) (hc : cells ≤ mc) (hs : slots ≤ ms) :
    vx_W p l e R s m args below meth c H locs cells slots (vx_MQ below Qc XC args s mc ms free) (F0 m pc ls rest) q := by
  intro T hT X
  obtain ⟨st1, hrun, hend, hW, hsm⟩ := X.leaveThrown q (g := F0 m pc ls rest) rfl rfl rfl hout hlocks
  have hcell9 : (T.setFrames (.throwing q :: below)).heap[q]? = some ce := by
    show T.heap[q]? = some ce
    rw [hT]; exact hcell
  exact ⟨_, st1, .threw q, hrun, hend, Or.inr ⟨q, rfl, E, ce, locs, hx _ hT hW.alike, hcell9, hv, hcl, hW, hsm.mono hc hs, hf⟩⟩
theorem vx_frame {U : State} {k n : Nat} (h : s.sameButNew ({ U with vm := s.vm } : State) locs k n) : s.heap.size ≤ U.heap.size ∧ ∀ q : Nat, q < s.heap.size → (∀ z ∈ locs, z.base ≠ q) → U.heap[q]? = s.heap[q]? := by
  obtain ⟨-, h2, -, -, -, h6⟩ := h
  refine ⟨h2, fun q hq hz => ?_⟩
  obtain ⟨c9, e1, e2, e3, e4⟩ := h6 q _ (Array.getElem?_eq_getElem hq)
  have hs : c9.slots = (s.heap[q]).slots := Array.ext_getElem? fun i => e4 i fun hm => hz _ hm rfl
  have h9 : c9 = s.heap[q] := by
    rw [hs] at e2
    exact e2
  have e5 : U.heap[q]? = some c9 := e1
  rw [e5, h9, Array.getElem?_eq_getElem hq]
/-- the words of a throw but the four that speak of the heap -/
def vx_no (w : Cond) : Bool := decide (w ≠ .isRef (.static Bundle.tN "UNASSIGNED_STACK" Bundle.steD)) && decide (w ≠ .isRef (.static Bundle.tN "SUPPRESSED_SENTINEL" Bundle.listD)) && decide (w ≠ .laysStatic Bundle.tN "UNASSIGNED_STACK" Bundle.steD) && decide (w ≠ .laysStatic Bundle.tN "SUPPRESSED_SENTINEL" Bundle.listD)
def vx_at0 (own : String) (ic : Nat) (X : String) (names : List String) : List Cond := (Bundle.ownAtoms0 own ic X names).filter vx_no
def vx_atS (own : String) (ic : Nat) (X : String) (names : List String) : List Cond := (Bundle.ownAtoms own ic X names).filter vx_no
/-- a word that the tables alone decide, or a good one -/
def vx_ot (w : Cond) : Bool := w.onTables || goodWord w
theorem vx_ot_at {args a' : Array Value} {s U : State} {w : Cond} (hW : s.WarmedH U.vm) (hvm : s.vm = U.vm) (hg : vx_ot w = true) (h : w.before args s = true) : w.before a' U = true := by
  simp only [vx_ot, Bool.or_eq_true] at hg
  rcases hg with hg | hg
  · exact va_tabs hg hvm h
  · exact word_at hW (good_of_word hg) h
/-- a list's words: the good ones out of the method's own list, the others by premises of their own -/
theorem vx_hat {args : Array Value} {s : State} {L B : List Cond} (h1 : ∀ w ∈ L.filter goodWord, w.before args s = true) (h2 : ∀ w ∈ L.filter (fun w => !goodWord w), w ∈ B) (h3 : ∀ w ∈ B, w.before args s = true) : ∀ w ∈ L, w.before args s = true := by
  intro w hw
  by_cases g : goodWord w = true
  · exact h1 w (List.mem_filter.mpr ⟨hw, g⟩)
  · refine h3 w (h2 w (List.mem_filter.mpr ⟨hw, ?_⟩))
    show (!goodWord w) = true
    cases hgw : goodWord w
    · rfl
    · exact absurd hgw g
theorem vx_c {args : Array Value} {s : State} {w : Cond} {B : List Cond} (h : w.before args s = true) (t : ∀ w ∈ B, w.before args s = true) : ∀ w' ∈ w :: B, w'.before args s = true := fun w' h' => (List.mem_cons.mp h').elim (fun e => by rw [e]; exact h) (t w')
theorem vx_n {args : Array Value} {s : State} : ∀ w ∈ ([] : List Cond), w.before args s = true := fun _ h => nomatch h
theorem vx_own {args : Array Value} {s : State} {L : List Cond} (h1 : ∀ w ∈ L.filter vx_no, w.before args s = true)
    (hU : (Cond.isRef (.static Bundle.tN "UNASSIGNED_STACK" Bundle.steD)).before args s = true) (hN : (Cond.isRef (.static Bundle.tN "SUPPRESSED_SENTINEL" Bundle.listD)).before args s = true)
    (lU : (Cond.laysStatic Bundle.tN "UNASSIGNED_STACK" Bundle.steD).before args s = true) (lN : (Cond.laysStatic Bundle.tN "SUPPRESSED_SENTINEL" Bundle.listD).before args s = true) : ∀ w ∈ L, w.before args s = true := by
  intro w hw
  by_cases e1 : w = .isRef (.static Bundle.tN "UNASSIGNED_STACK" Bundle.steD)
  · rw [e1]; exact hU
  · by_cases e2 : w = .isRef (.static Bundle.tN "SUPPRESSED_SENTINEL" Bundle.listD)
    · rw [e2]; exact hN
    · by_cases e3 : w = .laysStatic Bundle.tN "UNASSIGNED_STACK" Bundle.steD
      · rw [e3]; exact lU
      · by_cases e4 : w = .laysStatic Bundle.tN "SUPPRESSED_SENTINEL" Bundle.listD
        · rw [e4]; exact lN
        · exact h1 w (List.mem_filter.mpr ⟨hw, by unfold vx_no; rw [decide_eq_true e1, decide_eq_true e2, decide_eq_true e3, decide_eq_true e4]; rfl⟩)
/-- where a static field lies, its class's statics cell in H -/
def vx_L (C n d : String) (A : Nat → Prop) (U : State) (H : Heap) : Prop := ∃ (c : ClassId) (k : Class) (i : Nat) (f : Field) (a : Nat) (cell : Cell), U.vm.findClass C = some c ∧ U.fieldFound? C n d = some (c, k, i, f) ∧ f.isStatic = true ∧ k.statics = some a ∧ H[a]? = some cell ∧ cell.vm.isStatics = true ∧ cell.cls = c ∧ f.slot < cell.slots.size ∧ k.staticTypes[f.slot]? = some f.type ∧ ¬ A a
theorem vx_L.moved {C n d : String} {A : Nat → Prop} {u U : State} {H : Heap} (hvm : u.vm.Alike U.vm) (h : vx_L C n d A u H) : vx_L C n d A U H := by
  obtain ⟨c, k, i, f, a, cell, h1, h2, h3, h4, h5, h6, h7, h8, h9, h10⟩ := h
  obtain ⟨k', hi', he⟩ := State.fieldFound?_setVm hvm h2
  exact ⟨c, k', i, f, a, cell, by rw [hvm.findClass]; exact h1, hi', h3, by rw [he]; exact h4, h5, h6, h7, h8, by rw [he]; exact h9, h10⟩
theorem vx_L.kept {C n d : String} {A : Nat → Prop} {U : State} {H H1 : Heap} (h : vx_L C n d A U H) (hq : ∀ a : Nat, a < H.size → ¬ A a → H1[a]? = H[a]?) : vx_L C n d A U H1 := by
  obtain ⟨c, k, i, f, a, cell, h1, h2, h3, h4, h5, h6, h7, h8, h9, h10⟩ := h
  exact ⟨c, k, i, f, a, cell, h1, h2, h3, h4, by rw [hq a (Array.getElem?_eq_some_iff.mp h5).1 h10]; exact h5, h6, h7, h8, h9, h10⟩
theorem vx_L.narrow {C n d : String} {A B : Nat → Prop} {U : State} {H : Heap} (h : vx_L C n d A U H) (hAB : ∀ q, B q → A q) : vx_L C n d B U H := by
  obtain ⟨c, k, i, f, a, cell, h1, h2, h3, h4, h5, h6, h7, h8, h9, h10⟩ := h
  exact ⟨c, k, i, f, a, cell, h1, h2, h3, h4, h5, h6, h7, h8, h9, fun z => h10 (hAB _ z)⟩
theorem vx_L.word {C n d : String} {A : Nat → Prop} {s : State} {args : Array Value} (h : vx_L C n d A s s.heap) : (Cond.laysStatic C n d).before args s = true := by
  obtain ⟨c, k, i, f, a, cell, h1, h2, h3, h4, h5, h6, h7, h8, h9, -⟩ := h
  show (Cond.laysStatic C n d).holds args s none s [] = true
  exact Cond.laysStatic_of h1 h2 h3 h4 h5 h6 h7 h8 h9
/-- .. and what it holds: null or some reference -/
def vx_Zq (C n d : String) (A : Nat → Prop) (U : State) (H : Heap) : Prop := va_Zq C n d A U H ∧ vx_L C n d A U H
theorem vx_Zq.moved {C n d : String} {A : Nat → Prop} {u U : State} {H : Heap} (hvm : u.vm.Alike U.vm) (h : vx_Zq C n d A u H) : vx_Zq C n d A U H := ⟨va_Zq.moved hvm h.1, vx_L.moved hvm h.2⟩
theorem vx_Zq.kept {C n d : String} {A : Nat → Prop} {U : State} {H H1 : Heap} (h : vx_Zq C n d A U H) (hq : ∀ a : Nat, a < H.size → ¬ A a → H1[a]? = H[a]?) : vx_Zq C n d A U H1 := ⟨va_Zq.kept h.1 hq, vx_L.kept h.2 hq⟩
theorem vx_Zq.narrow {C n d : String} {A B : Nat → Prop} {U : State} {H : Heap} (h : vx_Zq C n d A U H) (hAB : ∀ q, B q → A q) : vx_Zq C n d B U H := ⟨va_Zq.narrow h.1 hAB, vx_L.narrow h.2 hAB⟩
theorem vx_Zqof {args : Array Value} {s : State} {C n d : String} {A : Nat → Prop} (hl : (Cond.laysStatic C n d).before args s = true) (hini : (Cond.initialized C).before args s = true) (h : (Cond.isRef (.static C n d)).before args s = true) (hA : ∀ a : Nat, a < s.heap.size → ¬ A a) : vx_Zq C n d A s s.heap := by
  refine ⟨va_Zqof hl hini h hA, ?_⟩
  obtain ⟨c, k, i, f, a, cell, h1, h2, h3, h4, h5, h6, h7, h8, h9⟩ := Cond.laysStatic_spec hl
  exact ⟨c, k, i, f, a, cell, h1, h2, h3, h4, h5, h6, h7, h8, h9, hA a (Array.getElem?_eq_some_iff.mp h5).1⟩
theorem vx_isRef {C n d : String} {v : Value} {A : Nat → Prop} {s : State} {args : Array Value} (h : va_Z C n d v A s s.heap) (hv : v.isRef = true) : (Cond.isRef (.static C n d)).before args s = true := by
  obtain ⟨cf, kf, fi, f, a, cell, h1, h2, h3, h4, h5, h6, h7, -⟩ := h
  have he : (Term.static C n d).eval args s none [] s = some v := by
    simp [Term.eval, State.fieldNamed?, h1, h2, h4, h5, h6, h7]
  simp only [Cond.before, Cond.holds, Cond.value, he]
  cases v <;> simp_all [Value.isRef]
theorem vx_isRefq {C n d : String} {A : Nat → Prop} {s : State} {args : Array Value} (h : va_Zq C n d A s s.heap) : (Cond.isRef (.static C n d)).before args s = true := by
  rcases h with h | ⟨t, h⟩
  · exact vx_isRef h rfl
  · exact vx_isRef h rfl
/-- the same frame, seen from here: as if the method were called anew in this heap -/
theorem vx_rebase {T : State} (X : Stand p l e R s m args below meth c T locs cells slots) {R' : Room} (hf : R'.frames ≤ R.frames) (hl : R'.locals ≤ R.locals) (hc : cells + R'.cells ≤ R.cells) (hs : slots + R'.slots ≤ R.slots) :
    Stand p l e R' ((T.setVm s.vm).setFrames (.invoking m args :: below)) m args below meth c T [] 0 0 := by
  have htop : (T.setVm s.vm).topJava?.isSome := X.here.top
  have hF : ((T.setVm s.vm).setFrames (.invoking m args :: below)).frames = .invoking m args :: below := State.frames_setFrames _ (State.cur_lt_of_top htop)
  obtain ⟨g₀, hg0⟩ := Option.isSome_iff_exists.mp htop
  obtain ⟨r, hr⟩ := State.topJava?_eq_some.mp hg0
  have hl9 : e.platform.stackLimits (T.setVm s.vm).me = e.platform.stackLimits s.me := X.limits
  have hb9 : (T.setVm s.vm).me.stackBytes = s.me.stackBytes := X.bytes
  refine ⟨X.admits, X.cas, X.clock, hF, ?_, X.hears, X.method, X.code, X.here, X.tail, X.warmed, ?_, ?_, ?_⟩
  · have h := X.room
    have hU : ((T.setVm s.vm).setFrames (.invoking m args :: below)).localsInUse = s.localsInUse := by
      rw [State.localsInUse_invoking hF (meth := meth) (c := c) X.method X.code, State.localsInUse_invoking X.frames X.method X.code]
    simp only [State.hasRoom, Bool.and_eq_true, decide_eq_true_eq] at h ⊢
    obtain ⟨⟨⟨⟨h1, h2, h3, h4, h5, h6⟩, h7⟩, h8⟩, h9⟩ := h
    rw [X.frames, List.length_cons] at h2 h3
    have q1 := X.heapSize
    have q2 := X.used
    simp only [hF, hU, List.length_cons, State.stackLimits_setFrames, State.stackBytes_setFrames, hl9, hb9]
    refine ⟨⟨⟨⟨by omega, by omega, by omega, by omega, by omega, h6⟩, ?_⟩, ?_⟩, X.book⟩
    · show T.heap.size + R'.cells ≤ e.platform.maxCells
      omega
    · show T.slotsUsed + R'.slots ≤ e.platform.maxSlots
      omega
  · rw [State.stackLimits_setFrames]; rfl
  · rw [State.stackBytes_setFrames]; rfl
  · refine ⟨?_, Nat.le_refl _, Nat.le_refl _, ?_, ?_, fun a c9 h9 => ⟨c9, h9, rfl, rfl, fun _ _ => rfl⟩⟩
    · obtain ⟨t, ht, -⟩ := State.frames_cons hr
      show T.setVm s.vm = { ((T.setVm s.vm).setFrames (.invoking m args :: below)).setFrames (T.setVm s.vm).frames with heap := T.heap, slotsUsed := T.slotsUsed }
      rw [State.setFrames_setFrames, State.setFrames_self ht]
      rfl
    · show T.slotsUsed = T.slotsUsed + ((T.heap.toList.drop T.heap.size).map (·.slots.size)).sum
      rw [List.drop_eq_nil_of_le (Nat.le_of_eq Array.length_toList)]
      rfl
    · show ((T.heap.toList.drop T.heap.size).map (·.slots.size)).sum ≤ 0
      rw [List.drop_eq_nil_of_le (Nat.le_of_eq Array.length_toList)]
      exact Nat.le_refl _
/-- 'throw new E()': new; dup; invokespecial; athrow -/
theorem vx_throw0 {cc : ByteArray} {pc : Nat} (hexec : p.tables.exec = Jvm.exec) (hb : c.code = cc) (hl : l.stackTraces = false) {own cls : String} {names : List String} {ik ic mc ms : Nat} {A : Nat → Prop}
    (hown : s.vm.findClass own = some m.cls) (hcls : Bundle.fit cls = true) (hnames : ∀ n ∈ names, Bundle.fit n = true)
    (hk : (Cond.classLink own ik cls).before args s = true) (hini : (Cond.initialized cls).before args s = true) (hat : ∀ w ∈ vx_at0 own ic cls names, w.before args s = true)
    (hgood : ∀ w ∈ Cond.classLink own ik cls :: Cond.initialized cls :: vx_at0 own ic cls names, vx_ot w = true)
    (hU : vx_Zq Bundle.tN "UNASSIGNED_STACK" Bundle.steD A s s.heap) (hN : vx_Zq Bundle.tN "SUPPRESSED_SENTINEL" Bundle.listD A s s.heap) (hS : va_S A s.heap H locs) (hsize : ls.size = c.maxLocals)
    (d0 : decode cc pc = .ok (.new ik, 3)) (d3 : decode cc (pc + 3) = .ok (.dup, 1)) (d4 : decode cc (pc + 4) = .ok (.invokespecial ic, 3)) (d7 : decode cc (pc + 7) = .ok (.athrow, 1))
    (hout : ∀ x ∈ c.exceptionTable.toList, covers x (pc + 7) = false)
    (hRframes : names.length + 3 < R.frames) (hRlocals : (rest.map fun v => v.category).sum + (13 * (names.length + 1) + 42) ≤ R.locals) (hRcells : cells + 1 ≤ R.cells) (hRslots : slots + 6 ≤ R.slots) (hlocks : meth.locks = false)
    (hx : ∀ t : State, s.vm.Alike t.vm → H.size ≤ t.heap.size → (∀ q : Nat, q < H.size → t.heap[q]? = H[q]?) → XC cls s t)
    (hf : ∀ z ∈ locs, free z.base) (hc : cells + 1 ≤ mc) (hs : slots + 6 ≤ ms) :
    W p l e R s m args below meth c H locs cells slots (vx_MQ below Qc XC args s mc ms free) (F0 m pc ls rest) := by
  intro T hT X
  have htr : e.platform.stackTraces = false := (show e.platform.stackTraces = l.stackTraces by rw [X.admits.platform]).trans hl
  have Y := vx_rebase X (R' := { frames := R.frames, locals := R.locals, cells := 1, slots := 6 }) (Nat.le_refl _) (Nat.le_refl _) hRcells hRslots
  obtain ⟨s', hA⟩ : ∃ z, z = (T.setVm s.vm).setFrames (.invoking m args :: below) := ⟨_, rfl⟩
  rw [← hA] at Y
  have hvm : s'.vm = s.vm := by rw [hA]; rfl
  have hhp : s'.heap = H := by rw [hA]; exact hT
  have hW0 : s.WarmedH s'.vm := by rw [hvm]; exact State.WarmedH.refl s
  have hat' : ∀ w ∈ vx_at0 own ic cls names, w.before args s' = true := fun w hw => vx_ot_at hW0 hvm.symm (hgood w (List.mem_cons_of_mem _ (List.mem_cons_of_mem _ hw))) (hat w hw)
  have hk' : (Cond.classLink own ik cls).before args s' = true := vx_ot_at hW0 hvm.symm (hgood _ List.mem_cons_self) hk
  have hini' : (Cond.initialized cls).before args s' = true := vx_ot_at hW0 hvm.symm (hgood _ (List.mem_cons_of_mem _ List.mem_cons_self)) hini
  have hU' : vx_Zq Bundle.tN "UNASSIGNED_STACK" Bundle.steD A s' s'.heap := by rw [hhp]; exact vx_Zq.moved hW0.alike (hU.kept hS.2.1)
  have hN' : vx_Zq Bundle.tN "SUPPRESSED_SENTINEL" Bundle.listD A s' s'.heap := by rw [hhp]; exact vx_Zq.moved hW0.alike (hN.kept hS.2.1)
  have h : ∀ w ∈ Bundle.ownAtoms0 own ic cls names, w.before args s' = true := vx_own hat' (vx_isRefq hU'.1) (vx_isRefq hN'.1) hU'.2.word hN'.2.word
  have hown' : s'.vm.findClass own = some m.cls := by rw [hvm]; exact hown
  have hins : (Cond.instantiable cls 6).before args s' = true := h _ (by simp [Bundle.ownAtoms0])
  obtain ⟨vm₁, cX, kX, hfX, hkX, -, -, X₁, st1⟩ := Y.newCold hexec (own := own) (C := cls) (index := ik) (n := 6) hown' hk' hins hini'
    (g := F0 m pc ls rest) rfl (by rw [hb]; exact d0) (Nat.le_refl _) (Nat.le_refl _)
  generalize hT1 : (T.setVm vm₁).pushCell { cls := cX, slots := kX.instanceTypes.map defaultValue, vm := .none } = T1 at X₁ st1
  have hcat : (Value.ref T.heap.size).category = 1 := rfl
  have hcellA : T1.heap[T.heap.size]? = some (freshCell cX kX) := by rw [← hT1]; exact State.heap_pushCell_size _ _
  have d3' : decode c.code (pc + 3) = .ok (.dup, 1) := by rw [hb]; exact d3
  obtain ⟨U, hsteps, hrun, hend, hW, hsame, ce, hce, hO⟩ := X₁.ctorThrow0 hexec htr (own := own) (cls := cls) (names := names) (ic := ic) hown' hcls hnames h (fun x hx => nomatch hx) hfX hkX hcellA (by rw [hhp, hT]; exact Nat.le_refl _)
    (g := { method := m, pc := pc + 4, locals := ls, stack := .ref T.heap.size :: .ref T.heap.size :: rest, locked := none }) rfl hsize rfl rfl (rest := rest) rfl
    (by rw [hb]; exact d4) (by rw [hb]; exact d7) hout hRframes (by simp only [List.map_cons, List.sum_cons, hcat]; omega) hlocks
  obtain ⟨f1, f2⟩ := vx_frame hsame
  rw [hhp] at f1 f2
  have hWs : s.WarmedH U.vm := State.WarmedH.trans hW0 hW
  have hcl : s.vm.findClass cls = some ce.cls := by
    have h9 := hO.cls
    rw [hvm] at h9
    exact h9
  have hall : s.sameButNew ({ U with vm := s.vm } : State) locs mc ms := by
    subst hA
    obtain ⟨e1, e2⟩ := hsame
    rw [State.setFrames_setFrames] at e1
    have h2 : (T.setVm s.vm).sameButNew ({ U with vm := s.vm } : State) [] (0 + 1) (0 + 6) := ⟨e1, e2⟩
    have h3 := X.same.trans h2
    rw [List.append_nil] at h3
    exact h3.mono hc hs
  refine ⟨U, ?_, .threw T.heap.size, hrun, hend, Or.inr ⟨T.heap.size, rfl, cls, ce, locs, hx U hWs.alike f1 (fun q hq => f2 q hq (fun z hz => nomatch hz)), hce, hO.vm, hcl, hWs, hall, hf⟩⟩
  refine st1 _ ?_
  show Steps p.tables e below (T1.setTop { method := m, pc := pc + 3, locals := ls, stack := .ref T.heap.size :: rest, locked := none }) _
  jvm_step X₁.here [X₁.here.top, hexec, d3', Value.category]
  exact hsteps
/-- 'throw new E("text")': new; dup; ldc; invokespecial; athrow -/
theorem vx_throwS {cc : ByteArray} {pc : Nat} (hexec : p.tables.exec = Jvm.exec) (hb : c.code = cc) (hl : l.stackTraces = false) {own cls text : String} {names : List String} {ik is ic mc ms sa : Nat} {A : Nat → Prop}
    (hown : s.vm.findClass own = some m.cls) (hcls : Bundle.fit cls = true) (hnames : ∀ n ∈ names, Bundle.fit n = true)
    (hk : (Cond.classLink own ik cls).before args s = true) (hini : (Cond.initialized cls).before args s = true) (hstr : vk_R own is text sa s) (hat : ∀ w ∈ vx_atS own ic cls names, w.before args s = true)
    (hgood : ∀ w ∈ Cond.classLink own ik cls :: Cond.initialized cls :: vx_atS own ic cls names, vx_ot w = true)
    (hU : vx_Zq Bundle.tN "UNASSIGNED_STACK" Bundle.steD A s s.heap) (hN : vx_Zq Bundle.tN "SUPPRESSED_SENTINEL" Bundle.listD A s s.heap) (hS : va_S A s.heap H locs) (hsize : ls.size = c.maxLocals)
    (d0 : decode cc pc = .ok (.new ik, 3)) (d3 : decode cc (pc + 3) = .ok (.dup, 1)) (d4 : decode cc (pc + 4) = .ok (.ldc is, 2)) (d6 : decode cc (pc + 6) = .ok (.invokespecial ic, 3)) (d9 : decode cc (pc + 9) = .ok (.athrow, 1))
    (hout : ∀ x ∈ c.exceptionTable.toList, covers x (pc + 9) = false)
    (hRframes : names.length + 3 < R.frames) (hRlocals : (rest.map fun v => v.category).sum + (13 * (names.length + 1) + 43) ≤ R.locals) (hRcells : cells + 1 ≤ R.cells) (hRslots : slots + 6 ≤ R.slots) (hlocks : meth.locks = false)
    (hx : ∀ t : State, s.vm.Alike t.vm → H.size ≤ t.heap.size → (∀ q : Nat, q < H.size → t.heap[q]? = H[q]?) → XC cls s t)
    (hf : ∀ z ∈ locs, free z.base) (hc : cells + 1 ≤ mc) (hs : slots + 6 ≤ ms) :
    W p l e R s m args below meth c H locs cells slots (vx_MQ below Qc XC args s mc ms free) (F0 m pc ls rest) := by
  intro T hT X
  have htr : e.platform.stackTraces = false := (show e.platform.stackTraces = l.stackTraces by rw [X.admits.platform]).trans hl
  have Y := vx_rebase X (R' := { frames := R.frames, locals := R.locals, cells := 1, slots := 6 }) (Nat.le_refl _) (Nat.le_refl _) hRcells hRslots
  obtain ⟨s', hA⟩ : ∃ z, z = (T.setVm s.vm).setFrames (.invoking m args :: below) := ⟨_, rfl⟩
  rw [← hA] at Y
  have hvm : s'.vm = s.vm := by rw [hA]; rfl
  have hhp : s'.heap = H := by rw [hA]; exact hT
  have hW0 : s.WarmedH s'.vm := by rw [hvm]; exact State.WarmedH.refl s
  have hat' : ∀ w ∈ vx_atS own ic cls names, w.before args s' = true := fun w hw => vx_ot_at hW0 hvm.symm (hgood w (List.mem_cons_of_mem _ (List.mem_cons_of_mem _ hw))) (hat w hw)
  have hk' : (Cond.classLink own ik cls).before args s' = true := vx_ot_at hW0 hvm.symm (hgood _ List.mem_cons_self) hk
  have hini' : (Cond.initialized cls).before args s' = true := vx_ot_at hW0 hvm.symm (hgood _ (List.mem_cons_of_mem _ List.mem_cons_self)) hini
  have hU' : vx_Zq Bundle.tN "UNASSIGNED_STACK" Bundle.steD A s' s'.heap := by rw [hhp]; exact vx_Zq.moved hW0.alike (hU.kept hS.2.1)
  have hN' : vx_Zq Bundle.tN "SUPPRESSED_SENTINEL" Bundle.listD A s' s'.heap := by rw [hhp]; exact vx_Zq.moved hW0.alike (hN.kept hS.2.1)
  have h : ∀ w ∈ Bundle.ownAtoms own ic cls names, w.before args s' = true := vx_own hat' (vx_isRefq hU'.1) (vx_isRefq hN'.1) hU'.2.word hN'.2.word
  have hown' : s'.vm.findClass own = some m.cls := by rw [hvm]; exact hown
  have hins : (Cond.instantiable cls 6).before args s' = true := h _ (by simp [Bundle.ownAtoms])
  obtain ⟨vm₁, cX, kX, hfX, hkX, -, -, X₁, st1⟩ := Y.newCold hexec (own := own) (C := cls) (index := ik) (n := 6) hown' hk' hins hini'
    (g := F0 m pc ls rest) rfl (by rw [hb]; exact d0) (Nat.le_refl _) (Nat.le_refl _)
  generalize hT1 : (T.setVm vm₁).pushCell { cls := cX, slots := kX.instanceTypes.map defaultValue, vm := .none } = T1 at X₁ st1
  have hcat : (Value.ref T.heap.size).category = 1 := rfl
  have hcellA : T1.heap[T.heap.size]? = some (freshCell cX kX) := by rw [← hT1]; exact State.heap_pushCell_size _ _
  have d3' : decode c.code (pc + 3) = .ok (.dup, 1) := by rw [hb]; exact d3
  have d4' : decode c.code (pc + 4) = .ok (.ldc is, 2) := by rw [hb]; exact d4
  have hstr' : vk_R own is text sa s' := vk_R.warm hW0 hstr
  obtain ⟨U, hsteps, hrun, hend, hW, hsame, ce, hce, hO⟩ := X₁.ctorThrowS hexec htr (own := own) (cls := cls) (names := names) (ic := ic) hown' hcls hnames h (fun x hx => nomatch hx) hfX hkX hcellA (by rw [hhp, hT]; exact Nat.le_refl _) (msg := .ref sa) rfl
    (g := { method := m, pc := pc + 6, locals := ls, stack := .ref sa :: .ref T.heap.size :: .ref T.heap.size :: rest, locked := none }) rfl hsize rfl rfl (rest := rest) rfl
    (by rw [hb]; exact d6) (by rw [hb]; exact d9) hout hRframes (by simp only [List.map_cons, List.sum_cons, hcat]; omega) hlocks
  obtain ⟨f1, f2⟩ := vx_frame hsame
  rw [hhp] at f1 f2
  have hWs : s.WarmedH U.vm := State.WarmedH.trans hW0 hW
  have hcl : s.vm.findClass cls = some ce.cls := by
    have h9 := hO.cls
    rw [hvm] at h9
    exact h9
  have hall : s.sameButNew ({ U with vm := s.vm } : State) locs mc ms := by
    subst hA
    obtain ⟨e1, e2⟩ := hsame
    rw [State.setFrames_setFrames] at e1
    have h2 : (T.setVm s.vm).sameButNew ({ U with vm := s.vm } : State) [] (0 + 1) (0 + 6) := ⟨e1, e2⟩
    have h3 := X.same.trans h2
    rw [List.append_nil] at h3
    exact h3.mono hc hs
  refine ⟨U, ?_, .threw T.heap.size, hrun, hend, Or.inr ⟨T.heap.size, rfl, cls, ce, locs, hx U hWs.alike f1 (fun q hq => f2 q hq (fun z hz => nomatch hz)), hce, hO.vm, hcl, hWs, hall, hf⟩⟩
  refine st1 _ ?_
  show Steps p.tables e below (T1.setTop { method := m, pc := pc + 3, locals := ls, stack := .ref T.heap.size :: rest, locked := none }) _
  jvm_step X₁.here [X₁.here.top, hexec, d3', Value.category]
  exact X₁.ldcString hexec (own := own) (text := text) (index := is) (a := sa) hown' hstr'.1 hstr'.2
    (g := { method := m, pc := pc + 4, locals := ls, stack := .ref T.heap.size :: .ref T.heap.size :: rest, locked := none }) rfl d4' _ hsteps
/-- 'throw new E("text")', the text by a wide index -/
theorem vx_throwSW {cc : ByteArray} {pc : Nat} (hexec : p.tables.exec = Jvm.exec) (hb : c.code = cc) (hl : l.stackTraces = false) {own cls text : String} {names : List String} {ik is ic mc ms sa : Nat} {A : Nat → Prop}
    (hown : s.vm.findClass own = some m.cls) (hcls : Bundle.fit cls = true) (hnames : ∀ n ∈ names, Bundle.fit n = true)
    (hk : (Cond.classLink own ik cls).before args s = true) (hini : (Cond.initialized cls).before args s = true) (hstr : vk_R own is text sa s) (hat : ∀ w ∈ vx_atS own ic cls names, w.before args s = true)
    (hgood : ∀ w ∈ Cond.classLink own ik cls :: Cond.initialized cls :: vx_atS own ic cls names, vx_ot w = true)
    (hU : vx_Zq Bundle.tN "UNASSIGNED_STACK" Bundle.steD A s s.heap) (hN : vx_Zq Bundle.tN "SUPPRESSED_SENTINEL" Bundle.listD A s s.heap) (hS : va_S A s.heap H locs) (hsize : ls.size = c.maxLocals)
    (d0 : decode cc pc = .ok (.new ik, 3)) (d3 : decode cc (pc + 3) = .ok (.dup, 1)) (d4 : decode cc (pc + 4) = .ok (.ldc_w is, 3)) (d7 : decode cc (pc + 7) = .ok (.invokespecial ic, 3)) (d10 : decode cc (pc + 10) = .ok (.athrow, 1))
    (hout : ∀ x ∈ c.exceptionTable.toList, covers x (pc + 10) = false)
    (hRframes : names.length + 3 < R.frames) (hRlocals : (rest.map fun v => v.category).sum + (13 * (names.length + 1) + 43) ≤ R.locals) (hRcells : cells + 1 ≤ R.cells) (hRslots : slots + 6 ≤ R.slots) (hlocks : meth.locks = false)
    (hx : ∀ t : State, s.vm.Alike t.vm → H.size ≤ t.heap.size → (∀ q : Nat, q < H.size → t.heap[q]? = H[q]?) → XC cls s t)
    (hf : ∀ z ∈ locs, free z.base) (hc : cells + 1 ≤ mc) (hs : slots + 6 ≤ ms) :
    W p l e R s m args below meth c H locs cells slots (vx_MQ below Qc XC args s mc ms free) (F0 m pc ls rest) := by
  intro T hT X
  have htr : e.platform.stackTraces = false := (show e.platform.stackTraces = l.stackTraces by rw [X.admits.platform]).trans hl
  have Y := vx_rebase X (R' := { frames := R.frames, locals := R.locals, cells := 1, slots := 6 }) (Nat.le_refl _) (Nat.le_refl _) hRcells hRslots
  obtain ⟨s', hA⟩ : ∃ z, z = (T.setVm s.vm).setFrames (.invoking m args :: below) := ⟨_, rfl⟩
  rw [← hA] at Y
  have hvm : s'.vm = s.vm := by rw [hA]; rfl
  have hhp : s'.heap = H := by rw [hA]; exact hT
  have hW0 : s.WarmedH s'.vm := by rw [hvm]; exact State.WarmedH.refl s
  have hat' : ∀ w ∈ vx_atS own ic cls names, w.before args s' = true := fun w hw => vx_ot_at hW0 hvm.symm (hgood w (List.mem_cons_of_mem _ (List.mem_cons_of_mem _ hw))) (hat w hw)
  have hk' : (Cond.classLink own ik cls).before args s' = true := vx_ot_at hW0 hvm.symm (hgood _ List.mem_cons_self) hk
  have hini' : (Cond.initialized cls).before args s' = true := vx_ot_at hW0 hvm.symm (hgood _ (List.mem_cons_of_mem _ List.mem_cons_self)) hini
  have hU' : vx_Zq Bundle.tN "UNASSIGNED_STACK" Bundle.steD A s' s'.heap := by rw [hhp]; exact vx_Zq.moved hW0.alike (hU.kept hS.2.1)
  have hN' : vx_Zq Bundle.tN "SUPPRESSED_SENTINEL" Bundle.listD A s' s'.heap := by rw [hhp]; exact vx_Zq.moved hW0.alike (hN.kept hS.2.1)
  have h : ∀ w ∈ Bundle.ownAtoms own ic cls names, w.before args s' = true := vx_own hat' (vx_isRefq hU'.1) (vx_isRefq hN'.1) hU'.2.word hN'.2.word
  have hown' : s'.vm.findClass own = some m.cls := by rw [hvm]; exact hown
  have hins : (Cond.instantiable cls 6).before args s' = true := h _ (by simp [Bundle.ownAtoms])
  obtain ⟨vm₁, cX, kX, hfX, hkX, -, -, X₁, st1⟩ := Y.newCold hexec (own := own) (C := cls) (index := ik) (n := 6) hown' hk' hins hini'
    (g := F0 m pc ls rest) rfl (by rw [hb]; exact d0) (Nat.le_refl _) (Nat.le_refl _)
  generalize hT1 : (T.setVm vm₁).pushCell { cls := cX, slots := kX.instanceTypes.map defaultValue, vm := .none } = T1 at X₁ st1
  have hcat : (Value.ref T.heap.size).category = 1 := rfl
  have hcellA : T1.heap[T.heap.size]? = some (freshCell cX kX) := by rw [← hT1]; exact State.heap_pushCell_size _ _
  have d3' : decode c.code (pc + 3) = .ok (.dup, 1) := by rw [hb]; exact d3
  have d4' : decode c.code (pc + 4) = .ok (.ldc_w is, 3) := by rw [hb]; exact d4
  have hstr' : vk_R own is text sa s' := vk_R.warm hW0 hstr
  obtain ⟨U, hsteps, hrun, hend, hW, hsame, ce, hce, hO⟩ := X₁.ctorThrowS hexec htr (own := own) (cls := cls) (names := names) (ic := ic) hown' hcls hnames h (fun x hx => nomatch hx) hfX hkX hcellA (by rw [hhp, hT]; exact Nat.le_refl _) (msg := .ref sa) rfl
    (g := { method := m, pc := pc + 7, locals := ls, stack := .ref sa :: .ref T.heap.size :: .ref T.heap.size :: rest, locked := none }) rfl hsize rfl rfl (rest := rest) rfl
    (by rw [hb]; exact d7) (by rw [hb]; exact d10) hout hRframes (by simp only [List.map_cons, List.sum_cons, hcat]; omega) hlocks
  obtain ⟨f1, f2⟩ := vx_frame hsame
  rw [hhp] at f1 f2
  have hWs : s.WarmedH U.vm := State.WarmedH.trans hW0 hW
  have hcl : s.vm.findClass cls = some ce.cls := by
    have h9 := hO.cls
    rw [hvm] at h9
    exact h9
  have hall : s.sameButNew ({ U with vm := s.vm } : State) locs mc ms := by
    subst hA
    obtain ⟨e1, e2⟩ := hsame
    rw [State.setFrames_setFrames] at e1
    have h2 : (T.setVm s.vm).sameButNew ({ U with vm := s.vm } : State) [] (0 + 1) (0 + 6) := ⟨e1, e2⟩
    have h3 := X.same.trans h2
    rw [List.append_nil] at h3
    exact h3.mono hc hs
  refine ⟨U, ?_, .threw T.heap.size, hrun, hend, Or.inr ⟨T.heap.size, rfl, cls, ce, locs, hx U hWs.alike f1 (fun q hq => f2 q hq (fun z hz => nomatch hz)), hce, hO.vm, hcl, hWs, hall, hf⟩⟩
  refine st1 _ ?_
  show Steps p.tables e below (T1.setTop { method := m, pc := pc + 3, locals := ls, stack := .ref T.heap.size :: rest, locked := none }) _
  jvm_step X₁.here [X₁.here.top, hexec, d3', Value.category]
  exact X₁.ldcStringW hexec (own := own) (text := text) (index := is) (a := sa) hown' hstr'.1 hstr'.2
    (g := { method := m, pc := pc + 4, locals := ls, stack := .ref T.heap.size :: .ref T.heap.size :: rest, locked := none }) rfl d4' _ hsteps
end Ends
section Bodies
variable {l : Launch}
theorem vx_ofW {y : MethodName} {ws ws' : List Cond} {rm : Room} {Pc : Array Value → State → Prop} {Qc : Array Value → State → Outcome → State → Prop} {XC : String → State → State → Prop} {mc ms : Nat} {free : Addr → Prop} {cc : ByteArray} {maxL : Nat} {ret : Option FieldType}
    (hy : plainName y.cls = true) (hw : ws = Cond.code y cc maxL ret :: ws')
    (body : ∀ p e s m args below meth c s₁, BodyLoose p l y (headSpec ws rm) cc maxL ret e s m args below meth c s₁ → c.maxLocals = maxL → (∀ x ∈ c.exceptionTable.toList, False) → Pc args s →
      W p l e (headSpec ws rm).room s m args below meth c s.heap [] 0 0 (vx_MQ below Qc XC args s mc ms free) (entryFrame m args maxL)) : vx_Met l y ws rm Pc Qc XC mc ms free := by
  refine MetFree.of_bodyS (code := cc) (maxLocals := maxL) (ret := ret) hy ?_ ?_
  · intro args s m h hn
    obtain ⟨meth, c, h1, h2, h3, h4, h5, h6, -, -⟩ := Cond.code_spec hn (atoms_spec (ws := ws) h _ (by rw [hw]; exact List.mem_cons_self))
    exact ⟨meth, c, h1, h2, h3, h4, h5, h6⟩
  · intro p e s m args below meth c s₁ B hml hP _
    have hh0 : s₁.heap = s.heap := by rw [B.state]; rfl
    have ht : ∀ x ∈ c.exceptionTable.toList, False := by
      obtain ⟨meth9, c9, h1, h2, -, -, -, -, h7, -⟩ := Cond.code_spec B.named (atoms_spec (ws := ws) B.pre _ (by rw [hw]; exact List.mem_cons_self))
      cases Option.some.inj (h1.symm.trans B.method)
      cases Option.some.inj (h2.symm.trans (Stand.of_body B).code)
      intro x hx
      rw [Array.isEmpty_iff.mp h7] at hx
      cases hx
    obtain ⟨t, a1, o, b1, b2, b3⟩ := body p e s m args below meth c s₁ B hml ht hP s₁ hh0 (Stand.of_body B)
    exact ⟨t, o, a1, b1, b2, b3⟩
/-- the table of a body with handlers -/
theorem vx_table {p : Program} {x y : MethodName} {S : Spec} {cc bytes : ByteArray} {maxL maxL' : Nat} {ret ret' : Option FieldType} {e : Env} {s s₁ : State} {m : MethodId} {args : Array Value} {below : List Frame} {meth : Method} {c : Code} {hh : List (Nat × Nat × Nat × Nat)}
    (B : BodyLoose p l y S cc maxL ret e s m args below meth c s₁) (h : (Cond.codeWith y bytes maxL' ret' hh).before args s = true) : c.exceptionTable.toList = tableOf hh := by
  obtain ⟨m9, meth9, c9, hn9, h1, h2, -, -, h6, -⟩ := Cond.codeWith_spec h
  cases Option.some.inj (hn9.symm.trans B.named)
  cases Option.some.inj (h1.symm.trans B.method)
  cases Option.some.inj (h2.symm.trans (Stand.of_body B).code)
  rw [← h6, table_eq]
end Bodies
end VXA
/-! ===== END ===== -/
/-! ===== BEGIN a static call of a method with an exception table ===== -/
section VXS
variable {p : Program} {l : Launch} {e : Env} {R : Room} {s : State} {m : MethodId} {args : Array Value} {below : List Frame} {meth : Method} {c : Code} {T : State} {H : Heap} {locs : List Loc} {cells slots : Nat}
abbrev vx_CSW (R : Room) (s : State) (args : Array Value) (own : String) (index : Nat) (y : MethodName) (bytes : ByteArray) (maxL : Nat) (ret : Option FieldType) (hh : List (Nat × Nat × Nat × Nat)) (ws : List Cond) (rm : Room) (mc ms n : Nat) : Prop :=
  (rm.cells = mc ∧ rm.slots = ms ∧ rm.frames + 1 ≤ R.frames ∧ 8 + (maxL + 11) + rm.locals ≤ R.locals ∧ (∀ w ∈ ws, ∀ (a' : Array Value) (U : State), s.WarmedH U.vm → w.before a' U = true) ∧ Cond.codeWith y bytes maxL ret hh ∈ ws) ∧
  (Cond.codeWith y bytes maxL ret hh).before args s = true ∧ (Cond.initialized y.cls).before args s = true ∧ (y.cls ≠ "java/lang/invoke/MethodHandle" ∧ y.cls ≠ "java/lang/invoke/VarHandle") ∧
  (∀ sig, parseMethodDescriptor y.desc = some sig → n = sig.parameters.length) ∧ (Cond.methodLink own index y).before args s = true ∧ (Cond.static y).before args s = true
theorem vx_cwSW {own : String} {index maxL mc ms : Nat} {y : MethodName} {bytes : ByteArray} {ret : Option FieldType} {hh : List (Nat × Nat × Nat × Nat)} {Ts ws ws' : List Cond} {rm : Room} (n : Nat) (ht : ∀ w ∈ Ts, w.before args s = true) (hT : GoodIn Ts (va_wsS own index y ws)) (hw : ws = Cond.codeWith y bytes maxL ret hh :: ws') (hrc : rm.cells = mc) (hrs : rm.slots = ms)
    (hd : y.cls ≠ "java/lang/invoke/MethodHandle" ∧ y.cls ≠ "java/lang/invoke/VarHandle" ∧ (parseMethodDescriptor y.desc).map (fun d => d.parameters.length) = some n) (hR : rm.frames + 1 ≤ R.frames ∧ 8 + (maxL + 11) + rm.locals ≤ R.locals) :
    vx_CSW R s args own index y bytes maxL ret hh ws rm mc ms n := by
  have ok : ∀ w ∈ va_wsS own index y ws, w.before args s = true := fun w h => ht w (hT w h).1
  have hG : GoodIn Ts ws := fun w h => hT w (by unfold va_wsS; exact List.mem_append_right _ h)
  have hc : Cond.codeWith y bytes maxL ret hh ∈ ws := by rw [hw]; exact List.mem_cons_self
  refine ⟨⟨hrc, hrs, hR.1, hR.2, pay_in ht hG, hc⟩, ht _ (hG _ hc).1, ok _ (by simp [va_wsS]), ⟨hd.1, hd.2.1⟩, fun sig h => ?_, ok _ (by simp [va_wsS]), ok _ (by simp [va_wsS])⟩
  have h2 := hd.2.2
  rw [h] at h2
  exact (Option.some.inj h2).symm
theorem vx_callSW (X : Stand p l e R s m args below meth c T locs cells slots) (hexec : p.tables.exec = Jvm.exec) {own : String} {index : Nat} {y : MethodName} {bytes : ByteArray} {maxL : Nat} {ret : Option FieldType} {hh : List (Nat × Nat × Nat × Nat)}
    (hown : s.vm.findClass own = some m.cls) (hlink : (Cond.methodLink own index y).before args s = true) (hstat : (Cond.static y).before args s = true) (hinit : (Cond.initialized y.cls).before args s = true)
    (hcode : (Cond.codeWith y bytes maxL ret hh).before args s = true) (hy : y.cls ≠ "java/lang/invoke/MethodHandle" ∧ y.cls ≠ "java/lang/invoke/VarHandle")
    {W9 : Nat} {Pre : Pt → Array Value → Prop} {Post : Pt → Array Value → Option Value → Pt → Prop} (hK : Back l R p e below s args y 3 W9 Pre Post)
    {g : JFrame} (hg : g.method = m) (hsize : g.locals.size = c.maxLocals) {argsL rest : List Value} (hlen : ∀ sig, parseMethodDescriptor y.desc = some sig → argsL.length = sig.parameters.length)
    (hstack : g.stack = argsL.reverse ++ rest) (hW : 2 * g.monitorRoom + (rest.map fun v => v.category).sum ≤ W9) (hdg : decode c.code g.pc = .ok (.invokestatic index, 3))
    (hpre : ∀ vm₁, s.WarmedH vm₁ → Pre ⟨T.setVm vm₁, locs, cells, slots⟩ argsL.toArray) :
    ∃ (v : Option Value) (vm₁ : Vm) (B : Pt), s.WarmedH vm₁ ∧ Stand p l e R s m args below meth c B.U B.locs B.cells B.slots ∧ Post ⟨T.setVm vm₁, locs, cells, slots⟩ argsL.toArray v B ∧
      ∀ target, Steps p.tables e below (B.U.setTop { g with pc := g.pc + 3, stack := v.toList ++ rest }) target → Steps p.tables e below (T.setTop g) target := by
  obtain ⟨mk, methM, cM, hnamed, hmethM, -, -, -, -, -, -, hsigM⟩ := Cond.codeWith_spec hcode
  have hstatic : methM.isStatic = true := Cond.static_spec hnamed hmethM hstat
  obtain ⟨kP, hkP, -⟩ := className_of_methodNamed hnamed
  have hinitP : kP.init = .initialized := Cond.initialized_spec (findClass_of_methodNamed hnamed) hkP hinit
  obtain ⟨vm₁, X₁, hstep₁⟩ := X.invokestatic hexec hown hlink hnamed hmethM hstatic hkP hinitP hy (g := g) hg (argsL := argsL) (rest := rest) (hlen _ hsigM) hstack hdg
  obtain ⟨v, B, X', hpost, hsteps⟩ := hK m meth c ⟨T.setVm vm₁, locs, cells, slots⟩ { g with stack := rest } (.invokestatic index) mk argsL.toArray X₁ hg hsize hdg hW (X₁.named hnamed) (hpre vm₁ X₁.warmed)
  exact ⟨v, vm₁, B, X₁.warmed, X', hpost, fun target h => hstep₁ _ fun acts => by rw [doInvoke_state]; exact hsteps.trans h⟩
theorem vx_runSW {y : MethodName} {bytes cc : ByteArray} {maxL nL mc ms n index : Nat} {ret : Option FieldType} {hh : List (Nat × Nat × Nat × Nat)} {ws : List Cond} {rm : Room} {Pc : Array Value → State → Prop} {Qc : Array Value → State → Outcome → State → Prop} {free : Addr → Prop} {Ts : List Cond} {own : String} {As rest : List Value} {g : JFrame}
    (S : CallFix p m c cc nL s args Ts own) (hM : Met l y ws rm Pc Qc mc ms free) (cw : vx_CSW R s args own index y bytes maxL ret hh ws rm mc ms n) (hp : PreS s H Pc As)
    (hg : g.method = m) (hn : As.length = n) (hsize : g.locals.size = nL) (hstack : g.stack = As.reverse ++ rest) (hW : 2 * g.monitorRoom + (rest.map fun v => v.category).sum ≤ 8) (hdg : decode cc g.pc = .ok (.invokestatic index, 3)) (hf : cells + mc ≤ R.cells ∧ slots + ms ≤ R.slots) :
    va_Run p l e R s m args below meth c H locs cells slots mc ms g rest (Qc As.toArray) (free) := by
  obtain ⟨⟨hrc, hrs, hfr, hlo, hws, hcw⟩, hcode, hini, hy, hlen, hl, hstt⟩ := cw
  have hK : Back l R p e below s args y 3 8 (PreOf R mc ms Pc) (PostOf Qc mc ms free) := va_backW (hh := hh) (bytes := bytes) (maxL := maxL) (ret := ret) hM hp.1 hrc hrs hfr hlo hws hcw (fun a' U hW => word_at hW (Or.inl (by first | rfl | simp [Cond.onTables, Cond.keeps, Cond.steady])) hini)
  obtain ⟨hx, hb, hml, ho, -⟩ := S
  intro T hT X
  obtain ⟨v, vm₁, ⟨U', l2, c2, s2⟩, hW₁, X', ⟨g', mk, t, L, e1, e2, hq, h1, hL, h2, h3⟩, st⟩ := vx_callSW X hx (hh := hh) (bytes := bytes) (maxL := maxL) (ret := ret) ho hl hstt hini hcode hy hK hg (hsize.trans hml.symm) (argsL := As) (rest := rest) (fun sig h => hn.trans (hlen sig h)) hstack hW (by rw [hb]; exact hdg)
    (fun vm₁ hW₁ => ⟨hf.1, hf.2, hp.2 (T.setVm vm₁) hT hW₁⟩)
  dsimp only [Pt.U, Pt.locs, Pt.cells, Pt.slots] at X' e1 e2 h1 h2 h3 st
  subst h1; subst h2; subst h3
  exact ⟨v, (T.setVm vm₁).calling g' mk As.toArray, t, U', L, hT, X', hL, e1, e2, hq, st⟩
/-- not caught here, past rows that name other classes: it goes on to the caller -/
theorem vx_outP {p : Program} {l : Launch} {e : Env} {R : Room} {s : State} {m : MethodId} {args : Array Value} {below : List Frame} {meth : Method} {c : Code} {H : Heap} {locs : List Loc} {cells slots : Nat} {free : Addr → Prop} {ls : Array Slot} {rest : List Value} {Qc : Array Value → State → Outcome → State → Prop} {XC : String → State → State → Prop}
    {pc : Nat} {own E : String} {ce : Cell} {q : Addr} {mc ms : Nat} (hown : s.vm.findClass own = some m.cls) (hlocks : meth.locks = false)
    (hpass : ∀ z ∈ c.exceptionTable.toList, covers z pc = false ∨ (z.catchType ≠ 0 ∧ ∃ nm : String, (Cond.classLink own z.catchType nm).before args s = true ∧ va_Nc E nm s)) (hcell : H[q]? = some ce) (hv : ce.vm = .none) (hcl : s.vm.findClass E = some ce.cls)
    (hx : ∀ t : State, t.heap = H → s.vm.Alike t.vm → XC E s t) (hf : ∀ z ∈ locs, free z.base) (hc : cells ≤ mc) (hs : slots ≤ ms) :
    vx_W p l e R s m args below meth c H locs cells slots (vx_MQ below Qc XC args s mc ms free) (F0 m pc ls rest) q := by
  intro T hT X
  have hpl : e.platform.magicAccessors = ({} : Platform).magicAccessors := by rw [X.admits.platform]
  obtain ⟨vm', hW', X', st⟩ := X.outThrough hlocks q (g := F0 m pc ls rest) rfl rfl rfl (cell := ce) (by rw [hT]; exact hcell) (by rw [hv]; rfl)
    (by obtain ⟨k9, h9, -⟩ := Vm.findClass_spec hcl; exact ⟨k9, h9⟩) (fun z hz => by
      rcases hpass z hz with h | ⟨hz0, nm, hl1, hn1⟩
      · exact Or.inl h
      · obtain ⟨c6, hc6, hcl6⟩ := Cond.classLink_spec hown hl1 e.platform hpl
        obtain ⟨a8, b8, h1, h2, h3⟩ := hn1
        cases Option.some.inj (h1.symm.trans hcl)
        cases Option.some.inj (h2.symm.trans hc6)
        exact Or.inr ⟨hz0, _, hcl6, h3⟩)
  obtain ⟨g₀, hfr⟩ := X'.frames_eq
  have hcell9 : ((T.setVm vm').setFrames (.throwing q :: below)).heap[q]? = some ce := by
    show T.heap[q]? = some ce
    rw [hT]; exact hcell
  have hend : Ended ((T.setVm vm').setFrames (.throwing q :: below)) below (.threw q) := State.frames_setFrames _ (State.cur_lt_of_frames hfr)
  refine ⟨(T.setVm vm').setFrames (.throwing q :: below), ?_, .threw q, X'.here.running, hend, Or.inr ⟨q, rfl, E, ce, locs, hx _ hT (X'.ends _).1.alike, hcell9, hv, hcl, (X'.ends _).1, (X'.ends _).2.mono hc hs, hf⟩⟩
  rw [X.pushThrowing_eq]
  exact st
/-- a thing of a world lies in the heap -/
theorem vx_lt {D : va_G} {cl : List vw_C} {ws : va_W} {H1 : Heap} (h : va_P D cl ws H1) {k : Nat} {q : Nat × va_E} (hk : ws[k]? = some q) : q.1 < H1.size := (h k q hk).lt
end VXS
/-! ===== END ===== -/
/-! ===== BEGIN methods with a table of their own: called by a name, returning or throwing ===== -/
section VXH
/-! vx_backW, vx_callVX, vx_callSX, vx_callVW, vx_runVW, vx_runVX, vx_runSX, vx_ofWH follow the same proofs as their sisters above (Free/Laws.lean, Shelf42/LK1.lean); vx_outP calls Shelf42/NT130.lean (outThrough). -/
section
variable {l : Launch} {R : Room} {p : Program} {e : Env} {below : List Frame} {s : State} {sargs : Array Value} {y : MethodName} {len W9 : Nat}
theorem vx_backW {ws : List Cond} {rm : Room} {Pc : Array Value → State → Prop} {Qc : Array Value → State → Outcome → State → Prop} {XC : String → State → State → Prop} {mc ms : Nat} {free : Addr → Prop} {bytes : ByteArray} {maxL : Nat} {ret : Option FieldType} {hh : List (Nat × Nat × Nat × Nat)}
    (hM : vx_Met l y ws rm Pc Qc XC mc ms free) (hblind : FrameBlind Pc) (hrc : rm.cells = mc) (hrs : rm.slots = ms)
    (hframes : rm.frames + 1 ≤ R.frames) (hlocals : W9 + (maxL + 11) + rm.locals ≤ R.locals)
    (hws : ∀ w ∈ ws, ∀ a' U, s.WarmedH U.vm → w.before a' U = true) (hcode : Cond.codeWith y bytes maxL ret hh ∈ ws) (hinit : ∀ a' U, s.WarmedH U.vm → (Cond.initialized y.cls).before a' U = true) :
    vx_Back l R p e below s sargs y len W9 (PreOf R mc ms Pc) (PostOf Qc mc ms free) (vx_Post XC mc ms free) := by
  intro m meth c A g ig mk a X hg hsize hdg hW hn hp
  have h1 : (headSpec ws rm).pre.before a A.U = true := atoms_intro fun w hw => hws w hw _ _ X.warmed
  have h2 : (Cond.codeWith y bytes maxL ret hh).before a A.U = true := hws _ hcode _ _ X.warmed
  have h3 : (Cond.initialized y.cls).before a A.U = true := hinit _ _ X.warmed
  have h4 : A.cells + (headSpec ws rm).room.cells ≤ R.cells := by rw [show (headSpec ws rm).room.cells = mc from hrc]; exact hp.1
  have h5 : A.slots + (headSpec ws rm).room.slots ≤ R.slots := by rw [show (headSpec ws rm).room.slots = ms from hrs]; exact hp.2.1
  have hPc : Pc a (A.U.calling g mk a) := hblind _ _ _ _ hp.2.2
  obtain ⟨U, Ls, c0, s0⟩ := A
  dsimp only [Pt.U, Pt.locs, Pt.cells, Pt.slots] at h1 h2 h3 h4 h5 X hn hPc ⊢
  obtain ⟨m9, methY, cY, hn9, hmY, hcY, -, hlY, -⟩ := Cond.codeWith_spec h2
  cases Option.some.inj (hn9.symm.trans hn)
  obtain ⟨kY, hkY, -⟩ := className_of_methodNamed hn
  have hinitY : kY.init = .initialized := Cond.initialized_spec (findClass_of_methodNamed hn) hkY h3
  have h : At U g.method c below := by rw [hg]; exact X.here
  have hlocals9 : W9 + (maxL + 11) + (headSpec ws rm).room.locals ≤ R.locals := hlocals
  have happ : (headSpec ws rm).appliesLoose y e.platform (U.calling g mk a) = true :=
    Spec.appliesLoose_calling (g := g) h hdg hn hkY hinitY
      (X.room_calling (g := g) (R' := (headSpec ws rm).room) hsize hmY hcY hframes (by rw [hlY]; omega) h4 h5) h1
  obtain ⟨mid, hmid⟩ := h.above
  have hfr : (U.setTop g).frames = (.java g :: mid) ++ below := by rw [State.frames_setTop' g h.top, hmid]; rfl
  obtain ⟨o, s₂, hsteps, -, hend, hq⟩ := Steps.callFree hM p X.admits X.cas X.clock (acts := []) hfr happ hPc trivial
  have hq' : vx_Q Qc XC mc ms free a (U.calling g mk a) o s₂ := hq
  rw [State.frames_setTop' g h.top] at hend
  obtain ⟨g₀, hg0⟩ := Option.isSome_iff_exists.mp h.top
  obtain ⟨r, hr⟩ := State.topJava?_eq_some.mp hg0
  have hr' : (({ U with heap := s₂.heap, slotsUsed := s₂.slotsUsed } : State).setVm s₂.vm).frames = .java g₀ :: r := hr
  rcases hq' with ⟨hqc, L, hfe, hL⟩ | ⟨q, rfl, E, ce, L, hx, hce, hcv, hcl, hW₂, hsm, hL⟩
  · obtain ⟨⟨v, rfl⟩, hW₂, e2, q2, q3, q4, q5, q6⟩ := id hfe
    have e3 : s₂ = ({ (U.calling g mk a).setFrames s₂.frames with heap := s₂.heap, slotsUsed := s₂.slotsUsed } : State).setVm s₂.vm := by
      have : s₂ = ({ s₂ with vm := (U.calling g mk a).vm } : State).setVm s₂.vm := rfl
      rw [e2] at this
      exact this
    obtain ⟨c₂, i₂, len₂, hc₂, hd₂, hf₂⟩ := hend
    have hW' : U.WarmedH s₂.vm := hW₂
    have hcc : c₂ = c := by
      have h1 : s₂.code? g.method = U.code? g.method := by
        rw [State.code?_eq, State.code?_eq, hW'.alike.method?]
      exact Option.some.inj (hc₂.symm.trans (h1.trans h.code))
    subst hcc
    have hlen : len₂ = len := by rw [hdg] at hd₂; cases hd₂; rfl
    subst hlen
    have hs₂ : s₂ = (({ U with heap := s₂.heap, slotsUsed := s₂.slotsUsed } : State).setVm s₂.vm).setTop { g with pc := g.pc + len₂, stack := v.toList ++ g.stack } := by
      refine e3.trans ?_
      rw [hf₂, State.calling_eq h.top, State.setFrames_setFrames, State.setTop_of_frames _ hr', hr]
      rfl
    have hsame : U.sameButNew ({ U with heap := s₂.heap, slotsUsed := s₂.slotsUsed } : State) L mc ms := by
      refine ⟨?_, q2, q3, q4, q5, q6⟩
      obtain ⟨t, ht, -⟩ := State.frames_cons hr
      show ({ U with heap := s₂.heap, slotsUsed := s₂.slotsUsed } : State) = { U.setFrames U.frames with heap := s₂.heap, slotsUsed := s₂.slotsUsed }
      rw [State.setFrames_self ht]
    subst hg
    refine Or.inl ⟨v, ⟨(({ U with heap := s₂.heap, slotsUsed := s₂.slotsUsed } : State).setVm s₂.vm), Ls ++ L, c0 + mc, s0 + ms⟩,
      ⟨X.admits, X.cas, X.clock, X.frames, X.room, X.hears, X.method, X.code, (X.here.setHeapUsed s₂.heap s₂.slotsUsed).setVm hW'.alike, X.tail, State.WarmedH.trans X.warmed hW', X.limits, X.bytes, X.same.trans (hsame.setVm s.vm)⟩,
      ⟨g, mk, s₂, L, rfl, rfl, hqc, rfl, hL, rfl, rfl⟩, ?_⟩
    show Steps p.tables e below _ ((({ U with heap := s₂.heap, slotsUsed := s₂.slotsUsed } : State).setVm s₂.vm).setTop { g with pc := g.pc + len₂, stack := v.toList ++ g.stack })
    rw [← hs₂]
    exact hsteps
  · obtain ⟨e2, q2, q3, q4, q5, q6⟩ := id hsm
    have e3 : s₂ = ({ (U.calling g mk a).setFrames s₂.frames with heap := s₂.heap, slotsUsed := s₂.slotsUsed } : State).setVm s₂.vm := by
      have : s₂ = ({ s₂ with vm := (U.calling g mk a).vm } : State).setVm s₂.vm := rfl
      rw [e2] at this
      exact this
    have hf₂ : s₂.frames = .throwing q :: .java g :: U.frames.tail := hend
    have hW' : U.WarmedH s₂.vm := hW₂
    have hs₂ : s₂ = ((({ U with heap := s₂.heap, slotsUsed := s₂.slotsUsed } : State).setVm s₂.vm).setTop g).pushFrame (.throwing q) := by
      refine e3.trans ?_
      rw [hf₂, State.calling_eq h.top, State.setFrames_setFrames, State.pushFrame, State.frames_setTop _ hr', State.setTop_of_frames _ hr', State.setFrames_setFrames, hr]
      rfl
    have hsame : U.sameButNew ({ U with heap := s₂.heap, slotsUsed := s₂.slotsUsed } : State) L mc ms := by
      refine ⟨?_, q2, q3, q4, q5, q6⟩
      obtain ⟨t, ht, -⟩ := State.frames_cons hr
      show ({ U with heap := s₂.heap, slotsUsed := s₂.slotsUsed } : State) = { U.setFrames U.frames with heap := s₂.heap, slotsUsed := s₂.slotsUsed }
      rw [State.setFrames_self ht]
    subst hg
    refine Or.inr ⟨q, ⟨(({ U with heap := s₂.heap, slotsUsed := s₂.slotsUsed } : State).setVm s₂.vm), Ls ++ L, c0 + mc, s0 + ms⟩,
      ⟨X.admits, X.cas, X.clock, X.frames, X.room, X.hears, X.method, X.code, (X.here.setHeapUsed s₂.heap s₂.slotsUsed).setVm hW'.alike, X.tail, State.WarmedH.trans X.warmed hW', X.limits, X.bytes, X.same.trans (hsame.setVm s.vm)⟩,
      ⟨g, mk, s₂, L, E, ce, rfl, rfl, hx, hce, hcv, hcl, rfl, hL, rfl, rfl⟩, ?_⟩
    show Steps p.tables e below _ (((({ U with heap := s₂.heap, slotsUsed := s₂.slotsUsed } : State).setVm s₂.vm).setTop g).pushFrame (.throwing q))
    rw [← hs₂]
    exact hsteps
end
variable {p : Program} {l : Launch} {e : Env} {R : Room} {s : State} {m : MethodId} {args : Array Value} {below : List Frame} {meth : Method} {c : Code} {T : State} {H : Heap} {locs : List Loc} {cells slots : Nat}
theorem vx_callVX (X : Stand p l e R s m args below meth c T locs cells slots) (hexec : p.tables.exec = Jvm.exec) {own C : String} {index : Nat} {y : MethodName} {bytes : ByteArray} {maxL : Nat} {ret : Option FieldType} {hh : List (Nat × Nat × Nat × Nat)}
    (hown : s.vm.findClass own = some m.cls) (hlink : (Cond.methodLink own index y).before args s = true) (hinst : (Cond.instanceMethod y).before args s = true) (hsel : (Cond.selects C y y).before args s = true)
    (hcode : (Cond.codeWith y bytes maxL ret hh).before args s = true) (hy : y.cls ≠ "java/lang/invoke/MethodHandle" ∧ y.cls ≠ "java/lang/invoke/VarHandle")
    {W9 : Nat} {Pre : Pt → Array Value → Prop} {Post : Pt → Array Value → Option Value → Pt → Prop} {PostX : Pt → Array Value → Addr → Pt → Prop} (hK : vx_Back l R p e below s args y 3 W9 Pre Post PostX)
    {b : Addr} {cellB : Cell} (hcell : T.heap[b]? = some cellB) (hobj : cellB.vm.isStatics = false) (hcls : s.vm.findClass C = some cellB.cls)
    {g : JFrame} (hg : g.method = m) (hsize : g.locals.size = c.maxLocals) {argsL rest : List Value} (hlen : ∀ sig, parseMethodDescriptor y.desc = some sig → argsL.length = sig.parameters.length)
    (hstack : g.stack = argsL.reverse ++ .ref b :: rest) (hW : 2 * g.monitorRoom + (rest.map fun v => v.category).sum ≤ W9) (hdg : decode c.code g.pc = .ok (.invokevirtual index, 3))
    (hpre : ∀ vm₁, s.WarmedH vm₁ → Pre ⟨T.setVm vm₁, locs, cells, slots⟩ (Value.ref b :: argsL).toArray) :
    (∃ (v : Option Value) (vm₁ : Vm) (B : Pt), s.WarmedH vm₁ ∧ Stand p l e R s m args below meth c B.U B.locs B.cells B.slots ∧ Post ⟨T.setVm vm₁, locs, cells, slots⟩ (Value.ref b :: argsL).toArray v B ∧
      ∀ target, Steps p.tables e below (B.U.setTop { g with pc := g.pc + 3, stack := v.toList ++ rest }) target → Steps p.tables e below (T.setTop g) target) ∨
    (∃ (q : Addr) (vm₁ : Vm) (B : Pt), s.WarmedH vm₁ ∧ Stand p l e R s m args below meth c B.U B.locs B.cells B.slots ∧ PostX ⟨T.setVm vm₁, locs, cells, slots⟩ (Value.ref b :: argsL).toArray q B ∧
      Steps p.tables e below (T.setTop g) ((B.U.setTop { g with stack := rest }).pushFrame (.throwing q))) := by
  obtain ⟨mk, methM, hnamed, hmethM, hstM, habM⟩ := Cond.instanceMethod_spec hinst
  obtain ⟨m8, methM', cM, hn8, hmethM', -, -, -, -, -, -, hsigM⟩ := Cond.codeWith_spec hcode
  cases Option.some.inj (hn8.symm.trans hnamed)
  cases hmethM.symm.trans hmethM'
  obtain ⟨c2, r2, m2, q1, q2, q3, q4, kP, hkP, hkPi⟩ := Cond.selects_spec hsel
  cases hcls.symm.trans q1
  cases (State.methodFound?_of_named hnamed hy).symm.trans q2
  cases hnamed.symm.trans q3
  have hselP : selectMethod e.platform s.vm cellB.cls mk = .method mk := by rw [Launch.admits_selectMethod X.admits]; exact q4
  obtain ⟨vm₁, X₁, hstep₁⟩ := X.invokevirtual hexec hown hlink hnamed hmethM hstM hkP hkPi hy (a := b) (cell := cellB) hcell
    (fun z h => by rw [h] at hobj; cases hobj) hselP hmethM habM hkP hkPi (g := g) hg (argsL := argsL) (rest := rest) (hlen _ hsigM) hstack hdg
  rcases hK m meth c ⟨T.setVm vm₁, locs, cells, slots⟩ { g with stack := rest } (.invokevirtual index) mk (Value.ref b :: argsL).toArray X₁ hg hsize hdg hW (X₁.named hnamed) (hpre vm₁ X₁.warmed) with ⟨v, B, X', hpost, hsteps⟩ | ⟨q, B, X', hpost, hsteps⟩
  · exact Or.inl ⟨v, vm₁, B, X₁.warmed, X', hpost, fun target h => hstep₁ _ fun acts => by rw [doInvoke_state]; exact hsteps.trans h⟩
  · exact Or.inr ⟨q, vm₁, B, X₁.warmed, X', hpost, hstep₁ _ fun acts => by rw [doInvoke_state]; exact hsteps⟩
theorem vx_callSX (X : Stand p l e R s m args below meth c T locs cells slots) (hexec : p.tables.exec = Jvm.exec) {own : String} {index : Nat} {y : MethodName} {bytes : ByteArray} {maxL : Nat} {ret : Option FieldType} {hh : List (Nat × Nat × Nat × Nat)}
    (hown : s.vm.findClass own = some m.cls) (hlink : (Cond.methodLink own index y).before args s = true) (hstat : (Cond.static y).before args s = true) (hinit : (Cond.initialized y.cls).before args s = true)
    (hcode : (Cond.codeWith y bytes maxL ret hh).before args s = true) (hy : y.cls ≠ "java/lang/invoke/MethodHandle" ∧ y.cls ≠ "java/lang/invoke/VarHandle")
    {W9 : Nat} {Pre : Pt → Array Value → Prop} {Post : Pt → Array Value → Option Value → Pt → Prop} {PostX : Pt → Array Value → Addr → Pt → Prop} (hK : vx_Back l R p e below s args y 3 W9 Pre Post PostX)
    {g : JFrame} (hg : g.method = m) (hsize : g.locals.size = c.maxLocals) {argsL rest : List Value} (hlen : ∀ sig, parseMethodDescriptor y.desc = some sig → argsL.length = sig.parameters.length)
    (hstack : g.stack = argsL.reverse ++ rest) (hW : 2 * g.monitorRoom + (rest.map fun v => v.category).sum ≤ W9) (hdg : decode c.code g.pc = .ok (.invokestatic index, 3))
    (hpre : ∀ vm₁, s.WarmedH vm₁ → Pre ⟨T.setVm vm₁, locs, cells, slots⟩ argsL.toArray) :
    (∃ (v : Option Value) (vm₁ : Vm) (B : Pt), s.WarmedH vm₁ ∧ Stand p l e R s m args below meth c B.U B.locs B.cells B.slots ∧ Post ⟨T.setVm vm₁, locs, cells, slots⟩ argsL.toArray v B ∧
      ∀ target, Steps p.tables e below (B.U.setTop { g with pc := g.pc + 3, stack := v.toList ++ rest }) target → Steps p.tables e below (T.setTop g) target) ∨
    (∃ (q : Addr) (vm₁ : Vm) (B : Pt), s.WarmedH vm₁ ∧ Stand p l e R s m args below meth c B.U B.locs B.cells B.slots ∧ PostX ⟨T.setVm vm₁, locs, cells, slots⟩ argsL.toArray q B ∧
      Steps p.tables e below (T.setTop g) ((B.U.setTop { g with stack := rest }).pushFrame (.throwing q))) := by
  obtain ⟨mk, methM, cM, hnamed, hmethM, -, -, -, -, -, -, hsigM⟩ := Cond.codeWith_spec hcode
  have hstatic : methM.isStatic = true := Cond.static_spec hnamed hmethM hstat
  obtain ⟨kP, hkP, -⟩ := className_of_methodNamed hnamed
  have hinitP : kP.init = .initialized := Cond.initialized_spec (findClass_of_methodNamed hnamed) hkP hinit
  obtain ⟨vm₁, X₁, hstep₁⟩ := X.invokestatic hexec hown hlink hnamed hmethM hstatic hkP hinitP hy (g := g) hg (argsL := argsL) (rest := rest) (hlen _ hsigM) hstack hdg
  rcases hK m meth c ⟨T.setVm vm₁, locs, cells, slots⟩ { g with stack := rest } (.invokestatic index) mk argsL.toArray X₁ hg hsize hdg hW (X₁.named hnamed) (hpre vm₁ X₁.warmed) with ⟨v, B, X', hpost, hsteps⟩ | ⟨q, B, X', hpost, hsteps⟩
  · exact Or.inl ⟨v, vm₁, B, X₁.warmed, X', hpost, fun target h => hstep₁ _ fun acts => by rw [doInvoke_state]; exact hsteps.trans h⟩
  · exact Or.inr ⟨q, vm₁, B, X₁.warmed, X', hpost, hstep₁ _ fun acts => by rw [doInvoke_state]; exact hsteps⟩
theorem vx_callVW (X : Stand p l e R s m args below meth c T locs cells slots) (hexec : p.tables.exec = Jvm.exec) {own C : String} {index : Nat} {y : MethodName} {bytes : ByteArray} {maxL : Nat} {ret : Option FieldType} {hh : List (Nat × Nat × Nat × Nat)}
    (hown : s.vm.findClass own = some m.cls) (hlink : (Cond.methodLink own index y).before args s = true) (hinst : (Cond.instanceMethod y).before args s = true) (hsel : (Cond.selects C y y).before args s = true)
    (hcode : (Cond.codeWith y bytes maxL ret hh).before args s = true) (hy : y.cls ≠ "java/lang/invoke/MethodHandle" ∧ y.cls ≠ "java/lang/invoke/VarHandle")
    {W9 : Nat} {Pre : Pt → Array Value → Prop} {Post : Pt → Array Value → Option Value → Pt → Prop} (hK : Back l R p e below s args y 3 W9 Pre Post)
    {b : Addr} {cellB : Cell} (hcell : T.heap[b]? = some cellB) (hobj : cellB.vm.isStatics = false) (hcls : s.vm.findClass C = some cellB.cls)
    {g : JFrame} (hg : g.method = m) (hsize : g.locals.size = c.maxLocals) {argsL rest : List Value} (hlen : ∀ sig, parseMethodDescriptor y.desc = some sig → argsL.length = sig.parameters.length)
    (hstack : g.stack = argsL.reverse ++ .ref b :: rest) (hW : 2 * g.monitorRoom + (rest.map fun v => v.category).sum ≤ W9) (hdg : decode c.code g.pc = .ok (.invokevirtual index, 3))
    (hpre : ∀ vm₁, s.WarmedH vm₁ → Pre ⟨T.setVm vm₁, locs, cells, slots⟩ (Value.ref b :: argsL).toArray) :
    ∃ (v : Option Value) (vm₁ : Vm) (B : Pt), s.WarmedH vm₁ ∧ Stand p l e R s m args below meth c B.U B.locs B.cells B.slots ∧ Post ⟨T.setVm vm₁, locs, cells, slots⟩ (Value.ref b :: argsL).toArray v B ∧
      ∀ target, Steps p.tables e below (B.U.setTop { g with pc := g.pc + 3, stack := v.toList ++ rest }) target → Steps p.tables e below (T.setTop g) target := by
  obtain ⟨mk, methM, hnamed, hmethM, hstM, habM⟩ := Cond.instanceMethod_spec hinst
  obtain ⟨m8, methM', cM, hn8, hmethM', -, -, -, -, -, -, hsigM⟩ := Cond.codeWith_spec hcode
  cases Option.some.inj (hn8.symm.trans hnamed)
  cases hmethM.symm.trans hmethM'
  obtain ⟨c2, r2, m2, q1, q2, q3, q4, kP, hkP, hkPi⟩ := Cond.selects_spec hsel
  cases hcls.symm.trans q1
  cases (State.methodFound?_of_named hnamed hy).symm.trans q2
  cases hnamed.symm.trans q3
  have hselP : selectMethod e.platform s.vm cellB.cls mk = .method mk := by rw [Launch.admits_selectMethod X.admits]; exact q4
  obtain ⟨vm₁, X₁, hstep₁⟩ := X.invokevirtual hexec hown hlink hnamed hmethM hstM hkP hkPi hy (a := b) (cell := cellB) hcell
    (fun z h => by rw [h] at hobj; cases hobj) hselP hmethM habM hkP hkPi (g := g) hg (argsL := argsL) (rest := rest) (hlen _ hsigM) hstack hdg
  obtain ⟨v, B, X', hpost, hsteps⟩ := hK m meth c ⟨T.setVm vm₁, locs, cells, slots⟩ { g with stack := rest } (.invokevirtual index) mk (Value.ref b :: argsL).toArray X₁ hg hsize hdg hW (X₁.named hnamed) (hpre vm₁ X₁.warmed)
  exact ⟨v, vm₁, B, X₁.warmed, X', hpost, fun target h => hstep₁ _ fun acts => by rw [doInvoke_state]; exact hsteps.trans h⟩
abbrev vx_CVW (R : Room) (s : State) (args : Array Value) (own C : String) (index : Nat) (y : MethodName) (bytes : ByteArray) (maxL : Nat) (ret : Option FieldType) (hh : List (Nat × Nat × Nat × Nat)) (ws : List Cond) (rm : Room) (mc ms n : Nat) : Prop :=
  (rm.cells = mc ∧ rm.slots = ms ∧ rm.frames + 1 ≤ R.frames ∧ 8 + (maxL + 11) + rm.locals ≤ R.locals ∧ (∀ w ∈ ws, ∀ (a' : Array Value) (U : State), s.WarmedH U.vm → w.before a' U = true) ∧ Cond.codeWith y bytes maxL ret hh ∈ ws) ∧
  (Cond.codeWith y bytes maxL ret hh).before args s = true ∧ (Cond.initialized y.cls).before args s = true ∧ (y.cls ≠ "java/lang/invoke/MethodHandle" ∧ y.cls ≠ "java/lang/invoke/VarHandle") ∧
  (∀ sig, parseMethodDescriptor y.desc = some sig → n = sig.parameters.length) ∧ (Cond.methodLink own index y).before args s = true ∧ (Cond.instanceMethod y).before args s = true ∧ (Cond.selects C y y).before args s = true
theorem vx_cwVW {own C : String} {index maxL mc ms : Nat} {y : MethodName} {bytes : ByteArray} {ret : Option FieldType} {hh : List (Nat × Nat × Nat × Nat)} {Ts ws ws' : List Cond} {rm : Room} (n : Nat) (ht : ∀ w ∈ Ts, w.before args s = true) (hT : GoodIn Ts (wsV own index C y ws)) (hw : ws = Cond.codeWith y bytes maxL ret hh :: ws') (hrc : rm.cells = mc) (hrs : rm.slots = ms)
    (hd : y.cls = C ∧ y.cls ≠ "java/lang/invoke/MethodHandle" ∧ y.cls ≠ "java/lang/invoke/VarHandle" ∧ (parseMethodDescriptor y.desc).map (fun d => d.parameters.length) = some n) (hR : rm.frames + 1 ≤ R.frames ∧ 8 + (maxL + 11) + rm.locals ≤ R.locals) :
    vx_CVW R s args own C index y bytes maxL ret hh ws rm mc ms n := by
  obtain ⟨hC, hd⟩ := hd
  subst hC
  have ok : ∀ w ∈ wsV own index y.cls y ws, w.before args s = true := fun w h => ht w (hT w h).1
  have hG : GoodIn Ts ws := fun w h => hT w (by unfold wsV; exact List.mem_append_right _ h)
  have hc : Cond.codeWith y bytes maxL ret hh ∈ ws := by rw [hw]; exact List.mem_cons_self
  refine ⟨⟨hrc, hrs, hR.1, hR.2, pay_in ht hG, hc⟩, ht _ (hG _ hc).1, ok _ (by simp [wsV]), ⟨hd.1, hd.2.1⟩, fun sig h => ?_, ok _ (by simp [wsV]), ok _ (by simp [wsV]), ok _ (by simp [wsV])⟩
  have h2 := hd.2.2
  rw [h] at h2
  exact (Option.some.inj h2).symm
theorem vx_runVW {y : MethodName} {bytes cc : ByteArray} {maxL nL mc ms n index : Nat} {ret : Option FieldType} {hh : List (Nat × Nat × Nat × Nat)} {ws : List Cond} {rm : Room} {Pc : Array Value → State → Prop} {Qc : Array Value → State → Outcome → State → Prop} {free : Addr → Prop} {Ts : List Cond} {own C : String} {b : Addr} {As rest : List Value} {g : JFrame}
    (S : CallFix p m c cc nL s args Ts own) (hM : Met l y ws rm Pc Qc mc ms free) (cw : vx_CVW R s args own C index y bytes maxL ret hh ws rm mc ms n) (hp : PreV s H C b Pc As)
    (hg : g.method = m) (hn : As.length = n) (hsize : g.locals.size = nL) (hstack : g.stack = As.reverse ++ .ref b :: rest) (hW : 2 * g.monitorRoom + (rest.map fun v => v.category).sum ≤ 8) (hdg : decode cc g.pc = .ok (.invokevirtual index, 3)) (hf : cells + mc ≤ R.cells ∧ slots + ms ≤ R.slots) :
    va_Run p l e R s m args below meth c H locs cells slots mc ms g rest (Qc (Value.ref b :: As).toArray) free := by
  obtain ⟨⟨hrc, hrs, hfr, hlo, hws, hcw⟩, hcode, hini, hy, hlen, hl, hin, hse⟩ := cw
  have hK : Back l R p e below s args y 3 8 (PreOf R mc ms Pc) (PostOf Qc mc ms free) := va_backW (hh := hh) (bytes := bytes) (maxL := maxL) (ret := ret) hM hp.1 hrc hrs hfr hlo hws hcw (fun a' U hW => word_at hW (Or.inl (by first | rfl | simp [Cond.onTables, Cond.keeps, Cond.steady])) hini)
  obtain ⟨hx, hb, hml, ho, -⟩ := S
  obtain ⟨-, ⟨cellB, hcB, hoB, hclB⟩, hPc⟩ := hp
  intro T hT X
  obtain ⟨v, vm₁, ⟨U', l2, c2, s2⟩, hW₁, X', ⟨g', mk, t, L, e1, e2, hq, h1, hL, h2, h3⟩, st⟩ := vx_callVW X hx (C := C) (hh := hh) (bytes := bytes) (maxL := maxL) (ret := ret) ho hl hin hse hcode hy hK (by rw [hT]; exact hcB) hoB hclB hg (hsize.trans hml.symm) (argsL := As) (rest := rest) (fun sig h => hn.trans (hlen sig h)) hstack hW (by rw [hb]; exact hdg)
    (fun vm₁ hW₁ => ⟨hf.1, hf.2, hPc (T.setVm vm₁) hT hW₁⟩)
  dsimp only [Pt.U, Pt.locs, Pt.cells, Pt.slots] at X' e1 e2 h1 h2 h3 st
  subst h1; subst h2; subst h3
  exact ⟨v, (T.setVm vm₁).calling g' mk (Value.ref b :: As).toArray, t, U', L, hT, X', hL, e1, e2, hq, st⟩
section
variable {y : MethodName} {bytes cc : ByteArray} {maxL nL mc ms n index : Nat} {ret : Option FieldType} {ws : List Cond} {rm : Room} {Pc : Array Value → State → Prop} {Qc : Array Value → State → Outcome → State → Prop} {XC : String → State → State → Prop} {free : Addr → Prop} {Ts : List Cond} {own C : String} {b : Addr} {As rest : List Value} {g : JFrame}
theorem vx_runVX {hh : List (Nat × Nat × Nat × Nat)} (S : CallFix p m c cc nL s args Ts own) (hM : vx_Met l y ws rm Pc Qc XC mc ms free) (cw : vx_CVW R s args own C index y bytes maxL ret hh ws rm mc ms n) (hp : PreV s H C b Pc As)
    (hg : g.method = m) (hn : As.length = n) (hsize : g.locals.size = nL) (hstack : g.stack = As.reverse ++ .ref b :: rest) (hW : 2 * g.monitorRoom + (rest.map fun v => v.category).sum ≤ 8) (hdg : decode cc g.pc = .ok (.invokevirtual index, 3)) (hf : cells + mc ≤ R.cells ∧ slots + ms ≤ R.slots) :
    vx_Run p l e R s m args below meth c H locs cells slots mc ms g rest (Qc (Value.ref b :: As).toArray) XC free := by
  obtain ⟨⟨hrc, hrs, hfr, hlo, hws, hcw⟩, hcode, hini, hy, hlen, hl, hin, hse⟩ := cw
  have hK : vx_Back l R p e below s args y 3 8 (PreOf R mc ms Pc) (PostOf Qc mc ms free) (vx_Post XC mc ms free) := vx_backW (hh := hh) (bytes := bytes) (maxL := maxL) (ret := ret) hM hp.1 hrc hrs hfr hlo hws hcw (fun a' U hW => word_at hW (Or.inl (by first | rfl | simp [Cond.onTables, Cond.keeps, Cond.steady])) hini)
  obtain ⟨hx, hb, hml, ho, -⟩ := S
  obtain ⟨-, ⟨cellB, hcB, hoB, hclB⟩, hPc⟩ := hp
  intro T hT X
  rcases vx_callVX X hx (C := C) (hh := hh) (bytes := bytes) (maxL := maxL) (ret := ret) ho hl hin hse hcode hy hK (by rw [hT]; exact hcB) hoB hclB hg (hsize.trans hml.symm) (argsL := As) (rest := rest) (fun sig h => hn.trans (hlen sig h)) hstack hW (by rw [hb]; exact hdg)
    (fun vm₁ hW₁ => ⟨hf.1, hf.2, hPc (T.setVm vm₁) hT hW₁⟩) with ⟨v, vm₁, ⟨U', l2, c2, s2⟩, hW₁, X', ⟨g', mk, t, L, e1, e2, hq, h1, hL, h2, h3⟩, st⟩ | ⟨q, vm₁, ⟨U', l2, c2, s2⟩, hW₁, X', ⟨g', mk, t, L, E, ce, e1, e2, hq, hce, hcv, hcl, h1, hL, h2, h3⟩, st⟩
  · dsimp only [Pt.U, Pt.locs, Pt.cells, Pt.slots] at X' e1 e2 h1 h2 h3 st
    subst h1; subst h2; subst h3
    exact Or.inl ⟨v, (T.setVm vm₁).calling g' mk (Value.ref b :: As).toArray, t, U', L, hT, X', hL, e1, e2, hq, st⟩
  · dsimp only [Pt.U, Pt.locs, Pt.cells, Pt.slots] at X' e1 e2 h1 h2 h3 st hcl
    subst h1; subst h2; subst h3
    exact Or.inr ⟨q, (T.setVm vm₁).calling g' mk (Value.ref b :: As).toArray, t, U', L, E, ce, hT, X', hL, e1, e2, hq, hce, hcv, vx_cls hW₁ hcl, st⟩
theorem vx_runSX {hh : List (Nat × Nat × Nat × Nat)} (S : CallFix p m c cc nL s args Ts own) (hM : vx_Met l y ws rm Pc Qc XC mc ms free) (cw : vx_CSW R s args own index y bytes maxL ret hh ws rm mc ms n) (hp : PreS s H Pc As)
    (hg : g.method = m) (hn : As.length = n) (hsize : g.locals.size = nL) (hstack : g.stack = As.reverse ++ rest) (hW : 2 * g.monitorRoom + (rest.map fun v => v.category).sum ≤ 8) (hdg : decode cc g.pc = .ok (.invokestatic index, 3)) (hf : cells + mc ≤ R.cells ∧ slots + ms ≤ R.slots) :
    vx_Run p l e R s m args below meth c H locs cells slots mc ms g rest (Qc As.toArray) XC free := by
  obtain ⟨⟨hrc, hrs, hfr, hlo, hws, hcw⟩, hcode, hini, hy, hlen, hl, hstt⟩ := cw
  have hK : vx_Back l R p e below s args y 3 8 (PreOf R mc ms Pc) (PostOf Qc mc ms free) (vx_Post XC mc ms free) := vx_backW (hh := hh) (bytes := bytes) (maxL := maxL) (ret := ret) hM hp.1 hrc hrs hfr hlo hws hcw (fun a' U hW => word_at hW (Or.inl (by first | rfl | simp [Cond.onTables, Cond.keeps, Cond.steady])) hini)
  obtain ⟨hx, hb, hml, ho, -⟩ := S
  intro T hT X
  rcases vx_callSX X hx (hh := hh) (bytes := bytes) (maxL := maxL) (ret := ret) ho hl hstt hini hcode hy hK hg (hsize.trans hml.symm) (argsL := As) (rest := rest) (fun sig h => hn.trans (hlen sig h)) hstack hW (by rw [hb]; exact hdg)
    (fun vm₁ hW₁ => ⟨hf.1, hf.2, hp.2 (T.setVm vm₁) hT hW₁⟩) with ⟨v, vm₁, ⟨U', l2, c2, s2⟩, hW₁, X', ⟨g', mk, t, L, e1, e2, hq, h1, hL, h2, h3⟩, st⟩ | ⟨q, vm₁, ⟨U', l2, c2, s2⟩, hW₁, X', ⟨g', mk, t, L, E, ce, e1, e2, hq, hce, hcv, hcl, h1, hL, h2, h3⟩, st⟩
  · dsimp only [Pt.U, Pt.locs, Pt.cells, Pt.slots] at X' e1 e2 h1 h2 h3 st
    subst h1; subst h2; subst h3
    exact Or.inl ⟨v, (T.setVm vm₁).calling g' mk As.toArray, t, U', L, hT, X', hL, e1, e2, hq, st⟩
  · dsimp only [Pt.U, Pt.locs, Pt.cells, Pt.slots] at X' e1 e2 h1 h2 h3 st hcl
    subst h1; subst h2; subst h3
    exact Or.inr ⟨q, (T.setVm vm₁).calling g' mk As.toArray, t, U', L, E, ce, hT, X', hL, e1, e2, hq, hce, hcv, vx_cls hW₁ hcl, st⟩
end
end VXH
theorem vx_ofWH {l : Launch} {y : MethodName} {ws ws' : List Cond} {rm : Room} {Pc : Array Value → State → Prop} {Qc : Array Value → State → Outcome → State → Prop} {XC : String → State → State → Prop} {mc ms : Nat} {free : Addr → Prop} {cc : ByteArray} {maxL : Nat} {ret : Option FieldType} {hh : List (Nat × Nat × Nat × Nat)}
    (hy : plainName y.cls = true) (hw : ws = Cond.codeWith y cc maxL ret hh :: ws')
    (body : ∀ p e s m args below meth c s₁, BodyLoose p l y (headSpec ws rm) cc maxL ret e s m args below meth c s₁ → c.maxLocals = maxL → Pc args s →
      W p l e (headSpec ws rm).room s m args below meth c s.heap [] 0 0 (vx_MQ below Qc XC args s mc ms free) (entryFrame m args maxL)) : vx_Met l y ws rm Pc Qc XC mc ms free := by
  refine MetFree.of_bodyS (code := cc) (maxLocals := maxL) (ret := ret) hy ?_ ?_
  · intro args s m h hn
    obtain ⟨m9, meth, c, hn9, h1, h2, h3, h4, -, h5, h6, -⟩ := Cond.codeWith_spec (atoms_spec (ws := ws) h _ (by rw [hw]; exact List.mem_cons_self))
    cases hn.symm.trans hn9
    exact ⟨meth, c, h1, h2, h3, h4, h5, h6⟩
  · intro p e s m args below meth c s₁ B hml hP _
    have hh0 : s₁.heap = s.heap := by rw [B.state]; rfl
    obtain ⟨t, a1, o, b1, b2, b3⟩ := body p e s m args below meth c s₁ B hml hP s₁ hh0 (Stand.of_body B)
    exact ⟨t, o, a1, b1, b2, b3⟩
/-! ===== END ===== -/
end
section
/-! printed: names, fields -/
def RX0 : String := "Layerbook$FirstInFirstOut"
def TX0 : u_T := fun k => match k with
  | 0 => ("Layerbook$Valuation", "units", "I", false)
  | 1 => ("Layerbook$Valuation", "received", "J", false)
  | 2 => ("Layerbook$Valuation", "issued", "J", false)
  | 3 => ("Layerbook$Valuation", "revalued", "J", false)
  | 4 => ("Layerbook$Valuation", "expensed", "J", false)
  | 5 => ("Layerbook$FirstInFirstOut", "first", "LLayerbook$Layer;", false)
  | _ => ("Layerbook$FirstInFirstOut", "last", "LLayerbook$Layer;", false)
def tyX0 : Nat → FieldType := fun k => match k with
  | 0 => .int
  | 1 => .long
  | 2 => .long
  | 3 => .long
  | 4 => .long
  | 5 => .object "Layerbook$Layer"
  | _ => .object "Layerbook$Layer"
abbrev wsX00 : List Cond := u_ws RX0 TX0 7
theorem nmX0 : ∀ a, a < 7 → ∀ b, b < 7 → a ≠ b → (TX0 a).2.1 ≠ (TX0 b).2.1 := by decide +kernel
theorem tyX0_ok : ∀ k, k < 7 → parseFieldDescriptor (TX0 k).2.2.1 = some (tyX0 k) := by decide +kernel
abbrev cX0_init : ByteArray := prog_2_method_1_code
def yX0_init : MethodName := ⟨RX0, "<init>", "()V"⟩
abbrev cX0_empty : ByteArray := prog_2_method_2_code
def yX0_empty : MethodName := ⟨RX0, "empty", "()V"⟩
abbrev cX0_bring : ByteArray := prog_2_method_3_code
def yX0_bring : MethodName := ⟨RX0, "bring", "(LLayerbook$Movement;)V"⟩
abbrev cX0_take : ByteArray := prog_2_method_4_code
def yX0_take : MethodName := ⟨RX0, "take", "(I)J"⟩
abbrev cX0_bringBack : ByteArray := prog_2_method_5_code
def yX0_bringBack : MethodName := ⟨RX0, "bringBack", "(LLayerbook$Movement;)V"⟩
abbrev cX0_absorb : ByteArray := prog_2_method_6_code
def yX0_absorb : MethodName := ⟨RX0, "absorb", "(LLayerbook$Movement;I)J"⟩
abbrev cX0_worth : ByteArray := prog_2_method_7_code
def yX0_worth : MethodName := ⟨RX0, "worth", "()J"⟩
abbrev cX0_length : ByteArray := prog_2_method_8_code
def yX0_length : MethodName := ⟨RX0, "length", "()I"⟩
abbrev cX0_layerAt : ByteArray := prog_2_method_9_code
def yX0_layerAt : MethodName := ⟨RX0, "layerAt", "(I)LLayerbook$Layer;"⟩
def RX1 : String := "Layerbook$Layer"
def TX1 : u_T := fun k => match k with
  | 0 => ("Layerbook$Layer", "origin", "I", true)
  | 1 => ("Layerbook$Layer", "units", "I", false)
  | 2 => ("Layerbook$Layer", "cost", "J", false)
  | _ => ("Layerbook$Layer", "next", "LLayerbook$Layer;", false)
def tyX1 : Nat → FieldType := fun k => match k with
  | 0 => .int
  | 1 => .int
  | 2 => .long
  | _ => .object "Layerbook$Layer"
abbrev wsX10 : List Cond := u_ws RX1 TX1 4
theorem nmX1 : ∀ a, a < 4 → ∀ b, b < 4 → a ≠ b → (TX1 a).2.1 ≠ (TX1 b).2.1 := by decide +kernel
theorem tyX1_ok : ∀ k, k < 4 → parseFieldDescriptor (TX1 k).2.2.1 = some (tyX1 k) := by decide +kernel
abbrev cX1_init : ByteArray := prog_3_method_1_code
def yX1_init : MethodName := ⟨RX1, "<init>", "(I)V"⟩
abbrev cX1_fill : ByteArray := prog_3_method_2_code
def yX1_fill : MethodName := ⟨RX1, "fill", "(IJLLayerbook$Layer;)V"⟩
abbrev cX1_take : ByteArray := prog_3_method_3_code
def yX1_take : MethodName := ⟨RX1, "take", "(I)J"⟩
def RX2 : String := "Layerbook$Ledger"
def TX2 : u_T := fun k => match k with
  | 0 => ("Layerbook$Ledger", "first", "LLayerbook$Movement;", false)
  | _ => ("Layerbook$Ledger", "size", "I", false)
def tyX2 : Nat → FieldType := fun k => match k with
  | 0 => .object "Layerbook$Movement"
  | _ => .int
abbrev wsX20 : List Cond := u_ws RX2 TX2 2
theorem nmX2 : ∀ a, a < 2 → ∀ b, b < 2 → a ≠ b → (TX2 a).2.1 ≠ (TX2 b).2.1 := by decide +kernel
theorem tyX2_ok : ∀ k, k < 2 → parseFieldDescriptor (TX2 k).2.2.1 = some (tyX2 k) := by decide +kernel
abbrev cX2_init : ByteArray := prog_4_method_1_code
def yX2_init : MethodName := ⟨RX2, "<init>", "()V"⟩
abbrev cX2_insert : ByteArray := prog_4_method_2_code
def yX2_insert : MethodName := ⟨RX2, "insert", "(LLayerbook$Movement;)V"⟩
abbrev cX2_remove : ByteArray := prog_4_method_3_code
def yX2_remove : MethodName := ⟨RX2, "remove", "(LLayerbook$Movement;)V"⟩
abbrev cX2_place : ByteArray := prog_4_method_4_code
def yX2_place : MethodName := ⟨RX2, "place", "(LLayerbook$Movement;)I"⟩
abbrev cX2_units : ByteArray := prog_4_method_5_code
def yX2_units : MethodName := ⟨RX2, "units", "(II)I"⟩
abbrev cX2_spare : ByteArray := prog_4_method_6_code
def yX2_spare : MethodName := ⟨RX2, "spare", "(III)I"⟩
abbrev cX2_spreadsOver : ByteArray := prog_4_method_7_code
def yX2_spreadsOver : MethodName := ⟨RX2, "spreadsOver", "(LLayerbook$Movement;)Z"⟩
def RX3 : String := "Layerbook$Movement"
def TX3 : u_T := fun k => match k with
  | 0 => ("Layerbook$Movement", "number", "I", true)
  | 1 => ("Layerbook$Movement", "kind", "I", true)
  | 2 => ("Layerbook$Movement", "day", "I", true)
  | 3 => ("Layerbook$Movement", "item", "I", true)
  | 4 => ("Layerbook$Movement", "quantity", "I", true)
  | 5 => ("Layerbook$Movement", "cost", "I", true)
  | 6 => ("Layerbook$Movement", "layer", "LLayerbook$Layer;", true)
  | 7 => ("Layerbook$Movement", "cancelled", "Z", false)
  | 8 => ("Layerbook$Movement", "next", "LLayerbook$Movement;", false)
  | 9 => ("Layerbook$Movement", "shares", "LLayerbook$Share;", false)
  | _ => ("Layerbook$Movement", "taken", "J", false)
def tyX3 : Nat → FieldType := fun k => match k with
  | 0 => .int
  | 1 => .int
  | 2 => .int
  | 3 => .int
  | 4 => .int
  | 5 => .int
  | 6 => .object "Layerbook$Layer"
  | 7 => .boolean
  | 8 => .object "Layerbook$Movement"
  | 9 => .object "Layerbook$Share"
  | _ => .long
abbrev wsX30 : List Cond := u_ws RX3 TX3 11
theorem nmX3 : ∀ a, a < 11 → ∀ b, b < 11 → a ≠ b → (TX3 a).2.1 ≠ (TX3 b).2.1 := by decide +kernel
theorem tyX3_ok : ∀ k, k < 11 → parseFieldDescriptor (TX3 k).2.2.1 = some (tyX3 k) := by decide +kernel
abbrev cX3_init : ByteArray := prog_5_method_1_code
def yX3_init : MethodName := ⟨RX3, "<init>", "(IIIIII)V"⟩
abbrev cX3_change : ByteArray := prog_5_method_2_code
def yX3_change : MethodName := ⟨RX3, "change", "()I"⟩
abbrev cX3_needsUnits : ByteArray := prog_5_method_3_code
def yX3_needsUnits : MethodName := ⟨RX3, "needsUnits", "()Z"⟩
abbrev cX3_isBehind : ByteArray := prog_5_method_4_code
def yX3_isBehind : MethodName := ⟨RX3, "isBehind", "(II)Z"⟩
abbrev cX3_shareOf : ByteArray := prog_5_method_5_code
def yX3_shareOf : MethodName := ⟨RX3, "shareOf", "(LLayerbook$Movement;)LLayerbook$Share;"⟩
def RX4 : String := "Layerbook$MovingAverage"
def TX4 : u_T := fun k => match k with
  | 0 => ("Layerbook$Valuation", "units", "I", false)
  | 1 => ("Layerbook$Valuation", "received", "J", false)
  | 2 => ("Layerbook$Valuation", "issued", "J", false)
  | 3 => ("Layerbook$Valuation", "revalued", "J", false)
  | 4 => ("Layerbook$Valuation", "expensed", "J", false)
  | _ => ("Layerbook$MovingAverage", "worth", "J", false)
def tyX4 : Nat → FieldType := fun k => match k with
  | 0 => .int
  | 1 => .long
  | 2 => .long
  | 3 => .long
  | 4 => .long
  | _ => .long
abbrev wsX40 : List Cond := u_ws RX4 TX4 6
theorem nmX4 : ∀ a, a < 6 → ∀ b, b < 6 → a ≠ b → (TX4 a).2.1 ≠ (TX4 b).2.1 := by decide +kernel
theorem tyX4_ok : ∀ k, k < 6 → parseFieldDescriptor (TX4 k).2.2.1 = some (tyX4 k) := by decide +kernel
abbrev cX4_init : ByteArray := prog_6_method_1_code
def yX4_init : MethodName := ⟨RX4, "<init>", "()V"⟩
abbrev cX4_empty : ByteArray := prog_6_method_2_code
def yX4_empty : MethodName := ⟨RX4, "empty", "()V"⟩
abbrev cX4_bring : ByteArray := prog_6_method_3_code
def yX4_bring : MethodName := ⟨RX4, "bring", "(LLayerbook$Movement;)V"⟩
abbrev cX4_take : ByteArray := prog_6_method_4_code
def yX4_take : MethodName := ⟨RX4, "take", "(I)J"⟩
abbrev cX4_bringBack : ByteArray := prog_6_method_5_code
def yX4_bringBack : MethodName := ⟨RX4, "bringBack", "(LLayerbook$Movement;)V"⟩
abbrev cX4_absorb : ByteArray := prog_6_method_6_code
def yX4_absorb : MethodName := ⟨RX4, "absorb", "(LLayerbook$Movement;I)J"⟩
abbrev cX4_worth : ByteArray := prog_6_method_7_code
def yX4_worth : MethodName := ⟨RX4, "worth", "()J"⟩
def RX5 : String := "Layerbook$Share"
def TX5 : u_T := fun k => match k with
  | 0 => ("Layerbook$Share", "receipt", "LLayerbook$Movement;", true)
  | 1 => ("Layerbook$Share", "next", "LLayerbook$Share;", true)
  | 2 => ("Layerbook$Share", "part", "I", false)
  | _ => ("Layerbook$Share", "remainder", "J", false)
def tyX5 : Nat → FieldType := fun k => match k with
  | 0 => .object "Layerbook$Movement"
  | 1 => .object "Layerbook$Share"
  | 2 => .int
  | _ => .long
abbrev wsX50 : List Cond := u_ws RX5 TX5 4
theorem nmX5 : ∀ a, a < 4 → ∀ b, b < 4 → a ≠ b → (TX5 a).2.1 ≠ (TX5 b).2.1 := by decide +kernel
theorem tyX5_ok : ∀ k, k < 4 → parseFieldDescriptor (TX5 k).2.2.1 = some (tyX5 k) := by decide +kernel
abbrev cX5_init : ByteArray := prog_7_method_1_code
def yX5_init : MethodName := ⟨RX5, "<init>", "(LLayerbook$Movement;IJLLayerbook$Share;)V"⟩
def RX6 : String := "Layerbook$Valuation"
def TX6 : u_T := fun k => match k with
  | _ => ("", "", "", false)
def tyX6 : Nat → FieldType := fun k => match k with
  | _ => .int
abbrev wsX60 : List Cond := u_ws RX6 TX6 0
theorem nmX6 : ∀ a, a < 0 → ∀ b, b < 0 → a ≠ b → (TX6 a).2.1 ≠ (TX6 b).2.1 := by decide +kernel
theorem tyX6_ok : ∀ k, k < 0 → parseFieldDescriptor (TX6 k).2.2.1 = some (tyX6 k) := by decide +kernel
abbrev cX6_init : ByteArray := prog_8_method_1_code
def yX6_init : MethodName := ⟨RX6, "<init>", "()V"⟩
abbrev cX6_replay : ByteArray := prog_8_method_8_code
def yX6_replay : MethodName := ⟨RX6, "replay", "(LLayerbook$Movement;II)V"⟩
abbrev cX6_apply : ByteArray := prog_8_method_9_code
def yX6_apply : MethodName := ⟨RX6, "apply", "(LLayerbook$Movement;)V"⟩
abbrev cX6_applyShares : ByteArray := prog_8_method_10_code
def yX6_applyShares : MethodName := ⟨RX6, "applyShares", "(LLayerbook$Movement;I)V"⟩
abbrev cX6_portion : ByteArray := prog_8_method_11_code
def yX6_portion : MethodName := ⟨RX6, "portion", "(LLayerbook$Movement;II)J"⟩
def RX7 : String := "Layerbook"
def TX7 : u_T := fun k => match k with
  | 0 => ("Layerbook", "posted", "[LLayerbook$Movement;", true)
  | 1 => ("Layerbook", "ledger", "LLayerbook$Ledger;", true)
  | 2 => ("Layerbook", "fifo", "LLayerbook$FirstInFirstOut;", true)
  | 3 => ("Layerbook", "average", "LLayerbook$MovingAverage;", true)
  | 4 => ("Layerbook", "weights", "[I", true)
  | 5 => ("Layerbook", "count", "I", false)
  | _ => ("Layerbook", "closedUpTo", "I", false)
def tyX7 : Nat → FieldType := fun k => match k with
  | 0 => .array (.object "Layerbook$Movement")
  | 1 => .object "Layerbook$Ledger"
  | 2 => .object "Layerbook$FirstInFirstOut"
  | 3 => .object "Layerbook$MovingAverage"
  | 4 => .array .int
  | 5 => .int
  | _ => .int
abbrev wsX70 : List Cond := u_ws RX7 TX7 7
theorem nmX7 : ∀ a, a < 7 → ∀ b, b < 7 → a ≠ b → (TX7 a).2.1 ≠ (TX7 b).2.1 := by decide +kernel
theorem tyX7_ok : ∀ k, k < 7 → parseFieldDescriptor (TX7 k).2.2.1 = some (tyX7 k) := by decide +kernel
abbrev cX7_init : ByteArray := prog_1_method_1_code
def yX7_init : MethodName := ⟨RX7, "<init>", "()V"⟩
abbrev cX7_receive : ByteArray := prog_1_method_2_code
def yX7_receive : MethodName := ⟨RX7, "receive", "(IIII)I"⟩
abbrev cX7_issue : ByteArray := prog_1_method_3_code
def yX7_issue : MethodName := ⟨RX7, "issue", "(III)I"⟩
abbrev cX7_revalue : ByteArray := prog_1_method_4_code
def yX7_revalue : MethodName := ⟨RX7, "revalue", "(IIII)I"⟩
abbrev cX7_land : ByteArray := prog_1_method_5_code
def yX7_land : MethodName := ⟨RX7, "land", "(IIIJ)I"⟩
abbrev cX7_cancel : ByteArray := prog_1_method_6_code
def yX7_cancel : MethodName := ⟨RX7, "cancel", "(I)I"⟩
abbrev cX7_close : ByteArray := prog_1_method_7_code
def yX7_close : MethodName := ⟨RX7, "close", "(I)I"⟩
abbrev cX7_setWeight : ByteArray := prog_1_method_8_code
def yX7_setWeight : MethodName := ⟨RX7, "setWeight", "(II)I"⟩
abbrev cX7_movements : ByteArray := prog_1_method_9_code
def yX7_movements : MethodName := ⟨RX7, "movements", "()I"⟩
abbrev cX7_kindOf : ByteArray := prog_1_method_10_code
def yX7_kindOf : MethodName := ⟨RX7, "kindOf", "(I)I"⟩
abbrev cX7_dayOf : ByteArray := prog_1_method_11_code
def yX7_dayOf : MethodName := ⟨RX7, "dayOf", "(I)I"⟩
abbrev cX7_isCancelled : ByteArray := prog_1_method_12_code
def yX7_isCancelled : MethodName := ⟨RX7, "isCancelled", "(I)Z"⟩
abbrev cX7_placeOf : ByteArray := prog_1_method_13_code
def yX7_placeOf : MethodName := ⟨RX7, "placeOf", "(I)I"⟩
abbrev cX7_partOf : ByteArray := prog_1_method_14_code
def yX7_partOf : MethodName := ⟨RX7, "partOf", "(II)I"⟩
abbrev cX7_costOf : ByteArray := prog_1_method_15_code
def yX7_costOf : MethodName := ⟨RX7, "costOf", "(IZ)J"⟩
abbrev cX7_onHand : ByteArray := prog_1_method_16_code
def yX7_onHand : MethodName := ⟨RX7, "onHand", "(II)I"⟩
abbrev cX7_available : ByteArray := prog_1_method_17_code
def yX7_available : MethodName := ⟨RX7, "available", "(II)I"⟩
abbrev cX7_value : ByteArray := prog_1_method_18_code
def yX7_value : MethodName := ⟨RX7, "value", "(IIZ)J"⟩
abbrev cX7_received : ByteArray := prog_1_method_19_code
def yX7_received : MethodName := ⟨RX7, "received", "(II)J"⟩
abbrev cX7_issued : ByteArray := prog_1_method_20_code
def yX7_issued : MethodName := ⟨RX7, "issued", "(IIZ)J"⟩
abbrev cX7_revalued : ByteArray := prog_1_method_21_code
def yX7_revalued : MethodName := ⟨RX7, "revalued", "(IIZ)J"⟩
abbrev cX7_expensed : ByteArray := prog_1_method_22_code
def yX7_expensed : MethodName := ⟨RX7, "expensed", "(IIZ)J"⟩
abbrev cX7_layers : ByteArray := prog_1_method_23_code
def yX7_layers : MethodName := ⟨RX7, "layers", "(II)I"⟩
abbrev cX7_layerQuantity : ByteArray := prog_1_method_24_code
def yX7_layerQuantity : MethodName := ⟨RX7, "layerQuantity", "(III)I"⟩
abbrev cX7_layerCost : ByteArray := prog_1_method_25_code
def yX7_layerCost : MethodName := ⟨RX7, "layerCost", "(III)J"⟩
abbrev cX7_layerOrigin : ByteArray := prog_1_method_26_code
def yX7_layerOrigin : MethodName := ⟨RX7, "layerOrigin", "(III)I"⟩
abbrev cX7_checkRange : ByteArray := prog_1_method_27_code
def yX7_checkRange : MethodName := ⟨RX7, "checkRange", "(III)V"⟩
abbrev cX7_checkItemAndDay : ByteArray := prog_1_method_28_code
def yX7_checkItemAndDay : MethodName := ⟨RX7, "checkItemAndDay", "(II)V"⟩
abbrev cX7_checkOpen : ByteArray := prog_1_method_29_code
def yX7_checkOpen : MethodName := ⟨RX7, "checkOpen", "(I)V"⟩
abbrev cX7_checkPosting : ByteArray := prog_1_method_30_code
def yX7_checkPosting : MethodName := ⟨RX7, "checkPosting", "(I)V"⟩
abbrev cX7_checkOnHand : ByteArray := prog_1_method_31_code
def yX7_checkOnHand : MethodName := ⟨RX7, "checkOnHand", "(II)V"⟩
abbrev cX7_checkReceipts : ByteArray := prog_1_method_32_code
def yX7_checkReceipts : MethodName := ⟨RX7, "checkReceipts", "(JI)V"⟩
abbrev cX7_checkDispensable : ByteArray := prog_1_method_33_code
def yX7_checkDispensable : MethodName := ⟨RX7, "checkDispensable", "(LLayerbook$Movement;)V"⟩
abbrev cX7_find : ByteArray := prog_1_method_34_code
def yX7_find : MethodName := ⟨RX7, "find", "(I)LLayerbook$Movement;"⟩
abbrev cX7_findLayer : ByteArray := prog_1_method_35_code
def yX7_findLayer : MethodName := ⟨RX7, "findLayer", "(III)LLayerbook$Layer;"⟩
abbrev cX7_post : ByteArray := prog_1_method_36_code
def yX7_post : MethodName := ⟨RX7, "post", "(LLayerbook$Movement;)I"⟩
abbrev cX7_replayed : ByteArray := prog_1_method_37_code
def yX7_replayed : MethodName := ⟨RX7, "replayed", "(IIZ)LLayerbook$Valuation;"⟩
abbrev cX7_weightOf : ByteArray := prog_1_method_38_code
def yX7_weightOf : MethodName := ⟨RX7, "weightOf", "(I)I"⟩
abbrev cX7_chosen : ByteArray := prog_1_method_39_code
def yX7_chosen : MethodName := ⟨RX7, "chosen", "(JI)LLayerbook$Movement;"⟩
abbrev cX7_basisOf : ByteArray := prog_1_method_40_code
def yX7_basisOf : MethodName := ⟨RX7, "basisOf", "(LLayerbook$Movement;I)J"⟩
abbrev cX7_sumOfBasis : ByteArray := prog_1_method_41_code
def yX7_sumOfBasis : MethodName := ⟨RX7, "sumOfBasis", "(JI)J"⟩
abbrev cX7_spread : ByteArray := prog_1_method_42_code
def yX7_spread : MethodName := ⟨RX7, "spread", "(IIJJ)LLayerbook$Share;"⟩
abbrev cX7_giveCent : ByteArray := prog_1_method_43_code
def yX7_giveCent : MethodName := ⟨RX7, "giveCent", "(LLayerbook$Share;)V"⟩
def RX8 : String := "LayerbookModel"
def TX8 : u_T := fun k => match k with
  | _ => ("", "", "", false)
def tyX8 : Nat → FieldType := fun k => match k with
  | _ => .int
abbrev wsX80 : List Cond := u_ws RX8 TX8 0
theorem nmX8 : ∀ a, a < 0 → ∀ b, b < 0 → a ≠ b → (TX8 a).2.1 ≠ (TX8 b).2.1 := by decide +kernel
theorem tyX8_ok : ∀ k, k < 0 → parseFieldDescriptor (TX8 k).2.2.1 = some (tyX8 k) := by decide +kernel
def RJ9 : String := "java/lang/Math"
def TJ9 : u_T := fun k => match k with
  | _ => ("", "", "", false)
def tyJ9 : Nat → FieldType := fun k => match k with
  | _ => .int
abbrev wsJ90 : List Cond := u_ws RJ9 TJ9 0
theorem nmJ9 : ∀ a, a < 0 → ∀ b, b < 0 → a ≠ b → (TJ9 a).2.1 ≠ (TJ9 b).2.1 := by decide +kernel
theorem tyJ9_ok : ∀ k, k < 0 → parseFieldDescriptor (TJ9 k).2.2.1 = some (tyJ9 k) := by decide +kernel
abbrev cJ9_min_7cf53 : ByteArray := prog_15_method_69_code
def yJ9_min_7cf53 : MethodName := ⟨RJ9, "min", "(II)I"⟩
def RJ0 : String := "java/lang/String"
def TJ0 : u_T := fun k => match k with
  | _ => ("", "", "", false)
def tyJ0 : Nat → FieldType := fun k => match k with
  | _ => .int
abbrev wsJ00 : List Cond := u_ws RJ0 TJ0 0
theorem nmJ0 : ∀ a, a < 0 → ∀ b, b < 0 → a ≠ b → (TJ0 a).2.1 ≠ (TJ0 b).2.1 := by decide +kernel
theorem tyJ0_ok : ∀ k, k < 0 → parseFieldDescriptor (TJ0 k).2.2.1 = some (tyJ0 k) := by decide +kernel
def RL : String := "LayerbookLaw"
abbrev cL_dice : ByteArray := method_2_code
def yL_dice : MethodName := ⟨RL, "dice", "([II)I"⟩
abbrev cL_receive : ByteArray := method_3_code
def yL_receive : MethodName := ⟨RL, "receive", "(LLayerbook;IIII)I"⟩
abbrev cL_issue : ByteArray := method_4_code
def yL_issue : MethodName := ⟨RL, "issue", "(LLayerbook;III)I"⟩
abbrev cL_revalue : ByteArray := method_5_code
def yL_revalue : MethodName := ⟨RL, "revalue", "(LLayerbook;IIII)I"⟩
abbrev cL_land : ByteArray := method_6_code
def yL_land : MethodName := ⟨RL, "land", "(LLayerbook;IIIJ)I"⟩
abbrev cL_cancel : ByteArray := method_7_code
def yL_cancel : MethodName := ⟨RL, "cancel", "(LLayerbook;I)I"⟩
abbrev cL_close : ByteArray := method_8_code
def yL_close : MethodName := ⟨RL, "close", "(LLayerbook;I)I"⟩
abbrev cL_setWeight : ByteArray := method_9_code
def yL_setWeight : MethodName := ⟨RL, "setWeight", "(LLayerbook;II)I"⟩
abbrev cL_movement : ByteArray := method_10_code
def yL_movement : MethodName := ⟨RL, "movement", "(LLayerbook;II)I"⟩
abbrev cL_partOf : ByteArray := method_11_code
def yL_partOf : MethodName := ⟨RL, "partOf", "(LLayerbook;II)I"⟩
abbrev cL_costOf : ByteArray := method_12_code
def yL_costOf : MethodName := ⟨RL, "costOf", "(LLayerbook;IZ)J"⟩
abbrev cL_layer : ByteArray := method_13_code
def yL_layer : MethodName := ⟨RL, "layer", "(LLayerbook;IIII)J"⟩
abbrev cL_ask : ByteArray := method_14_code
def yL_ask : MethodName := ⟨RL, "ask", "(LLayerbook;III)J"⟩
abbrev cL_sight : ByteArray := method_15_code
def yL_sight : MethodName := ⟨RL, "sight", "(LLayerbook;II)J"⟩
abbrev cL_past : ByteArray := method_16_code
def yL_past : MethodName := ⟨RL, "past", "(LLayerbook;II)J"⟩
abbrev cL_all : ByteArray := method_17_code
def yL_all : MethodName := ⟨RL, "all", "(LLayerbook;)J"⟩
abbrev cL_isSound : ByteArray := method_18_code
def yL_isSound : MethodName := ⟨RL, "isSound", "(LLayerbook;II)Z"⟩
abbrev cL_areMovements : ByteArray := method_19_code
def yL_areMovements : MethodName := ⟨RL, "areMovements", "(LLayerbook;[I)Z"⟩
abbrev cL_isRefused : ByteArray := method_20_code
def yL_isRefused : MethodName := ⟨RL, "isRefused", "(LLayerbook;I)Z"⟩
abbrev cL_isPosted : ByteArray := method_21_code
def yL_isPosted : MethodName := ⟨RL, "isPosted", "(LLayerbook;[IIIIII)Z"⟩
abbrev cL_receivedOfAll : ByteArray := method_22_code
def yL_receivedOfAll : MethodName := ⟨RL, "receivedOfAll", "(LLayerbook;)J"⟩
abbrev cL_isLanded : ByteArray := method_23_code
def yL_isLanded : MethodName := ⟨RL, "isLanded", "(LLayerbook;[I[IIIIJ)Z"⟩
abbrev cL_isCancelled : ByteArray := method_24_code
def yL_isCancelled : MethodName := ⟨RL, "isCancelled", "(LLayerbook;[II)Z"⟩
abbrev cL_law : ByteArray := code
def yL_law : MethodName := ⟨RL, "law", "([I)Z"⟩
abbrev vwCl : List vw_C := [(RX0, TX0, 7), (RX1, TX1, 4), (RX2, TX2, 2), (RX3, TX3, 11), (RX4, TX4, 6), (RX5, TX5, 4), (RX7, TX7, 7)]
end
section
theorem dX0_init_0 : decode cX0_init 0 = .ok (.aload_n 0, 1) := by decide +kernel
theorem dX0_init_1 : decode cX0_init 1 = .ok (.invokespecial 1, 3) := by decide +kernel
theorem dX0_init_4 : decode cX0_init 4 = .ok (.return_, 1) := by decide +kernel
theorem dX0_empty_0 : decode cX0_empty 0 = .ok (.aload_n 0, 1) := by decide +kernel
theorem dX0_empty_1 : decode cX0_empty 1 = .ok (.aconst_null, 1) := by decide +kernel
theorem dX0_empty_2 : decode cX0_empty 2 = .ok (.putfield 7, 3) := by decide +kernel
theorem dX0_empty_5 : decode cX0_empty 5 = .ok (.aload_n 0, 1) := by decide +kernel
theorem dX0_empty_6 : decode cX0_empty 6 = .ok (.aconst_null, 1) := by decide +kernel
theorem dX0_empty_7 : decode cX0_empty 7 = .ok (.putfield 13, 3) := by decide +kernel
theorem dX0_empty_10 : decode cX0_empty 10 = .ok (.return_, 1) := by decide +kernel
theorem dX0_bring_0 : decode cX0_bring 0 = .ok (.aload_n 1, 1) := by decide +kernel
theorem dX0_bring_1 : decode cX0_bring 1 = .ok (.getfield 16, 3) := by decide +kernel
theorem dX0_bring_4 : decode cX0_bring 4 = .ok (.astore_n 2, 1) := by decide +kernel
theorem dX0_bring_5 : decode cX0_bring 5 = .ok (.aload_n 2, 1) := by decide +kernel
theorem dX0_bring_6 : decode cX0_bring 6 = .ok (.aload_n 1, 1) := by decide +kernel
theorem dX0_bring_7 : decode cX0_bring 7 = .ok (.getfield 21, 3) := by decide +kernel
theorem dX0_bring_10 : decode cX0_bring 10 = .ok (.aload_n 1, 1) := by decide +kernel
theorem dX0_bring_11 : decode cX0_bring 11 = .ok (.getfield 25, 3) := by decide +kernel
theorem dX0_bring_14 : decode cX0_bring 14 = .ok (.i2l, 1) := by decide +kernel
theorem dX0_bring_15 : decode cX0_bring 15 = .ok (.aconst_null, 1) := by decide +kernel
theorem dX0_bring_16 : decode cX0_bring 16 = .ok (.invokevirtual 28, 3) := by decide +kernel
theorem dX0_bring_19 : decode cX0_bring 19 = .ok (.aload_n 0, 1) := by decide +kernel
theorem dX0_bring_20 : decode cX0_bring 20 = .ok (.getfield 13, 3) := by decide +kernel
theorem dX0_bring_23 : decode cX0_bring 23 = .ok (.ifnonnull 11, 3) := by decide +kernel
theorem dX0_bring_26 : decode cX0_bring 26 = .ok (.aload_n 0, 1) := by decide +kernel
theorem dX0_bring_27 : decode cX0_bring 27 = .ok (.aload_n 2, 1) := by decide +kernel
theorem dX0_bring_28 : decode cX0_bring 28 = .ok (.putfield 7, 3) := by decide +kernel
theorem dX0_bring_31 : decode cX0_bring 31 = .ok (.goto 11, 3) := by decide +kernel
theorem dX0_bring_34 : decode cX0_bring 34 = .ok (.aload_n 0, 1) := by decide +kernel
theorem dX0_bring_35 : decode cX0_bring 35 = .ok (.getfield 13, 3) := by decide +kernel
theorem dX0_bring_38 : decode cX0_bring 38 = .ok (.aload_n 2, 1) := by decide +kernel
theorem dX0_bring_39 : decode cX0_bring 39 = .ok (.putfield 34, 3) := by decide +kernel
theorem dX0_bring_42 : decode cX0_bring 42 = .ok (.aload_n 0, 1) := by decide +kernel
theorem dX0_bring_43 : decode cX0_bring 43 = .ok (.aload_n 2, 1) := by decide +kernel
theorem dX0_bring_44 : decode cX0_bring 44 = .ok (.putfield 13, 3) := by decide +kernel
theorem dX0_bring_47 : decode cX0_bring 47 = .ok (.return_, 1) := by decide +kernel
theorem dX0_take_0 : decode cX0_take 0 = .ok (.lconst 0, 1) := by decide +kernel
theorem dX0_take_1 : decode cX0_take 1 = .ok (.lstore_n 2, 1) := by decide +kernel
theorem dX0_take_2 : decode cX0_take 2 = .ok (.iload_n 1, 1) := by decide +kernel
theorem dX0_take_3 : decode cX0_take 3 = .ok (.istore 4, 2) := by decide +kernel
theorem dX0_take_5 : decode cX0_take 5 = .ok (.aload_n 0, 1) := by decide +kernel
theorem dX0_take_6 : decode cX0_take 6 = .ok (.getfield 7, 3) := by decide +kernel
theorem dX0_take_9 : decode cX0_take 9 = .ok (.astore 5, 2) := by decide +kernel
theorem dX0_take_11 : decode cX0_take 11 = .ok (.aload 5, 2) := by decide +kernel
theorem dX0_take_13 : decode cX0_take 13 = .ok (.ifnull 69, 3) := by decide +kernel
theorem dX0_take_16 : decode cX0_take 16 = .ok (.iload 4, 2) := by decide +kernel
theorem dX0_take_18 : decode cX0_take 18 = .ok (.ifCond .le 64, 3) := by decide +kernel
theorem dX0_take_21 : decode cX0_take 21 = .ok (.iload 4, 2) := by decide +kernel
theorem dX0_take_23 : decode cX0_take 23 = .ok (.aload 5, 2) := by decide +kernel
theorem dX0_take_25 : decode cX0_take 25 = .ok (.getfield 37, 3) := by decide +kernel
theorem dX0_take_28 : decode cX0_take 28 = .ok (.invokestatic 40, 3) := by decide +kernel
theorem dX0_take_31 : decode cX0_take 31 = .ok (.istore 6, 2) := by decide +kernel
theorem dX0_take_33 : decode cX0_take 33 = .ok (.lload_n 2, 1) := by decide +kernel
theorem dX0_take_34 : decode cX0_take 34 = .ok (.aload 5, 2) := by decide +kernel
theorem dX0_take_36 : decode cX0_take 36 = .ok (.iload 6, 2) := by decide +kernel
theorem dX0_take_38 : decode cX0_take 38 = .ok (.invokevirtual 46, 3) := by decide +kernel
theorem dX0_take_41 : decode cX0_take 41 = .ok (.ladd, 1) := by decide +kernel
theorem dX0_take_42 : decode cX0_take 42 = .ok (.lstore_n 2, 1) := by decide +kernel
theorem dX0_take_43 : decode cX0_take 43 = .ok (.iload 4, 2) := by decide +kernel
theorem dX0_take_45 : decode cX0_take 45 = .ok (.iload 6, 2) := by decide +kernel
theorem dX0_take_47 : decode cX0_take 47 = .ok (.isub, 1) := by decide +kernel
theorem dX0_take_48 : decode cX0_take 48 = .ok (.istore 4, 2) := by decide +kernel
theorem dX0_take_50 : decode cX0_take 50 = .ok (.aload_n 0, 1) := by decide +kernel
theorem dX0_take_51 : decode cX0_take 51 = .ok (.aload 5, 2) := by decide +kernel
theorem dX0_take_53 : decode cX0_take 53 = .ok (.getfield 37, 3) := by decide +kernel
theorem dX0_take_56 : decode cX0_take 56 = .ok (.ifCond .le 8, 3) := by decide +kernel
theorem dX0_take_59 : decode cX0_take 59 = .ok (.aload 5, 2) := by decide +kernel
theorem dX0_take_61 : decode cX0_take 61 = .ok (.goto 8, 3) := by decide +kernel
theorem dX0_take_64 : decode cX0_take 64 = .ok (.aload 5, 2) := by decide +kernel
theorem dX0_take_66 : decode cX0_take 66 = .ok (.getfield 34, 3) := by decide +kernel
theorem dX0_take_69 : decode cX0_take 69 = .ok (.putfield 7, 3) := by decide +kernel
theorem dX0_take_72 : decode cX0_take 72 = .ok (.aload 5, 2) := by decide +kernel
theorem dX0_take_74 : decode cX0_take 74 = .ok (.getfield 34, 3) := by decide +kernel
theorem dX0_take_77 : decode cX0_take 77 = .ok (.astore 5, 2) := by decide +kernel
theorem dX0_take_79 : decode cX0_take 79 = .ok (.goto (-68), 3) := by decide +kernel
theorem dX0_take_82 : decode cX0_take 82 = .ok (.aload_n 0, 1) := by decide +kernel
theorem dX0_take_83 : decode cX0_take 83 = .ok (.getfield 7, 3) := by decide +kernel
theorem dX0_take_86 : decode cX0_take 86 = .ok (.ifnonnull 8, 3) := by decide +kernel
theorem dX0_take_89 : decode cX0_take 89 = .ok (.aload_n 0, 1) := by decide +kernel
theorem dX0_take_90 : decode cX0_take 90 = .ok (.aconst_null, 1) := by decide +kernel
theorem dX0_take_91 : decode cX0_take 91 = .ok (.putfield 13, 3) := by decide +kernel
theorem dX0_take_94 : decode cX0_take 94 = .ok (.lload_n 2, 1) := by decide +kernel
theorem dX0_take_95 : decode cX0_take 95 = .ok (.lreturn, 1) := by decide +kernel
theorem dX0_bringBack_0 : decode cX0_bringBack 0 = .ok (.aload_n 1, 1) := by decide +kernel
theorem dX0_bringBack_1 : decode cX0_bringBack 1 = .ok (.getfield 16, 3) := by decide +kernel
theorem dX0_bringBack_4 : decode cX0_bringBack 4 = .ok (.astore_n 2, 1) := by decide +kernel
theorem dX0_bringBack_5 : decode cX0_bringBack 5 = .ok (.aload_n 2, 1) := by decide +kernel
theorem dX0_bringBack_6 : decode cX0_bringBack 6 = .ok (.aload_n 1, 1) := by decide +kernel
theorem dX0_bringBack_7 : decode cX0_bringBack 7 = .ok (.getfield 21, 3) := by decide +kernel
theorem dX0_bringBack_10 : decode cX0_bringBack 10 = .ok (.aload_n 1, 1) := by decide +kernel
theorem dX0_bringBack_11 : decode cX0_bringBack 11 = .ok (.getfield 25, 3) := by decide +kernel
theorem dX0_bringBack_14 : decode cX0_bringBack 14 = .ok (.i2l, 1) := by decide +kernel
theorem dX0_bringBack_15 : decode cX0_bringBack 15 = .ok (.aload_n 0, 1) := by decide +kernel
theorem dX0_bringBack_16 : decode cX0_bringBack 16 = .ok (.getfield 7, 3) := by decide +kernel
theorem dX0_bringBack_19 : decode cX0_bringBack 19 = .ok (.invokevirtual 28, 3) := by decide +kernel
theorem dX0_bringBack_22 : decode cX0_bringBack 22 = .ok (.aload_n 0, 1) := by decide +kernel
theorem dX0_bringBack_23 : decode cX0_bringBack 23 = .ok (.aload_n 2, 1) := by decide +kernel
theorem dX0_bringBack_24 : decode cX0_bringBack 24 = .ok (.putfield 7, 3) := by decide +kernel
theorem dX0_bringBack_27 : decode cX0_bringBack 27 = .ok (.aload_n 0, 1) := by decide +kernel
theorem dX0_bringBack_28 : decode cX0_bringBack 28 = .ok (.getfield 13, 3) := by decide +kernel
theorem dX0_bringBack_31 : decode cX0_bringBack 31 = .ok (.ifnonnull 8, 3) := by decide +kernel
theorem dX0_bringBack_34 : decode cX0_bringBack 34 = .ok (.aload_n 0, 1) := by decide +kernel
theorem dX0_bringBack_35 : decode cX0_bringBack 35 = .ok (.aload_n 2, 1) := by decide +kernel
theorem dX0_bringBack_36 : decode cX0_bringBack 36 = .ok (.putfield 13, 3) := by decide +kernel
theorem dX0_bringBack_39 : decode cX0_bringBack 39 = .ok (.return_, 1) := by decide +kernel
theorem dX0_absorb_0 : decode cX0_absorb 0 = .ok (.aload_n 1, 1) := by decide +kernel
theorem dX0_absorb_1 : decode cX0_absorb 1 = .ok (.getfield 16, 3) := by decide +kernel
theorem dX0_absorb_4 : decode cX0_absorb 4 = .ok (.astore_n 3, 1) := by decide +kernel
theorem dX0_absorb_5 : decode cX0_absorb 5 = .ok (.aload_n 1, 1) := by decide +kernel
theorem dX0_absorb_6 : decode cX0_absorb 6 = .ok (.iload_n 2, 1) := by decide +kernel
theorem dX0_absorb_7 : decode cX0_absorb 7 = .ok (.aload_n 3, 1) := by decide +kernel
theorem dX0_absorb_8 : decode cX0_absorb 8 = .ok (.getfield 37, 3) := by decide +kernel
theorem dX0_absorb_11 : decode cX0_absorb 11 = .ok (.invokestatic 50, 3) := by decide +kernel
theorem dX0_absorb_14 : decode cX0_absorb 14 = .ok (.lstore 4, 2) := by decide +kernel
theorem dX0_absorb_16 : decode cX0_absorb 16 = .ok (.aload_n 3, 1) := by decide +kernel
theorem dX0_absorb_17 : decode cX0_absorb 17 = .ok (.dup, 1) := by decide +kernel
theorem dX0_absorb_18 : decode cX0_absorb 18 = .ok (.getfield 54, 3) := by decide +kernel
theorem dX0_absorb_21 : decode cX0_absorb 21 = .ok (.lload 4, 2) := by decide +kernel
theorem dX0_absorb_23 : decode cX0_absorb 23 = .ok (.ladd, 1) := by decide +kernel
theorem dX0_absorb_24 : decode cX0_absorb 24 = .ok (.putfield 54, 3) := by decide +kernel
theorem dX0_absorb_27 : decode cX0_absorb 27 = .ok (.lload 4, 2) := by decide +kernel
theorem dX0_absorb_29 : decode cX0_absorb 29 = .ok (.lreturn, 1) := by decide +kernel
theorem dX0_worth_0 : decode cX0_worth 0 = .ok (.lconst 0, 1) := by decide +kernel
theorem dX0_worth_1 : decode cX0_worth 1 = .ok (.lstore_n 1, 1) := by decide +kernel
theorem dX0_worth_2 : decode cX0_worth 2 = .ok (.aload_n 0, 1) := by decide +kernel
theorem dX0_worth_3 : decode cX0_worth 3 = .ok (.getfield 7, 3) := by decide +kernel
theorem dX0_worth_6 : decode cX0_worth 6 = .ok (.astore_n 3, 1) := by decide +kernel
theorem dX0_worth_7 : decode cX0_worth 7 = .ok (.aload_n 3, 1) := by decide +kernel
theorem dX0_worth_8 : decode cX0_worth 8 = .ok (.ifnull 18, 3) := by decide +kernel
theorem dX0_worth_11 : decode cX0_worth 11 = .ok (.lload_n 1, 1) := by decide +kernel
theorem dX0_worth_12 : decode cX0_worth 12 = .ok (.aload_n 3, 1) := by decide +kernel
theorem dX0_worth_13 : decode cX0_worth 13 = .ok (.getfield 54, 3) := by decide +kernel
theorem dX0_worth_16 : decode cX0_worth 16 = .ok (.ladd, 1) := by decide +kernel
theorem dX0_worth_17 : decode cX0_worth 17 = .ok (.lstore_n 1, 1) := by decide +kernel
theorem dX0_worth_18 : decode cX0_worth 18 = .ok (.aload_n 3, 1) := by decide +kernel
theorem dX0_worth_19 : decode cX0_worth 19 = .ok (.getfield 34, 3) := by decide +kernel
theorem dX0_worth_22 : decode cX0_worth 22 = .ok (.astore_n 3, 1) := by decide +kernel
theorem dX0_worth_23 : decode cX0_worth 23 = .ok (.goto (-16), 3) := by decide +kernel
theorem dX0_worth_26 : decode cX0_worth 26 = .ok (.lload_n 1, 1) := by decide +kernel
theorem dX0_worth_27 : decode cX0_worth 27 = .ok (.lreturn, 1) := by decide +kernel
theorem dX0_length_0 : decode cX0_length 0 = .ok (.iconst 0, 1) := by decide +kernel
theorem dX0_length_1 : decode cX0_length 1 = .ok (.istore_n 1, 1) := by decide +kernel
theorem dX0_length_2 : decode cX0_length 2 = .ok (.aload_n 0, 1) := by decide +kernel
theorem dX0_length_3 : decode cX0_length 3 = .ok (.getfield 7, 3) := by decide +kernel
theorem dX0_length_6 : decode cX0_length 6 = .ok (.astore_n 2, 1) := by decide +kernel
theorem dX0_length_7 : decode cX0_length 7 = .ok (.aload_n 2, 1) := by decide +kernel
theorem dX0_length_8 : decode cX0_length 8 = .ok (.ifnull 14, 3) := by decide +kernel
theorem dX0_length_11 : decode cX0_length 11 = .ok (.iinc 1 1, 3) := by decide +kernel
theorem dX0_length_14 : decode cX0_length 14 = .ok (.aload_n 2, 1) := by decide +kernel
theorem dX0_length_15 : decode cX0_length 15 = .ok (.getfield 34, 3) := by decide +kernel
theorem dX0_length_18 : decode cX0_length 18 = .ok (.astore_n 2, 1) := by decide +kernel
theorem dX0_length_19 : decode cX0_length 19 = .ok (.goto (-12), 3) := by decide +kernel
theorem dX0_length_22 : decode cX0_length 22 = .ok (.iload_n 1, 1) := by decide +kernel
theorem dX0_length_23 : decode cX0_length 23 = .ok (.ireturn, 1) := by decide +kernel
theorem dX0_layerAt_0 : decode cX0_layerAt 0 = .ok (.iload_n 1, 1) := by decide +kernel
theorem dX0_layerAt_1 : decode cX0_layerAt 1 = .ok (.ifCond .ge 7, 3) := by decide +kernel
theorem dX0_layerAt_4 : decode cX0_layerAt 4 = .ok (.aconst_null, 1) := by decide +kernel
theorem dX0_layerAt_5 : decode cX0_layerAt 5 = .ok (.goto 7, 3) := by decide +kernel
theorem dX0_layerAt_8 : decode cX0_layerAt 8 = .ok (.aload_n 0, 1) := by decide +kernel
theorem dX0_layerAt_9 : decode cX0_layerAt 9 = .ok (.getfield 7, 3) := by decide +kernel
theorem dX0_layerAt_12 : decode cX0_layerAt 12 = .ok (.astore_n 2, 1) := by decide +kernel
theorem dX0_layerAt_13 : decode cX0_layerAt 13 = .ok (.iconst 0, 1) := by decide +kernel
theorem dX0_layerAt_14 : decode cX0_layerAt 14 = .ok (.istore_n 3, 1) := by decide +kernel
theorem dX0_layerAt_15 : decode cX0_layerAt 15 = .ok (.iload_n 3, 1) := by decide +kernel
theorem dX0_layerAt_16 : decode cX0_layerAt 16 = .ok (.iload_n 1, 1) := by decide +kernel
theorem dX0_layerAt_17 : decode cX0_layerAt 17 = .ok (.if_icmp .ge 18, 3) := by decide +kernel
theorem dX0_layerAt_20 : decode cX0_layerAt 20 = .ok (.aload_n 2, 1) := by decide +kernel
theorem dX0_layerAt_21 : decode cX0_layerAt 21 = .ok (.ifnull 14, 3) := by decide +kernel
theorem dX0_layerAt_24 : decode cX0_layerAt 24 = .ok (.aload_n 2, 1) := by decide +kernel
theorem dX0_layerAt_25 : decode cX0_layerAt 25 = .ok (.getfield 34, 3) := by decide +kernel
theorem dX0_layerAt_28 : decode cX0_layerAt 28 = .ok (.astore_n 2, 1) := by decide +kernel
theorem dX0_layerAt_29 : decode cX0_layerAt 29 = .ok (.iinc 3 1, 3) := by decide +kernel
theorem dX0_layerAt_32 : decode cX0_layerAt 32 = .ok (.goto (-17), 3) := by decide +kernel
theorem dX0_layerAt_35 : decode cX0_layerAt 35 = .ok (.aload_n 2, 1) := by decide +kernel
theorem dX0_layerAt_36 : decode cX0_layerAt 36 = .ok (.areturn, 1) := by decide +kernel
theorem dX1_init_0 : decode cX1_init 0 = .ok (.aload_n 0, 1) := by decide +kernel
theorem dX1_init_1 : decode cX1_init 1 = .ok (.invokespecial 1, 3) := by decide +kernel
theorem dX1_init_4 : decode cX1_init 4 = .ok (.aload_n 0, 1) := by decide +kernel
theorem dX1_init_5 : decode cX1_init 5 = .ok (.iload_n 1, 1) := by decide +kernel
theorem dX1_init_6 : decode cX1_init 6 = .ok (.putfield 7, 3) := by decide +kernel
theorem dX1_init_9 : decode cX1_init 9 = .ok (.return_, 1) := by decide +kernel
theorem dX1_fill_0 : decode cX1_fill 0 = .ok (.aload_n 0, 1) := by decide +kernel
theorem dX1_fill_1 : decode cX1_fill 1 = .ok (.iload_n 1, 1) := by decide +kernel
theorem dX1_fill_2 : decode cX1_fill 2 = .ok (.putfield 13, 3) := by decide +kernel
theorem dX1_fill_5 : decode cX1_fill 5 = .ok (.aload_n 0, 1) := by decide +kernel
theorem dX1_fill_6 : decode cX1_fill 6 = .ok (.lload_n 2, 1) := by decide +kernel
theorem dX1_fill_7 : decode cX1_fill 7 = .ok (.putfield 16, 3) := by decide +kernel
theorem dX1_fill_10 : decode cX1_fill 10 = .ok (.aload_n 0, 1) := by decide +kernel
theorem dX1_fill_11 : decode cX1_fill 11 = .ok (.aload 4, 2) := by decide +kernel
theorem dX1_fill_13 : decode cX1_fill 13 = .ok (.putfield 20, 3) := by decide +kernel
theorem dX1_fill_16 : decode cX1_fill 16 = .ok (.return_, 1) := by decide +kernel
theorem dX1_take_0 : decode cX1_take 0 = .ok (.aload_n 0, 1) := by decide +kernel
theorem dX1_take_1 : decode cX1_take 1 = .ok (.getfield 13, 3) := by decide +kernel
theorem dX1_take_4 : decode cX1_take 4 = .ok (.ifCond .le 19, 3) := by decide +kernel
theorem dX1_take_7 : decode cX1_take 7 = .ok (.aload_n 0, 1) := by decide +kernel
theorem dX1_take_8 : decode cX1_take 8 = .ok (.getfield 16, 3) := by decide +kernel
theorem dX1_take_11 : decode cX1_take 11 = .ok (.iload_n 1, 1) := by decide +kernel
theorem dX1_take_12 : decode cX1_take 12 = .ok (.i2l, 1) := by decide +kernel
theorem dX1_take_13 : decode cX1_take 13 = .ok (.lmul, 1) := by decide +kernel
theorem dX1_take_14 : decode cX1_take 14 = .ok (.aload_n 0, 1) := by decide +kernel
theorem dX1_take_15 : decode cX1_take 15 = .ok (.getfield 13, 3) := by decide +kernel
theorem dX1_take_18 : decode cX1_take 18 = .ok (.i2l, 1) := by decide +kernel
theorem dX1_take_19 : decode cX1_take 19 = .ok (.ldiv, 1) := by decide +kernel
theorem dX1_take_20 : decode cX1_take 20 = .ok (.goto 4, 3) := by decide +kernel
theorem dX1_take_23 : decode cX1_take 23 = .ok (.lconst 0, 1) := by decide +kernel
theorem dX1_take_24 : decode cX1_take 24 = .ok (.lstore_n 2, 1) := by decide +kernel
theorem dX1_take_25 : decode cX1_take 25 = .ok (.aload_n 0, 1) := by decide +kernel
theorem dX1_take_26 : decode cX1_take 26 = .ok (.dup, 1) := by decide +kernel
theorem dX1_take_27 : decode cX1_take 27 = .ok (.getfield 13, 3) := by decide +kernel
theorem dX1_take_30 : decode cX1_take 30 = .ok (.iload_n 1, 1) := by decide +kernel
theorem dX1_take_31 : decode cX1_take 31 = .ok (.isub, 1) := by decide +kernel
theorem dX1_take_32 : decode cX1_take 32 = .ok (.putfield 13, 3) := by decide +kernel
theorem dX1_take_35 : decode cX1_take 35 = .ok (.aload_n 0, 1) := by decide +kernel
theorem dX1_take_36 : decode cX1_take 36 = .ok (.dup, 1) := by decide +kernel
theorem dX1_take_37 : decode cX1_take 37 = .ok (.getfield 16, 3) := by decide +kernel
theorem dX1_take_40 : decode cX1_take 40 = .ok (.lload_n 2, 1) := by decide +kernel
theorem dX1_take_41 : decode cX1_take 41 = .ok (.lsub, 1) := by decide +kernel
theorem dX1_take_42 : decode cX1_take 42 = .ok (.putfield 16, 3) := by decide +kernel
theorem dX1_take_45 : decode cX1_take 45 = .ok (.lload_n 2, 1) := by decide +kernel
theorem dX1_take_46 : decode cX1_take 46 = .ok (.lreturn, 1) := by decide +kernel
theorem dX2_init_0 : decode cX2_init 0 = .ok (.aload_n 0, 1) := by decide +kernel
theorem dX2_init_1 : decode cX2_init 1 = .ok (.invokespecial 1, 3) := by decide +kernel
theorem dX2_init_4 : decode cX2_init 4 = .ok (.return_, 1) := by decide +kernel
theorem dX2_insert_0 : decode cX2_insert 0 = .ok (.aconst_null, 1) := by decide +kernel
theorem dX2_insert_1 : decode cX2_insert 1 = .ok (.astore_n 2, 1) := by decide +kernel
theorem dX2_insert_2 : decode cX2_insert 2 = .ok (.aload_n 0, 1) := by decide +kernel
theorem dX2_insert_3 : decode cX2_insert 3 = .ok (.getfield 7, 3) := by decide +kernel
theorem dX2_insert_6 : decode cX2_insert 6 = .ok (.astore_n 3, 1) := by decide +kernel
theorem dX2_insert_7 : decode cX2_insert 7 = .ok (.aload_n 3, 1) := by decide +kernel
theorem dX2_insert_8 : decode cX2_insert 8 = .ok (.ifnull 24, 3) := by decide +kernel
theorem dX2_insert_11 : decode cX2_insert 11 = .ok (.aload_n 3, 1) := by decide +kernel
theorem dX2_insert_12 : decode cX2_insert 12 = .ok (.getfield 13, 3) := by decide +kernel
theorem dX2_insert_15 : decode cX2_insert 15 = .ok (.aload_n 1, 1) := by decide +kernel
theorem dX2_insert_16 : decode cX2_insert 16 = .ok (.getfield 13, 3) := by decide +kernel
theorem dX2_insert_19 : decode cX2_insert 19 = .ok (.if_icmp .gt 13, 3) := by decide +kernel
theorem dX2_insert_22 : decode cX2_insert 22 = .ok (.aload_n 3, 1) := by decide +kernel
theorem dX2_insert_23 : decode cX2_insert 23 = .ok (.astore_n 2, 1) := by decide +kernel
theorem dX2_insert_24 : decode cX2_insert 24 = .ok (.aload_n 3, 1) := by decide +kernel
theorem dX2_insert_25 : decode cX2_insert 25 = .ok (.getfield 19, 3) := by decide +kernel
theorem dX2_insert_28 : decode cX2_insert 28 = .ok (.astore_n 3, 1) := by decide +kernel
theorem dX2_insert_29 : decode cX2_insert 29 = .ok (.goto (-22), 3) := by decide +kernel
theorem dX2_insert_32 : decode cX2_insert 32 = .ok (.aload_n 2, 1) := by decide +kernel
theorem dX2_insert_33 : decode cX2_insert 33 = .ok (.ifnonnull 19, 3) := by decide +kernel
theorem dX2_insert_36 : decode cX2_insert 36 = .ok (.aload_n 1, 1) := by decide +kernel
theorem dX2_insert_37 : decode cX2_insert 37 = .ok (.aload_n 0, 1) := by decide +kernel
theorem dX2_insert_38 : decode cX2_insert 38 = .ok (.getfield 7, 3) := by decide +kernel
theorem dX2_insert_41 : decode cX2_insert 41 = .ok (.putfield 19, 3) := by decide +kernel
theorem dX2_insert_44 : decode cX2_insert 44 = .ok (.aload_n 0, 1) := by decide +kernel
theorem dX2_insert_45 : decode cX2_insert 45 = .ok (.aload_n 1, 1) := by decide +kernel
theorem dX2_insert_46 : decode cX2_insert 46 = .ok (.putfield 7, 3) := by decide +kernel
theorem dX2_insert_49 : decode cX2_insert 49 = .ok (.goto 16, 3) := by decide +kernel
theorem dX2_insert_52 : decode cX2_insert 52 = .ok (.aload_n 1, 1) := by decide +kernel
theorem dX2_insert_53 : decode cX2_insert 53 = .ok (.aload_n 2, 1) := by decide +kernel
theorem dX2_insert_54 : decode cX2_insert 54 = .ok (.getfield 19, 3) := by decide +kernel
theorem dX2_insert_57 : decode cX2_insert 57 = .ok (.putfield 19, 3) := by decide +kernel
theorem dX2_insert_60 : decode cX2_insert 60 = .ok (.aload_n 2, 1) := by decide +kernel
theorem dX2_insert_61 : decode cX2_insert 61 = .ok (.aload_n 1, 1) := by decide +kernel
theorem dX2_insert_62 : decode cX2_insert 62 = .ok (.putfield 19, 3) := by decide +kernel
theorem dX2_insert_65 : decode cX2_insert 65 = .ok (.aload_n 0, 1) := by decide +kernel
theorem dX2_insert_66 : decode cX2_insert 66 = .ok (.dup, 1) := by decide +kernel
theorem dX2_insert_67 : decode cX2_insert 67 = .ok (.getfield 22, 3) := by decide +kernel
theorem dX2_insert_70 : decode cX2_insert 70 = .ok (.iconst 1, 1) := by decide +kernel
theorem dX2_insert_71 : decode cX2_insert 71 = .ok (.iadd, 1) := by decide +kernel
theorem dX2_insert_72 : decode cX2_insert 72 = .ok (.putfield 22, 3) := by decide +kernel
theorem dX2_insert_75 : decode cX2_insert 75 = .ok (.return_, 1) := by decide +kernel
theorem dX2_remove_0 : decode cX2_remove 0 = .ok (.aconst_null, 1) := by decide +kernel
theorem dX2_remove_1 : decode cX2_remove 1 = .ok (.astore_n 2, 1) := by decide +kernel
theorem dX2_remove_2 : decode cX2_remove 2 = .ok (.aload_n 0, 1) := by decide +kernel
theorem dX2_remove_3 : decode cX2_remove 3 = .ok (.getfield 7, 3) := by decide +kernel
theorem dX2_remove_6 : decode cX2_remove 6 = .ok (.astore_n 3, 1) := by decide +kernel
theorem dX2_remove_7 : decode cX2_remove 7 = .ok (.aload_n 3, 1) := by decide +kernel
theorem dX2_remove_8 : decode cX2_remove 8 = .ok (.ifnull 18, 3) := by decide +kernel
theorem dX2_remove_11 : decode cX2_remove 11 = .ok (.aload_n 3, 1) := by decide +kernel
theorem dX2_remove_12 : decode cX2_remove 12 = .ok (.aload_n 1, 1) := by decide +kernel
theorem dX2_remove_13 : decode cX2_remove 13 = .ok (.if_acmp .eq 13, 3) := by decide +kernel
theorem dX2_remove_16 : decode cX2_remove 16 = .ok (.aload_n 3, 1) := by decide +kernel
theorem dX2_remove_17 : decode cX2_remove 17 = .ok (.astore_n 2, 1) := by decide +kernel
theorem dX2_remove_18 : decode cX2_remove 18 = .ok (.aload_n 3, 1) := by decide +kernel
theorem dX2_remove_19 : decode cX2_remove 19 = .ok (.getfield 19, 3) := by decide +kernel
theorem dX2_remove_22 : decode cX2_remove 22 = .ok (.astore_n 3, 1) := by decide +kernel
theorem dX2_remove_23 : decode cX2_remove 23 = .ok (.goto (-16), 3) := by decide +kernel
theorem dX2_remove_26 : decode cX2_remove 26 = .ok (.aload_n 2, 1) := by decide +kernel
theorem dX2_remove_27 : decode cX2_remove 27 = .ok (.ifnonnull 14, 3) := by decide +kernel
theorem dX2_remove_30 : decode cX2_remove 30 = .ok (.aload_n 0, 1) := by decide +kernel
theorem dX2_remove_31 : decode cX2_remove 31 = .ok (.aload_n 1, 1) := by decide +kernel
theorem dX2_remove_32 : decode cX2_remove 32 = .ok (.getfield 19, 3) := by decide +kernel
theorem dX2_remove_35 : decode cX2_remove 35 = .ok (.putfield 7, 3) := by decide +kernel
theorem dX2_remove_38 : decode cX2_remove 38 = .ok (.goto 11, 3) := by decide +kernel
theorem dX2_remove_41 : decode cX2_remove 41 = .ok (.aload_n 2, 1) := by decide +kernel
theorem dX2_remove_42 : decode cX2_remove 42 = .ok (.aload_n 1, 1) := by decide +kernel
theorem dX2_remove_43 : decode cX2_remove 43 = .ok (.getfield 19, 3) := by decide +kernel
theorem dX2_remove_46 : decode cX2_remove 46 = .ok (.putfield 19, 3) := by decide +kernel
theorem dX2_remove_49 : decode cX2_remove 49 = .ok (.aload_n 1, 1) := by decide +kernel
theorem dX2_remove_50 : decode cX2_remove 50 = .ok (.aconst_null, 1) := by decide +kernel
theorem dX2_remove_51 : decode cX2_remove 51 = .ok (.putfield 19, 3) := by decide +kernel
theorem dX2_remove_54 : decode cX2_remove 54 = .ok (.aload_n 0, 1) := by decide +kernel
theorem dX2_remove_55 : decode cX2_remove 55 = .ok (.dup, 1) := by decide +kernel
theorem dX2_remove_56 : decode cX2_remove 56 = .ok (.getfield 22, 3) := by decide +kernel
theorem dX2_remove_59 : decode cX2_remove 59 = .ok (.iconst 1, 1) := by decide +kernel
theorem dX2_remove_60 : decode cX2_remove 60 = .ok (.isub, 1) := by decide +kernel
theorem dX2_remove_61 : decode cX2_remove 61 = .ok (.putfield 22, 3) := by decide +kernel
theorem dX2_remove_64 : decode cX2_remove 64 = .ok (.return_, 1) := by decide +kernel
theorem dX2_place_0 : decode cX2_place 0 = .ok (.iconst 0, 1) := by decide +kernel
theorem dX2_place_1 : decode cX2_place 1 = .ok (.istore_n 2, 1) := by decide +kernel
theorem dX2_place_2 : decode cX2_place 2 = .ok (.aload_n 0, 1) := by decide +kernel
theorem dX2_place_3 : decode cX2_place 3 = .ok (.getfield 7, 3) := by decide +kernel
theorem dX2_place_6 : decode cX2_place 6 = .ok (.astore_n 3, 1) := by decide +kernel
theorem dX2_place_7 : decode cX2_place 7 = .ok (.aload_n 3, 1) := by decide +kernel
theorem dX2_place_8 : decode cX2_place 8 = .ok (.ifnull 19, 3) := by decide +kernel
theorem dX2_place_11 : decode cX2_place 11 = .ok (.aload_n 3, 1) := by decide +kernel
theorem dX2_place_12 : decode cX2_place 12 = .ok (.aload_n 1, 1) := by decide +kernel
theorem dX2_place_13 : decode cX2_place 13 = .ok (.if_acmp .eq 14, 3) := by decide +kernel
theorem dX2_place_16 : decode cX2_place 16 = .ok (.iinc 2 1, 3) := by decide +kernel
theorem dX2_place_19 : decode cX2_place 19 = .ok (.aload_n 3, 1) := by decide +kernel
theorem dX2_place_20 : decode cX2_place 20 = .ok (.getfield 19, 3) := by decide +kernel
theorem dX2_place_23 : decode cX2_place 23 = .ok (.astore_n 3, 1) := by decide +kernel
theorem dX2_place_24 : decode cX2_place 24 = .ok (.goto (-17), 3) := by decide +kernel
theorem dX2_place_27 : decode cX2_place 27 = .ok (.iload_n 2, 1) := by decide +kernel
theorem dX2_place_28 : decode cX2_place 28 = .ok (.ireturn, 1) := by decide +kernel
theorem dX2_units_0 : decode cX2_units 0 = .ok (.iconst 0, 1) := by decide +kernel
theorem dX2_units_1 : decode cX2_units 1 = .ok (.istore_n 3, 1) := by decide +kernel
theorem dX2_units_2 : decode cX2_units 2 = .ok (.aload_n 0, 1) := by decide +kernel
theorem dX2_units_3 : decode cX2_units 3 = .ok (.getfield 7, 3) := by decide +kernel
theorem dX2_units_6 : decode cX2_units 6 = .ok (.astore 4, 2) := by decide +kernel
theorem dX2_units_8 : decode cX2_units 8 = .ok (.aload 4, 2) := by decide +kernel
theorem dX2_units_10 : decode cX2_units 10 = .ok (.ifnull 39, 3) := by decide +kernel
theorem dX2_units_13 : decode cX2_units 13 = .ok (.aload 4, 2) := by decide +kernel
theorem dX2_units_15 : decode cX2_units 15 = .ok (.getfield 13, 3) := by decide +kernel
theorem dX2_units_18 : decode cX2_units 18 = .ok (.iload_n 2, 1) := by decide +kernel
theorem dX2_units_19 : decode cX2_units 19 = .ok (.if_icmp .gt 30, 3) := by decide +kernel
theorem dX2_units_22 : decode cX2_units 22 = .ok (.aload 4, 2) := by decide +kernel
theorem dX2_units_24 : decode cX2_units 24 = .ok (.getfield 25, 3) := by decide +kernel
theorem dX2_units_27 : decode cX2_units 27 = .ok (.iload_n 1, 1) := by decide +kernel
theorem dX2_units_28 : decode cX2_units 28 = .ok (.if_icmp .ne 11, 3) := by decide +kernel
theorem dX2_units_31 : decode cX2_units 31 = .ok (.iload_n 3, 1) := by decide +kernel
theorem dX2_units_32 : decode cX2_units 32 = .ok (.aload 4, 2) := by decide +kernel
theorem dX2_units_34 : decode cX2_units 34 = .ok (.invokevirtual 28, 3) := by decide +kernel
theorem dX2_units_37 : decode cX2_units 37 = .ok (.iadd, 1) := by decide +kernel
theorem dX2_units_38 : decode cX2_units 38 = .ok (.istore_n 3, 1) := by decide +kernel
theorem dX2_units_39 : decode cX2_units 39 = .ok (.aload 4, 2) := by decide +kernel
theorem dX2_units_41 : decode cX2_units 41 = .ok (.getfield 19, 3) := by decide +kernel
theorem dX2_units_44 : decode cX2_units 44 = .ok (.astore 4, 2) := by decide +kernel
theorem dX2_units_46 : decode cX2_units 46 = .ok (.goto (-38), 3) := by decide +kernel
theorem dX2_units_49 : decode cX2_units 49 = .ok (.iload_n 3, 1) := by decide +kernel
theorem dX2_units_50 : decode cX2_units 50 = .ok (.ireturn, 1) := by decide +kernel
theorem dX2_spare_0 : decode cX2_spare 0 = .ok (.iconst 0, 1) := by decide +kernel
theorem dX2_spare_1 : decode cX2_spare 1 = .ok (.istore 4, 2) := by decide +kernel
theorem dX2_spare_3 : decode cX2_spare 3 = .ok (.iconst 0, 1) := by decide +kernel
theorem dX2_spare_4 : decode cX2_spare 4 = .ok (.istore 5, 2) := by decide +kernel
theorem dX2_spare_6 : decode cX2_spare 6 = .ok (.aload_n 0, 1) := by decide +kernel
theorem dX2_spare_7 : decode cX2_spare 7 = .ok (.getfield 7, 3) := by decide +kernel
theorem dX2_spare_10 : decode cX2_spare 10 = .ok (.astore 6, 2) := by decide +kernel
theorem dX2_spare_12 : decode cX2_spare 12 = .ok (.aload 6, 2) := by decide +kernel
theorem dX2_spare_14 : decode cX2_spare 14 = .ok (.ifnull 83, 3) := by decide +kernel
theorem dX2_spare_17 : decode cX2_spare 17 = .ok (.aload 6, 2) := by decide +kernel
theorem dX2_spare_19 : decode cX2_spare 19 = .ok (.getfield 25, 3) := by decide +kernel
theorem dX2_spare_22 : decode cX2_spare 22 = .ok (.iload_n 1, 1) := by decide +kernel
theorem dX2_spare_23 : decode cX2_spare 23 = .ok (.if_icmp .ne 64, 3) := by decide +kernel
theorem dX2_spare_26 : decode cX2_spare 26 = .ok (.aload 6, 2) := by decide +kernel
theorem dX2_spare_28 : decode cX2_spare 28 = .ok (.iload_n 2, 1) := by decide +kernel
theorem dX2_spare_29 : decode cX2_spare 29 = .ok (.iload_n 3, 1) := by decide +kernel
theorem dX2_spare_30 : decode cX2_spare 30 = .ok (.invokevirtual 32, 3) := by decide +kernel
theorem dX2_spare_33 : decode cX2_spare 33 = .ok (.istore 7, 2) := by decide +kernel
theorem dX2_spare_35 : decode cX2_spare 35 = .ok (.iload 7, 2) := by decide +kernel
theorem dX2_spare_37 : decode cX2_spare 37 = .ok (.ifCond .eq 26, 3) := by decide +kernel
theorem dX2_spare_40 : decode cX2_spare 40 = .ok (.aload 6, 2) := by decide +kernel
theorem dX2_spare_42 : decode cX2_spare 42 = .ok (.invokevirtual 36, 3) := by decide +kernel
theorem dX2_spare_45 : decode cX2_spare 45 = .ok (.ifCond .eq 18, 3) := by decide +kernel
theorem dX2_spare_48 : decode cX2_spare 48 = .ok (.iload 5, 2) := by decide +kernel
theorem dX2_spare_50 : decode cX2_spare 50 = .ok (.iload 4, 2) := by decide +kernel
theorem dX2_spare_52 : decode cX2_spare 52 = .ok (.aload 6, 2) := by decide +kernel
theorem dX2_spare_54 : decode cX2_spare 54 = .ok (.getfield 40, 3) := by decide +kernel
theorem dX2_spare_57 : decode cX2_spare 57 = .ok (.isub, 1) := by decide +kernel
theorem dX2_spare_58 : decode cX2_spare 58 = .ok (.invokestatic 43, 3) := by decide +kernel
theorem dX2_spare_61 : decode cX2_spare 61 = .ok (.istore 5, 2) := by decide +kernel
theorem dX2_spare_63 : decode cX2_spare 63 = .ok (.iload 4, 2) := by decide +kernel
theorem dX2_spare_65 : decode cX2_spare 65 = .ok (.aload 6, 2) := by decide +kernel
theorem dX2_spare_67 : decode cX2_spare 67 = .ok (.invokevirtual 28, 3) := by decide +kernel
theorem dX2_spare_70 : decode cX2_spare 70 = .ok (.iadd, 1) := by decide +kernel
theorem dX2_spare_71 : decode cX2_spare 71 = .ok (.istore 4, 2) := by decide +kernel
theorem dX2_spare_73 : decode cX2_spare 73 = .ok (.iload 7, 2) := by decide +kernel
theorem dX2_spare_75 : decode cX2_spare 75 = .ok (.ifCond .eq 8, 3) := by decide +kernel
theorem dX2_spare_78 : decode cX2_spare 78 = .ok (.iload 5, 2) := by decide +kernel
theorem dX2_spare_80 : decode cX2_spare 80 = .ok (.goto 5, 3) := by decide +kernel
theorem dX2_spare_83 : decode cX2_spare 83 = .ok (.iload 4, 2) := by decide +kernel
theorem dX2_spare_85 : decode cX2_spare 85 = .ok (.istore 5, 2) := by decide +kernel
theorem dX2_spare_87 : decode cX2_spare 87 = .ok (.aload 6, 2) := by decide +kernel
theorem dX2_spare_89 : decode cX2_spare 89 = .ok (.getfield 19, 3) := by decide +kernel
theorem dX2_spare_92 : decode cX2_spare 92 = .ok (.astore 6, 2) := by decide +kernel
theorem dX2_spare_94 : decode cX2_spare 94 = .ok (.goto (-82), 3) := by decide +kernel
theorem dX2_spare_97 : decode cX2_spare 97 = .ok (.iload 5, 2) := by decide +kernel
theorem dX2_spare_99 : decode cX2_spare 99 = .ok (.ireturn, 1) := by decide +kernel
theorem dX2_spreadsOver_0 : decode cX2_spreadsOver 0 = .ok (.aload_n 0, 1) := by decide +kernel
theorem dX2_spreadsOver_1 : decode cX2_spreadsOver 1 = .ok (.getfield 7, 3) := by decide +kernel
theorem dX2_spreadsOver_4 : decode cX2_spreadsOver 4 = .ok (.astore_n 2, 1) := by decide +kernel
theorem dX2_spreadsOver_5 : decode cX2_spreadsOver 5 = .ok (.aload_n 2, 1) := by decide +kernel
theorem dX2_spreadsOver_6 : decode cX2_spreadsOver 6 = .ok (.ifnull 19, 3) := by decide +kernel
theorem dX2_spreadsOver_9 : decode cX2_spreadsOver 9 = .ok (.aload_n 2, 1) := by decide +kernel
theorem dX2_spreadsOver_10 : decode cX2_spreadsOver 10 = .ok (.aload_n 1, 1) := by decide +kernel
theorem dX2_spreadsOver_11 : decode cX2_spreadsOver 11 = .ok (.invokevirtual 49, 3) := by decide +kernel
theorem dX2_spreadsOver_14 : decode cX2_spreadsOver 14 = .ok (.ifnonnull 11, 3) := by decide +kernel
theorem dX2_spreadsOver_17 : decode cX2_spreadsOver 17 = .ok (.aload_n 2, 1) := by decide +kernel
theorem dX2_spreadsOver_18 : decode cX2_spreadsOver 18 = .ok (.getfield 19, 3) := by decide +kernel
theorem dX2_spreadsOver_21 : decode cX2_spreadsOver 21 = .ok (.astore_n 2, 1) := by decide +kernel
theorem dX2_spreadsOver_22 : decode cX2_spreadsOver 22 = .ok (.goto (-17), 3) := by decide +kernel
theorem dX2_spreadsOver_25 : decode cX2_spreadsOver 25 = .ok (.aload_n 2, 1) := by decide +kernel
theorem dX2_spreadsOver_26 : decode cX2_spreadsOver 26 = .ok (.ifnull 7, 3) := by decide +kernel
theorem dX2_spreadsOver_29 : decode cX2_spreadsOver 29 = .ok (.iconst 1, 1) := by decide +kernel
theorem dX2_spreadsOver_30 : decode cX2_spreadsOver 30 = .ok (.goto 4, 3) := by decide +kernel
theorem dX2_spreadsOver_33 : decode cX2_spreadsOver 33 = .ok (.iconst 0, 1) := by decide +kernel
theorem dX2_spreadsOver_34 : decode cX2_spreadsOver 34 = .ok (.ireturn, 1) := by decide +kernel
theorem dX3_init_0 : decode cX3_init 0 = .ok (.aload_n 0, 1) := by decide +kernel
theorem dX3_init_1 : decode cX3_init 1 = .ok (.invokespecial 3, 3) := by decide +kernel
theorem dX3_init_4 : decode cX3_init 4 = .ok (.aload_n 0, 1) := by decide +kernel
theorem dX3_init_5 : decode cX3_init 5 = .ok (.iload_n 1, 1) := by decide +kernel
theorem dX3_init_6 : decode cX3_init 6 = .ok (.putfield 9, 3) := by decide +kernel
theorem dX3_init_9 : decode cX3_init 9 = .ok (.aload_n 0, 1) := by decide +kernel
theorem dX3_init_10 : decode cX3_init 10 = .ok (.iload_n 2, 1) := by decide +kernel
theorem dX3_init_11 : decode cX3_init 11 = .ok (.putfield 15, 3) := by decide +kernel
theorem dX3_init_14 : decode cX3_init 14 = .ok (.aload_n 0, 1) := by decide +kernel
theorem dX3_init_15 : decode cX3_init 15 = .ok (.iload_n 3, 1) := by decide +kernel
theorem dX3_init_16 : decode cX3_init 16 = .ok (.putfield 18, 3) := by decide +kernel
theorem dX3_init_19 : decode cX3_init 19 = .ok (.aload_n 0, 1) := by decide +kernel
theorem dX3_init_20 : decode cX3_init 20 = .ok (.iload 4, 2) := by decide +kernel
theorem dX3_init_22 : decode cX3_init 22 = .ok (.putfield 21, 3) := by decide +kernel
theorem dX3_init_25 : decode cX3_init 25 = .ok (.aload_n 0, 1) := by decide +kernel
theorem dX3_init_26 : decode cX3_init 26 = .ok (.iload 5, 2) := by decide +kernel
theorem dX3_init_28 : decode cX3_init 28 = .ok (.putfield 24, 3) := by decide +kernel
theorem dX3_init_31 : decode cX3_init 31 = .ok (.aload_n 0, 1) := by decide +kernel
theorem dX3_init_32 : decode cX3_init 32 = .ok (.iload 6, 2) := by decide +kernel
theorem dX3_init_34 : decode cX3_init 34 = .ok (.putfield 27, 3) := by decide +kernel
theorem dX3_init_37 : decode cX3_init 37 = .ok (.aload_n 0, 1) := by decide +kernel
theorem dX3_init_38 : decode cX3_init 38 = .ok (.new 30, 3) := by decide +kernel
theorem dX3_init_41 : decode cX3_init 41 = .ok (.dup, 1) := by decide +kernel
theorem dX3_init_42 : decode cX3_init 42 = .ok (.iload_n 1, 1) := by decide +kernel
theorem dX3_init_43 : decode cX3_init 43 = .ok (.invokespecial 32, 3) := by decide +kernel
theorem dX3_init_46 : decode cX3_init 46 = .ok (.putfield 35, 3) := by decide +kernel
theorem dX3_init_49 : decode cX3_init 49 = .ok (.return_, 1) := by decide +kernel
theorem dX3_change_0 : decode cX3_change 0 = .ok (.aload_n 0, 1) := by decide +kernel
theorem dX3_change_1 : decode cX3_change 1 = .ok (.getfield 15, 3) := by decide +kernel
theorem dX3_change_4 : decode cX3_change 4 = .ok (.ifCond .ne 8, 3) := by decide +kernel
theorem dX3_change_7 : decode cX3_change 7 = .ok (.aload_n 0, 1) := by decide +kernel
theorem dX3_change_8 : decode cX3_change 8 = .ok (.getfield 24, 3) := by decide +kernel
theorem dX3_change_11 : decode cX3_change 11 = .ok (.ireturn, 1) := by decide +kernel
theorem dX3_change_12 : decode cX3_change 12 = .ok (.aload_n 0, 1) := by decide +kernel
theorem dX3_change_13 : decode cX3_change 13 = .ok (.getfield 15, 3) := by decide +kernel
theorem dX3_change_16 : decode cX3_change 16 = .ok (.iconst 1, 1) := by decide +kernel
theorem dX3_change_17 : decode cX3_change 17 = .ok (.if_icmp .ne 11, 3) := by decide +kernel
theorem dX3_change_20 : decode cX3_change 20 = .ok (.aload_n 0, 1) := by decide +kernel
theorem dX3_change_21 : decode cX3_change 21 = .ok (.getfield 24, 3) := by decide +kernel
theorem dX3_change_24 : decode cX3_change 24 = .ok (.ineg, 1) := by decide +kernel
theorem dX3_change_25 : decode cX3_change 25 = .ok (.goto 4, 3) := by decide +kernel
theorem dX3_change_28 : decode cX3_change 28 = .ok (.iconst 0, 1) := by decide +kernel
theorem dX3_change_29 : decode cX3_change 29 = .ok (.ireturn, 1) := by decide +kernel
theorem dX3_needsUnits_0 : decode cX3_needsUnits 0 = .ok (.aload_n 0, 1) := by decide +kernel
theorem dX3_needsUnits_1 : decode cX3_needsUnits 1 = .ok (.getfield 15, 3) := by decide +kernel
theorem dX3_needsUnits_4 : decode cX3_needsUnits 4 = .ok (.iconst 1, 1) := by decide +kernel
theorem dX3_needsUnits_5 : decode cX3_needsUnits 5 = .ok (.if_icmp .eq 11, 3) := by decide +kernel
theorem dX3_needsUnits_8 : decode cX3_needsUnits 8 = .ok (.aload_n 0, 1) := by decide +kernel
theorem dX3_needsUnits_9 : decode cX3_needsUnits 9 = .ok (.getfield 15, 3) := by decide +kernel
theorem dX3_needsUnits_12 : decode cX3_needsUnits 12 = .ok (.iconst 2, 1) := by decide +kernel
theorem dX3_needsUnits_13 : decode cX3_needsUnits 13 = .ok (.if_icmp .ne 7, 3) := by decide +kernel
theorem dX3_needsUnits_16 : decode cX3_needsUnits 16 = .ok (.iconst 1, 1) := by decide +kernel
theorem dX3_needsUnits_17 : decode cX3_needsUnits 17 = .ok (.goto 4, 3) := by decide +kernel
theorem dX3_needsUnits_20 : decode cX3_needsUnits 20 = .ok (.iconst 0, 1) := by decide +kernel
theorem dX3_needsUnits_21 : decode cX3_needsUnits 21 = .ok (.ireturn, 1) := by decide +kernel
theorem dX3_isBehind_0 : decode cX3_isBehind 0 = .ok (.aload_n 0, 1) := by decide +kernel
theorem dX3_isBehind_1 : decode cX3_isBehind 1 = .ok (.getfield 18, 3) := by decide +kernel
theorem dX3_isBehind_4 : decode cX3_isBehind 4 = .ok (.iload_n 1, 1) := by decide +kernel
theorem dX3_isBehind_5 : decode cX3_isBehind 5 = .ok (.if_icmp .gt 19, 3) := by decide +kernel
theorem dX3_isBehind_8 : decode cX3_isBehind 8 = .ok (.aload_n 0, 1) := by decide +kernel
theorem dX3_isBehind_9 : decode cX3_isBehind 9 = .ok (.getfield 18, 3) := by decide +kernel
theorem dX3_isBehind_12 : decode cX3_isBehind 12 = .ok (.iload_n 1, 1) := by decide +kernel
theorem dX3_isBehind_13 : decode cX3_isBehind 13 = .ok (.if_icmp .ne 15, 3) := by decide +kernel
theorem dX3_isBehind_16 : decode cX3_isBehind 16 = .ok (.aload_n 0, 1) := by decide +kernel
theorem dX3_isBehind_17 : decode cX3_isBehind 17 = .ok (.getfield 9, 3) := by decide +kernel
theorem dX3_isBehind_20 : decode cX3_isBehind 20 = .ok (.iload_n 2, 1) := by decide +kernel
theorem dX3_isBehind_21 : decode cX3_isBehind 21 = .ok (.if_icmp .le 7, 3) := by decide +kernel
theorem dX3_isBehind_24 : decode cX3_isBehind 24 = .ok (.iconst 1, 1) := by decide +kernel
theorem dX3_isBehind_25 : decode cX3_isBehind 25 = .ok (.goto 4, 3) := by decide +kernel
theorem dX3_isBehind_28 : decode cX3_isBehind 28 = .ok (.iconst 0, 1) := by decide +kernel
theorem dX3_isBehind_29 : decode cX3_isBehind 29 = .ok (.ireturn, 1) := by decide +kernel
theorem dX3_shareOf_0 : decode cX3_shareOf 0 = .ok (.aload_n 0, 1) := by decide +kernel
theorem dX3_shareOf_1 : decode cX3_shareOf 1 = .ok (.getfield 39, 3) := by decide +kernel
theorem dX3_shareOf_4 : decode cX3_shareOf 4 = .ok (.astore_n 2, 1) := by decide +kernel
theorem dX3_shareOf_5 : decode cX3_shareOf 5 = .ok (.aload_n 2, 1) := by decide +kernel
theorem dX3_shareOf_6 : decode cX3_shareOf 6 = .ok (.ifnull 19, 3) := by decide +kernel
theorem dX3_shareOf_9 : decode cX3_shareOf 9 = .ok (.aload_n 2, 1) := by decide +kernel
theorem dX3_shareOf_10 : decode cX3_shareOf 10 = .ok (.getfield 43, 3) := by decide +kernel
theorem dX3_shareOf_13 : decode cX3_shareOf 13 = .ok (.aload_n 1, 1) := by decide +kernel
theorem dX3_shareOf_14 : decode cX3_shareOf 14 = .ok (.if_acmp .eq 11, 3) := by decide +kernel
theorem dX3_shareOf_17 : decode cX3_shareOf 17 = .ok (.aload_n 2, 1) := by decide +kernel
theorem dX3_shareOf_18 : decode cX3_shareOf 18 = .ok (.getfield 49, 3) := by decide +kernel
theorem dX3_shareOf_21 : decode cX3_shareOf 21 = .ok (.astore_n 2, 1) := by decide +kernel
theorem dX3_shareOf_22 : decode cX3_shareOf 22 = .ok (.goto (-17), 3) := by decide +kernel
theorem dX3_shareOf_25 : decode cX3_shareOf 25 = .ok (.aload_n 2, 1) := by decide +kernel
theorem dX3_shareOf_26 : decode cX3_shareOf 26 = .ok (.areturn, 1) := by decide +kernel
theorem dX4_init_0 : decode cX4_init 0 = .ok (.aload_n 0, 1) := by decide +kernel
theorem dX4_init_1 : decode cX4_init 1 = .ok (.invokespecial 1, 3) := by decide +kernel
theorem dX4_init_4 : decode cX4_init 4 = .ok (.return_, 1) := by decide +kernel
theorem dX4_empty_0 : decode cX4_empty 0 = .ok (.aload_n 0, 1) := by decide +kernel
theorem dX4_empty_1 : decode cX4_empty 1 = .ok (.lconst 0, 1) := by decide +kernel
theorem dX4_empty_2 : decode cX4_empty 2 = .ok (.putfield 7, 3) := by decide +kernel
theorem dX4_empty_5 : decode cX4_empty 5 = .ok (.return_, 1) := by decide +kernel
theorem dX4_bring_0 : decode cX4_bring 0 = .ok (.aload_n 0, 1) := by decide +kernel
theorem dX4_bring_1 : decode cX4_bring 1 = .ok (.dup, 1) := by decide +kernel
theorem dX4_bring_2 : decode cX4_bring 2 = .ok (.getfield 7, 3) := by decide +kernel
theorem dX4_bring_5 : decode cX4_bring 5 = .ok (.aload_n 1, 1) := by decide +kernel
theorem dX4_bring_6 : decode cX4_bring 6 = .ok (.getfield 13, 3) := by decide +kernel
theorem dX4_bring_9 : decode cX4_bring 9 = .ok (.i2l, 1) := by decide +kernel
theorem dX4_bring_10 : decode cX4_bring 10 = .ok (.ladd, 1) := by decide +kernel
theorem dX4_bring_11 : decode cX4_bring 11 = .ok (.putfield 7, 3) := by decide +kernel
theorem dX4_bring_14 : decode cX4_bring 14 = .ok (.return_, 1) := by decide +kernel
theorem dX4_take_0 : decode cX4_take 0 = .ok (.aload_n 0, 1) := by decide +kernel
theorem dX4_take_1 : decode cX4_take 1 = .ok (.getfield 19, 3) := by decide +kernel
theorem dX4_take_4 : decode cX4_take 4 = .ok (.ifCond .le 19, 3) := by decide +kernel
theorem dX4_take_7 : decode cX4_take 7 = .ok (.aload_n 0, 1) := by decide +kernel
theorem dX4_take_8 : decode cX4_take 8 = .ok (.getfield 7, 3) := by decide +kernel
theorem dX4_take_11 : decode cX4_take 11 = .ok (.iload_n 1, 1) := by decide +kernel
theorem dX4_take_12 : decode cX4_take 12 = .ok (.i2l, 1) := by decide +kernel
theorem dX4_take_13 : decode cX4_take 13 = .ok (.lmul, 1) := by decide +kernel
theorem dX4_take_14 : decode cX4_take 14 = .ok (.aload_n 0, 1) := by decide +kernel
theorem dX4_take_15 : decode cX4_take 15 = .ok (.getfield 19, 3) := by decide +kernel
theorem dX4_take_18 : decode cX4_take 18 = .ok (.i2l, 1) := by decide +kernel
theorem dX4_take_19 : decode cX4_take 19 = .ok (.ldiv, 1) := by decide +kernel
theorem dX4_take_20 : decode cX4_take 20 = .ok (.goto 4, 3) := by decide +kernel
theorem dX4_take_23 : decode cX4_take 23 = .ok (.lconst 0, 1) := by decide +kernel
theorem dX4_take_24 : decode cX4_take 24 = .ok (.lstore_n 2, 1) := by decide +kernel
theorem dX4_take_25 : decode cX4_take 25 = .ok (.aload_n 0, 1) := by decide +kernel
theorem dX4_take_26 : decode cX4_take 26 = .ok (.dup, 1) := by decide +kernel
theorem dX4_take_27 : decode cX4_take 27 = .ok (.getfield 7, 3) := by decide +kernel
theorem dX4_take_30 : decode cX4_take 30 = .ok (.lload_n 2, 1) := by decide +kernel
theorem dX4_take_31 : decode cX4_take 31 = .ok (.lsub, 1) := by decide +kernel
theorem dX4_take_32 : decode cX4_take 32 = .ok (.putfield 7, 3) := by decide +kernel
theorem dX4_take_35 : decode cX4_take 35 = .ok (.lload_n 2, 1) := by decide +kernel
theorem dX4_take_36 : decode cX4_take 36 = .ok (.lreturn, 1) := by decide +kernel
theorem dX4_bringBack_0 : decode cX4_bringBack 0 = .ok (.aload_n 0, 1) := by decide +kernel
theorem dX4_bringBack_1 : decode cX4_bringBack 1 = .ok (.dup, 1) := by decide +kernel
theorem dX4_bringBack_2 : decode cX4_bringBack 2 = .ok (.getfield 7, 3) := by decide +kernel
theorem dX4_bringBack_5 : decode cX4_bringBack 5 = .ok (.aload_n 1, 1) := by decide +kernel
theorem dX4_bringBack_6 : decode cX4_bringBack 6 = .ok (.getfield 13, 3) := by decide +kernel
theorem dX4_bringBack_9 : decode cX4_bringBack 9 = .ok (.i2l, 1) := by decide +kernel
theorem dX4_bringBack_10 : decode cX4_bringBack 10 = .ok (.ladd, 1) := by decide +kernel
theorem dX4_bringBack_11 : decode cX4_bringBack 11 = .ok (.putfield 7, 3) := by decide +kernel
theorem dX4_bringBack_14 : decode cX4_bringBack 14 = .ok (.return_, 1) := by decide +kernel
theorem dX4_absorb_0 : decode cX4_absorb 0 = .ok (.aload_n 1, 1) := by decide +kernel
theorem dX4_absorb_1 : decode cX4_absorb 1 = .ok (.iload_n 2, 1) := by decide +kernel
theorem dX4_absorb_2 : decode cX4_absorb 2 = .ok (.aload_n 0, 1) := by decide +kernel
theorem dX4_absorb_3 : decode cX4_absorb 3 = .ok (.getfield 19, 3) := by decide +kernel
theorem dX4_absorb_6 : decode cX4_absorb 6 = .ok (.aload_n 1, 1) := by decide +kernel
theorem dX4_absorb_7 : decode cX4_absorb 7 = .ok (.getfield 22, 3) := by decide +kernel
theorem dX4_absorb_10 : decode cX4_absorb 10 = .ok (.invokestatic 25, 3) := by decide +kernel
theorem dX4_absorb_13 : decode cX4_absorb 13 = .ok (.invokestatic 31, 3) := by decide +kernel
theorem dX4_absorb_16 : decode cX4_absorb 16 = .ok (.lstore_n 3, 1) := by decide +kernel
theorem dX4_absorb_17 : decode cX4_absorb 17 = .ok (.aload_n 0, 1) := by decide +kernel
theorem dX4_absorb_18 : decode cX4_absorb 18 = .ok (.dup, 1) := by decide +kernel
theorem dX4_absorb_19 : decode cX4_absorb 19 = .ok (.getfield 7, 3) := by decide +kernel
theorem dX4_absorb_22 : decode cX4_absorb 22 = .ok (.lload_n 3, 1) := by decide +kernel
theorem dX4_absorb_23 : decode cX4_absorb 23 = .ok (.ladd, 1) := by decide +kernel
theorem dX4_absorb_24 : decode cX4_absorb 24 = .ok (.putfield 7, 3) := by decide +kernel
theorem dX4_absorb_27 : decode cX4_absorb 27 = .ok (.lload_n 3, 1) := by decide +kernel
theorem dX4_absorb_28 : decode cX4_absorb 28 = .ok (.lreturn, 1) := by decide +kernel
theorem dX4_worth_0 : decode cX4_worth 0 = .ok (.aload_n 0, 1) := by decide +kernel
theorem dX4_worth_1 : decode cX4_worth 1 = .ok (.getfield 7, 3) := by decide +kernel
theorem dX4_worth_4 : decode cX4_worth 4 = .ok (.lreturn, 1) := by decide +kernel
theorem dX5_init_0 : decode cX5_init 0 = .ok (.aload_n 0, 1) := by decide +kernel
theorem dX5_init_1 : decode cX5_init 1 = .ok (.invokespecial 1, 3) := by decide +kernel
theorem dX5_init_4 : decode cX5_init 4 = .ok (.aload_n 0, 1) := by decide +kernel
theorem dX5_init_5 : decode cX5_init 5 = .ok (.aload_n 1, 1) := by decide +kernel
theorem dX5_init_6 : decode cX5_init 6 = .ok (.putfield 7, 3) := by decide +kernel
theorem dX5_init_9 : decode cX5_init 9 = .ok (.aload_n 0, 1) := by decide +kernel
theorem dX5_init_10 : decode cX5_init 10 = .ok (.iload_n 2, 1) := by decide +kernel
theorem dX5_init_11 : decode cX5_init 11 = .ok (.putfield 13, 3) := by decide +kernel
theorem dX5_init_14 : decode cX5_init 14 = .ok (.aload_n 0, 1) := by decide +kernel
theorem dX5_init_15 : decode cX5_init 15 = .ok (.lload_n 3, 1) := by decide +kernel
theorem dX5_init_16 : decode cX5_init 16 = .ok (.putfield 17, 3) := by decide +kernel
theorem dX5_init_19 : decode cX5_init 19 = .ok (.aload_n 0, 1) := by decide +kernel
theorem dX5_init_20 : decode cX5_init 20 = .ok (.aload 5, 2) := by decide +kernel
theorem dX5_init_22 : decode cX5_init 22 = .ok (.putfield 21, 3) := by decide +kernel
theorem dX5_init_25 : decode cX5_init 25 = .ok (.return_, 1) := by decide +kernel
theorem dX6_init_0 : decode cX6_init 0 = .ok (.aload_n 0, 1) := by decide +kernel
theorem dX6_init_1 : decode cX6_init 1 = .ok (.invokespecial 3, 3) := by decide +kernel
theorem dX6_init_4 : decode cX6_init 4 = .ok (.return_, 1) := by decide +kernel
theorem dX6_replay_0 : decode cX6_replay 0 = .ok (.aload_n 0, 1) := by decide +kernel
theorem dX6_replay_1 : decode cX6_replay 1 = .ok (.iconst 0, 1) := by decide +kernel
theorem dX6_replay_2 : decode cX6_replay 2 = .ok (.putfield 9, 3) := by decide +kernel
theorem dX6_replay_5 : decode cX6_replay 5 = .ok (.aload_n 0, 1) := by decide +kernel
theorem dX6_replay_6 : decode cX6_replay 6 = .ok (.lconst 0, 1) := by decide +kernel
theorem dX6_replay_7 : decode cX6_replay 7 = .ok (.putfield 15, 3) := by decide +kernel
theorem dX6_replay_10 : decode cX6_replay 10 = .ok (.aload_n 0, 1) := by decide +kernel
theorem dX6_replay_11 : decode cX6_replay 11 = .ok (.lconst 0, 1) := by decide +kernel
theorem dX6_replay_12 : decode cX6_replay 12 = .ok (.putfield 19, 3) := by decide +kernel
theorem dX6_replay_15 : decode cX6_replay 15 = .ok (.aload_n 0, 1) := by decide +kernel
theorem dX6_replay_16 : decode cX6_replay 16 = .ok (.lconst 0, 1) := by decide +kernel
theorem dX6_replay_17 : decode cX6_replay 17 = .ok (.putfield 22, 3) := by decide +kernel
theorem dX6_replay_20 : decode cX6_replay 20 = .ok (.aload_n 0, 1) := by decide +kernel
theorem dX6_replay_21 : decode cX6_replay 21 = .ok (.lconst 0, 1) := by decide +kernel
theorem dX6_replay_22 : decode cX6_replay 22 = .ok (.putfield 25, 3) := by decide +kernel
theorem dX6_replay_25 : decode cX6_replay 25 = .ok (.aload_n 0, 1) := by decide +kernel
theorem dX6_replay_26 : decode cX6_replay 26 = .ok (.invokevirtual 28, 3) := by decide +kernel
theorem dX6_replay_29 : decode cX6_replay 29 = .ok (.aload_n 1, 1) := by decide +kernel
theorem dX6_replay_30 : decode cX6_replay 30 = .ok (.astore 4, 2) := by decide +kernel
theorem dX6_replay_32 : decode cX6_replay 32 = .ok (.aload 4, 2) := by decide +kernel
theorem dX6_replay_34 : decode cX6_replay 34 = .ok (.ifnull 56, 3) := by decide +kernel
theorem dX6_replay_37 : decode cX6_replay 37 = .ok (.aload 4, 2) := by decide +kernel
theorem dX6_replay_39 : decode cX6_replay 39 = .ok (.getfield 31, 3) := by decide +kernel
theorem dX6_replay_42 : decode cX6_replay 42 = .ok (.iload_n 3, 1) := by decide +kernel
theorem dX6_replay_43 : decode cX6_replay 43 = .ok (.if_icmp .gt 47, 3) := by decide +kernel
theorem dX6_replay_46 : decode cX6_replay 46 = .ok (.aload 4, 2) := by decide +kernel
theorem dX6_replay_48 : decode cX6_replay 48 = .ok (.getfield 36, 3) := by decide +kernel
theorem dX6_replay_51 : decode cX6_replay 51 = .ok (.iconst 3, 1) := by decide +kernel
theorem dX6_replay_52 : decode cX6_replay 52 = .ok (.if_icmp .ne 13, 3) := by decide +kernel
theorem dX6_replay_55 : decode cX6_replay 55 = .ok (.aload_n 0, 1) := by decide +kernel
theorem dX6_replay_56 : decode cX6_replay 56 = .ok (.aload 4, 2) := by decide +kernel
theorem dX6_replay_58 : decode cX6_replay 58 = .ok (.iload_n 2, 1) := by decide +kernel
theorem dX6_replay_59 : decode cX6_replay 59 = .ok (.invokevirtual 39, 3) := by decide +kernel
theorem dX6_replay_62 : decode cX6_replay 62 = .ok (.goto 18, 3) := by decide +kernel
theorem dX6_replay_65 : decode cX6_replay 65 = .ok (.aload 4, 2) := by decide +kernel
theorem dX6_replay_67 : decode cX6_replay 67 = .ok (.getfield 43, 3) := by decide +kernel
theorem dX6_replay_70 : decode cX6_replay 70 = .ok (.iload_n 2, 1) := by decide +kernel
theorem dX6_replay_71 : decode cX6_replay 71 = .ok (.if_icmp .ne 9, 3) := by decide +kernel
theorem dX6_replay_74 : decode cX6_replay 74 = .ok (.aload_n 0, 1) := by decide +kernel
theorem dX6_replay_75 : decode cX6_replay 75 = .ok (.aload 4, 2) := by decide +kernel
theorem dX6_replay_77 : decode cX6_replay 77 = .ok (.invokevirtual 46, 3) := by decide +kernel
theorem dX6_replay_80 : decode cX6_replay 80 = .ok (.aload 4, 2) := by decide +kernel
theorem dX6_replay_82 : decode cX6_replay 82 = .ok (.getfield 50, 3) := by decide +kernel
theorem dX6_replay_85 : decode cX6_replay 85 = .ok (.astore 4, 2) := by decide +kernel
theorem dX6_replay_87 : decode cX6_replay 87 = .ok (.goto (-55), 3) := by decide +kernel
theorem dX6_replay_90 : decode cX6_replay 90 = .ok (.return_, 1) := by decide +kernel
theorem dX6_apply_0 : decode cX6_apply 0 = .ok (.aload_n 1, 1) := by decide +kernel
theorem dX6_apply_1 : decode cX6_apply 1 = .ok (.getfield 36, 3) := by decide +kernel
theorem dX6_apply_4 : decode cX6_apply 4 = .ok (.ifCond .ne 25, 3) := by decide +kernel
theorem dX6_apply_7 : decode cX6_apply 7 = .ok (.aload_n 0, 1) := by decide +kernel
theorem dX6_apply_8 : decode cX6_apply 8 = .ok (.aload_n 1, 1) := by decide +kernel
theorem dX6_apply_9 : decode cX6_apply 9 = .ok (.invokevirtual 54, 3) := by decide +kernel
theorem dX6_apply_12 : decode cX6_apply 12 = .ok (.aload_n 0, 1) := by decide +kernel
theorem dX6_apply_13 : decode cX6_apply 13 = .ok (.dup, 1) := by decide +kernel
theorem dX6_apply_14 : decode cX6_apply 14 = .ok (.getfield 15, 3) := by decide +kernel
theorem dX6_apply_17 : decode cX6_apply 17 = .ok (.aload_n 1, 1) := by decide +kernel
theorem dX6_apply_18 : decode cX6_apply 18 = .ok (.getfield 57, 3) := by decide +kernel
theorem dX6_apply_21 : decode cX6_apply 21 = .ok (.i2l, 1) := by decide +kernel
theorem dX6_apply_22 : decode cX6_apply 22 = .ok (.ladd, 1) := by decide +kernel
theorem dX6_apply_23 : decode cX6_apply 23 = .ok (.putfield 15, 3) := by decide +kernel
theorem dX6_apply_26 : decode cX6_apply 26 = .ok (.goto 67, 3) := by decide +kernel
theorem dX6_apply_29 : decode cX6_apply 29 = .ok (.aload_n 1, 1) := by decide +kernel
theorem dX6_apply_30 : decode cX6_apply 30 = .ok (.getfield 36, 3) := by decide +kernel
theorem dX6_apply_33 : decode cX6_apply 33 = .ok (.iconst 1, 1) := by decide +kernel
theorem dX6_apply_34 : decode cX6_apply 34 = .ok (.if_icmp .ne 31, 3) := by decide +kernel
theorem dX6_apply_37 : decode cX6_apply 37 = .ok (.aload_n 1, 1) := by decide +kernel
theorem dX6_apply_38 : decode cX6_apply 38 = .ok (.aload_n 0, 1) := by decide +kernel
theorem dX6_apply_39 : decode cX6_apply 39 = .ok (.aload_n 1, 1) := by decide +kernel
theorem dX6_apply_40 : decode cX6_apply 40 = .ok (.getfield 60, 3) := by decide +kernel
theorem dX6_apply_43 : decode cX6_apply 43 = .ok (.invokevirtual 63, 3) := by decide +kernel
theorem dX6_apply_46 : decode cX6_apply 46 = .ok (.putfield 67, 3) := by decide +kernel
theorem dX6_apply_49 : decode cX6_apply 49 = .ok (.aload_n 0, 1) := by decide +kernel
theorem dX6_apply_50 : decode cX6_apply 50 = .ok (.dup, 1) := by decide +kernel
theorem dX6_apply_51 : decode cX6_apply 51 = .ok (.getfield 19, 3) := by decide +kernel
theorem dX6_apply_54 : decode cX6_apply 54 = .ok (.aload_n 1, 1) := by decide +kernel
theorem dX6_apply_55 : decode cX6_apply 55 = .ok (.getfield 67, 3) := by decide +kernel
theorem dX6_apply_58 : decode cX6_apply 58 = .ok (.ladd, 1) := by decide +kernel
theorem dX6_apply_59 : decode cX6_apply 59 = .ok (.putfield 19, 3) := by decide +kernel
theorem dX6_apply_62 : decode cX6_apply 62 = .ok (.goto 31, 3) := by decide +kernel
theorem dX6_apply_65 : decode cX6_apply 65 = .ok (.aload_n 0, 1) := by decide +kernel
theorem dX6_apply_66 : decode cX6_apply 66 = .ok (.dup, 1) := by decide +kernel
theorem dX6_apply_67 : decode cX6_apply 67 = .ok (.getfield 22, 3) := by decide +kernel
theorem dX6_apply_70 : decode cX6_apply 70 = .ok (.aload_n 1, 1) := by decide +kernel
theorem dX6_apply_71 : decode cX6_apply 71 = .ok (.getfield 57, 3) := by decide +kernel
theorem dX6_apply_74 : decode cX6_apply 74 = .ok (.i2l, 1) := by decide +kernel
theorem dX6_apply_75 : decode cX6_apply 75 = .ok (.aload_n 0, 1) := by decide +kernel
theorem dX6_apply_76 : decode cX6_apply 76 = .ok (.aload_n 1, 1) := by decide +kernel
theorem dX6_apply_77 : decode cX6_apply 77 = .ok (.getfield 60, 3) := by decide +kernel
theorem dX6_apply_80 : decode cX6_apply 80 = .ok (.invokevirtual 63, 3) := by decide +kernel
theorem dX6_apply_83 : decode cX6_apply 83 = .ok (.lsub, 1) := by decide +kernel
theorem dX6_apply_84 : decode cX6_apply 84 = .ok (.ladd, 1) := by decide +kernel
theorem dX6_apply_85 : decode cX6_apply 85 = .ok (.putfield 22, 3) := by decide +kernel
theorem dX6_apply_88 : decode cX6_apply 88 = .ok (.aload_n 0, 1) := by decide +kernel
theorem dX6_apply_89 : decode cX6_apply 89 = .ok (.aload_n 1, 1) := by decide +kernel
theorem dX6_apply_90 : decode cX6_apply 90 = .ok (.invokevirtual 70, 3) := by decide +kernel
theorem dX6_apply_93 : decode cX6_apply 93 = .ok (.aload_n 0, 1) := by decide +kernel
theorem dX6_apply_94 : decode cX6_apply 94 = .ok (.dup, 1) := by decide +kernel
theorem dX6_apply_95 : decode cX6_apply 95 = .ok (.getfield 9, 3) := by decide +kernel
theorem dX6_apply_98 : decode cX6_apply 98 = .ok (.aload_n 1, 1) := by decide +kernel
theorem dX6_apply_99 : decode cX6_apply 99 = .ok (.invokevirtual 73, 3) := by decide +kernel
theorem dX6_apply_102 : decode cX6_apply 102 = .ok (.iadd, 1) := by decide +kernel
theorem dX6_apply_103 : decode cX6_apply 103 = .ok (.putfield 9, 3) := by decide +kernel
theorem dX6_apply_106 : decode cX6_apply 106 = .ok (.return_, 1) := by decide +kernel
theorem dX6_applyShares_0 : decode cX6_applyShares 0 = .ok (.aload_n 1, 1) := by decide +kernel
theorem dX6_applyShares_1 : decode cX6_applyShares 1 = .ok (.getfield 77, 3) := by decide +kernel
theorem dX6_applyShares_4 : decode cX6_applyShares 4 = .ok (.astore_n 3, 1) := by decide +kernel
theorem dX6_applyShares_5 : decode cX6_applyShares 5 = .ok (.aload_n 3, 1) := by decide +kernel
theorem dX6_applyShares_6 : decode cX6_applyShares 6 = .ok (.ifnull 63, 3) := by decide +kernel
theorem dX6_applyShares_9 : decode cX6_applyShares 9 = .ok (.aload_n 3, 1) := by decide +kernel
theorem dX6_applyShares_10 : decode cX6_applyShares 10 = .ok (.getfield 81, 3) := by decide +kernel
theorem dX6_applyShares_13 : decode cX6_applyShares 13 = .ok (.getfield 43, 3) := by decide +kernel
theorem dX6_applyShares_16 : decode cX6_applyShares 16 = .ok (.iload_n 2, 1) := by decide +kernel
theorem dX6_applyShares_17 : decode cX6_applyShares 17 = .ok (.if_icmp .ne 44, 3) := by decide +kernel
theorem dX6_applyShares_20 : decode cX6_applyShares 20 = .ok (.aload_n 0, 1) := by decide +kernel
theorem dX6_applyShares_21 : decode cX6_applyShares 21 = .ok (.dup, 1) := by decide +kernel
theorem dX6_applyShares_22 : decode cX6_applyShares 22 = .ok (.getfield 15, 3) := by decide +kernel
theorem dX6_applyShares_25 : decode cX6_applyShares 25 = .ok (.aload_n 3, 1) := by decide +kernel
theorem dX6_applyShares_26 : decode cX6_applyShares 26 = .ok (.getfield 86, 3) := by decide +kernel
theorem dX6_applyShares_29 : decode cX6_applyShares 29 = .ok (.i2l, 1) := by decide +kernel
theorem dX6_applyShares_30 : decode cX6_applyShares 30 = .ok (.ladd, 1) := by decide +kernel
theorem dX6_applyShares_31 : decode cX6_applyShares 31 = .ok (.putfield 15, 3) := by decide +kernel
theorem dX6_applyShares_34 : decode cX6_applyShares 34 = .ok (.aload_n 0, 1) := by decide +kernel
theorem dX6_applyShares_35 : decode cX6_applyShares 35 = .ok (.dup, 1) := by decide +kernel
theorem dX6_applyShares_36 : decode cX6_applyShares 36 = .ok (.getfield 25, 3) := by decide +kernel
theorem dX6_applyShares_39 : decode cX6_applyShares 39 = .ok (.aload_n 3, 1) := by decide +kernel
theorem dX6_applyShares_40 : decode cX6_applyShares 40 = .ok (.getfield 86, 3) := by decide +kernel
theorem dX6_applyShares_43 : decode cX6_applyShares 43 = .ok (.i2l, 1) := by decide +kernel
theorem dX6_applyShares_44 : decode cX6_applyShares 44 = .ok (.aload_n 0, 1) := by decide +kernel
theorem dX6_applyShares_45 : decode cX6_applyShares 45 = .ok (.aload_n 3, 1) := by decide +kernel
theorem dX6_applyShares_46 : decode cX6_applyShares 46 = .ok (.getfield 81, 3) := by decide +kernel
theorem dX6_applyShares_49 : decode cX6_applyShares 49 = .ok (.aload_n 3, 1) := by decide +kernel
theorem dX6_applyShares_50 : decode cX6_applyShares 50 = .ok (.getfield 86, 3) := by decide +kernel
theorem dX6_applyShares_53 : decode cX6_applyShares 53 = .ok (.invokevirtual 89, 3) := by decide +kernel
theorem dX6_applyShares_56 : decode cX6_applyShares 56 = .ok (.lsub, 1) := by decide +kernel
theorem dX6_applyShares_57 : decode cX6_applyShares 57 = .ok (.ladd, 1) := by decide +kernel
theorem dX6_applyShares_58 : decode cX6_applyShares 58 = .ok (.putfield 25, 3) := by decide +kernel
theorem dX6_applyShares_61 : decode cX6_applyShares 61 = .ok (.aload_n 3, 1) := by decide +kernel
theorem dX6_applyShares_62 : decode cX6_applyShares 62 = .ok (.getfield 93, 3) := by decide +kernel
theorem dX6_applyShares_65 : decode cX6_applyShares 65 = .ok (.astore_n 3, 1) := by decide +kernel
theorem dX6_applyShares_66 : decode cX6_applyShares 66 = .ok (.goto (-61), 3) := by decide +kernel
theorem dX6_applyShares_69 : decode cX6_applyShares 69 = .ok (.return_, 1) := by decide +kernel
theorem dX6_portion_0 : decode cX6_portion 0 = .ok (.aload_n 0, 1) := by decide +kernel
theorem dX6_portion_1 : decode cX6_portion 1 = .ok (.getfield 60, 3) := by decide +kernel
theorem dX6_portion_4 : decode cX6_portion 4 = .ok (.ifCond .le 17, 3) := by decide +kernel
theorem dX6_portion_7 : decode cX6_portion 7 = .ok (.iload_n 1, 1) := by decide +kernel
theorem dX6_portion_8 : decode cX6_portion 8 = .ok (.i2l, 1) := by decide +kernel
theorem dX6_portion_9 : decode cX6_portion 9 = .ok (.iload_n 2, 1) := by decide +kernel
theorem dX6_portion_10 : decode cX6_portion 10 = .ok (.i2l, 1) := by decide +kernel
theorem dX6_portion_11 : decode cX6_portion 11 = .ok (.lmul, 1) := by decide +kernel
theorem dX6_portion_12 : decode cX6_portion 12 = .ok (.aload_n 0, 1) := by decide +kernel
theorem dX6_portion_13 : decode cX6_portion 13 = .ok (.getfield 60, 3) := by decide +kernel
theorem dX6_portion_16 : decode cX6_portion 16 = .ok (.i2l, 1) := by decide +kernel
theorem dX6_portion_17 : decode cX6_portion 17 = .ok (.ldiv, 1) := by decide +kernel
theorem dX6_portion_18 : decode cX6_portion 18 = .ok (.goto 4, 3) := by decide +kernel
theorem dX6_portion_21 : decode cX6_portion 21 = .ok (.lconst 0, 1) := by decide +kernel
theorem dX6_portion_22 : decode cX6_portion 22 = .ok (.lreturn, 1) := by decide +kernel
theorem dX7_init_0 : decode cX7_init 0 = .ok (.aload_n 0, 1) := by decide +kernel
theorem dX7_init_1 : decode cX7_init 1 = .ok (.invokespecial 1, 3) := by decide +kernel
theorem dX7_init_4 : decode cX7_init 4 = .ok (.aload_n 0, 1) := by decide +kernel
theorem dX7_init_5 : decode cX7_init 5 = .ok (.bipush 60, 2) := by decide +kernel
theorem dX7_init_7 : decode cX7_init 7 = .ok (.anewarray 9, 3) := by decide +kernel
theorem dX7_init_10 : decode cX7_init 10 = .ok (.putfield 11, 3) := by decide +kernel
theorem dX7_init_13 : decode cX7_init 13 = .ok (.aload_n 0, 1) := by decide +kernel
theorem dX7_init_14 : decode cX7_init 14 = .ok (.new 15, 3) := by decide +kernel
theorem dX7_init_17 : decode cX7_init 17 = .ok (.dup, 1) := by decide +kernel
theorem dX7_init_18 : decode cX7_init 18 = .ok (.invokespecial 17, 3) := by decide +kernel
theorem dX7_init_21 : decode cX7_init 21 = .ok (.putfield 18, 3) := by decide +kernel
theorem dX7_init_24 : decode cX7_init 24 = .ok (.aload_n 0, 1) := by decide +kernel
theorem dX7_init_25 : decode cX7_init 25 = .ok (.new 22, 3) := by decide +kernel
theorem dX7_init_28 : decode cX7_init 28 = .ok (.dup, 1) := by decide +kernel
theorem dX7_init_29 : decode cX7_init 29 = .ok (.invokespecial 24, 3) := by decide +kernel
theorem dX7_init_32 : decode cX7_init 32 = .ok (.putfield 25, 3) := by decide +kernel
theorem dX7_init_35 : decode cX7_init 35 = .ok (.aload_n 0, 1) := by decide +kernel
theorem dX7_init_36 : decode cX7_init 36 = .ok (.new 29, 3) := by decide +kernel
theorem dX7_init_39 : decode cX7_init 39 = .ok (.dup, 1) := by decide +kernel
theorem dX7_init_40 : decode cX7_init 40 = .ok (.invokespecial 31, 3) := by decide +kernel
theorem dX7_init_43 : decode cX7_init 43 = .ok (.putfield 32, 3) := by decide +kernel
theorem dX7_init_46 : decode cX7_init 46 = .ok (.aload_n 0, 1) := by decide +kernel
theorem dX7_init_47 : decode cX7_init 47 = .ok (.bipush 6, 2) := by decide +kernel
theorem dX7_init_49 : decode cX7_init 49 = .ok (.newarray .int, 2) := by decide +kernel
theorem dX7_init_51 : decode cX7_init 51 = .ok (.putfield 36, 3) := by decide +kernel
theorem dX7_init_54 : decode cX7_init 54 = .ok (.iconst 0, 1) := by decide +kernel
theorem dX7_init_55 : decode cX7_init 55 = .ok (.istore_n 1, 1) := by decide +kernel
theorem dX7_init_56 : decode cX7_init 56 = .ok (.iload_n 1, 1) := by decide +kernel
theorem dX7_init_57 : decode cX7_init 57 = .ok (.aload_n 0, 1) := by decide +kernel
theorem dX7_init_58 : decode cX7_init 58 = .ok (.getfield 36, 3) := by decide +kernel
theorem dX7_init_61 : decode cX7_init 61 = .ok (.arraylength, 1) := by decide +kernel
theorem dX7_init_62 : decode cX7_init 62 = .ok (.if_icmp .ge 16, 3) := by decide +kernel
theorem dX7_init_65 : decode cX7_init 65 = .ok (.aload_n 0, 1) := by decide +kernel
theorem dX7_init_66 : decode cX7_init 66 = .ok (.getfield 36, 3) := by decide +kernel
theorem dX7_init_69 : decode cX7_init 69 = .ok (.iload_n 1, 1) := by decide +kernel
theorem dX7_init_70 : decode cX7_init 70 = .ok (.iconst 1, 1) := by decide +kernel
theorem dX7_init_71 : decode cX7_init 71 = .ok (.iastore, 1) := by decide +kernel
theorem dX7_init_72 : decode cX7_init 72 = .ok (.iinc 1 1, 3) := by decide +kernel
theorem dX7_init_75 : decode cX7_init 75 = .ok (.goto (-19), 3) := by decide +kernel
theorem dX7_init_78 : decode cX7_init 78 = .ok (.aload_n 0, 1) := by decide +kernel
theorem dX7_init_79 : decode cX7_init 79 = .ok (.iconst (-1), 1) := by decide +kernel
theorem dX7_init_80 : decode cX7_init 80 = .ok (.putfield 40, 3) := by decide +kernel
theorem dX7_init_83 : decode cX7_init 83 = .ok (.return_, 1) := by decide +kernel
theorem dX7_receive_0 : decode cX7_receive 0 = .ok (.iload_n 2, 1) := by decide +kernel
theorem dX7_receive_1 : decode cX7_receive 1 = .ok (.iload_n 1, 1) := by decide +kernel
theorem dX7_receive_2 : decode cX7_receive 2 = .ok (.invokestatic 44, 3) := by decide +kernel
theorem dX7_receive_5 : decode cX7_receive 5 = .ok (.iload_n 3, 1) := by decide +kernel
theorem dX7_receive_6 : decode cX7_receive 6 = .ok (.iconst 1, 1) := by decide +kernel
theorem dX7_receive_7 : decode cX7_receive 7 = .ok (.sipush 1000, 3) := by decide +kernel
theorem dX7_receive_10 : decode cX7_receive 10 = .ok (.invokestatic 48, 3) := by decide +kernel
theorem dX7_receive_13 : decode cX7_receive 13 = .ok (.iload 4, 2) := by decide +kernel
theorem dX7_receive_15 : decode cX7_receive 15 = .ok (.iconst 0, 1) := by decide +kernel
theorem dX7_receive_16 : decode cX7_receive 16 = .ok (.ldc 52, 2) := by decide +kernel
theorem dX7_receive_18 : decode cX7_receive 18 = .ok (.invokestatic 48, 3) := by decide +kernel
theorem dX7_receive_21 : decode cX7_receive 21 = .ok (.aload_n 0, 1) := by decide +kernel
theorem dX7_receive_22 : decode cX7_receive 22 = .ok (.iload_n 1, 1) := by decide +kernel
theorem dX7_receive_23 : decode cX7_receive 23 = .ok (.invokevirtual 53, 3) := by decide +kernel
theorem dX7_receive_26 : decode cX7_receive 26 = .ok (.aload_n 0, 1) := by decide +kernel
theorem dX7_receive_27 : decode cX7_receive 27 = .ok (.new 9, 3) := by decide +kernel
theorem dX7_receive_30 : decode cX7_receive 30 = .ok (.dup, 1) := by decide +kernel
theorem dX7_receive_31 : decode cX7_receive 31 = .ok (.aload_n 0, 1) := by decide +kernel
theorem dX7_receive_32 : decode cX7_receive 32 = .ok (.getfield 57, 3) := by decide +kernel
theorem dX7_receive_35 : decode cX7_receive 35 = .ok (.iconst 0, 1) := by decide +kernel
theorem dX7_receive_36 : decode cX7_receive 36 = .ok (.iload_n 1, 1) := by decide +kernel
theorem dX7_receive_37 : decode cX7_receive 37 = .ok (.iload_n 2, 1) := by decide +kernel
theorem dX7_receive_38 : decode cX7_receive 38 = .ok (.iload_n 3, 1) := by decide +kernel
theorem dX7_receive_39 : decode cX7_receive 39 = .ok (.iload 4, 2) := by decide +kernel
theorem dX7_receive_41 : decode cX7_receive 41 = .ok (.invokespecial 60, 3) := by decide +kernel
theorem dX7_receive_44 : decode cX7_receive 44 = .ok (.invokevirtual 63, 3) := by decide +kernel
theorem dX7_receive_47 : decode cX7_receive 47 = .ok (.ireturn, 1) := by decide +kernel
theorem dX7_issue_0 : decode cX7_issue 0 = .ok (.iload_n 2, 1) := by decide +kernel
theorem dX7_issue_1 : decode cX7_issue 1 = .ok (.iload_n 1, 1) := by decide +kernel
theorem dX7_issue_2 : decode cX7_issue 2 = .ok (.invokestatic 44, 3) := by decide +kernel
theorem dX7_issue_5 : decode cX7_issue 5 = .ok (.iload_n 3, 1) := by decide +kernel
theorem dX7_issue_6 : decode cX7_issue 6 = .ok (.iconst 1, 1) := by decide +kernel
theorem dX7_issue_7 : decode cX7_issue 7 = .ok (.sipush 1000, 3) := by decide +kernel
theorem dX7_issue_10 : decode cX7_issue 10 = .ok (.invokestatic 48, 3) := by decide +kernel
theorem dX7_issue_13 : decode cX7_issue 13 = .ok (.aload_n 0, 1) := by decide +kernel
theorem dX7_issue_14 : decode cX7_issue 14 = .ok (.iload_n 1, 1) := by decide +kernel
theorem dX7_issue_15 : decode cX7_issue 15 = .ok (.invokevirtual 53, 3) := by decide +kernel
theorem dX7_issue_18 : decode cX7_issue 18 = .ok (.iload_n 3, 1) := by decide +kernel
theorem dX7_issue_19 : decode cX7_issue 19 = .ok (.aload_n 0, 1) := by decide +kernel
theorem dX7_issue_20 : decode cX7_issue 20 = .ok (.getfield 18, 3) := by decide +kernel
theorem dX7_issue_23 : decode cX7_issue 23 = .ok (.iload_n 2, 1) := by decide +kernel
theorem dX7_issue_24 : decode cX7_issue 24 = .ok (.iload_n 1, 1) := by decide +kernel
theorem dX7_issue_25 : decode cX7_issue 25 = .ok (.bipush 60, 2) := by decide +kernel
theorem dX7_issue_27 : decode cX7_issue 27 = .ok (.invokevirtual 67, 3) := by decide +kernel
theorem dX7_issue_30 : decode cX7_issue 30 = .ok (.invokestatic 71, 3) := by decide +kernel
theorem dX7_issue_33 : decode cX7_issue 33 = .ok (.aload_n 0, 1) := by decide +kernel
theorem dX7_issue_34 : decode cX7_issue 34 = .ok (.new 9, 3) := by decide +kernel
theorem dX7_issue_37 : decode cX7_issue 37 = .ok (.dup, 1) := by decide +kernel
theorem dX7_issue_38 : decode cX7_issue 38 = .ok (.aload_n 0, 1) := by decide +kernel
theorem dX7_issue_39 : decode cX7_issue 39 = .ok (.getfield 57, 3) := by decide +kernel
theorem dX7_issue_42 : decode cX7_issue 42 = .ok (.iconst 1, 1) := by decide +kernel
theorem dX7_issue_43 : decode cX7_issue 43 = .ok (.iload_n 1, 1) := by decide +kernel
theorem dX7_issue_44 : decode cX7_issue 44 = .ok (.iload_n 2, 1) := by decide +kernel
theorem dX7_issue_45 : decode cX7_issue 45 = .ok (.iload_n 3, 1) := by decide +kernel
theorem dX7_issue_46 : decode cX7_issue 46 = .ok (.iconst 0, 1) := by decide +kernel
theorem dX7_issue_47 : decode cX7_issue 47 = .ok (.invokespecial 60, 3) := by decide +kernel
theorem dX7_issue_50 : decode cX7_issue 50 = .ok (.invokevirtual 63, 3) := by decide +kernel
theorem dX7_issue_53 : decode cX7_issue 53 = .ok (.ireturn, 1) := by decide +kernel
theorem dX7_revalue_0 : decode cX7_revalue 0 = .ok (.iload_n 2, 1) := by decide +kernel
theorem dX7_revalue_1 : decode cX7_revalue 1 = .ok (.iload_n 1, 1) := by decide +kernel
theorem dX7_revalue_2 : decode cX7_revalue 2 = .ok (.invokestatic 44, 3) := by decide +kernel
theorem dX7_revalue_5 : decode cX7_revalue 5 = .ok (.iload_n 3, 1) := by decide +kernel
theorem dX7_revalue_6 : decode cX7_revalue 6 = .ok (.iconst 1, 1) := by decide +kernel
theorem dX7_revalue_7 : decode cX7_revalue 7 = .ok (.sipush 1000, 3) := by decide +kernel
theorem dX7_revalue_10 : decode cX7_revalue 10 = .ok (.invokestatic 48, 3) := by decide +kernel
theorem dX7_revalue_13 : decode cX7_revalue 13 = .ok (.iload 4, 2) := by decide +kernel
theorem dX7_revalue_15 : decode cX7_revalue 15 = .ok (.iconst 0, 1) := by decide +kernel
theorem dX7_revalue_16 : decode cX7_revalue 16 = .ok (.ldc 52, 2) := by decide +kernel
theorem dX7_revalue_18 : decode cX7_revalue 18 = .ok (.invokestatic 48, 3) := by decide +kernel
theorem dX7_revalue_21 : decode cX7_revalue 21 = .ok (.aload_n 0, 1) := by decide +kernel
theorem dX7_revalue_22 : decode cX7_revalue 22 = .ok (.iload_n 1, 1) := by decide +kernel
theorem dX7_revalue_23 : decode cX7_revalue 23 = .ok (.invokevirtual 53, 3) := by decide +kernel
theorem dX7_revalue_26 : decode cX7_revalue 26 = .ok (.iload_n 3, 1) := by decide +kernel
theorem dX7_revalue_27 : decode cX7_revalue 27 = .ok (.aload_n 0, 1) := by decide +kernel
theorem dX7_revalue_28 : decode cX7_revalue 28 = .ok (.getfield 18, 3) := by decide +kernel
theorem dX7_revalue_31 : decode cX7_revalue 31 = .ok (.iload_n 2, 1) := by decide +kernel
theorem dX7_revalue_32 : decode cX7_revalue 32 = .ok (.iload_n 1, 1) := by decide +kernel
theorem dX7_revalue_33 : decode cX7_revalue 33 = .ok (.invokevirtual 74, 3) := by decide +kernel
theorem dX7_revalue_36 : decode cX7_revalue 36 = .ok (.invokestatic 71, 3) := by decide +kernel
theorem dX7_revalue_39 : decode cX7_revalue 39 = .ok (.aload_n 0, 1) := by decide +kernel
theorem dX7_revalue_40 : decode cX7_revalue 40 = .ok (.new 9, 3) := by decide +kernel
theorem dX7_revalue_43 : decode cX7_revalue 43 = .ok (.dup, 1) := by decide +kernel
theorem dX7_revalue_44 : decode cX7_revalue 44 = .ok (.aload_n 0, 1) := by decide +kernel
theorem dX7_revalue_45 : decode cX7_revalue 45 = .ok (.getfield 57, 3) := by decide +kernel
theorem dX7_revalue_48 : decode cX7_revalue 48 = .ok (.iconst 2, 1) := by decide +kernel
theorem dX7_revalue_49 : decode cX7_revalue 49 = .ok (.iload_n 1, 1) := by decide +kernel
theorem dX7_revalue_50 : decode cX7_revalue 50 = .ok (.iload_n 2, 1) := by decide +kernel
theorem dX7_revalue_51 : decode cX7_revalue 51 = .ok (.iload_n 3, 1) := by decide +kernel
theorem dX7_revalue_52 : decode cX7_revalue 52 = .ok (.iload 4, 2) := by decide +kernel
theorem dX7_revalue_54 : decode cX7_revalue 54 = .ok (.invokespecial 60, 3) := by decide +kernel
theorem dX7_revalue_57 : decode cX7_revalue 57 = .ok (.invokevirtual 63, 3) := by decide +kernel
theorem dX7_revalue_60 : decode cX7_revalue 60 = .ok (.ireturn, 1) := by decide +kernel
theorem dX7_land_0 : decode cX7_land 0 = .ok (.iload_n 1, 1) := by decide +kernel
theorem dX7_land_1 : decode cX7_land 1 = .ok (.iconst 0, 1) := by decide +kernel
theorem dX7_land_2 : decode cX7_land 2 = .ok (.sipush 364, 3) := by decide +kernel
theorem dX7_land_5 : decode cX7_land 5 = .ok (.invokestatic 48, 3) := by decide +kernel
theorem dX7_land_8 : decode cX7_land 8 = .ok (.iload_n 2, 1) := by decide +kernel
theorem dX7_land_9 : decode cX7_land 9 = .ok (.iconst 1, 1) := by decide +kernel
theorem dX7_land_10 : decode cX7_land 10 = .ok (.ldc 52, 2) := by decide +kernel
theorem dX7_land_12 : decode cX7_land 12 = .ok (.invokestatic 48, 3) := by decide +kernel
theorem dX7_land_15 : decode cX7_land 15 = .ok (.iload_n 3, 1) := by decide +kernel
theorem dX7_land_16 : decode cX7_land 16 = .ok (.iconst 0, 1) := by decide +kernel
theorem dX7_land_17 : decode cX7_land 17 = .ok (.iconst 2, 1) := by decide +kernel
theorem dX7_land_18 : decode cX7_land 18 = .ok (.invokestatic 48, 3) := by decide +kernel
theorem dX7_land_21 : decode cX7_land 21 = .ok (.lload 4, 2) := by decide +kernel
theorem dX7_land_23 : decode cX7_land 23 = .ok (.lconst 0, 1) := by decide +kernel
theorem dX7_land_24 : decode cX7_land 24 = .ok (.lcmp, 1) := by decide +kernel
theorem dX7_land_25 : decode cX7_land 25 = .ok (.ifCond .ne 13, 3) := by decide +kernel
theorem dX7_land_28 : decode cX7_land 28 = .ok (.new 78, 3) := by decide +kernel
theorem dX7_land_31 : decode cX7_land 31 = .ok (.dup, 1) := by decide +kernel
theorem dX7_land_32 : decode cX7_land 32 = .ok (.ldc 80, 2) := by decide +kernel
theorem dX7_land_34 : decode cX7_land 34 = .ok (.invokespecial 82, 3) := by decide +kernel
theorem dX7_land_37 : decode cX7_land 37 = .ok (.athrow, 1) := by decide +kernel
theorem dX7_land_38 : decode cX7_land 38 = .ok (.lload 4, 2) := by decide +kernel
theorem dX7_land_40 : decode cX7_land 40 = .ok (.aload_n 0, 1) := by decide +kernel
theorem dX7_land_41 : decode cX7_land 41 = .ok (.getfield 57, 3) := by decide +kernel
theorem dX7_land_44 : decode cX7_land 44 = .ok (.lushr, 1) := by decide +kernel
theorem dX7_land_45 : decode cX7_land 45 = .ok (.lconst 0, 1) := by decide +kernel
end
section
theorem dX7_land_46 : decode cX7_land 46 = .ok (.lcmp, 1) := by decide +kernel
theorem dX7_land_47 : decode cX7_land 47 = .ok (.ifCond .eq 13, 3) := by decide +kernel
theorem dX7_land_50 : decode cX7_land 50 = .ok (.new 85, 3) := by decide +kernel
theorem dX7_land_53 : decode cX7_land 53 = .ok (.dup, 1) := by decide +kernel
theorem dX7_land_54 : decode cX7_land 54 = .ok (.ldc 87, 2) := by decide +kernel
theorem dX7_land_56 : decode cX7_land 56 = .ok (.invokespecial 89, 3) := by decide +kernel
theorem dX7_land_59 : decode cX7_land 59 = .ok (.athrow, 1) := by decide +kernel
theorem dX7_land_60 : decode cX7_land 60 = .ok (.aload_n 0, 1) := by decide +kernel
theorem dX7_land_61 : decode cX7_land 61 = .ok (.iload_n 1, 1) := by decide +kernel
theorem dX7_land_62 : decode cX7_land 62 = .ok (.invokevirtual 53, 3) := by decide +kernel
theorem dX7_land_65 : decode cX7_land 65 = .ok (.aload_n 0, 1) := by decide +kernel
theorem dX7_land_66 : decode cX7_land 66 = .ok (.lload 4, 2) := by decide +kernel
theorem dX7_land_68 : decode cX7_land 68 = .ok (.iload_n 1, 1) := by decide +kernel
theorem dX7_land_69 : decode cX7_land 69 = .ok (.invokevirtual 90, 3) := by decide +kernel
theorem dX7_land_72 : decode cX7_land 72 = .ok (.aload_n 0, 1) := by decide +kernel
theorem dX7_land_73 : decode cX7_land 73 = .ok (.lload 4, 2) := by decide +kernel
theorem dX7_land_75 : decode cX7_land 75 = .ok (.iload_n 3, 1) := by decide +kernel
theorem dX7_land_76 : decode cX7_land 76 = .ok (.invokevirtual 94, 3) := by decide +kernel
theorem dX7_land_79 : decode cX7_land 79 = .ok (.lstore 6, 2) := by decide +kernel
theorem dX7_land_81 : decode cX7_land 81 = .ok (.lload 6, 2) := by decide +kernel
theorem dX7_land_83 : decode cX7_land 83 = .ok (.lconst 0, 1) := by decide +kernel
theorem dX7_land_84 : decode cX7_land 84 = .ok (.lcmp, 1) := by decide +kernel
theorem dX7_land_85 : decode cX7_land 85 = .ok (.ifCond .gt 13, 3) := by decide +kernel
theorem dX7_land_88 : decode cX7_land 88 = .ok (.new 98, 3) := by decide +kernel
theorem dX7_land_91 : decode cX7_land 91 = .ok (.dup, 1) := by decide +kernel
theorem dX7_land_92 : decode cX7_land 92 = .ok (.ldc 100, 2) := by decide +kernel
theorem dX7_land_94 : decode cX7_land 94 = .ok (.invokespecial 102, 3) := by decide +kernel
theorem dX7_land_97 : decode cX7_land 97 = .ok (.athrow, 1) := by decide +kernel
theorem dX7_land_98 : decode cX7_land 98 = .ok (.new 9, 3) := by decide +kernel
theorem dX7_land_101 : decode cX7_land 101 = .ok (.dup, 1) := by decide +kernel
theorem dX7_land_102 : decode cX7_land 102 = .ok (.aload_n 0, 1) := by decide +kernel
theorem dX7_land_103 : decode cX7_land 103 = .ok (.getfield 57, 3) := by decide +kernel
theorem dX7_land_106 : decode cX7_land 106 = .ok (.iconst 3, 1) := by decide +kernel
theorem dX7_land_107 : decode cX7_land 107 = .ok (.iload_n 1, 1) := by decide +kernel
theorem dX7_land_108 : decode cX7_land 108 = .ok (.iconst (-1), 1) := by decide +kernel
theorem dX7_land_109 : decode cX7_land 109 = .ok (.iconst 0, 1) := by decide +kernel
theorem dX7_land_110 : decode cX7_land 110 = .ok (.iload_n 2, 1) := by decide +kernel
theorem dX7_land_111 : decode cX7_land 111 = .ok (.invokespecial 60, 3) := by decide +kernel
theorem dX7_land_114 : decode cX7_land 114 = .ok (.astore 8, 2) := by decide +kernel
theorem dX7_land_116 : decode cX7_land 116 = .ok (.aload 8, 2) := by decide +kernel
theorem dX7_land_118 : decode cX7_land 118 = .ok (.aload_n 0, 1) := by decide +kernel
theorem dX7_land_119 : decode cX7_land 119 = .ok (.iload_n 2, 1) := by decide +kernel
theorem dX7_land_120 : decode cX7_land 120 = .ok (.iload_n 3, 1) := by decide +kernel
theorem dX7_land_121 : decode cX7_land 121 = .ok (.lload 4, 2) := by decide +kernel
theorem dX7_land_123 : decode cX7_land 123 = .ok (.lload 6, 2) := by decide +kernel
theorem dX7_land_125 : decode cX7_land 125 = .ok (.invokevirtual 103, 3) := by decide +kernel
theorem dX7_land_128 : decode cX7_land 128 = .ok (.putfield 107, 3) := by decide +kernel
theorem dX7_land_131 : decode cX7_land 131 = .ok (.aload_n 0, 1) := by decide +kernel
theorem dX7_land_132 : decode cX7_land 132 = .ok (.aload 8, 2) := by decide +kernel
theorem dX7_land_134 : decode cX7_land 134 = .ok (.invokevirtual 63, 3) := by decide +kernel
theorem dX7_land_137 : decode cX7_land 137 = .ok (.ireturn, 1) := by decide +kernel
theorem dX7_cancel_0 : decode cX7_cancel 0 = .ok (.aload_n 0, 1) := by decide +kernel
theorem dX7_cancel_1 : decode cX7_cancel 1 = .ok (.iload_n 1, 1) := by decide +kernel
theorem dX7_cancel_2 : decode cX7_cancel 2 = .ok (.invokevirtual 111, 3) := by decide +kernel
theorem dX7_cancel_5 : decode cX7_cancel 5 = .ok (.astore_n 2, 1) := by decide +kernel
theorem dX7_cancel_6 : decode cX7_cancel 6 = .ok (.aload_n 2, 1) := by decide +kernel
theorem dX7_cancel_7 : decode cX7_cancel 7 = .ok (.getfield 115, 3) := by decide +kernel
theorem dX7_cancel_10 : decode cX7_cancel 10 = .ok (.ifCond .eq 13, 3) := by decide +kernel
theorem dX7_cancel_13 : decode cX7_cancel 13 = .ok (.new 98, 3) := by decide +kernel
theorem dX7_cancel_16 : decode cX7_cancel 16 = .ok (.dup, 1) := by decide +kernel
theorem dX7_cancel_17 : decode cX7_cancel 17 = .ok (.ldc 119, 2) := by decide +kernel
theorem dX7_cancel_19 : decode cX7_cancel 19 = .ok (.invokespecial 102, 3) := by decide +kernel
theorem dX7_cancel_22 : decode cX7_cancel 22 = .ok (.athrow, 1) := by decide +kernel
theorem dX7_cancel_23 : decode cX7_cancel 23 = .ok (.aload_n 0, 1) := by decide +kernel
theorem dX7_cancel_24 : decode cX7_cancel 24 = .ok (.aload_n 2, 1) := by decide +kernel
theorem dX7_cancel_25 : decode cX7_cancel 25 = .ok (.getfield 121, 3) := by decide +kernel
theorem dX7_cancel_28 : decode cX7_cancel 28 = .ok (.invokevirtual 124, 3) := by decide +kernel
theorem dX7_cancel_31 : decode cX7_cancel 31 = .ok (.aload_n 2, 1) := by decide +kernel
theorem dX7_cancel_32 : decode cX7_cancel 32 = .ok (.getfield 127, 3) := by decide +kernel
theorem dX7_cancel_35 : decode cX7_cancel 35 = .ok (.ifCond .ne 8, 3) := by decide +kernel
theorem dX7_cancel_38 : decode cX7_cancel 38 = .ok (.aload_n 0, 1) := by decide +kernel
theorem dX7_cancel_39 : decode cX7_cancel 39 = .ok (.aload_n 2, 1) := by decide +kernel
theorem dX7_cancel_40 : decode cX7_cancel 40 = .ok (.invokevirtual 130, 3) := by decide +kernel
theorem dX7_cancel_43 : decode cX7_cancel 43 = .ok (.aload_n 2, 1) := by decide +kernel
theorem dX7_cancel_44 : decode cX7_cancel 44 = .ok (.iconst 1, 1) := by decide +kernel
theorem dX7_cancel_45 : decode cX7_cancel 45 = .ok (.putfield 115, 3) := by decide +kernel
theorem dX7_cancel_48 : decode cX7_cancel 48 = .ok (.aload_n 0, 1) := by decide +kernel
theorem dX7_cancel_49 : decode cX7_cancel 49 = .ok (.getfield 18, 3) := by decide +kernel
theorem dX7_cancel_52 : decode cX7_cancel 52 = .ok (.aload_n 2, 1) := by decide +kernel
theorem dX7_cancel_53 : decode cX7_cancel 53 = .ok (.invokevirtual 134, 3) := by decide +kernel
theorem dX7_cancel_56 : decode cX7_cancel 56 = .ok (.aload_n 0, 1) := by decide +kernel
theorem dX7_cancel_57 : decode cX7_cancel 57 = .ok (.getfield 18, 3) := by decide +kernel
theorem dX7_cancel_60 : decode cX7_cancel 60 = .ok (.getfield 137, 3) := by decide +kernel
theorem dX7_cancel_63 : decode cX7_cancel 63 = .ok (.ireturn, 1) := by decide +kernel
theorem dX7_close_0 : decode cX7_close 0 = .ok (.iload_n 1, 1) := by decide +kernel
theorem dX7_close_1 : decode cX7_close 1 = .ok (.iconst 0, 1) := by decide +kernel
theorem dX7_close_2 : decode cX7_close 2 = .ok (.sipush 364, 3) := by decide +kernel
theorem dX7_close_5 : decode cX7_close 5 = .ok (.invokestatic 48, 3) := by decide +kernel
theorem dX7_close_8 : decode cX7_close 8 = .ok (.aload_n 0, 1) := by decide +kernel
theorem dX7_close_9 : decode cX7_close 9 = .ok (.iload_n 1, 1) := by decide +kernel
theorem dX7_close_10 : decode cX7_close 10 = .ok (.invokevirtual 124, 3) := by decide +kernel
theorem dX7_close_13 : decode cX7_close 13 = .ok (.aload_n 0, 1) := by decide +kernel
theorem dX7_close_14 : decode cX7_close 14 = .ok (.getfield 40, 3) := by decide +kernel
theorem dX7_close_17 : decode cX7_close 17 = .ok (.istore_n 2, 1) := by decide +kernel
theorem dX7_close_18 : decode cX7_close 18 = .ok (.aload_n 0, 1) := by decide +kernel
theorem dX7_close_19 : decode cX7_close 19 = .ok (.iload_n 1, 1) := by decide +kernel
theorem dX7_close_20 : decode cX7_close 20 = .ok (.putfield 40, 3) := by decide +kernel
theorem dX7_close_23 : decode cX7_close 23 = .ok (.iload_n 2, 1) := by decide +kernel
theorem dX7_close_24 : decode cX7_close 24 = .ok (.ireturn, 1) := by decide +kernel
theorem dX7_setWeight_0 : decode cX7_setWeight 0 = .ok (.iload_n 1, 1) := by decide +kernel
theorem dX7_setWeight_1 : decode cX7_setWeight 1 = .ok (.iconst 0, 1) := by decide +kernel
theorem dX7_setWeight_2 : decode cX7_setWeight 2 = .ok (.iconst 5, 1) := by decide +kernel
theorem dX7_setWeight_3 : decode cX7_setWeight 3 = .ok (.invokestatic 48, 3) := by decide +kernel
theorem dX7_setWeight_6 : decode cX7_setWeight 6 = .ok (.iload_n 2, 1) := by decide +kernel
theorem dX7_setWeight_7 : decode cX7_setWeight 7 = .ok (.iconst 1, 1) := by decide +kernel
theorem dX7_setWeight_8 : decode cX7_setWeight 8 = .ok (.bipush 100, 2) := by decide +kernel
theorem dX7_setWeight_10 : decode cX7_setWeight 10 = .ok (.invokestatic 48, 3) := by decide +kernel
theorem dX7_setWeight_13 : decode cX7_setWeight 13 = .ok (.aload_n 0, 1) := by decide +kernel
theorem dX7_setWeight_14 : decode cX7_setWeight 14 = .ok (.iload_n 1, 1) := by decide +kernel
theorem dX7_setWeight_15 : decode cX7_setWeight 15 = .ok (.invokevirtual 140, 3) := by decide +kernel
theorem dX7_setWeight_18 : decode cX7_setWeight 18 = .ok (.istore_n 3, 1) := by decide +kernel
theorem dX7_setWeight_19 : decode cX7_setWeight 19 = .ok (.iload_n 1, 1) := by decide +kernel
theorem dX7_setWeight_20 : decode cX7_setWeight 20 = .ok (.ifCond .lt 19, 3) := by decide +kernel
theorem dX7_setWeight_23 : decode cX7_setWeight 23 = .ok (.iload_n 1, 1) := by decide +kernel
theorem dX7_setWeight_24 : decode cX7_setWeight 24 = .ok (.aload_n 0, 1) := by decide +kernel
theorem dX7_setWeight_25 : decode cX7_setWeight 25 = .ok (.getfield 36, 3) := by decide +kernel
theorem dX7_setWeight_28 : decode cX7_setWeight 28 = .ok (.arraylength, 1) := by decide +kernel
theorem dX7_setWeight_29 : decode cX7_setWeight 29 = .ok (.if_icmp .ge 10, 3) := by decide +kernel
theorem dX7_setWeight_32 : decode cX7_setWeight 32 = .ok (.aload_n 0, 1) := by decide +kernel
theorem dX7_setWeight_33 : decode cX7_setWeight 33 = .ok (.getfield 36, 3) := by decide +kernel
theorem dX7_setWeight_36 : decode cX7_setWeight 36 = .ok (.iload_n 1, 1) := by decide +kernel
theorem dX7_setWeight_37 : decode cX7_setWeight 37 = .ok (.iload_n 2, 1) := by decide +kernel
theorem dX7_setWeight_38 : decode cX7_setWeight 38 = .ok (.iastore, 1) := by decide +kernel
theorem dX7_setWeight_39 : decode cX7_setWeight 39 = .ok (.iload_n 3, 1) := by decide +kernel
theorem dX7_setWeight_40 : decode cX7_setWeight 40 = .ok (.ireturn, 1) := by decide +kernel
theorem dX7_movements_0 : decode cX7_movements 0 = .ok (.aload_n 0, 1) := by decide +kernel
theorem dX7_movements_1 : decode cX7_movements 1 = .ok (.getfield 57, 3) := by decide +kernel
theorem dX7_movements_4 : decode cX7_movements 4 = .ok (.ireturn, 1) := by decide +kernel
theorem dX7_kindOf_0 : decode cX7_kindOf 0 = .ok (.aload_n 0, 1) := by decide +kernel
theorem dX7_kindOf_1 : decode cX7_kindOf 1 = .ok (.iload_n 1, 1) := by decide +kernel
theorem dX7_kindOf_2 : decode cX7_kindOf 2 = .ok (.invokevirtual 111, 3) := by decide +kernel
theorem dX7_kindOf_5 : decode cX7_kindOf 5 = .ok (.getfield 127, 3) := by decide +kernel
theorem dX7_kindOf_8 : decode cX7_kindOf 8 = .ok (.ireturn, 1) := by decide +kernel
theorem dX7_dayOf_0 : decode cX7_dayOf 0 = .ok (.aload_n 0, 1) := by decide +kernel
theorem dX7_dayOf_1 : decode cX7_dayOf 1 = .ok (.iload_n 1, 1) := by decide +kernel
theorem dX7_dayOf_2 : decode cX7_dayOf 2 = .ok (.invokevirtual 111, 3) := by decide +kernel
theorem dX7_dayOf_5 : decode cX7_dayOf 5 = .ok (.getfield 121, 3) := by decide +kernel
theorem dX7_dayOf_8 : decode cX7_dayOf 8 = .ok (.ireturn, 1) := by decide +kernel
theorem dX7_isCancelled_0 : decode cX7_isCancelled 0 = .ok (.aload_n 0, 1) := by decide +kernel
theorem dX7_isCancelled_1 : decode cX7_isCancelled 1 = .ok (.iload_n 1, 1) := by decide +kernel
theorem dX7_isCancelled_2 : decode cX7_isCancelled 2 = .ok (.invokevirtual 111, 3) := by decide +kernel
theorem dX7_isCancelled_5 : decode cX7_isCancelled 5 = .ok (.getfield 115, 3) := by decide +kernel
theorem dX7_isCancelled_8 : decode cX7_isCancelled 8 = .ok (.ireturn, 1) := by decide +kernel
theorem dX7_placeOf_0 : decode cX7_placeOf 0 = .ok (.aload_n 0, 1) := by decide +kernel
theorem dX7_placeOf_1 : decode cX7_placeOf 1 = .ok (.iload_n 1, 1) := by decide +kernel
theorem dX7_placeOf_2 : decode cX7_placeOf 2 = .ok (.invokevirtual 111, 3) := by decide +kernel
theorem dX7_placeOf_5 : decode cX7_placeOf 5 = .ok (.astore_n 2, 1) := by decide +kernel
theorem dX7_placeOf_6 : decode cX7_placeOf 6 = .ok (.aload_n 2, 1) := by decide +kernel
theorem dX7_placeOf_7 : decode cX7_placeOf 7 = .ok (.getfield 115, 3) := by decide +kernel
theorem dX7_placeOf_10 : decode cX7_placeOf 10 = .ok (.ifCond .eq 7, 3) := by decide +kernel
theorem dX7_placeOf_13 : decode cX7_placeOf 13 = .ok (.iconst (-1), 1) := by decide +kernel
theorem dX7_placeOf_14 : decode cX7_placeOf 14 = .ok (.goto 11, 3) := by decide +kernel
theorem dX7_placeOf_17 : decode cX7_placeOf 17 = .ok (.aload_n 0, 1) := by decide +kernel
theorem dX7_placeOf_18 : decode cX7_placeOf 18 = .ok (.getfield 18, 3) := by decide +kernel
theorem dX7_placeOf_21 : decode cX7_placeOf 21 = .ok (.aload_n 2, 1) := by decide +kernel
theorem dX7_placeOf_22 : decode cX7_placeOf 22 = .ok (.invokevirtual 144, 3) := by decide +kernel
theorem dX7_placeOf_25 : decode cX7_placeOf 25 = .ok (.ireturn, 1) := by decide +kernel
theorem dX7_partOf_0 : decode cX7_partOf 0 = .ok (.aload_n 0, 1) := by decide +kernel
theorem dX7_partOf_1 : decode cX7_partOf 1 = .ok (.iload_n 1, 1) := by decide +kernel
theorem dX7_partOf_2 : decode cX7_partOf 2 = .ok (.invokevirtual 111, 3) := by decide +kernel
theorem dX7_partOf_5 : decode cX7_partOf 5 = .ok (.astore_n 3, 1) := by decide +kernel
theorem dX7_partOf_6 : decode cX7_partOf 6 = .ok (.aload_n 0, 1) := by decide +kernel
theorem dX7_partOf_7 : decode cX7_partOf 7 = .ok (.iload_n 2, 1) := by decide +kernel
theorem dX7_partOf_8 : decode cX7_partOf 8 = .ok (.invokevirtual 111, 3) := by decide +kernel
theorem dX7_partOf_11 : decode cX7_partOf 11 = .ok (.astore 4, 2) := by decide +kernel
theorem dX7_partOf_13 : decode cX7_partOf 13 = .ok (.aload_n 3, 1) := by decide +kernel
theorem dX7_partOf_14 : decode cX7_partOf 14 = .ok (.getfield 127, 3) := by decide +kernel
theorem dX7_partOf_17 : decode cX7_partOf 17 = .ok (.iconst 3, 1) := by decide +kernel
theorem dX7_partOf_18 : decode cX7_partOf 18 = .ok (.if_icmp .eq 13, 3) := by decide +kernel
theorem dX7_partOf_21 : decode cX7_partOf 21 = .ok (.new 98, 3) := by decide +kernel
theorem dX7_partOf_24 : decode cX7_partOf 24 = .ok (.dup, 1) := by decide +kernel
theorem dX7_partOf_25 : decode cX7_partOf 25 = .ok (.ldc 147, 2) := by decide +kernel
theorem dX7_partOf_27 : decode cX7_partOf 27 = .ok (.invokespecial 102, 3) := by decide +kernel
theorem dX7_partOf_30 : decode cX7_partOf 30 = .ok (.athrow, 1) := by decide +kernel
theorem dX7_partOf_31 : decode cX7_partOf 31 = .ok (.aload_n 3, 1) := by decide +kernel
theorem dX7_partOf_32 : decode cX7_partOf 32 = .ok (.aload 4, 2) := by decide +kernel
theorem dX7_partOf_34 : decode cX7_partOf 34 = .ok (.invokevirtual 149, 3) := by decide +kernel
theorem dX7_partOf_37 : decode cX7_partOf 37 = .ok (.astore 5, 2) := by decide +kernel
theorem dX7_partOf_39 : decode cX7_partOf 39 = .ok (.aload 5, 2) := by decide +kernel
theorem dX7_partOf_41 : decode cX7_partOf 41 = .ok (.ifnonnull 7, 3) := by decide +kernel
theorem dX7_partOf_44 : decode cX7_partOf 44 = .ok (.iconst 0, 1) := by decide +kernel
theorem dX7_partOf_45 : decode cX7_partOf 45 = .ok (.goto 8, 3) := by decide +kernel
theorem dX7_partOf_48 : decode cX7_partOf 48 = .ok (.aload 5, 2) := by decide +kernel
theorem dX7_partOf_50 : decode cX7_partOf 50 = .ok (.getfield 153, 3) := by decide +kernel
theorem dX7_partOf_53 : decode cX7_partOf 53 = .ok (.ireturn, 1) := by decide +kernel
theorem dX7_costOf_0 : decode cX7_costOf 0 = .ok (.aload_n 0, 1) := by decide +kernel
theorem dX7_costOf_1 : decode cX7_costOf 1 = .ok (.iload_n 1, 1) := by decide +kernel
theorem dX7_costOf_2 : decode cX7_costOf 2 = .ok (.invokevirtual 111, 3) := by decide +kernel
theorem dX7_costOf_5 : decode cX7_costOf 5 = .ok (.astore_n 3, 1) := by decide +kernel
theorem dX7_costOf_6 : decode cX7_costOf 6 = .ok (.aload_n 3, 1) := by decide +kernel
theorem dX7_costOf_7 : decode cX7_costOf 7 = .ok (.getfield 127, 3) := by decide +kernel
theorem dX7_costOf_10 : decode cX7_costOf 10 = .ok (.iconst 1, 1) := by decide +kernel
theorem dX7_costOf_11 : decode cX7_costOf 11 = .ok (.if_icmp .ne 10, 3) := by decide +kernel
theorem dX7_costOf_14 : decode cX7_costOf 14 = .ok (.aload_n 3, 1) := by decide +kernel
theorem dX7_costOf_15 : decode cX7_costOf 15 = .ok (.getfield 115, 3) := by decide +kernel
theorem dX7_costOf_18 : decode cX7_costOf 18 = .ok (.ifCond .eq 13, 3) := by decide +kernel
theorem dX7_costOf_21 : decode cX7_costOf 21 = .ok (.new 98, 3) := by decide +kernel
theorem dX7_costOf_24 : decode cX7_costOf 24 = .ok (.dup, 1) := by decide +kernel
theorem dX7_costOf_25 : decode cX7_costOf 25 = .ok (.ldc 158, 2) := by decide +kernel
theorem dX7_costOf_27 : decode cX7_costOf 27 = .ok (.invokespecial 102, 3) := by decide +kernel
theorem dX7_costOf_30 : decode cX7_costOf 30 = .ok (.athrow, 1) := by decide +kernel
theorem dX7_costOf_31 : decode cX7_costOf 31 = .ok (.aload_n 0, 1) := by decide +kernel
theorem dX7_costOf_32 : decode cX7_costOf 32 = .ok (.aload_n 3, 1) := by decide +kernel
theorem dX7_costOf_33 : decode cX7_costOf 33 = .ok (.getfield 160, 3) := by decide +kernel
theorem dX7_costOf_36 : decode cX7_costOf 36 = .ok (.aload_n 3, 1) := by decide +kernel
theorem dX7_costOf_37 : decode cX7_costOf 37 = .ok (.getfield 121, 3) := by decide +kernel
theorem dX7_costOf_40 : decode cX7_costOf 40 = .ok (.iload_n 2, 1) := by decide +kernel
theorem dX7_costOf_41 : decode cX7_costOf 41 = .ok (.invokevirtual 163, 3) := by decide +kernel
theorem dX7_costOf_44 : decode cX7_costOf 44 = .ok (.pop, 1) := by decide +kernel
theorem dX7_costOf_45 : decode cX7_costOf 45 = .ok (.aload_n 3, 1) := by decide +kernel
theorem dX7_costOf_46 : decode cX7_costOf 46 = .ok (.getfield 167, 3) := by decide +kernel
theorem dX7_costOf_49 : decode cX7_costOf 49 = .ok (.lreturn, 1) := by decide +kernel
theorem dX7_onHand_0 : decode cX7_onHand 0 = .ok (.iload_n 1, 1) := by decide +kernel
theorem dX7_onHand_1 : decode cX7_onHand 1 = .ok (.iload_n 2, 1) := by decide +kernel
theorem dX7_onHand_2 : decode cX7_onHand 2 = .ok (.invokestatic 44, 3) := by decide +kernel
theorem dX7_onHand_5 : decode cX7_onHand 5 = .ok (.aload_n 0, 1) := by decide +kernel
theorem dX7_onHand_6 : decode cX7_onHand 6 = .ok (.getfield 18, 3) := by decide +kernel
theorem dX7_onHand_9 : decode cX7_onHand 9 = .ok (.iload_n 1, 1) := by decide +kernel
theorem dX7_onHand_10 : decode cX7_onHand 10 = .ok (.iload_n 2, 1) := by decide +kernel
theorem dX7_onHand_11 : decode cX7_onHand 11 = .ok (.invokevirtual 74, 3) := by decide +kernel
theorem dX7_onHand_14 : decode cX7_onHand 14 = .ok (.ireturn, 1) := by decide +kernel
theorem dX7_available_0 : decode cX7_available 0 = .ok (.iload_n 1, 1) := by decide +kernel
theorem dX7_available_1 : decode cX7_available 1 = .ok (.iload_n 2, 1) := by decide +kernel
theorem dX7_available_2 : decode cX7_available 2 = .ok (.invokestatic 44, 3) := by decide +kernel
theorem dX7_available_5 : decode cX7_available 5 = .ok (.aload_n 0, 1) := by decide +kernel
theorem dX7_available_6 : decode cX7_available 6 = .ok (.getfield 18, 3) := by decide +kernel
theorem dX7_available_9 : decode cX7_available 9 = .ok (.iload_n 1, 1) := by decide +kernel
theorem dX7_available_10 : decode cX7_available 10 = .ok (.iload_n 2, 1) := by decide +kernel
theorem dX7_available_11 : decode cX7_available 11 = .ok (.bipush 60, 2) := by decide +kernel
theorem dX7_available_13 : decode cX7_available 13 = .ok (.invokevirtual 67, 3) := by decide +kernel
theorem dX7_available_16 : decode cX7_available 16 = .ok (.sipush 1000, 3) := by decide +kernel
theorem dX7_available_19 : decode cX7_available 19 = .ok (.invokestatic 171, 3) := by decide +kernel
theorem dX7_available_22 : decode cX7_available 22 = .ok (.ireturn, 1) := by decide +kernel
theorem dX7_value_0 : decode cX7_value 0 = .ok (.iload_n 1, 1) := by decide +kernel
theorem dX7_value_1 : decode cX7_value 1 = .ok (.iload_n 2, 1) := by decide +kernel
theorem dX7_value_2 : decode cX7_value 2 = .ok (.invokestatic 44, 3) := by decide +kernel
theorem dX7_value_5 : decode cX7_value 5 = .ok (.aload_n 0, 1) := by decide +kernel
theorem dX7_value_6 : decode cX7_value 6 = .ok (.iload_n 1, 1) := by decide +kernel
theorem dX7_value_7 : decode cX7_value 7 = .ok (.iload_n 2, 1) := by decide +kernel
theorem dX7_value_8 : decode cX7_value 8 = .ok (.iload_n 3, 1) := by decide +kernel
theorem dX7_value_9 : decode cX7_value 9 = .ok (.invokevirtual 163, 3) := by decide +kernel
theorem dX7_value_12 : decode cX7_value 12 = .ok (.invokevirtual 176, 3) := by decide +kernel
theorem dX7_value_15 : decode cX7_value 15 = .ok (.lreturn, 1) := by decide +kernel
theorem dX7_received_0 : decode cX7_received 0 = .ok (.iload_n 1, 1) := by decide +kernel
theorem dX7_received_1 : decode cX7_received 1 = .ok (.iload_n 2, 1) := by decide +kernel
theorem dX7_received_2 : decode cX7_received 2 = .ok (.invokestatic 44, 3) := by decide +kernel
theorem dX7_received_5 : decode cX7_received 5 = .ok (.aload_n 0, 1) := by decide +kernel
theorem dX7_received_6 : decode cX7_received 6 = .ok (.iload_n 1, 1) := by decide +kernel
theorem dX7_received_7 : decode cX7_received 7 = .ok (.iload_n 2, 1) := by decide +kernel
theorem dX7_received_8 : decode cX7_received 8 = .ok (.iconst 1, 1) := by decide +kernel
theorem dX7_received_9 : decode cX7_received 9 = .ok (.invokevirtual 163, 3) := by decide +kernel
theorem dX7_received_12 : decode cX7_received 12 = .ok (.getfield 182, 3) := by decide +kernel
theorem dX7_received_15 : decode cX7_received 15 = .ok (.lreturn, 1) := by decide +kernel
theorem dX7_issued_0 : decode cX7_issued 0 = .ok (.iload_n 1, 1) := by decide +kernel
theorem dX7_issued_1 : decode cX7_issued 1 = .ok (.iload_n 2, 1) := by decide +kernel
theorem dX7_issued_2 : decode cX7_issued 2 = .ok (.invokestatic 44, 3) := by decide +kernel
theorem dX7_issued_5 : decode cX7_issued 5 = .ok (.aload_n 0, 1) := by decide +kernel
theorem dX7_issued_6 : decode cX7_issued 6 = .ok (.iload_n 1, 1) := by decide +kernel
theorem dX7_issued_7 : decode cX7_issued 7 = .ok (.iload_n 2, 1) := by decide +kernel
theorem dX7_issued_8 : decode cX7_issued 8 = .ok (.iload_n 3, 1) := by decide +kernel
theorem dX7_issued_9 : decode cX7_issued 9 = .ok (.invokevirtual 163, 3) := by decide +kernel
theorem dX7_issued_12 : decode cX7_issued 12 = .ok (.getfield 185, 3) := by decide +kernel
theorem dX7_issued_15 : decode cX7_issued 15 = .ok (.lreturn, 1) := by decide +kernel
theorem dX7_revalued_0 : decode cX7_revalued 0 = .ok (.iload_n 1, 1) := by decide +kernel
theorem dX7_revalued_1 : decode cX7_revalued 1 = .ok (.iload_n 2, 1) := by decide +kernel
theorem dX7_revalued_2 : decode cX7_revalued 2 = .ok (.invokestatic 44, 3) := by decide +kernel
theorem dX7_revalued_5 : decode cX7_revalued 5 = .ok (.aload_n 0, 1) := by decide +kernel
theorem dX7_revalued_6 : decode cX7_revalued 6 = .ok (.iload_n 1, 1) := by decide +kernel
theorem dX7_revalued_7 : decode cX7_revalued 7 = .ok (.iload_n 2, 1) := by decide +kernel
theorem dX7_revalued_8 : decode cX7_revalued 8 = .ok (.iload_n 3, 1) := by decide +kernel
theorem dX7_revalued_9 : decode cX7_revalued 9 = .ok (.invokevirtual 163, 3) := by decide +kernel
theorem dX7_revalued_12 : decode cX7_revalued 12 = .ok (.getfield 188, 3) := by decide +kernel
theorem dX7_revalued_15 : decode cX7_revalued 15 = .ok (.lreturn, 1) := by decide +kernel
theorem dX7_expensed_0 : decode cX7_expensed 0 = .ok (.iload_n 1, 1) := by decide +kernel
theorem dX7_expensed_1 : decode cX7_expensed 1 = .ok (.iload_n 2, 1) := by decide +kernel
theorem dX7_expensed_2 : decode cX7_expensed 2 = .ok (.invokestatic 44, 3) := by decide +kernel
theorem dX7_expensed_5 : decode cX7_expensed 5 = .ok (.aload_n 0, 1) := by decide +kernel
theorem dX7_expensed_6 : decode cX7_expensed 6 = .ok (.iload_n 1, 1) := by decide +kernel
theorem dX7_expensed_7 : decode cX7_expensed 7 = .ok (.iload_n 2, 1) := by decide +kernel
theorem dX7_expensed_8 : decode cX7_expensed 8 = .ok (.iload_n 3, 1) := by decide +kernel
theorem dX7_expensed_9 : decode cX7_expensed 9 = .ok (.invokevirtual 163, 3) := by decide +kernel
theorem dX7_expensed_12 : decode cX7_expensed 12 = .ok (.getfield 191, 3) := by decide +kernel
theorem dX7_expensed_15 : decode cX7_expensed 15 = .ok (.lreturn, 1) := by decide +kernel
theorem dX7_layers_0 : decode cX7_layers 0 = .ok (.iload_n 1, 1) := by decide +kernel
theorem dX7_layers_1 : decode cX7_layers 1 = .ok (.iload_n 2, 1) := by decide +kernel
theorem dX7_layers_2 : decode cX7_layers 2 = .ok (.invokestatic 44, 3) := by decide +kernel
theorem dX7_layers_5 : decode cX7_layers 5 = .ok (.aload_n 0, 1) := by decide +kernel
theorem dX7_layers_6 : decode cX7_layers 6 = .ok (.getfield 25, 3) := by decide +kernel
theorem dX7_layers_9 : decode cX7_layers 9 = .ok (.aload_n 0, 1) := by decide +kernel
theorem dX7_layers_10 : decode cX7_layers 10 = .ok (.getfield 18, 3) := by decide +kernel
theorem dX7_layers_13 : decode cX7_layers 13 = .ok (.getfield 194, 3) := by decide +kernel
theorem dX7_layers_16 : decode cX7_layers 16 = .ok (.iload_n 1, 1) := by decide +kernel
theorem dX7_layers_17 : decode cX7_layers 17 = .ok (.iload_n 2, 1) := by decide +kernel
theorem dX7_layers_18 : decode cX7_layers 18 = .ok (.invokevirtual 198, 3) := by decide +kernel
theorem dX7_layers_21 : decode cX7_layers 21 = .ok (.aload_n 0, 1) := by decide +kernel
theorem dX7_layers_22 : decode cX7_layers 22 = .ok (.getfield 25, 3) := by decide +kernel
theorem dX7_layers_25 : decode cX7_layers 25 = .ok (.invokevirtual 202, 3) := by decide +kernel
theorem dX7_layers_28 : decode cX7_layers 28 = .ok (.ireturn, 1) := by decide +kernel
theorem dX7_layerQuantity_0 : decode cX7_layerQuantity 0 = .ok (.aload_n 0, 1) := by decide +kernel
theorem dX7_layerQuantity_1 : decode cX7_layerQuantity 1 = .ok (.iload_n 1, 1) := by decide +kernel
theorem dX7_layerQuantity_2 : decode cX7_layerQuantity 2 = .ok (.iload_n 2, 1) := by decide +kernel
theorem dX7_layerQuantity_3 : decode cX7_layerQuantity 3 = .ok (.iload_n 3, 1) := by decide +kernel
theorem dX7_layerQuantity_4 : decode cX7_layerQuantity 4 = .ok (.invokevirtual 206, 3) := by decide +kernel
theorem dX7_layerQuantity_7 : decode cX7_layerQuantity 7 = .ok (.getfield 210, 3) := by decide +kernel
theorem dX7_layerQuantity_10 : decode cX7_layerQuantity 10 = .ok (.ireturn, 1) := by decide +kernel
theorem dX7_layerCost_0 : decode cX7_layerCost 0 = .ok (.aload_n 0, 1) := by decide +kernel
theorem dX7_layerCost_1 : decode cX7_layerCost 1 = .ok (.iload_n 1, 1) := by decide +kernel
theorem dX7_layerCost_2 : decode cX7_layerCost 2 = .ok (.iload_n 2, 1) := by decide +kernel
theorem dX7_layerCost_3 : decode cX7_layerCost 3 = .ok (.iload_n 3, 1) := by decide +kernel
theorem dX7_layerCost_4 : decode cX7_layerCost 4 = .ok (.invokevirtual 206, 3) := by decide +kernel
theorem dX7_layerCost_7 : decode cX7_layerCost 7 = .ok (.getfield 214, 3) := by decide +kernel
theorem dX7_layerCost_10 : decode cX7_layerCost 10 = .ok (.lreturn, 1) := by decide +kernel
theorem dX7_layerOrigin_0 : decode cX7_layerOrigin 0 = .ok (.aload_n 0, 1) := by decide +kernel
theorem dX7_layerOrigin_1 : decode cX7_layerOrigin 1 = .ok (.iload_n 1, 1) := by decide +kernel
theorem dX7_layerOrigin_2 : decode cX7_layerOrigin 2 = .ok (.iload_n 2, 1) := by decide +kernel
theorem dX7_layerOrigin_3 : decode cX7_layerOrigin 3 = .ok (.iload_n 3, 1) := by decide +kernel
theorem dX7_layerOrigin_4 : decode cX7_layerOrigin 4 = .ok (.invokevirtual 206, 3) := by decide +kernel
theorem dX7_layerOrigin_7 : decode cX7_layerOrigin 7 = .ok (.getfield 217, 3) := by decide +kernel
theorem dX7_layerOrigin_10 : decode cX7_layerOrigin 10 = .ok (.ireturn, 1) := by decide +kernel
theorem dX7_checkRange_0 : decode cX7_checkRange 0 = .ok (.iload_n 0, 1) := by decide +kernel
theorem dX7_checkRange_1 : decode cX7_checkRange 1 = .ok (.iload_n 1, 1) := by decide +kernel
theorem dX7_checkRange_2 : decode cX7_checkRange 2 = .ok (.if_icmp .lt 8, 3) := by decide +kernel
theorem dX7_checkRange_5 : decode cX7_checkRange 5 = .ok (.iload_n 0, 1) := by decide +kernel
theorem dX7_checkRange_6 : decode cX7_checkRange 6 = .ok (.iload_n 2, 1) := by decide +kernel
theorem dX7_checkRange_7 : decode cX7_checkRange 7 = .ok (.if_icmp .le 13, 3) := by decide +kernel
theorem dX7_checkRange_10 : decode cX7_checkRange 10 = .ok (.new 78, 3) := by decide +kernel
theorem dX7_checkRange_13 : decode cX7_checkRange 13 = .ok (.dup, 1) := by decide +kernel
theorem dX7_checkRange_14 : decode cX7_checkRange 14 = .ok (.ldc 220, 2) := by decide +kernel
theorem dX7_checkRange_16 : decode cX7_checkRange 16 = .ok (.invokespecial 82, 3) := by decide +kernel
theorem dX7_checkRange_19 : decode cX7_checkRange 19 = .ok (.athrow, 1) := by decide +kernel
theorem dX7_checkRange_20 : decode cX7_checkRange 20 = .ok (.return_, 1) := by decide +kernel
theorem dX7_checkItemAndDay_0 : decode cX7_checkItemAndDay 0 = .ok (.iload_n 0, 1) := by decide +kernel
theorem dX7_checkItemAndDay_1 : decode cX7_checkItemAndDay 1 = .ok (.iconst 0, 1) := by decide +kernel
theorem dX7_checkItemAndDay_2 : decode cX7_checkItemAndDay 2 = .ok (.iconst 5, 1) := by decide +kernel
theorem dX7_checkItemAndDay_3 : decode cX7_checkItemAndDay 3 = .ok (.invokestatic 48, 3) := by decide +kernel
theorem dX7_checkItemAndDay_6 : decode cX7_checkItemAndDay 6 = .ok (.iload_n 1, 1) := by decide +kernel
theorem dX7_checkItemAndDay_7 : decode cX7_checkItemAndDay 7 = .ok (.iconst 0, 1) := by decide +kernel
theorem dX7_checkItemAndDay_8 : decode cX7_checkItemAndDay 8 = .ok (.sipush 364, 3) := by decide +kernel
theorem dX7_checkItemAndDay_11 : decode cX7_checkItemAndDay 11 = .ok (.invokestatic 48, 3) := by decide +kernel
theorem dX7_checkItemAndDay_14 : decode cX7_checkItemAndDay 14 = .ok (.return_, 1) := by decide +kernel
theorem dX7_checkOpen_0 : decode cX7_checkOpen 0 = .ok (.iload_n 1, 1) := by decide +kernel
theorem dX7_checkOpen_1 : decode cX7_checkOpen 1 = .ok (.aload_n 0, 1) := by decide +kernel
theorem dX7_checkOpen_2 : decode cX7_checkOpen 2 = .ok (.getfield 40, 3) := by decide +kernel
theorem dX7_checkOpen_5 : decode cX7_checkOpen 5 = .ok (.if_icmp .gt 13, 3) := by decide +kernel
theorem dX7_checkOpen_8 : decode cX7_checkOpen 8 = .ok (.new 98, 3) := by decide +kernel
theorem dX7_checkOpen_11 : decode cX7_checkOpen 11 = .ok (.dup, 1) := by decide +kernel
theorem dX7_checkOpen_12 : decode cX7_checkOpen 12 = .ok (.ldc 222, 2) := by decide +kernel
theorem dX7_checkOpen_14 : decode cX7_checkOpen 14 = .ok (.invokespecial 102, 3) := by decide +kernel
theorem dX7_checkOpen_17 : decode cX7_checkOpen 17 = .ok (.athrow, 1) := by decide +kernel
theorem dX7_checkOpen_18 : decode cX7_checkOpen 18 = .ok (.return_, 1) := by decide +kernel
theorem dX7_checkPosting_0 : decode cX7_checkPosting 0 = .ok (.aload_n 0, 1) := by decide +kernel
theorem dX7_checkPosting_1 : decode cX7_checkPosting 1 = .ok (.iload_n 1, 1) := by decide +kernel
theorem dX7_checkPosting_2 : decode cX7_checkPosting 2 = .ok (.invokevirtual 124, 3) := by decide +kernel
theorem dX7_checkPosting_5 : decode cX7_checkPosting 5 = .ok (.aload_n 0, 1) := by decide +kernel
theorem dX7_checkPosting_6 : decode cX7_checkPosting 6 = .ok (.getfield 57, 3) := by decide +kernel
theorem dX7_checkPosting_9 : decode cX7_checkPosting 9 = .ok (.bipush 60, 2) := by decide +kernel
theorem dX7_checkPosting_11 : decode cX7_checkPosting 11 = .ok (.if_icmp .lt 13, 3) := by decide +kernel
theorem dX7_checkPosting_14 : decode cX7_checkPosting 14 = .ok (.new 98, 3) := by decide +kernel
theorem dX7_checkPosting_17 : decode cX7_checkPosting 17 = .ok (.dup, 1) := by decide +kernel
theorem dX7_checkPosting_18 : decode cX7_checkPosting 18 = .ok (.ldc 224, 2) := by decide +kernel
theorem dX7_checkPosting_20 : decode cX7_checkPosting 20 = .ok (.invokespecial 102, 3) := by decide +kernel
theorem dX7_checkPosting_23 : decode cX7_checkPosting 23 = .ok (.athrow, 1) := by decide +kernel
theorem dX7_checkPosting_24 : decode cX7_checkPosting 24 = .ok (.return_, 1) := by decide +kernel
theorem dX7_checkOnHand_0 : decode cX7_checkOnHand 0 = .ok (.iload_n 0, 1) := by decide +kernel
theorem dX7_checkOnHand_1 : decode cX7_checkOnHand 1 = .ok (.iload_n 1, 1) := by decide +kernel
theorem dX7_checkOnHand_2 : decode cX7_checkOnHand 2 = .ok (.if_icmp .le 13, 3) := by decide +kernel
theorem dX7_checkOnHand_5 : decode cX7_checkOnHand 5 = .ok (.new 98, 3) := by decide +kernel
theorem dX7_checkOnHand_8 : decode cX7_checkOnHand 8 = .ok (.dup, 1) := by decide +kernel
theorem dX7_checkOnHand_9 : decode cX7_checkOnHand 9 = .ok (.ldc 226, 2) := by decide +kernel
theorem dX7_checkOnHand_11 : decode cX7_checkOnHand 11 = .ok (.invokespecial 102, 3) := by decide +kernel
theorem dX7_checkOnHand_14 : decode cX7_checkOnHand 14 = .ok (.athrow, 1) := by decide +kernel
theorem dX7_checkOnHand_15 : decode cX7_checkOnHand 15 = .ok (.return_, 1) := by decide +kernel
theorem dX7_checkReceipts_0 : decode cX7_checkReceipts 0 = .ok (.iconst 0, 1) := by decide +kernel
theorem dX7_checkReceipts_1 : decode cX7_checkReceipts 1 = .ok (.istore 4, 2) := by decide +kernel
theorem dX7_checkReceipts_3 : decode cX7_checkReceipts 3 = .ok (.iload 4, 2) := by decide +kernel
theorem dX7_checkReceipts_5 : decode cX7_checkReceipts 5 = .ok (.bipush 60, 2) := by decide +kernel
theorem dX7_checkReceipts_7 : decode cX7_checkReceipts 7 = .ok (.if_icmp .ge 58, 3) := by decide +kernel
theorem dX7_checkReceipts_10 : decode cX7_checkReceipts 10 = .ok (.aload_n 0, 1) := by decide +kernel
theorem dX7_checkReceipts_11 : decode cX7_checkReceipts 11 = .ok (.lload_n 1, 1) := by decide +kernel
theorem dX7_checkReceipts_12 : decode cX7_checkReceipts 12 = .ok (.iload 4, 2) := by decide +kernel
theorem dX7_checkReceipts_14 : decode cX7_checkReceipts 14 = .ok (.invokevirtual 228, 3) := by decide +kernel
theorem dX7_checkReceipts_17 : decode cX7_checkReceipts 17 = .ok (.astore 5, 2) := by decide +kernel
theorem dX7_checkReceipts_19 : decode cX7_checkReceipts 19 = .ok (.aload 5, 2) := by decide +kernel
theorem dX7_checkReceipts_21 : decode cX7_checkReceipts 21 = .ok (.ifnull 38, 3) := by decide +kernel
theorem dX7_checkReceipts_24 : decode cX7_checkReceipts 24 = .ok (.aload 5, 2) := by decide +kernel
theorem dX7_checkReceipts_26 : decode cX7_checkReceipts 26 = .ok (.getfield 127, 3) := by decide +kernel
theorem dX7_checkReceipts_29 : decode cX7_checkReceipts 29 = .ok (.ifCond .ne 20, 3) := by decide +kernel
theorem dX7_checkReceipts_32 : decode cX7_checkReceipts 32 = .ok (.aload 5, 2) := by decide +kernel
theorem dX7_checkReceipts_34 : decode cX7_checkReceipts 34 = .ok (.getfield 115, 3) := by decide +kernel
theorem dX7_checkReceipts_37 : decode cX7_checkReceipts 37 = .ok (.ifCond .ne 12, 3) := by decide +kernel
theorem dX7_checkReceipts_40 : decode cX7_checkReceipts 40 = .ok (.aload 5, 2) := by decide +kernel
theorem dX7_checkReceipts_42 : decode cX7_checkReceipts 42 = .ok (.getfield 121, 3) := by decide +kernel
theorem dX7_checkReceipts_45 : decode cX7_checkReceipts 45 = .ok (.iload_n 3, 1) := by decide +kernel
theorem dX7_checkReceipts_46 : decode cX7_checkReceipts 46 = .ok (.if_icmp .le 13, 3) := by decide +kernel
theorem dX7_checkReceipts_49 : decode cX7_checkReceipts 49 = .ok (.new 98, 3) := by decide +kernel
theorem dX7_checkReceipts_52 : decode cX7_checkReceipts 52 = .ok (.dup, 1) := by decide +kernel
theorem dX7_checkReceipts_53 : decode cX7_checkReceipts 53 = .ok (.ldc 232, 2) := by decide +kernel
theorem dX7_checkReceipts_55 : decode cX7_checkReceipts 55 = .ok (.invokespecial 102, 3) := by decide +kernel
theorem dX7_checkReceipts_58 : decode cX7_checkReceipts 58 = .ok (.athrow, 1) := by decide +kernel
theorem dX7_checkReceipts_59 : decode cX7_checkReceipts 59 = .ok (.iinc 4 1, 3) := by decide +kernel
theorem dX7_checkReceipts_62 : decode cX7_checkReceipts 62 = .ok (.goto (-59), 3) := by decide +kernel
theorem dX7_checkReceipts_65 : decode cX7_checkReceipts 65 = .ok (.return_, 1) := by decide +kernel
theorem dX7_checkDispensable_0 : decode cX7_checkDispensable 0 = .ok (.aload_n 0, 1) := by decide +kernel
theorem dX7_checkDispensable_1 : decode cX7_checkDispensable 1 = .ok (.getfield 18, 3) := by decide +kernel
theorem dX7_checkDispensable_4 : decode cX7_checkDispensable 4 = .ok (.aload_n 1, 1) := by decide +kernel
theorem dX7_checkDispensable_5 : decode cX7_checkDispensable 5 = .ok (.invokevirtual 234, 3) := by decide +kernel
theorem dX7_checkDispensable_8 : decode cX7_checkDispensable 8 = .ok (.ifCond .eq 13, 3) := by decide +kernel
theorem dX7_checkDispensable_11 : decode cX7_checkDispensable 11 = .ok (.new 98, 3) := by decide +kernel
theorem dX7_checkDispensable_14 : decode cX7_checkDispensable 14 = .ok (.dup, 1) := by decide +kernel
theorem dX7_checkDispensable_15 : decode cX7_checkDispensable 15 = .ok (.ldc 238, 2) := by decide +kernel
theorem dX7_checkDispensable_17 : decode cX7_checkDispensable 17 = .ok (.invokespecial 102, 3) := by decide +kernel
theorem dX7_checkDispensable_20 : decode cX7_checkDispensable 20 = .ok (.athrow, 1) := by decide +kernel
theorem dX7_checkDispensable_21 : decode cX7_checkDispensable 21 = .ok (.aload_n 1, 1) := by decide +kernel
theorem dX7_checkDispensable_22 : decode cX7_checkDispensable 22 = .ok (.getfield 240, 3) := by decide +kernel
theorem dX7_checkDispensable_25 : decode cX7_checkDispensable 25 = .ok (.aload_n 0, 1) := by decide +kernel
theorem dX7_checkDispensable_26 : decode cX7_checkDispensable 26 = .ok (.getfield 18, 3) := by decide +kernel
theorem dX7_checkDispensable_29 : decode cX7_checkDispensable 29 = .ok (.aload_n 1, 1) := by decide +kernel
theorem dX7_checkDispensable_30 : decode cX7_checkDispensable 30 = .ok (.getfield 160, 3) := by decide +kernel
theorem dX7_checkDispensable_33 : decode cX7_checkDispensable 33 = .ok (.aload_n 1, 1) := by decide +kernel
theorem dX7_checkDispensable_34 : decode cX7_checkDispensable 34 = .ok (.getfield 121, 3) := by decide +kernel
theorem dX7_checkDispensable_37 : decode cX7_checkDispensable 37 = .ok (.aload_n 1, 1) := by decide +kernel
theorem dX7_checkDispensable_38 : decode cX7_checkDispensable 38 = .ok (.getfield 243, 3) := by decide +kernel
theorem dX7_checkDispensable_41 : decode cX7_checkDispensable 41 = .ok (.invokevirtual 67, 3) := by decide +kernel
theorem dX7_checkDispensable_44 : decode cX7_checkDispensable 44 = .ok (.invokestatic 71, 3) := by decide +kernel
theorem dX7_checkDispensable_47 : decode cX7_checkDispensable 47 = .ok (.return_, 1) := by decide +kernel
theorem dX7_find_0 : decode cX7_find 0 = .ok (.iload_n 1, 1) := by decide +kernel
theorem dX7_find_1 : decode cX7_find 1 = .ok (.ifCond .lt 21, 3) := by decide +kernel
theorem dX7_find_4 : decode cX7_find 4 = .ok (.iload_n 1, 1) := by decide +kernel
theorem dX7_find_5 : decode cX7_find 5 = .ok (.aload_n 0, 1) := by decide +kernel
theorem dX7_find_6 : decode cX7_find 6 = .ok (.getfield 11, 3) := by decide +kernel
theorem dX7_find_9 : decode cX7_find 9 = .ok (.arraylength, 1) := by decide +kernel
theorem dX7_find_10 : decode cX7_find 10 = .ok (.if_icmp .ge 12, 3) := by decide +kernel
theorem dX7_find_13 : decode cX7_find 13 = .ok (.aload_n 0, 1) := by decide +kernel
theorem dX7_find_14 : decode cX7_find 14 = .ok (.getfield 11, 3) := by decide +kernel
theorem dX7_find_17 : decode cX7_find 17 = .ok (.iload_n 1, 1) := by decide +kernel
theorem dX7_find_18 : decode cX7_find 18 = .ok (.aaload, 1) := by decide +kernel
theorem dX7_find_19 : decode cX7_find 19 = .ok (.goto 4, 3) := by decide +kernel
theorem dX7_find_22 : decode cX7_find 22 = .ok (.aconst_null, 1) := by decide +kernel
theorem dX7_find_23 : decode cX7_find 23 = .ok (.astore_n 2, 1) := by decide +kernel
theorem dX7_find_24 : decode cX7_find 24 = .ok (.aload_n 2, 1) := by decide +kernel
theorem dX7_find_25 : decode cX7_find 25 = .ok (.ifnonnull 13, 3) := by decide +kernel
theorem dX7_find_28 : decode cX7_find 28 = .ok (.new 85, 3) := by decide +kernel
theorem dX7_find_31 : decode cX7_find 31 = .ok (.dup, 1) := by decide +kernel
theorem dX7_find_32 : decode cX7_find 32 = .ok (.ldc 246, 2) := by decide +kernel
theorem dX7_find_34 : decode cX7_find 34 = .ok (.invokespecial 89, 3) := by decide +kernel
theorem dX7_find_37 : decode cX7_find 37 = .ok (.athrow, 1) := by decide +kernel
theorem dX7_find_38 : decode cX7_find 38 = .ok (.aload_n 2, 1) := by decide +kernel
theorem dX7_find_39 : decode cX7_find 39 = .ok (.areturn, 1) := by decide +kernel
theorem dX7_findLayer_0 : decode cX7_findLayer 0 = .ok (.iload_n 1, 1) := by decide +kernel
theorem dX7_findLayer_1 : decode cX7_findLayer 1 = .ok (.iload_n 2, 1) := by decide +kernel
theorem dX7_findLayer_2 : decode cX7_findLayer 2 = .ok (.invokestatic 44, 3) := by decide +kernel
theorem dX7_findLayer_5 : decode cX7_findLayer 5 = .ok (.aload_n 0, 1) := by decide +kernel
theorem dX7_findLayer_6 : decode cX7_findLayer 6 = .ok (.getfield 25, 3) := by decide +kernel
theorem dX7_findLayer_9 : decode cX7_findLayer 9 = .ok (.aload_n 0, 1) := by decide +kernel
theorem dX7_findLayer_10 : decode cX7_findLayer 10 = .ok (.getfield 18, 3) := by decide +kernel
theorem dX7_findLayer_13 : decode cX7_findLayer 13 = .ok (.getfield 194, 3) := by decide +kernel
theorem dX7_findLayer_16 : decode cX7_findLayer 16 = .ok (.iload_n 1, 1) := by decide +kernel
theorem dX7_findLayer_17 : decode cX7_findLayer 17 = .ok (.iload_n 2, 1) := by decide +kernel
theorem dX7_findLayer_18 : decode cX7_findLayer 18 = .ok (.invokevirtual 198, 3) := by decide +kernel
theorem dX7_findLayer_21 : decode cX7_findLayer 21 = .ok (.aload_n 0, 1) := by decide +kernel
theorem dX7_findLayer_22 : decode cX7_findLayer 22 = .ok (.getfield 25, 3) := by decide +kernel
theorem dX7_findLayer_25 : decode cX7_findLayer 25 = .ok (.iload_n 3, 1) := by decide +kernel
theorem dX7_findLayer_26 : decode cX7_findLayer 26 = .ok (.invokevirtual 248, 3) := by decide +kernel
theorem dX7_findLayer_29 : decode cX7_findLayer 29 = .ok (.astore 4, 2) := by decide +kernel
theorem dX7_findLayer_31 : decode cX7_findLayer 31 = .ok (.aload 4, 2) := by decide +kernel
theorem dX7_findLayer_33 : decode cX7_findLayer 33 = .ok (.ifnonnull 13, 3) := by decide +kernel
theorem dX7_findLayer_36 : decode cX7_findLayer 36 = .ok (.new 85, 3) := by decide +kernel
theorem dX7_findLayer_39 : decode cX7_findLayer 39 = .ok (.dup, 1) := by decide +kernel
theorem dX7_findLayer_40 : decode cX7_findLayer 40 = .ok (.ldc 252, 2) := by decide +kernel
theorem dX7_findLayer_42 : decode cX7_findLayer 42 = .ok (.invokespecial 89, 3) := by decide +kernel
theorem dX7_findLayer_45 : decode cX7_findLayer 45 = .ok (.athrow, 1) := by decide +kernel
theorem dX7_findLayer_46 : decode cX7_findLayer 46 = .ok (.aload 4, 2) := by decide +kernel
theorem dX7_findLayer_48 : decode cX7_findLayer 48 = .ok (.areturn, 1) := by decide +kernel
theorem dX7_post_0 : decode cX7_post 0 = .ok (.aload_n 0, 1) := by decide +kernel
theorem dX7_post_1 : decode cX7_post 1 = .ok (.getfield 57, 3) := by decide +kernel
theorem dX7_post_4 : decode cX7_post 4 = .ok (.ifCond .lt 43, 3) := by decide +kernel
theorem dX7_post_7 : decode cX7_post 7 = .ok (.aload_n 0, 1) := by decide +kernel
theorem dX7_post_8 : decode cX7_post 8 = .ok (.getfield 57, 3) := by decide +kernel
theorem dX7_post_11 : decode cX7_post 11 = .ok (.aload_n 0, 1) := by decide +kernel
theorem dX7_post_12 : decode cX7_post 12 = .ok (.getfield 11, 3) := by decide +kernel
theorem dX7_post_15 : decode cX7_post 15 = .ok (.arraylength, 1) := by decide +kernel
theorem dX7_post_16 : decode cX7_post 16 = .ok (.if_icmp .ge 31, 3) := by decide +kernel
theorem dX7_post_19 : decode cX7_post 19 = .ok (.aload_n 0, 1) := by decide +kernel
theorem dX7_post_20 : decode cX7_post 20 = .ok (.getfield 11, 3) := by decide +kernel
theorem dX7_post_23 : decode cX7_post 23 = .ok (.aload_n 0, 1) := by decide +kernel
theorem dX7_post_24 : decode cX7_post 24 = .ok (.getfield 57, 3) := by decide +kernel
theorem dX7_post_27 : decode cX7_post 27 = .ok (.aload_n 1, 1) := by decide +kernel
theorem dX7_post_28 : decode cX7_post 28 = .ok (.aastore, 1) := by decide +kernel
theorem dX7_post_29 : decode cX7_post 29 = .ok (.aload_n 0, 1) := by decide +kernel
theorem dX7_post_30 : decode cX7_post 30 = .ok (.dup, 1) := by decide +kernel
theorem dX7_post_31 : decode cX7_post 31 = .ok (.getfield 57, 3) := by decide +kernel
theorem dX7_post_34 : decode cX7_post 34 = .ok (.iconst 1, 1) := by decide +kernel
theorem dX7_post_35 : decode cX7_post 35 = .ok (.iadd, 1) := by decide +kernel
theorem dX7_post_36 : decode cX7_post 36 = .ok (.putfield 57, 3) := by decide +kernel
theorem dX7_post_39 : decode cX7_post 39 = .ok (.aload_n 0, 1) := by decide +kernel
theorem dX7_post_40 : decode cX7_post 40 = .ok (.getfield 18, 3) := by decide +kernel
theorem dX7_post_43 : decode cX7_post 43 = .ok (.aload_n 1, 1) := by decide +kernel
theorem dX7_post_44 : decode cX7_post 44 = .ok (.invokevirtual 254, 3) := by decide +kernel
theorem dX7_post_47 : decode cX7_post 47 = .ok (.aload_n 1, 1) := by decide +kernel
theorem dX7_post_48 : decode cX7_post 48 = .ok (.getfield 243, 3) := by decide +kernel
theorem dX7_post_51 : decode cX7_post 51 = .ok (.ireturn, 1) := by decide +kernel
theorem dX7_replayed_0 : decode cX7_replayed 0 = .ok (.iload_n 3, 1) := by decide +kernel
theorem dX7_replayed_1 : decode cX7_replayed 1 = .ok (.ifCond .eq 10, 3) := by decide +kernel
theorem dX7_replayed_4 : decode cX7_replayed 4 = .ok (.aload_n 0, 1) := by decide +kernel
theorem dX7_replayed_5 : decode cX7_replayed 5 = .ok (.getfield 32, 3) := by decide +kernel
theorem dX7_replayed_8 : decode cX7_replayed 8 = .ok (.goto 7, 3) := by decide +kernel
theorem dX7_replayed_11 : decode cX7_replayed 11 = .ok (.aload_n 0, 1) := by decide +kernel
theorem dX7_replayed_12 : decode cX7_replayed 12 = .ok (.getfield 25, 3) := by decide +kernel
theorem dX7_replayed_15 : decode cX7_replayed 15 = .ok (.astore 4, 2) := by decide +kernel
theorem dX7_replayed_17 : decode cX7_replayed 17 = .ok (.aload 4, 2) := by decide +kernel
theorem dX7_replayed_19 : decode cX7_replayed 19 = .ok (.aload_n 0, 1) := by decide +kernel
theorem dX7_replayed_20 : decode cX7_replayed 20 = .ok (.getfield 18, 3) := by decide +kernel
theorem dX7_replayed_23 : decode cX7_replayed 23 = .ok (.getfield 194, 3) := by decide +kernel
theorem dX7_replayed_26 : decode cX7_replayed 26 = .ok (.iload_n 1, 1) := by decide +kernel
theorem dX7_replayed_27 : decode cX7_replayed 27 = .ok (.iload_n 2, 1) := by decide +kernel
theorem dX7_replayed_28 : decode cX7_replayed 28 = .ok (.invokevirtual 257, 3) := by decide +kernel
theorem dX7_replayed_31 : decode cX7_replayed 31 = .ok (.aload 4, 2) := by decide +kernel
theorem dX7_replayed_33 : decode cX7_replayed 33 = .ok (.areturn, 1) := by decide +kernel
theorem dX7_weightOf_0 : decode cX7_weightOf 0 = .ok (.iload_n 1, 1) := by decide +kernel
theorem dX7_weightOf_1 : decode cX7_weightOf 1 = .ok (.ifCond .lt 21, 3) := by decide +kernel
theorem dX7_weightOf_4 : decode cX7_weightOf 4 = .ok (.iload_n 1, 1) := by decide +kernel
theorem dX7_weightOf_5 : decode cX7_weightOf 5 = .ok (.aload_n 0, 1) := by decide +kernel
theorem dX7_weightOf_6 : decode cX7_weightOf 6 = .ok (.getfield 36, 3) := by decide +kernel
theorem dX7_weightOf_9 : decode cX7_weightOf 9 = .ok (.arraylength, 1) := by decide +kernel
theorem dX7_weightOf_10 : decode cX7_weightOf 10 = .ok (.if_icmp .ge 12, 3) := by decide +kernel
theorem dX7_weightOf_13 : decode cX7_weightOf 13 = .ok (.aload_n 0, 1) := by decide +kernel
theorem dX7_weightOf_14 : decode cX7_weightOf 14 = .ok (.getfield 36, 3) := by decide +kernel
theorem dX7_weightOf_17 : decode cX7_weightOf 17 = .ok (.iload_n 1, 1) := by decide +kernel
theorem dX7_weightOf_18 : decode cX7_weightOf 18 = .ok (.iaload, 1) := by decide +kernel
theorem dX7_weightOf_19 : decode cX7_weightOf 19 = .ok (.goto 4, 3) := by decide +kernel
theorem dX7_weightOf_22 : decode cX7_weightOf 22 = .ok (.iconst 0, 1) := by decide +kernel
theorem dX7_weightOf_23 : decode cX7_weightOf 23 = .ok (.ireturn, 1) := by decide +kernel
theorem dX7_chosen_0 : decode cX7_chosen 0 = .ok (.iload_n 3, 1) := by decide +kernel
theorem dX7_chosen_1 : decode cX7_chosen 1 = .ok (.ifCond .lt 26, 3) := by decide +kernel
theorem dX7_chosen_4 : decode cX7_chosen 4 = .ok (.iload_n 3, 1) := by decide +kernel
theorem dX7_chosen_5 : decode cX7_chosen 5 = .ok (.aload_n 0, 1) := by decide +kernel
theorem dX7_chosen_6 : decode cX7_chosen 6 = .ok (.getfield 11, 3) := by decide +kernel
theorem dX7_chosen_9 : decode cX7_chosen 9 = .ok (.arraylength, 1) := by decide +kernel
theorem dX7_chosen_10 : decode cX7_chosen 10 = .ok (.if_icmp .ge 17, 3) := by decide +kernel
theorem dX7_chosen_13 : decode cX7_chosen 13 = .ok (.lload_n 1, 1) := by decide +kernel
theorem dX7_chosen_14 : decode cX7_chosen 14 = .ok (.iload_n 3, 1) := by decide +kernel
theorem dX7_chosen_15 : decode cX7_chosen 15 = .ok (.lushr, 1) := by decide +kernel
theorem dX7_chosen_16 : decode cX7_chosen 16 = .ok (.lconst 1, 1) := by decide +kernel
theorem dX7_chosen_17 : decode cX7_chosen 17 = .ok (.land, 1) := by decide +kernel
theorem dX7_chosen_18 : decode cX7_chosen 18 = .ok (.lconst 1, 1) := by decide +kernel
theorem dX7_chosen_19 : decode cX7_chosen 19 = .ok (.lcmp, 1) := by decide +kernel
theorem dX7_chosen_20 : decode cX7_chosen 20 = .ok (.ifCond .ne 7, 3) := by decide +kernel
theorem dX7_chosen_23 : decode cX7_chosen 23 = .ok (.iconst 1, 1) := by decide +kernel
theorem dX7_chosen_24 : decode cX7_chosen 24 = .ok (.goto 4, 3) := by decide +kernel
theorem dX7_chosen_27 : decode cX7_chosen 27 = .ok (.iconst 0, 1) := by decide +kernel
theorem dX7_chosen_28 : decode cX7_chosen 28 = .ok (.istore 4, 2) := by decide +kernel
theorem dX7_chosen_30 : decode cX7_chosen 30 = .ok (.iload 4, 2) := by decide +kernel
theorem dX7_chosen_32 : decode cX7_chosen 32 = .ok (.ifCond .eq 12, 3) := by decide +kernel
theorem dX7_chosen_35 : decode cX7_chosen 35 = .ok (.aload_n 0, 1) := by decide +kernel
theorem dX7_chosen_36 : decode cX7_chosen 36 = .ok (.getfield 11, 3) := by decide +kernel
theorem dX7_chosen_39 : decode cX7_chosen 39 = .ok (.iload_n 3, 1) := by decide +kernel
theorem dX7_chosen_40 : decode cX7_chosen 40 = .ok (.aaload, 1) := by decide +kernel
theorem dX7_chosen_41 : decode cX7_chosen 41 = .ok (.goto 4, 3) := by decide +kernel
theorem dX7_chosen_44 : decode cX7_chosen 44 = .ok (.aconst_null, 1) := by decide +kernel
theorem dX7_chosen_45 : decode cX7_chosen 45 = .ok (.areturn, 1) := by decide +kernel
theorem dX7_basisOf_0 : decode cX7_basisOf 0 = .ok (.iload_n 2, 1) := by decide +kernel
theorem dX7_basisOf_1 : decode cX7_basisOf 1 = .ok (.iconst 1, 1) := by decide +kernel
theorem dX7_basisOf_2 : decode cX7_basisOf 2 = .ok (.if_icmp .ne 9, 3) := by decide +kernel
theorem dX7_basisOf_5 : decode cX7_basisOf 5 = .ok (.aload_n 1, 1) := by decide +kernel
theorem dX7_basisOf_6 : decode cX7_basisOf 6 = .ok (.getfield 258, 3) := by decide +kernel
theorem dX7_basisOf_9 : decode cX7_basisOf 9 = .ok (.i2l, 1) := by decide +kernel
theorem dX7_basisOf_10 : decode cX7_basisOf 10 = .ok (.lreturn, 1) := by decide +kernel
theorem dX7_basisOf_11 : decode cX7_basisOf 11 = .ok (.iload_n 2, 1) := by decide +kernel
theorem dX7_basisOf_12 : decode cX7_basisOf 12 = .ok (.iconst 2, 1) := by decide +kernel
theorem dX7_basisOf_13 : decode cX7_basisOf 13 = .ok (.if_icmp .ne 20, 3) := by decide +kernel
theorem dX7_basisOf_16 : decode cX7_basisOf 16 = .ok (.aload_n 1, 1) := by decide +kernel
theorem dX7_basisOf_17 : decode cX7_basisOf 17 = .ok (.getfield 240, 3) := by decide +kernel
theorem dX7_basisOf_20 : decode cX7_basisOf 20 = .ok (.aload_n 0, 1) := by decide +kernel
theorem dX7_basisOf_21 : decode cX7_basisOf 21 = .ok (.aload_n 1, 1) := by decide +kernel
theorem dX7_basisOf_22 : decode cX7_basisOf 22 = .ok (.getfield 160, 3) := by decide +kernel
theorem dX7_basisOf_25 : decode cX7_basisOf 25 = .ok (.invokevirtual 140, 3) := by decide +kernel
theorem dX7_basisOf_28 : decode cX7_basisOf 28 = .ok (.imul, 1) := by decide +kernel
theorem dX7_basisOf_29 : decode cX7_basisOf 29 = .ok (.i2l, 1) := by decide +kernel
theorem dX7_basisOf_30 : decode cX7_basisOf 30 = .ok (.goto 8, 3) := by decide +kernel
theorem dX7_basisOf_33 : decode cX7_basisOf 33 = .ok (.aload_n 1, 1) := by decide +kernel
theorem dX7_basisOf_34 : decode cX7_basisOf 34 = .ok (.getfield 240, 3) := by decide +kernel
theorem dX7_basisOf_37 : decode cX7_basisOf 37 = .ok (.i2l, 1) := by decide +kernel
theorem dX7_basisOf_38 : decode cX7_basisOf 38 = .ok (.lreturn, 1) := by decide +kernel
theorem dX7_sumOfBasis_0 : decode cX7_sumOfBasis 0 = .ok (.lconst 0, 1) := by decide +kernel
theorem dX7_sumOfBasis_1 : decode cX7_sumOfBasis 1 = .ok (.lstore 4, 2) := by decide +kernel
theorem dX7_sumOfBasis_3 : decode cX7_sumOfBasis 3 = .ok (.iconst 0, 1) := by decide +kernel
theorem dX7_sumOfBasis_4 : decode cX7_sumOfBasis 4 = .ok (.istore 6, 2) := by decide +kernel
theorem dX7_sumOfBasis_6 : decode cX7_sumOfBasis 6 = .ok (.iload 6, 2) := by decide +kernel
theorem dX7_sumOfBasis_8 : decode cX7_sumOfBasis 8 = .ok (.bipush 60, 2) := by decide +kernel
theorem dX7_sumOfBasis_10 : decode cX7_sumOfBasis 10 = .ok (.if_icmp .ge 35, 3) := by decide +kernel
theorem dX7_sumOfBasis_13 : decode cX7_sumOfBasis 13 = .ok (.aload_n 0, 1) := by decide +kernel
theorem dX7_sumOfBasis_14 : decode cX7_sumOfBasis 14 = .ok (.lload_n 1, 1) := by decide +kernel
theorem dX7_sumOfBasis_15 : decode cX7_sumOfBasis 15 = .ok (.iload 6, 2) := by decide +kernel
theorem dX7_sumOfBasis_17 : decode cX7_sumOfBasis 17 = .ok (.invokevirtual 228, 3) := by decide +kernel
theorem dX7_sumOfBasis_20 : decode cX7_sumOfBasis 20 = .ok (.astore 7, 2) := by decide +kernel
theorem dX7_sumOfBasis_22 : decode cX7_sumOfBasis 22 = .ok (.aload 7, 2) := by decide +kernel
theorem dX7_sumOfBasis_24 : decode cX7_sumOfBasis 24 = .ok (.ifnull 15, 3) := by decide +kernel
theorem dX7_sumOfBasis_27 : decode cX7_sumOfBasis 27 = .ok (.lload 4, 2) := by decide +kernel
theorem dX7_sumOfBasis_29 : decode cX7_sumOfBasis 29 = .ok (.aload_n 0, 1) := by decide +kernel
theorem dX7_sumOfBasis_30 : decode cX7_sumOfBasis 30 = .ok (.aload 7, 2) := by decide +kernel
theorem dX7_sumOfBasis_32 : decode cX7_sumOfBasis 32 = .ok (.iload_n 3, 1) := by decide +kernel
theorem dX7_sumOfBasis_33 : decode cX7_sumOfBasis 33 = .ok (.invokevirtual 260, 3) := by decide +kernel
theorem dX7_sumOfBasis_36 : decode cX7_sumOfBasis 36 = .ok (.ladd, 1) := by decide +kernel
theorem dX7_sumOfBasis_37 : decode cX7_sumOfBasis 37 = .ok (.lstore 4, 2) := by decide +kernel
theorem dX7_sumOfBasis_39 : decode cX7_sumOfBasis 39 = .ok (.iinc 6 1, 3) := by decide +kernel
theorem dX7_sumOfBasis_42 : decode cX7_sumOfBasis 42 = .ok (.goto (-36), 3) := by decide +kernel
theorem dX7_sumOfBasis_45 : decode cX7_sumOfBasis 45 = .ok (.lload 4, 2) := by decide +kernel
theorem dX7_sumOfBasis_47 : decode cX7_sumOfBasis 47 = .ok (.lreturn, 1) := by decide +kernel
theorem dX7_spread_0 : decode cX7_spread 0 = .ok (.aconst_null, 1) := by decide +kernel
theorem dX7_spread_1 : decode cX7_spread 1 = .ok (.astore 7, 2) := by decide +kernel
theorem dX7_spread_3 : decode cX7_spread 3 = .ok (.iload_n 1, 1) := by decide +kernel
theorem dX7_spread_4 : decode cX7_spread 4 = .ok (.istore 8, 2) := by decide +kernel
theorem dX7_spread_6 : decode cX7_spread 6 = .ok (.bipush 59, 2) := by decide +kernel
theorem dX7_spread_8 : decode cX7_spread 8 = .ok (.istore 9, 2) := by decide +kernel
theorem dX7_spread_10 : decode cX7_spread 10 = .ok (.iload 9, 2) := by decide +kernel
theorem dX7_spread_12 : decode cX7_spread 12 = .ok (.ifCond .lt 76, 3) := by decide +kernel
theorem dX7_spread_15 : decode cX7_spread 15 = .ok (.aload_n 0, 1) := by decide +kernel
theorem dX7_spread_16 : decode cX7_spread 16 = .ok (.lload_n 3, 1) := by decide +kernel
theorem dX7_spread_17 : decode cX7_spread 17 = .ok (.iload 9, 2) := by decide +kernel
theorem dX7_spread_19 : decode cX7_spread 19 = .ok (.invokevirtual 228, 3) := by decide +kernel
theorem dX7_spread_22 : decode cX7_spread 22 = .ok (.astore 10, 2) := by decide +kernel
theorem dX7_spread_24 : decode cX7_spread 24 = .ok (.aload 10, 2) := by decide +kernel
theorem dX7_spread_26 : decode cX7_spread 26 = .ok (.ifnull 56, 3) := by decide +kernel
theorem dX7_spread_29 : decode cX7_spread 29 = .ok (.lload 5, 2) := by decide +kernel
theorem dX7_spread_31 : decode cX7_spread 31 = .ok (.lconst 0, 1) := by decide +kernel
theorem dX7_spread_32 : decode cX7_spread 32 = .ok (.lcmp, 1) := by decide +kernel
theorem dX7_spread_33 : decode cX7_spread 33 = .ok (.ifCond .le 49, 3) := by decide +kernel
theorem dX7_spread_36 : decode cX7_spread 36 = .ok (.iload_n 1, 1) := by decide +kernel
theorem dX7_spread_37 : decode cX7_spread 37 = .ok (.i2l, 1) := by decide +kernel
theorem dX7_spread_38 : decode cX7_spread 38 = .ok (.aload_n 0, 1) := by decide +kernel
theorem dX7_spread_39 : decode cX7_spread 39 = .ok (.aload 10, 2) := by decide +kernel
theorem dX7_spread_41 : decode cX7_spread 41 = .ok (.iload_n 2, 1) := by decide +kernel
theorem dX7_spread_42 : decode cX7_spread 42 = .ok (.invokevirtual 260, 3) := by decide +kernel
theorem dX7_spread_45 : decode cX7_spread 45 = .ok (.lmul, 1) := by decide +kernel
theorem dX7_spread_46 : decode cX7_spread 46 = .ok (.lstore 11, 2) := by decide +kernel
theorem dX7_spread_48 : decode cX7_spread 48 = .ok (.new 154, 3) := by decide +kernel
theorem dX7_spread_51 : decode cX7_spread 51 = .ok (.dup, 1) := by decide +kernel
theorem dX7_spread_52 : decode cX7_spread 52 = .ok (.aload 10, 2) := by decide +kernel
theorem dX7_spread_54 : decode cX7_spread 54 = .ok (.lload 11, 2) := by decide +kernel
theorem dX7_spread_56 : decode cX7_spread 56 = .ok (.lload 5, 2) := by decide +kernel
theorem dX7_spread_58 : decode cX7_spread 58 = .ok (.ldiv, 1) := by decide +kernel
theorem dX7_spread_59 : decode cX7_spread 59 = .ok (.l2i, 1) := by decide +kernel
theorem dX7_spread_60 : decode cX7_spread 60 = .ok (.lload 11, 2) := by decide +kernel
theorem dX7_spread_62 : decode cX7_spread 62 = .ok (.lload 5, 2) := by decide +kernel
theorem dX7_spread_64 : decode cX7_spread 64 = .ok (.lrem, 1) := by decide +kernel
theorem dX7_spread_65 : decode cX7_spread 65 = .ok (.aload 7, 2) := by decide +kernel
theorem dX7_spread_67 : decode cX7_spread 67 = .ok (.invokespecial 264, 3) := by decide +kernel
theorem dX7_spread_70 : decode cX7_spread 70 = .ok (.astore 7, 2) := by decide +kernel
theorem dX7_spread_72 : decode cX7_spread 72 = .ok (.iload 8, 2) := by decide +kernel
theorem dX7_spread_74 : decode cX7_spread 74 = .ok (.aload 7, 2) := by decide +kernel
theorem dX7_spread_76 : decode cX7_spread 76 = .ok (.getfield 153, 3) := by decide +kernel
theorem dX7_spread_79 : decode cX7_spread 79 = .ok (.isub, 1) := by decide +kernel
theorem dX7_spread_80 : decode cX7_spread 80 = .ok (.istore 8, 2) := by decide +kernel
theorem dX7_spread_82 : decode cX7_spread 82 = .ok (.iinc 9 (-1), 3) := by decide +kernel
theorem dX7_spread_85 : decode cX7_spread 85 = .ok (.goto (-75), 3) := by decide +kernel
theorem dX7_spread_88 : decode cX7_spread 88 = .ok (.iconst 0, 1) := by decide +kernel
theorem dX7_spread_89 : decode cX7_spread 89 = .ok (.istore 9, 2) := by decide +kernel
theorem dX7_spread_91 : decode cX7_spread 91 = .ok (.iload 9, 2) := by decide +kernel
theorem dX7_spread_93 : decode cX7_spread 93 = .ok (.iload 8, 2) := by decide +kernel
theorem dX7_spread_95 : decode cX7_spread 95 = .ok (.if_icmp .ge 14, 3) := by decide +kernel
theorem dX7_spread_98 : decode cX7_spread 98 = .ok (.aload 7, 2) := by decide +kernel
theorem dX7_spread_100 : decode cX7_spread 100 = .ok (.invokestatic 267, 3) := by decide +kernel
theorem dX7_spread_103 : decode cX7_spread 103 = .ok (.iinc 9 1, 3) := by decide +kernel
theorem dX7_spread_106 : decode cX7_spread 106 = .ok (.goto (-15), 3) := by decide +kernel
theorem dX7_spread_109 : decode cX7_spread 109 = .ok (.aload 7, 2) := by decide +kernel
theorem dX7_spread_111 : decode cX7_spread 111 = .ok (.areturn, 1) := by decide +kernel
theorem dX7_giveCent_0 : decode cX7_giveCent 0 = .ok (.aload_n 0, 1) := by decide +kernel
theorem dX7_giveCent_1 : decode cX7_giveCent 1 = .ok (.astore_n 1, 1) := by decide +kernel
theorem dX7_giveCent_2 : decode cX7_giveCent 2 = .ok (.aload_n 0, 1) := by decide +kernel
theorem dX7_giveCent_3 : decode cX7_giveCent 3 = .ok (.astore_n 2, 1) := by decide +kernel
theorem dX7_giveCent_4 : decode cX7_giveCent 4 = .ok (.aload_n 2, 1) := by decide +kernel
theorem dX7_giveCent_5 : decode cX7_giveCent 5 = .ok (.ifnull 29, 3) := by decide +kernel
theorem dX7_giveCent_8 : decode cX7_giveCent 8 = .ok (.aload_n 1, 1) := by decide +kernel
theorem dX7_giveCent_9 : decode cX7_giveCent 9 = .ok (.ifnull 17, 3) := by decide +kernel
theorem dX7_giveCent_12 : decode cX7_giveCent 12 = .ok (.aload_n 2, 1) := by decide +kernel
theorem dX7_giveCent_13 : decode cX7_giveCent 13 = .ok (.getfield 271, 3) := by decide +kernel
theorem dX7_giveCent_16 : decode cX7_giveCent 16 = .ok (.aload_n 1, 1) := by decide +kernel
theorem dX7_giveCent_17 : decode cX7_giveCent 17 = .ok (.getfield 271, 3) := by decide +kernel
theorem dX7_giveCent_20 : decode cX7_giveCent 20 = .ok (.lcmp, 1) := by decide +kernel
theorem dX7_giveCent_21 : decode cX7_giveCent 21 = .ok (.ifCond .le 5, 3) := by decide +kernel
theorem dX7_giveCent_24 : decode cX7_giveCent 24 = .ok (.aload_n 2, 1) := by decide +kernel
theorem dX7_giveCent_25 : decode cX7_giveCent 25 = .ok (.astore_n 1, 1) := by decide +kernel
theorem dX7_giveCent_26 : decode cX7_giveCent 26 = .ok (.aload_n 2, 1) := by decide +kernel
theorem dX7_giveCent_27 : decode cX7_giveCent 27 = .ok (.getfield 274, 3) := by decide +kernel
theorem dX7_giveCent_30 : decode cX7_giveCent 30 = .ok (.astore_n 2, 1) := by decide +kernel
theorem dX7_giveCent_31 : decode cX7_giveCent 31 = .ok (.goto (-27), 3) := by decide +kernel
theorem dX7_giveCent_34 : decode cX7_giveCent 34 = .ok (.aload_n 1, 1) := by decide +kernel
theorem dX7_giveCent_35 : decode cX7_giveCent 35 = .ok (.ifnull 20, 3) := by decide +kernel
theorem dX7_giveCent_38 : decode cX7_giveCent 38 = .ok (.aload_n 1, 1) := by decide +kernel
theorem dX7_giveCent_39 : decode cX7_giveCent 39 = .ok (.dup, 1) := by decide +kernel
theorem dX7_giveCent_40 : decode cX7_giveCent 40 = .ok (.getfield 153, 3) := by decide +kernel
theorem dX7_giveCent_43 : decode cX7_giveCent 43 = .ok (.iconst 1, 1) := by decide +kernel
theorem dX7_giveCent_44 : decode cX7_giveCent 44 = .ok (.iadd, 1) := by decide +kernel
theorem dX7_giveCent_45 : decode cX7_giveCent 45 = .ok (.putfield 153, 3) := by decide +kernel
theorem dX7_giveCent_48 : decode cX7_giveCent 48 = .ok (.aload_n 1, 1) := by decide +kernel
theorem dX7_giveCent_49 : decode cX7_giveCent 49 = .ok (.ldc2_w 277, 3) := by decide +kernel
theorem dX7_giveCent_52 : decode cX7_giveCent 52 = .ok (.putfield 271, 3) := by decide +kernel
theorem dX7_giveCent_55 : decode cX7_giveCent 55 = .ok (.return_, 1) := by decide +kernel
end
section
theorem dL_dice_0 : decode cL_dice 0 = .ok (.iload_n 1, 1) := by decide +kernel
theorem dL_dice_1 : decode cL_dice 1 = .ok (.aload_n 0, 1) := by decide +kernel
theorem dL_dice_2 : decode cL_dice 2 = .ok (.arraylength, 1) := by decide +kernel
theorem dL_dice_3 : decode cL_dice 3 = .ok (.if_icmp .ge 9, 3) := by decide +kernel
theorem dL_dice_6 : decode cL_dice 6 = .ok (.aload_n 0, 1) := by decide +kernel
theorem dL_dice_7 : decode cL_dice 7 = .ok (.iload_n 1, 1) := by decide +kernel
theorem dL_dice_8 : decode cL_dice 8 = .ok (.iaload, 1) := by decide +kernel
theorem dL_dice_9 : decode cL_dice 9 = .ok (.goto 21, 3) := by decide +kernel
theorem dL_dice_12 : decode cL_dice 12 = .ok (.ldc 7, 2) := by decide +kernel
theorem dL_dice_14 : decode cL_dice 14 = .ok (.iload_n 1, 1) := by decide +kernel
theorem dL_dice_15 : decode cL_dice 15 = .ok (.bipush 37, 2) := by decide +kernel
theorem dL_dice_17 : decode cL_dice 17 = .ok (.iadd, 1) := by decide +kernel
theorem dL_dice_18 : decode cL_dice 18 = .ok (.imul, 1) := by decide +kernel
theorem dL_dice_19 : decode cL_dice 19 = .ok (.sipush 541, 3) := by decide +kernel
theorem dL_dice_22 : decode cL_dice 22 = .ok (.iload_n 1, 1) := by decide +kernel
theorem dL_dice_23 : decode cL_dice 23 = .ok (.imul, 1) := by decide +kernel
theorem dL_dice_24 : decode cL_dice 24 = .ok (.iload_n 1, 1) := by decide +kernel
theorem dL_dice_25 : decode cL_dice 25 = .ok (.imul, 1) := by decide +kernel
theorem dL_dice_26 : decode cL_dice 26 = .ok (.iadd, 1) := by decide +kernel
theorem dL_dice_27 : decode cL_dice 27 = .ok (.ldc 8, 2) := by decide +kernel
theorem dL_dice_29 : decode cL_dice 29 = .ok (.iadd, 1) := by decide +kernel
theorem dL_dice_30 : decode cL_dice 30 = .ok (.ldc 9, 2) := by decide +kernel
theorem dL_dice_32 : decode cL_dice 32 = .ok (.iand, 1) := by decide +kernel
theorem dL_dice_33 : decode cL_dice 33 = .ok (.ireturn, 1) := by decide +kernel
theorem dL_receive_0 : decode cL_receive 0 = .ok (.aload_n 0, 1) := by decide +kernel
theorem dL_receive_1 : decode cL_receive 1 = .ok (.iload_n 1, 1) := by decide +kernel
theorem dL_receive_2 : decode cL_receive 2 = .ok (.iload_n 2, 1) := by decide +kernel
theorem dL_receive_3 : decode cL_receive 3 = .ok (.iload_n 3, 1) := by decide +kernel
theorem dL_receive_4 : decode cL_receive 4 = .ok (.iload 4, 2) := by decide +kernel
theorem dL_receive_6 : decode cL_receive 6 = .ok (.invokevirtual 10, 3) := by decide +kernel
theorem dL_receive_9 : decode cL_receive 9 = .ok (.ireturn, 1) := by decide +kernel
theorem dL_receive_10 : decode cL_receive 10 = .ok (.astore 5, 2) := by decide +kernel
theorem dL_receive_12 : decode cL_receive 12 = .ok (.bipush (-6), 2) := by decide +kernel
theorem dL_receive_14 : decode cL_receive 14 = .ok (.ireturn, 1) := by decide +kernel
theorem dL_receive_15 : decode cL_receive 15 = .ok (.astore 5, 2) := by decide +kernel
theorem dL_receive_17 : decode cL_receive 17 = .ok (.bipush (-7), 2) := by decide +kernel
theorem dL_receive_19 : decode cL_receive 19 = .ok (.ireturn, 1) := by decide +kernel
theorem dL_issue_0 : decode cL_issue 0 = .ok (.aload_n 0, 1) := by decide +kernel
theorem dL_issue_1 : decode cL_issue 1 = .ok (.iload_n 1, 1) := by decide +kernel
theorem dL_issue_2 : decode cL_issue 2 = .ok (.iload_n 2, 1) := by decide +kernel
theorem dL_issue_3 : decode cL_issue 3 = .ok (.iload_n 3, 1) := by decide +kernel
theorem dL_issue_4 : decode cL_issue 4 = .ok (.invokevirtual 20, 3) := by decide +kernel
theorem dL_issue_7 : decode cL_issue 7 = .ok (.ireturn, 1) := by decide +kernel
theorem dL_issue_8 : decode cL_issue 8 = .ok (.astore 4, 2) := by decide +kernel
theorem dL_issue_10 : decode cL_issue 10 = .ok (.bipush (-6), 2) := by decide +kernel
theorem dL_issue_12 : decode cL_issue 12 = .ok (.ireturn, 1) := by decide +kernel
theorem dL_issue_13 : decode cL_issue 13 = .ok (.astore 4, 2) := by decide +kernel
theorem dL_issue_15 : decode cL_issue 15 = .ok (.bipush (-7), 2) := by decide +kernel
theorem dL_issue_17 : decode cL_issue 17 = .ok (.ireturn, 1) := by decide +kernel
theorem dL_revalue_0 : decode cL_revalue 0 = .ok (.aload_n 0, 1) := by decide +kernel
theorem dL_revalue_1 : decode cL_revalue 1 = .ok (.iload_n 1, 1) := by decide +kernel
theorem dL_revalue_2 : decode cL_revalue 2 = .ok (.iload_n 2, 1) := by decide +kernel
theorem dL_revalue_3 : decode cL_revalue 3 = .ok (.iload_n 3, 1) := by decide +kernel
theorem dL_revalue_4 : decode cL_revalue 4 = .ok (.iload 4, 2) := by decide +kernel
theorem dL_revalue_6 : decode cL_revalue 6 = .ok (.invokevirtual 24, 3) := by decide +kernel
theorem dL_revalue_9 : decode cL_revalue 9 = .ok (.ireturn, 1) := by decide +kernel
theorem dL_revalue_10 : decode cL_revalue 10 = .ok (.astore 5, 2) := by decide +kernel
theorem dL_revalue_12 : decode cL_revalue 12 = .ok (.bipush (-6), 2) := by decide +kernel
theorem dL_revalue_14 : decode cL_revalue 14 = .ok (.ireturn, 1) := by decide +kernel
theorem dL_revalue_15 : decode cL_revalue 15 = .ok (.astore 5, 2) := by decide +kernel
theorem dL_revalue_17 : decode cL_revalue 17 = .ok (.bipush (-7), 2) := by decide +kernel
theorem dL_revalue_19 : decode cL_revalue 19 = .ok (.ireturn, 1) := by decide +kernel
theorem dL_land_0 : decode cL_land 0 = .ok (.aload_n 0, 1) := by decide +kernel
theorem dL_land_1 : decode cL_land 1 = .ok (.iload_n 1, 1) := by decide +kernel
theorem dL_land_2 : decode cL_land 2 = .ok (.iload_n 2, 1) := by decide +kernel
theorem dL_land_3 : decode cL_land 3 = .ok (.iload_n 3, 1) := by decide +kernel
theorem dL_land_4 : decode cL_land 4 = .ok (.lload 4, 2) := by decide +kernel
theorem dL_land_6 : decode cL_land 6 = .ok (.invokevirtual 27, 3) := by decide +kernel
theorem dL_land_9 : decode cL_land 9 = .ok (.ireturn, 1) := by decide +kernel
theorem dL_land_10 : decode cL_land 10 = .ok (.astore 6, 2) := by decide +kernel
theorem dL_land_12 : decode cL_land 12 = .ok (.bipush (-6), 2) := by decide +kernel
theorem dL_land_14 : decode cL_land 14 = .ok (.ireturn, 1) := by decide +kernel
theorem dL_land_15 : decode cL_land 15 = .ok (.astore 6, 2) := by decide +kernel
theorem dL_land_17 : decode cL_land 17 = .ok (.bipush (-5), 2) := by decide +kernel
theorem dL_land_19 : decode cL_land 19 = .ok (.ireturn, 1) := by decide +kernel
theorem dL_land_20 : decode cL_land 20 = .ok (.astore 6, 2) := by decide +kernel
theorem dL_land_22 : decode cL_land 22 = .ok (.bipush (-7), 2) := by decide +kernel
theorem dL_land_24 : decode cL_land 24 = .ok (.ireturn, 1) := by decide +kernel
theorem dL_cancel_0 : decode cL_cancel 0 = .ok (.aload_n 0, 1) := by decide +kernel
theorem dL_cancel_1 : decode cL_cancel 1 = .ok (.iload_n 1, 1) := by decide +kernel
theorem dL_cancel_2 : decode cL_cancel 2 = .ok (.invokevirtual 33, 3) := by decide +kernel
theorem dL_cancel_5 : decode cL_cancel 5 = .ok (.ireturn, 1) := by decide +kernel
theorem dL_cancel_6 : decode cL_cancel 6 = .ok (.astore_n 2, 1) := by decide +kernel
theorem dL_cancel_7 : decode cL_cancel 7 = .ok (.bipush (-5), 2) := by decide +kernel
theorem dL_cancel_9 : decode cL_cancel 9 = .ok (.ireturn, 1) := by decide +kernel
theorem dL_cancel_10 : decode cL_cancel 10 = .ok (.astore_n 2, 1) := by decide +kernel
theorem dL_cancel_11 : decode cL_cancel 11 = .ok (.bipush (-7), 2) := by decide +kernel
theorem dL_cancel_13 : decode cL_cancel 13 = .ok (.ireturn, 1) := by decide +kernel
theorem dL_close_0 : decode cL_close 0 = .ok (.aload_n 0, 1) := by decide +kernel
theorem dL_close_1 : decode cL_close 1 = .ok (.iload_n 1, 1) := by decide +kernel
theorem dL_close_2 : decode cL_close 2 = .ok (.invokevirtual 37, 3) := by decide +kernel
theorem dL_close_5 : decode cL_close 5 = .ok (.ireturn, 1) := by decide +kernel
theorem dL_close_6 : decode cL_close 6 = .ok (.astore_n 2, 1) := by decide +kernel
theorem dL_close_7 : decode cL_close 7 = .ok (.bipush (-6), 2) := by decide +kernel
theorem dL_close_9 : decode cL_close 9 = .ok (.ireturn, 1) := by decide +kernel
theorem dL_close_10 : decode cL_close 10 = .ok (.astore_n 2, 1) := by decide +kernel
theorem dL_close_11 : decode cL_close 11 = .ok (.bipush (-7), 2) := by decide +kernel
theorem dL_close_13 : decode cL_close 13 = .ok (.ireturn, 1) := by decide +kernel
theorem dL_setWeight_0 : decode cL_setWeight 0 = .ok (.aload_n 0, 1) := by decide +kernel
theorem dL_setWeight_1 : decode cL_setWeight 1 = .ok (.iload_n 1, 1) := by decide +kernel
theorem dL_setWeight_2 : decode cL_setWeight 2 = .ok (.iload_n 2, 1) := by decide +kernel
theorem dL_setWeight_3 : decode cL_setWeight 3 = .ok (.invokevirtual 40, 3) := by decide +kernel
theorem dL_setWeight_6 : decode cL_setWeight 6 = .ok (.ireturn, 1) := by decide +kernel
theorem dL_setWeight_7 : decode cL_setWeight 7 = .ok (.astore_n 3, 1) := by decide +kernel
theorem dL_setWeight_8 : decode cL_setWeight 8 = .ok (.bipush (-6), 2) := by decide +kernel
theorem dL_setWeight_10 : decode cL_setWeight 10 = .ok (.ireturn, 1) := by decide +kernel
theorem dL_movement_0 : decode cL_movement 0 = .ok (.iload_n 2, 1) := by decide +kernel
theorem dL_movement_1 : decode cL_movement 1 = .ok (.ifCond .ne 11, 3) := by decide +kernel
theorem dL_movement_4 : decode cL_movement 4 = .ok (.aload_n 0, 1) := by decide +kernel
theorem dL_movement_5 : decode cL_movement 5 = .ok (.iload_n 1, 1) := by decide +kernel
theorem dL_movement_6 : decode cL_movement 6 = .ok (.invokevirtual 44, 3) := by decide +kernel
theorem dL_movement_9 : decode cL_movement 9 = .ok (.goto 42, 3) := by decide +kernel
theorem dL_movement_12 : decode cL_movement 12 = .ok (.iload_n 2, 1) := by decide +kernel
theorem dL_movement_13 : decode cL_movement 13 = .ok (.iconst 1, 1) := by decide +kernel
theorem dL_movement_14 : decode cL_movement 14 = .ok (.if_icmp .ne 11, 3) := by decide +kernel
theorem dL_movement_17 : decode cL_movement 17 = .ok (.aload_n 0, 1) := by decide +kernel
theorem dL_movement_18 : decode cL_movement 18 = .ok (.iload_n 1, 1) := by decide +kernel
theorem dL_movement_19 : decode cL_movement 19 = .ok (.invokevirtual 47, 3) := by decide +kernel
theorem dL_movement_22 : decode cL_movement 22 = .ok (.goto 29, 3) := by decide +kernel
theorem dL_movement_25 : decode cL_movement 25 = .ok (.iload_n 2, 1) := by decide +kernel
theorem dL_movement_26 : decode cL_movement 26 = .ok (.iconst 2, 1) := by decide +kernel
theorem dL_movement_27 : decode cL_movement 27 = .ok (.if_icmp .ne 11, 3) := by decide +kernel
theorem dL_movement_30 : decode cL_movement 30 = .ok (.aload_n 0, 1) := by decide +kernel
theorem dL_movement_31 : decode cL_movement 31 = .ok (.iload_n 1, 1) := by decide +kernel
theorem dL_movement_32 : decode cL_movement 32 = .ok (.invokevirtual 50, 3) := by decide +kernel
theorem dL_movement_35 : decode cL_movement 35 = .ok (.goto 16, 3) := by decide +kernel
theorem dL_movement_38 : decode cL_movement 38 = .ok (.aload_n 0, 1) := by decide +kernel
theorem dL_movement_39 : decode cL_movement 39 = .ok (.iload_n 1, 1) := by decide +kernel
theorem dL_movement_40 : decode cL_movement 40 = .ok (.invokevirtual 53, 3) := by decide +kernel
theorem dL_movement_43 : decode cL_movement 43 = .ok (.ifCond .eq 7, 3) := by decide +kernel
theorem dL_movement_46 : decode cL_movement 46 = .ok (.iconst 1, 1) := by decide +kernel
theorem dL_movement_47 : decode cL_movement 47 = .ok (.goto 4, 3) := by decide +kernel
theorem dL_movement_50 : decode cL_movement 50 = .ok (.iconst 0, 1) := by decide +kernel
theorem dL_movement_51 : decode cL_movement 51 = .ok (.ireturn, 1) := by decide +kernel
theorem dL_movement_52 : decode cL_movement 52 = .ok (.astore_n 3, 1) := by decide +kernel
theorem dL_movement_53 : decode cL_movement 53 = .ok (.bipush (-5), 2) := by decide +kernel
theorem dL_movement_55 : decode cL_movement 55 = .ok (.ireturn, 1) := by decide +kernel
theorem dL_partOf_0 : decode cL_partOf 0 = .ok (.aload_n 0, 1) := by decide +kernel
theorem dL_partOf_1 : decode cL_partOf 1 = .ok (.iload_n 1, 1) := by decide +kernel
theorem dL_partOf_2 : decode cL_partOf 2 = .ok (.iload_n 2, 1) := by decide +kernel
theorem dL_partOf_3 : decode cL_partOf 3 = .ok (.invokevirtual 57, 3) := by decide +kernel
theorem dL_partOf_6 : decode cL_partOf 6 = .ok (.ireturn, 1) := by decide +kernel
theorem dL_partOf_7 : decode cL_partOf 7 = .ok (.astore_n 3, 1) := by decide +kernel
theorem dL_partOf_8 : decode cL_partOf 8 = .ok (.bipush (-5), 2) := by decide +kernel
theorem dL_partOf_10 : decode cL_partOf 10 = .ok (.ireturn, 1) := by decide +kernel
theorem dL_partOf_11 : decode cL_partOf 11 = .ok (.astore_n 3, 1) := by decide +kernel
theorem dL_partOf_12 : decode cL_partOf 12 = .ok (.bipush (-7), 2) := by decide +kernel
theorem dL_partOf_14 : decode cL_partOf 14 = .ok (.ireturn, 1) := by decide +kernel
theorem dL_costOf_0 : decode cL_costOf 0 = .ok (.aload_n 0, 1) := by decide +kernel
theorem dL_costOf_1 : decode cL_costOf 1 = .ok (.iload_n 1, 1) := by decide +kernel
theorem dL_costOf_2 : decode cL_costOf 2 = .ok (.iload_n 2, 1) := by decide +kernel
theorem dL_costOf_3 : decode cL_costOf 3 = .ok (.invokevirtual 60, 3) := by decide +kernel
theorem dL_costOf_6 : decode cL_costOf 6 = .ok (.lreturn, 1) := by decide +kernel
theorem dL_costOf_7 : decode cL_costOf 7 = .ok (.astore_n 3, 1) := by decide +kernel
theorem dL_costOf_8 : decode cL_costOf 8 = .ok (.ldc2_w 64, 3) := by decide +kernel
theorem dL_costOf_11 : decode cL_costOf 11 = .ok (.lreturn, 1) := by decide +kernel
theorem dL_costOf_12 : decode cL_costOf 12 = .ok (.astore_n 3, 1) := by decide +kernel
theorem dL_costOf_13 : decode cL_costOf 13 = .ok (.ldc2_w 66, 3) := by decide +kernel
theorem dL_costOf_16 : decode cL_costOf 16 = .ok (.lreturn, 1) := by decide +kernel
theorem dL_layer_0 : decode cL_layer 0 = .ok (.iload 4, 2) := by decide +kernel
theorem dL_layer_2 : decode cL_layer 2 = .ok (.ifCond .ne 14, 3) := by decide +kernel
theorem dL_layer_5 : decode cL_layer 5 = .ok (.aload_n 0, 1) := by decide +kernel
theorem dL_layer_6 : decode cL_layer 6 = .ok (.iload_n 1, 1) := by decide +kernel
theorem dL_layer_7 : decode cL_layer 7 = .ok (.iload_n 2, 1) := by decide +kernel
theorem dL_layer_8 : decode cL_layer 8 = .ok (.iload_n 3, 1) := by decide +kernel
theorem dL_layer_9 : decode cL_layer 9 = .ok (.invokevirtual 68, 3) := by decide +kernel
theorem dL_layer_12 : decode cL_layer 12 = .ok (.i2l, 1) := by decide +kernel
theorem dL_layer_13 : decode cL_layer 13 = .ok (.goto 27, 3) := by decide +kernel
theorem dL_layer_16 : decode cL_layer 16 = .ok (.iload 4, 2) := by decide +kernel
theorem dL_layer_18 : decode cL_layer 18 = .ok (.iconst 1, 1) := by decide +kernel
theorem dL_layer_19 : decode cL_layer 19 = .ok (.if_icmp .ne 13, 3) := by decide +kernel
theorem dL_layer_22 : decode cL_layer 22 = .ok (.aload_n 0, 1) := by decide +kernel
theorem dL_layer_23 : decode cL_layer 23 = .ok (.iload_n 1, 1) := by decide +kernel
theorem dL_layer_24 : decode cL_layer 24 = .ok (.iload_n 2, 1) := by decide +kernel
theorem dL_layer_25 : decode cL_layer 25 = .ok (.iload_n 3, 1) := by decide +kernel
theorem dL_layer_26 : decode cL_layer 26 = .ok (.invokevirtual 71, 3) := by decide +kernel
theorem dL_layer_29 : decode cL_layer 29 = .ok (.goto 11, 3) := by decide +kernel
theorem dL_layer_32 : decode cL_layer 32 = .ok (.aload_n 0, 1) := by decide +kernel
theorem dL_layer_33 : decode cL_layer 33 = .ok (.iload_n 1, 1) := by decide +kernel
theorem dL_layer_34 : decode cL_layer 34 = .ok (.iload_n 2, 1) := by decide +kernel
theorem dL_layer_35 : decode cL_layer 35 = .ok (.iload_n 3, 1) := by decide +kernel
theorem dL_layer_36 : decode cL_layer 36 = .ok (.invokevirtual 75, 3) := by decide +kernel
theorem dL_layer_39 : decode cL_layer 39 = .ok (.i2l, 1) := by decide +kernel
theorem dL_layer_40 : decode cL_layer 40 = .ok (.lreturn, 1) := by decide +kernel
theorem dL_layer_41 : decode cL_layer 41 = .ok (.astore 5, 2) := by decide +kernel
theorem dL_layer_43 : decode cL_layer 43 = .ok (.ldc2_w 78, 3) := by decide +kernel
theorem dL_layer_46 : decode cL_layer 46 = .ok (.lreturn, 1) := by decide +kernel
theorem dL_layer_47 : decode cL_layer 47 = .ok (.astore 5, 2) := by decide +kernel
theorem dL_layer_49 : decode cL_layer 49 = .ok (.ldc2_w 64, 3) := by decide +kernel
theorem dL_layer_52 : decode cL_layer 52 = .ok (.lreturn, 1) := by decide +kernel
theorem dL_ask_0 : decode cL_ask 0 = .ok (.iload_n 3, 1) := by decide +kernel
theorem dL_ask_1 : decode cL_ask 1 = .ok (.ifCond .ne 13, 3) := by decide +kernel
theorem dL_ask_4 : decode cL_ask 4 = .ok (.aload_n 0, 1) := by decide +kernel
theorem dL_ask_5 : decode cL_ask 5 = .ok (.iload_n 1, 1) := by decide +kernel
theorem dL_ask_6 : decode cL_ask 6 = .ok (.iload_n 2, 1) := by decide +kernel
theorem dL_ask_7 : decode cL_ask 7 = .ok (.invokevirtual 80, 3) := by decide +kernel
theorem dL_ask_10 : decode cL_ask 10 = .ok (.i2l, 1) := by decide +kernel
theorem dL_ask_11 : decode cL_ask 11 = .ok (.goto 141, 3) := by decide +kernel
theorem dL_ask_14 : decode cL_ask 14 = .ok (.iload_n 3, 1) := by decide +kernel
theorem dL_ask_15 : decode cL_ask 15 = .ok (.iconst 1, 1) := by decide +kernel
theorem dL_ask_16 : decode cL_ask 16 = .ok (.if_icmp .ne 13, 3) := by decide +kernel
theorem dL_ask_19 : decode cL_ask 19 = .ok (.aload_n 0, 1) := by decide +kernel
theorem dL_ask_20 : decode cL_ask 20 = .ok (.iload_n 1, 1) := by decide +kernel
theorem dL_ask_21 : decode cL_ask 21 = .ok (.iload_n 2, 1) := by decide +kernel
theorem dL_ask_22 : decode cL_ask 22 = .ok (.invokevirtual 83, 3) := by decide +kernel
theorem dL_ask_25 : decode cL_ask 25 = .ok (.i2l, 1) := by decide +kernel
theorem dL_ask_26 : decode cL_ask 26 = .ok (.goto 126, 3) := by decide +kernel
theorem dL_ask_29 : decode cL_ask 29 = .ok (.iload_n 3, 1) := by decide +kernel
theorem dL_ask_30 : decode cL_ask 30 = .ok (.iconst 2, 1) := by decide +kernel
theorem dL_ask_31 : decode cL_ask 31 = .ok (.if_icmp .ne 12, 3) := by decide +kernel
theorem dL_ask_34 : decode cL_ask 34 = .ok (.aload_n 0, 1) := by decide +kernel
theorem dL_ask_35 : decode cL_ask 35 = .ok (.iload_n 1, 1) := by decide +kernel
theorem dL_ask_36 : decode cL_ask 36 = .ok (.iload_n 2, 1) := by decide +kernel
theorem dL_ask_37 : decode cL_ask 37 = .ok (.invokevirtual 86, 3) := by decide +kernel
theorem dL_ask_40 : decode cL_ask 40 = .ok (.goto 112, 3) := by decide +kernel
theorem dL_ask_43 : decode cL_ask 43 = .ok (.iload_n 3, 1) := by decide +kernel
theorem dL_ask_44 : decode cL_ask 44 = .ok (.iconst 3, 1) := by decide +kernel
theorem dL_ask_45 : decode cL_ask 45 = .ok (.if_icmp .ne 13, 3) := by decide +kernel
theorem dL_ask_48 : decode cL_ask 48 = .ok (.aload_n 0, 1) := by decide +kernel
theorem dL_ask_49 : decode cL_ask 49 = .ok (.iload_n 1, 1) := by decide +kernel
theorem dL_ask_50 : decode cL_ask 50 = .ok (.iload_n 2, 1) := by decide +kernel
theorem dL_ask_51 : decode cL_ask 51 = .ok (.invokevirtual 90, 3) := by decide +kernel
theorem dL_ask_54 : decode cL_ask 54 = .ok (.i2l, 1) := by decide +kernel
theorem dL_ask_55 : decode cL_ask 55 = .ok (.goto 97, 3) := by decide +kernel
theorem dL_ask_58 : decode cL_ask 58 = .ok (.iload_n 3, 1) := by decide +kernel
theorem dL_ask_59 : decode cL_ask 59 = .ok (.bipush 6, 2) := by decide +kernel
theorem dL_ask_61 : decode cL_ask 61 = .ok (.if_icmp .ge 22, 3) := by decide +kernel
theorem dL_ask_64 : decode cL_ask 64 = .ok (.aload_n 0, 1) := by decide +kernel
theorem dL_ask_65 : decode cL_ask 65 = .ok (.iload_n 1, 1) := by decide +kernel
theorem dL_ask_66 : decode cL_ask 66 = .ok (.iload_n 2, 1) := by decide +kernel
theorem dL_ask_67 : decode cL_ask 67 = .ok (.iload_n 3, 1) := by decide +kernel
theorem dL_ask_68 : decode cL_ask 68 = .ok (.iconst 5, 1) := by decide +kernel
theorem dL_ask_69 : decode cL_ask 69 = .ok (.if_icmp .ne 7, 3) := by decide +kernel
theorem dL_ask_72 : decode cL_ask 72 = .ok (.iconst 1, 1) := by decide +kernel
theorem dL_ask_73 : decode cL_ask 73 = .ok (.goto 4, 3) := by decide +kernel
theorem dL_ask_76 : decode cL_ask 76 = .ok (.iconst 0, 1) := by decide +kernel
theorem dL_ask_77 : decode cL_ask 77 = .ok (.invokevirtual 93, 3) := by decide +kernel
theorem dL_ask_80 : decode cL_ask 80 = .ok (.goto 72, 3) := by decide +kernel
theorem dL_ask_83 : decode cL_ask 83 = .ok (.iload_n 3, 1) := by decide +kernel
theorem dL_ask_84 : decode cL_ask 84 = .ok (.bipush 8, 2) := by decide +kernel
theorem dL_ask_86 : decode cL_ask 86 = .ok (.if_icmp .ge 23, 3) := by decide +kernel
theorem dL_ask_89 : decode cL_ask 89 = .ok (.aload_n 0, 1) := by decide +kernel
theorem dL_ask_90 : decode cL_ask 90 = .ok (.iload_n 1, 1) := by decide +kernel
theorem dL_ask_91 : decode cL_ask 91 = .ok (.iload_n 2, 1) := by decide +kernel
theorem dL_ask_92 : decode cL_ask 92 = .ok (.iload_n 3, 1) := by decide +kernel
theorem dL_ask_93 : decode cL_ask 93 = .ok (.bipush 7, 2) := by decide +kernel
theorem dL_ask_95 : decode cL_ask 95 = .ok (.if_icmp .ne 7, 3) := by decide +kernel
theorem dL_ask_98 : decode cL_ask 98 = .ok (.iconst 1, 1) := by decide +kernel
theorem dL_ask_99 : decode cL_ask 99 = .ok (.goto 4, 3) := by decide +kernel
theorem dL_ask_102 : decode cL_ask 102 = .ok (.iconst 0, 1) := by decide +kernel
theorem dL_ask_103 : decode cL_ask 103 = .ok (.invokevirtual 97, 3) := by decide +kernel
theorem dL_ask_106 : decode cL_ask 106 = .ok (.goto 46, 3) := by decide +kernel
theorem dL_ask_109 : decode cL_ask 109 = .ok (.iload_n 3, 1) := by decide +kernel
theorem dL_ask_110 : decode cL_ask 110 = .ok (.bipush 10, 2) := by decide +kernel
theorem dL_ask_112 : decode cL_ask 112 = .ok (.if_icmp .ge 23, 3) := by decide +kernel
theorem dL_ask_115 : decode cL_ask 115 = .ok (.aload_n 0, 1) := by decide +kernel
theorem dL_ask_116 : decode cL_ask 116 = .ok (.iload_n 1, 1) := by decide +kernel
theorem dL_ask_117 : decode cL_ask 117 = .ok (.iload_n 2, 1) := by decide +kernel
theorem dL_ask_118 : decode cL_ask 118 = .ok (.iload_n 3, 1) := by decide +kernel
theorem dL_ask_119 : decode cL_ask 119 = .ok (.bipush 9, 2) := by decide +kernel
theorem dL_ask_121 : decode cL_ask 121 = .ok (.if_icmp .ne 7, 3) := by decide +kernel
theorem dL_ask_124 : decode cL_ask 124 = .ok (.iconst 1, 1) := by decide +kernel
theorem dL_ask_125 : decode cL_ask 125 = .ok (.goto 4, 3) := by decide +kernel
theorem dL_ask_128 : decode cL_ask 128 = .ok (.iconst 0, 1) := by decide +kernel
theorem dL_ask_129 : decode cL_ask 129 = .ok (.invokevirtual 100, 3) := by decide +kernel
theorem dL_ask_132 : decode cL_ask 132 = .ok (.goto 20, 3) := by decide +kernel
theorem dL_ask_135 : decode cL_ask 135 = .ok (.aload_n 0, 1) := by decide +kernel
theorem dL_ask_136 : decode cL_ask 136 = .ok (.iload_n 1, 1) := by decide +kernel
theorem dL_ask_137 : decode cL_ask 137 = .ok (.iload_n 2, 1) := by decide +kernel
theorem dL_ask_138 : decode cL_ask 138 = .ok (.iload_n 3, 1) := by decide +kernel
theorem dL_ask_139 : decode cL_ask 139 = .ok (.bipush 11, 2) := by decide +kernel
theorem dL_ask_141 : decode cL_ask 141 = .ok (.if_icmp .ne 7, 3) := by decide +kernel
theorem dL_ask_144 : decode cL_ask 144 = .ok (.iconst 1, 1) := by decide +kernel
theorem dL_ask_145 : decode cL_ask 145 = .ok (.goto 4, 3) := by decide +kernel
theorem dL_ask_148 : decode cL_ask 148 = .ok (.iconst 0, 1) := by decide +kernel
theorem dL_ask_149 : decode cL_ask 149 = .ok (.invokevirtual 103, 3) := by decide +kernel
theorem dL_ask_152 : decode cL_ask 152 = .ok (.lreturn, 1) := by decide +kernel
theorem dL_ask_153 : decode cL_ask 153 = .ok (.astore 4, 2) := by decide +kernel
theorem dL_ask_155 : decode cL_ask 155 = .ok (.ldc2_w 106, 3) := by decide +kernel
theorem dL_ask_158 : decode cL_ask 158 = .ok (.lreturn, 1) := by decide +kernel
theorem dL_sight_0 : decode cL_sight 0 = .ok (.lconst 0, 1) := by decide +kernel
theorem dL_sight_1 : decode cL_sight 1 = .ok (.lstore_n 3, 1) := by decide +kernel
theorem dL_sight_2 : decode cL_sight 2 = .ok (.iload_n 2, 1) := by decide +kernel
theorem dL_sight_3 : decode cL_sight 3 = .ok (.istore 5, 2) := by decide +kernel
theorem dL_sight_5 : decode cL_sight 5 = .ok (.iload 5, 2) := by decide +kernel
theorem dL_sight_7 : decode cL_sight 7 = .ok (.ifCond .lt 49, 3) := by decide +kernel
theorem dL_sight_10 : decode cL_sight 10 = .ok (.iconst 0, 1) := by decide +kernel
theorem dL_sight_11 : decode cL_sight 11 = .ok (.istore 6, 2) := by decide +kernel
theorem dL_sight_13 : decode cL_sight 13 = .ok (.iload 6, 2) := by decide +kernel
theorem dL_sight_15 : decode cL_sight 15 = .ok (.bipush 12, 2) := by decide +kernel
theorem dL_sight_17 : decode cL_sight 17 = .ok (.if_icmp .ge 25, 3) := by decide +kernel
theorem dL_sight_20 : decode cL_sight 20 = .ok (.ldc2_w 108, 3) := by decide +kernel
theorem dL_sight_23 : decode cL_sight 23 = .ok (.lload_n 3, 1) := by decide +kernel
theorem dL_sight_24 : decode cL_sight 24 = .ok (.lmul, 1) := by decide +kernel
theorem dL_sight_25 : decode cL_sight 25 = .ok (.aload_n 0, 1) := by decide +kernel
theorem dL_sight_26 : decode cL_sight 26 = .ok (.iload_n 1, 1) := by decide +kernel
theorem dL_sight_27 : decode cL_sight 27 = .ok (.iload 5, 2) := by decide +kernel
theorem dL_sight_29 : decode cL_sight 29 = .ok (.iload 6, 2) := by decide +kernel
theorem dL_sight_31 : decode cL_sight 31 = .ok (.invokestatic 110, 3) := by decide +kernel
theorem dL_sight_34 : decode cL_sight 34 = .ok (.ladd, 1) := by decide +kernel
theorem dL_sight_35 : decode cL_sight 35 = .ok (.lstore_n 3, 1) := by decide +kernel
theorem dL_sight_36 : decode cL_sight 36 = .ok (.iinc 6 1, 3) := by decide +kernel
theorem dL_sight_39 : decode cL_sight 39 = .ok (.goto (-26), 3) := by decide +kernel
theorem dL_sight_42 : decode cL_sight 42 = .ok (.iload 5, 2) := by decide +kernel
theorem dL_sight_44 : decode cL_sight 44 = .ok (.iconst 1, 1) := by decide +kernel
theorem dL_sight_45 : decode cL_sight 45 = .ok (.iload_n 2, 1) := by decide +kernel
theorem dL_sight_46 : decode cL_sight 46 = .ok (.bipush 7, 2) := by decide +kernel
theorem dL_sight_48 : decode cL_sight 48 = .ok (.idiv, 1) := by decide +kernel
theorem dL_sight_49 : decode cL_sight 49 = .ok (.iadd, 1) := by decide +kernel
theorem dL_sight_50 : decode cL_sight 50 = .ok (.isub, 1) := by decide +kernel
theorem dL_sight_51 : decode cL_sight 51 = .ok (.istore 5, 2) := by decide +kernel
theorem dL_sight_53 : decode cL_sight 53 = .ok (.goto (-48), 3) := by decide +kernel
theorem dL_sight_56 : decode cL_sight 56 = .ok (.lload_n 3, 1) := by decide +kernel
theorem dL_sight_57 : decode cL_sight 57 = .ok (.lreturn, 1) := by decide +kernel
theorem dL_past_0 : decode cL_past 0 = .ok (.lconst 0, 1) := by decide +kernel
theorem dL_past_1 : decode cL_past 1 = .ok (.lstore_n 3, 1) := by decide +kernel
theorem dL_past_2 : decode cL_past 2 = .ok (.iload_n 2, 1) := by decide +kernel
theorem dL_past_3 : decode cL_past 3 = .ok (.istore 5, 2) := by decide +kernel
theorem dL_past_5 : decode cL_past 5 = .ok (.iload 5, 2) := by decide +kernel
theorem dL_past_7 : decode cL_past 7 = .ok (.ifCond .lt 59, 3) := by decide +kernel
theorem dL_past_10 : decode cL_past 10 = .ok (.iconst 0, 1) := by decide +kernel
theorem dL_past_11 : decode cL_past 11 = .ok (.istore 6, 2) := by decide +kernel
theorem dL_past_13 : decode cL_past 13 = .ok (.iload 6, 2) := by decide +kernel
theorem dL_past_15 : decode cL_past 15 = .ok (.bipush 12, 2) := by decide +kernel
theorem dL_past_17 : decode cL_past 17 = .ok (.if_icmp .ge 35, 3) := by decide +kernel
theorem dL_past_20 : decode cL_past 20 = .ok (.ldc2_w 108, 3) := by decide +kernel
theorem dL_past_23 : decode cL_past 23 = .ok (.lload_n 3, 1) := by decide +kernel
theorem dL_past_24 : decode cL_past 24 = .ok (.lmul, 1) := by decide +kernel
theorem dL_past_25 : decode cL_past 25 = .ok (.iload 6, 2) := by decide +kernel
theorem dL_past_27 : decode cL_past 27 = .ok (.iconst 1, 1) := by decide +kernel
theorem dL_past_28 : decode cL_past 28 = .ok (.if_icmp .ne 7, 3) := by decide +kernel
theorem dL_past_31 : decode cL_past 31 = .ok (.lconst 0, 1) := by decide +kernel
theorem dL_past_32 : decode cL_past 32 = .ok (.goto 12, 3) := by decide +kernel
theorem dL_past_35 : decode cL_past 35 = .ok (.aload_n 0, 1) := by decide +kernel
theorem dL_past_36 : decode cL_past 36 = .ok (.iload_n 1, 1) := by decide +kernel
theorem dL_past_37 : decode cL_past 37 = .ok (.iload 5, 2) := by decide +kernel
theorem dL_past_39 : decode cL_past 39 = .ok (.iload 6, 2) := by decide +kernel
theorem dL_past_41 : decode cL_past 41 = .ok (.invokestatic 110, 3) := by decide +kernel
theorem dL_past_44 : decode cL_past 44 = .ok (.ladd, 1) := by decide +kernel
theorem dL_past_45 : decode cL_past 45 = .ok (.lstore_n 3, 1) := by decide +kernel
theorem dL_past_46 : decode cL_past 46 = .ok (.iinc 6 1, 3) := by decide +kernel
theorem dL_past_49 : decode cL_past 49 = .ok (.goto (-36), 3) := by decide +kernel
theorem dL_past_52 : decode cL_past 52 = .ok (.iload 5, 2) := by decide +kernel
theorem dL_past_54 : decode cL_past 54 = .ok (.iconst 1, 1) := by decide +kernel
theorem dL_past_55 : decode cL_past 55 = .ok (.iload_n 2, 1) := by decide +kernel
theorem dL_past_56 : decode cL_past 56 = .ok (.bipush 7, 2) := by decide +kernel
theorem dL_past_58 : decode cL_past 58 = .ok (.idiv, 1) := by decide +kernel
theorem dL_past_59 : decode cL_past 59 = .ok (.iadd, 1) := by decide +kernel
theorem dL_past_60 : decode cL_past 60 = .ok (.isub, 1) := by decide +kernel
theorem dL_past_61 : decode cL_past 61 = .ok (.istore 5, 2) := by decide +kernel
theorem dL_past_63 : decode cL_past 63 = .ok (.goto (-58), 3) := by decide +kernel
theorem dL_past_66 : decode cL_past 66 = .ok (.lload_n 3, 1) := by decide +kernel
theorem dL_past_67 : decode cL_past 67 = .ok (.lreturn, 1) := by decide +kernel
theorem dL_all_0 : decode cL_all 0 = .ok (.aload_n 0, 1) := by decide +kernel
theorem dL_all_1 : decode cL_all 1 = .ok (.invokevirtual 116, 3) := by decide +kernel
theorem dL_all_4 : decode cL_all 4 = .ok (.i2l, 1) := by decide +kernel
theorem dL_all_5 : decode cL_all 5 = .ok (.lstore_n 1, 1) := by decide +kernel
theorem dL_all_6 : decode cL_all 6 = .ok (.iconst 0, 1) := by decide +kernel
theorem dL_all_7 : decode cL_all 7 = .ok (.istore_n 3, 1) := by decide +kernel
theorem dL_all_8 : decode cL_all 8 = .ok (.iload_n 3, 1) := by decide +kernel
theorem dL_all_9 : decode cL_all 9 = .ok (.aload_n 0, 1) := by decide +kernel
theorem dL_all_10 : decode cL_all 10 = .ok (.invokevirtual 116, 3) := by decide +kernel
theorem dL_all_13 : decode cL_all 13 = .ok (.if_icmp .ge 44, 3) := by decide +kernel
theorem dL_all_16 : decode cL_all 16 = .ok (.ldc2_w 120, 3) := by decide +kernel
theorem dL_all_19 : decode cL_all 19 = .ok (.lload_n 1, 1) := by decide +kernel
theorem dL_all_20 : decode cL_all 20 = .ok (.lmul, 1) := by decide +kernel
theorem dL_all_21 : decode cL_all 21 = .ok (.aload_n 0, 1) := by decide +kernel
theorem dL_all_22 : decode cL_all 22 = .ok (.iload_n 3, 1) := by decide +kernel
theorem dL_all_23 : decode cL_all 23 = .ok (.invokevirtual 44, 3) := by decide +kernel
theorem dL_all_26 : decode cL_all 26 = .ok (.i2l, 1) := by decide +kernel
theorem dL_all_27 : decode cL_all 27 = .ok (.ladd, 1) := by decide +kernel
theorem dL_all_28 : decode cL_all 28 = .ok (.ldc2_w 122, 3) := by decide +kernel
theorem dL_all_31 : decode cL_all 31 = .ok (.aload_n 0, 1) := by decide +kernel
theorem dL_all_32 : decode cL_all 32 = .ok (.iload_n 3, 1) := by decide +kernel
theorem dL_all_33 : decode cL_all 33 = .ok (.invokevirtual 47, 3) := by decide +kernel
theorem dL_all_36 : decode cL_all 36 = .ok (.i2l, 1) := by decide +kernel
theorem dL_all_37 : decode cL_all 37 = .ok (.lmul, 1) := by decide +kernel
theorem dL_all_38 : decode cL_all 38 = .ok (.ladd, 1) := by decide +kernel
theorem dL_all_39 : decode cL_all 39 = .ok (.ldc2_w 124, 3) := by decide +kernel
theorem dL_all_42 : decode cL_all 42 = .ok (.aload_n 0, 1) := by decide +kernel
theorem dL_all_43 : decode cL_all 43 = .ok (.iload_n 3, 1) := by decide +kernel
theorem dL_all_44 : decode cL_all 44 = .ok (.invokevirtual 50, 3) := by decide +kernel
theorem dL_all_47 : decode cL_all 47 = .ok (.i2l, 1) := by decide +kernel
theorem dL_all_48 : decode cL_all 48 = .ok (.lmul, 1) := by decide +kernel
theorem dL_all_49 : decode cL_all 49 = .ok (.ladd, 1) := by decide +kernel
theorem dL_all_50 : decode cL_all 50 = .ok (.lstore_n 1, 1) := by decide +kernel
theorem dL_all_51 : decode cL_all 51 = .ok (.iinc 3 1, 3) := by decide +kernel
theorem dL_all_54 : decode cL_all 54 = .ok (.goto (-46), 3) := by decide +kernel
theorem dL_all_57 : decode cL_all 57 = .ok (.iconst 0, 1) := by decide +kernel
theorem dL_all_58 : decode cL_all 58 = .ok (.istore_n 3, 1) := by decide +kernel
theorem dL_all_59 : decode cL_all 59 = .ok (.iload_n 3, 1) := by decide +kernel
theorem dL_all_60 : decode cL_all 60 = .ok (.bipush 6, 2) := by decide +kernel
theorem dL_all_62 : decode cL_all 62 = .ok (.if_icmp .ge 24, 3) := by decide +kernel
theorem dL_all_65 : decode cL_all 65 = .ok (.ldc2_w 126, 3) := by decide +kernel
theorem dL_all_68 : decode cL_all 68 = .ok (.lload_n 1, 1) := by decide +kernel
theorem dL_all_69 : decode cL_all 69 = .ok (.lmul, 1) := by decide +kernel
theorem dL_all_70 : decode cL_all 70 = .ok (.aload_n 0, 1) := by decide +kernel
theorem dL_all_71 : decode cL_all 71 = .ok (.iload_n 3, 1) := by decide +kernel
theorem dL_all_72 : decode cL_all 72 = .ok (.sipush 364, 3) := by decide +kernel
theorem dL_all_75 : decode cL_all 75 = .ok (.invokestatic 128, 3) := by decide +kernel
end
section
theorem dL_all_78 : decode cL_all 78 = .ok (.ladd, 1) := by decide +kernel
theorem dL_all_79 : decode cL_all 79 = .ok (.lstore_n 1, 1) := by decide +kernel
theorem dL_all_80 : decode cL_all 80 = .ok (.iinc 3 1, 3) := by decide +kernel
theorem dL_all_83 : decode cL_all 83 = .ok (.goto (-24), 3) := by decide +kernel
theorem dL_all_86 : decode cL_all 86 = .ok (.lload_n 1, 1) := by decide +kernel
theorem dL_all_87 : decode cL_all 87 = .ok (.lreturn, 1) := by decide +kernel
theorem dL_isSound_0 : decode cL_isSound 0 = .ok (.lconst 0, 1) := by decide +kernel
theorem dL_isSound_1 : decode cL_isSound 1 = .ok (.lstore_n 3, 1) := by decide +kernel
theorem dL_isSound_2 : decode cL_isSound 2 = .ok (.lconst 0, 1) := by decide +kernel
theorem dL_isSound_3 : decode cL_isSound 3 = .ok (.lstore 5, 2) := by decide +kernel
theorem dL_isSound_5 : decode cL_isSound 5 = .ok (.iconst 0, 1) := by decide +kernel
theorem dL_isSound_6 : decode cL_isSound 6 = .ok (.istore 7, 2) := by decide +kernel
theorem dL_isSound_8 : decode cL_isSound 8 = .ok (.iconst 1, 1) := by decide +kernel
theorem dL_isSound_9 : decode cL_isSound 9 = .ok (.istore 8, 2) := by decide +kernel
theorem dL_isSound_11 : decode cL_isSound 11 = .ok (.iconst 0, 1) := by decide +kernel
theorem dL_isSound_12 : decode cL_isSound 12 = .ok (.istore 9, 2) := by decide +kernel
theorem dL_isSound_14 : decode cL_isSound 14 = .ok (.iload 9, 2) := by decide +kernel
theorem dL_isSound_16 : decode cL_isSound 16 = .ok (.aload_n 0, 1) := by decide +kernel
theorem dL_isSound_17 : decode cL_isSound 17 = .ok (.iload_n 1, 1) := by decide +kernel
theorem dL_isSound_18 : decode cL_isSound 18 = .ok (.iload_n 2, 1) := by decide +kernel
theorem dL_isSound_19 : decode cL_isSound 19 = .ok (.invokevirtual 90, 3) := by decide +kernel
theorem dL_isSound_22 : decode cL_isSound 22 = .ok (.if_icmp .ge 156, 3) := by decide +kernel
theorem dL_isSound_25 : decode cL_isSound 25 = .ok (.iload 8, 2) := by decide +kernel
theorem dL_isSound_27 : decode cL_isSound 27 = .ok (.ifCond .eq 151, 3) := by decide +kernel
theorem dL_isSound_30 : decode cL_isSound 30 = .ok (.aload_n 0, 1) := by decide +kernel
theorem dL_isSound_31 : decode cL_isSound 31 = .ok (.iload_n 1, 1) := by decide +kernel
theorem dL_isSound_32 : decode cL_isSound 32 = .ok (.iload_n 2, 1) := by decide +kernel
theorem dL_isSound_33 : decode cL_isSound 33 = .ok (.iload 9, 2) := by decide +kernel
theorem dL_isSound_35 : decode cL_isSound 35 = .ok (.invokevirtual 75, 3) := by decide +kernel
theorem dL_isSound_38 : decode cL_isSound 38 = .ok (.istore 10, 2) := by decide +kernel
theorem dL_isSound_40 : decode cL_isSound 40 = .ok (.aload_n 0, 1) := by decide +kernel
theorem dL_isSound_41 : decode cL_isSound 41 = .ok (.iload_n 1, 1) := by decide +kernel
theorem dL_isSound_42 : decode cL_isSound 42 = .ok (.iload_n 2, 1) := by decide +kernel
theorem dL_isSound_43 : decode cL_isSound 43 = .ok (.iload 9, 2) := by decide +kernel
theorem dL_isSound_45 : decode cL_isSound 45 = .ok (.invokevirtual 68, 3) := by decide +kernel
theorem dL_isSound_48 : decode cL_isSound 48 = .ok (.ifCond .le 83, 3) := by decide +kernel
theorem dL_isSound_51 : decode cL_isSound 51 = .ok (.aload_n 0, 1) := by decide +kernel
theorem dL_isSound_52 : decode cL_isSound 52 = .ok (.iload_n 1, 1) := by decide +kernel
theorem dL_isSound_53 : decode cL_isSound 53 = .ok (.iload_n 2, 1) := by decide +kernel
theorem dL_isSound_54 : decode cL_isSound 54 = .ok (.iload 9, 2) := by decide +kernel
theorem dL_isSound_56 : decode cL_isSound 56 = .ok (.invokevirtual 71, 3) := by decide +kernel
theorem dL_isSound_59 : decode cL_isSound 59 = .ok (.lconst 0, 1) := by decide +kernel
theorem dL_isSound_60 : decode cL_isSound 60 = .ok (.lcmp, 1) := by decide +kernel
theorem dL_isSound_61 : decode cL_isSound 61 = .ok (.ifCond .lt 70, 3) := by decide +kernel
theorem dL_isSound_64 : decode cL_isSound 64 = .ok (.iload 10, 2) := by decide +kernel
theorem dL_isSound_66 : decode cL_isSound 66 = .ok (.ifCond .lt 65, 3) := by decide +kernel
theorem dL_isSound_69 : decode cL_isSound 69 = .ok (.iload 10, 2) := by decide +kernel
theorem dL_isSound_71 : decode cL_isSound 71 = .ok (.aload_n 0, 1) := by decide +kernel
theorem dL_isSound_72 : decode cL_isSound 72 = .ok (.invokevirtual 116, 3) := by decide +kernel
theorem dL_isSound_75 : decode cL_isSound 75 = .ok (.if_icmp .ge 56, 3) := by decide +kernel
theorem dL_isSound_78 : decode cL_isSound 78 = .ok (.lload_n 3, 1) := by decide +kernel
theorem dL_isSound_79 : decode cL_isSound 79 = .ok (.iload 10, 2) := by decide +kernel
theorem dL_isSound_81 : decode cL_isSound 81 = .ok (.lshr, 1) := by decide +kernel
theorem dL_isSound_82 : decode cL_isSound 82 = .ok (.lconst 1, 1) := by decide +kernel
theorem dL_isSound_83 : decode cL_isSound 83 = .ok (.land, 1) := by decide +kernel
theorem dL_isSound_84 : decode cL_isSound 84 = .ok (.lconst 0, 1) := by decide +kernel
theorem dL_isSound_85 : decode cL_isSound 85 = .ok (.lcmp, 1) := by decide +kernel
theorem dL_isSound_86 : decode cL_isSound 86 = .ok (.ifCond .ne 45, 3) := by decide +kernel
theorem dL_isSound_89 : decode cL_isSound 89 = .ok (.aload_n 0, 1) := by decide +kernel
theorem dL_isSound_90 : decode cL_isSound 90 = .ok (.iload 10, 2) := by decide +kernel
theorem dL_isSound_92 : decode cL_isSound 92 = .ok (.invokevirtual 53, 3) := by decide +kernel
theorem dL_isSound_95 : decode cL_isSound 95 = .ok (.ifCond .ne 36, 3) := by decide +kernel
theorem dL_isSound_98 : decode cL_isSound 98 = .ok (.aload_n 0, 1) := by decide +kernel
theorem dL_isSound_99 : decode cL_isSound 99 = .ok (.iload 10, 2) := by decide +kernel
theorem dL_isSound_101 : decode cL_isSound 101 = .ok (.invokevirtual 47, 3) := by decide +kernel
theorem dL_isSound_104 : decode cL_isSound 104 = .ok (.iload_n 2, 1) := by decide +kernel
theorem dL_isSound_105 : decode cL_isSound 105 = .ok (.if_icmp .gt 26, 3) := by decide +kernel
theorem dL_isSound_108 : decode cL_isSound 108 = .ok (.aload_n 0, 1) := by decide +kernel
theorem dL_isSound_109 : decode cL_isSound 109 = .ok (.iload 10, 2) := by decide +kernel
theorem dL_isSound_111 : decode cL_isSound 111 = .ok (.invokevirtual 44, 3) := by decide +kernel
theorem dL_isSound_114 : decode cL_isSound 114 = .ok (.ifCond .eq 13, 3) := by decide +kernel
theorem dL_isSound_117 : decode cL_isSound 117 = .ok (.aload_n 0, 1) := by decide +kernel
theorem dL_isSound_118 : decode cL_isSound 118 = .ok (.iload 10, 2) := by decide +kernel
theorem dL_isSound_120 : decode cL_isSound 120 = .ok (.invokevirtual 44, 3) := by decide +kernel
theorem dL_isSound_123 : decode cL_isSound 123 = .ok (.iconst 2, 1) := by decide +kernel
theorem dL_isSound_124 : decode cL_isSound 124 = .ok (.if_icmp .ne 7, 3) := by decide +kernel
theorem dL_isSound_127 : decode cL_isSound 127 = .ok (.iconst 1, 1) := by decide +kernel
theorem dL_isSound_128 : decode cL_isSound 128 = .ok (.goto 4, 3) := by decide +kernel
theorem dL_isSound_131 : decode cL_isSound 131 = .ok (.iconst 0, 1) := by decide +kernel
theorem dL_isSound_132 : decode cL_isSound 132 = .ok (.istore 8, 2) := by decide +kernel
theorem dL_isSound_134 : decode cL_isSound 134 = .ok (.iload 8, 2) := by decide +kernel
theorem dL_isSound_136 : decode cL_isSound 136 = .ok (.ifCond .eq 36, 3) := by decide +kernel
theorem dL_isSound_139 : decode cL_isSound 139 = .ok (.lload_n 3, 1) := by decide +kernel
theorem dL_isSound_140 : decode cL_isSound 140 = .ok (.lconst 1, 1) := by decide +kernel
theorem dL_isSound_141 : decode cL_isSound 141 = .ok (.iload 10, 2) := by decide +kernel
theorem dL_isSound_143 : decode cL_isSound 143 = .ok (.lshl, 1) := by decide +kernel
theorem dL_isSound_144 : decode cL_isSound 144 = .ok (.lor, 1) := by decide +kernel
theorem dL_isSound_145 : decode cL_isSound 145 = .ok (.lstore_n 3, 1) := by decide +kernel
theorem dL_isSound_146 : decode cL_isSound 146 = .ok (.iload 7, 2) := by decide +kernel
theorem dL_isSound_148 : decode cL_isSound 148 = .ok (.aload_n 0, 1) := by decide +kernel
theorem dL_isSound_149 : decode cL_isSound 149 = .ok (.iload_n 1, 1) := by decide +kernel
theorem dL_isSound_150 : decode cL_isSound 150 = .ok (.iload_n 2, 1) := by decide +kernel
theorem dL_isSound_151 : decode cL_isSound 151 = .ok (.iload 9, 2) := by decide +kernel
theorem dL_isSound_153 : decode cL_isSound 153 = .ok (.invokevirtual 68, 3) := by decide +kernel
theorem dL_isSound_156 : decode cL_isSound 156 = .ok (.iadd, 1) := by decide +kernel
theorem dL_isSound_157 : decode cL_isSound 157 = .ok (.istore 7, 2) := by decide +kernel
theorem dL_isSound_159 : decode cL_isSound 159 = .ok (.lload 5, 2) := by decide +kernel
theorem dL_isSound_161 : decode cL_isSound 161 = .ok (.aload_n 0, 1) := by decide +kernel
theorem dL_isSound_162 : decode cL_isSound 162 = .ok (.iload_n 1, 1) := by decide +kernel
theorem dL_isSound_163 : decode cL_isSound 163 = .ok (.iload_n 2, 1) := by decide +kernel
theorem dL_isSound_164 : decode cL_isSound 164 = .ok (.iload 9, 2) := by decide +kernel
theorem dL_isSound_166 : decode cL_isSound 166 = .ok (.invokevirtual 71, 3) := by decide +kernel
theorem dL_isSound_169 : decode cL_isSound 169 = .ok (.ladd, 1) := by decide +kernel
theorem dL_isSound_170 : decode cL_isSound 170 = .ok (.lstore 5, 2) := by decide +kernel
theorem dL_isSound_172 : decode cL_isSound 172 = .ok (.iinc 9 1, 3) := by decide +kernel
theorem dL_isSound_175 : decode cL_isSound 175 = .ok (.goto (-161), 3) := by decide +kernel
theorem dL_isSound_178 : decode cL_isSound 178 = .ok (.iload 8, 2) := by decide +kernel
theorem dL_isSound_180 : decode cL_isSound 180 = .ok (.ifCond .eq 98, 3) := by decide +kernel
theorem dL_isSound_183 : decode cL_isSound 183 = .ok (.aload_n 0, 1) := by decide +kernel
theorem dL_isSound_184 : decode cL_isSound 184 = .ok (.iload_n 1, 1) := by decide +kernel
theorem dL_isSound_185 : decode cL_isSound 185 = .ok (.iload_n 2, 1) := by decide +kernel
theorem dL_isSound_186 : decode cL_isSound 186 = .ok (.invokevirtual 80, 3) := by decide +kernel
theorem dL_isSound_189 : decode cL_isSound 189 = .ok (.iload 7, 2) := by decide +kernel
theorem dL_isSound_191 : decode cL_isSound 191 = .ok (.if_icmp .ne 87, 3) := by decide +kernel
theorem dL_isSound_194 : decode cL_isSound 194 = .ok (.aload_n 0, 1) := by decide +kernel
theorem dL_isSound_195 : decode cL_isSound 195 = .ok (.iload_n 1, 1) := by decide +kernel
theorem dL_isSound_196 : decode cL_isSound 196 = .ok (.iload_n 2, 1) := by decide +kernel
theorem dL_isSound_197 : decode cL_isSound 197 = .ok (.iconst 0, 1) := by decide +kernel
theorem dL_isSound_198 : decode cL_isSound 198 = .ok (.invokevirtual 93, 3) := by decide +kernel
theorem dL_isSound_201 : decode cL_isSound 201 = .ok (.lload 5, 2) := by decide +kernel
theorem dL_isSound_203 : decode cL_isSound 203 = .ok (.lcmp, 1) := by decide +kernel
theorem dL_isSound_204 : decode cL_isSound 204 = .ok (.ifCond .ne 74, 3) := by decide +kernel
theorem dL_isSound_207 : decode cL_isSound 207 = .ok (.aload_n 0, 1) := by decide +kernel
theorem dL_isSound_208 : decode cL_isSound 208 = .ok (.iload_n 1, 1) := by decide +kernel
theorem dL_isSound_209 : decode cL_isSound 209 = .ok (.iload_n 2, 1) := by decide +kernel
theorem dL_isSound_210 : decode cL_isSound 210 = .ok (.invokevirtual 83, 3) := by decide +kernel
theorem dL_isSound_213 : decode cL_isSound 213 = .ok (.ifCond .lt 65, 3) := by decide +kernel
theorem dL_isSound_216 : decode cL_isSound 216 = .ok (.aload_n 0, 1) := by decide +kernel
theorem dL_isSound_217 : decode cL_isSound 217 = .ok (.iload_n 1, 1) := by decide +kernel
theorem dL_isSound_218 : decode cL_isSound 218 = .ok (.iload_n 2, 1) := by decide +kernel
theorem dL_isSound_219 : decode cL_isSound 219 = .ok (.invokevirtual 83, 3) := by decide +kernel
theorem dL_isSound_222 : decode cL_isSound 222 = .ok (.sipush 1000, 3) := by decide +kernel
theorem dL_isSound_225 : decode cL_isSound 225 = .ok (.if_icmp .gt 53, 3) := by decide +kernel
theorem dL_isSound_228 : decode cL_isSound 228 = .ok (.aload_n 0, 1) := by decide +kernel
theorem dL_isSound_229 : decode cL_isSound 229 = .ok (.iload_n 1, 1) := by decide +kernel
theorem dL_isSound_230 : decode cL_isSound 230 = .ok (.iload_n 2, 1) := by decide +kernel
theorem dL_isSound_231 : decode cL_isSound 231 = .ok (.invokevirtual 83, 3) := by decide +kernel
theorem dL_isSound_234 : decode cL_isSound 234 = .ok (.iload 7, 2) := by decide +kernel
theorem dL_isSound_236 : decode cL_isSound 236 = .ok (.if_icmp .gt 42, 3) := by decide +kernel
theorem dL_isSound_239 : decode cL_isSound 239 = .ok (.aload_n 0, 1) := by decide +kernel
theorem dL_isSound_240 : decode cL_isSound 240 = .ok (.iload_n 1, 1) := by decide +kernel
theorem dL_isSound_241 : decode cL_isSound 241 = .ok (.iload_n 2, 1) := by decide +kernel
theorem dL_isSound_242 : decode cL_isSound 242 = .ok (.aload_n 0, 1) := by decide +kernel
theorem dL_isSound_243 : decode cL_isSound 243 = .ok (.iload_n 1, 1) := by decide +kernel
theorem dL_isSound_244 : decode cL_isSound 244 = .ok (.iload_n 2, 1) := by decide +kernel
theorem dL_isSound_245 : decode cL_isSound 245 = .ok (.invokevirtual 90, 3) := by decide +kernel
theorem dL_isSound_248 : decode cL_isSound 248 = .ok (.iconst 0, 1) := by decide +kernel
theorem dL_isSound_249 : decode cL_isSound 249 = .ok (.invokestatic 132, 3) := by decide +kernel
theorem dL_isSound_252 : decode cL_isSound 252 = .ok (.ldc2_w 64, 3) := by decide +kernel
theorem dL_isSound_255 : decode cL_isSound 255 = .ok (.lcmp, 1) := by decide +kernel
theorem dL_isSound_256 : decode cL_isSound 256 = .ok (.ifCond .ne 22, 3) := by decide +kernel
theorem dL_isSound_259 : decode cL_isSound 259 = .ok (.aload_n 0, 1) := by decide +kernel
theorem dL_isSound_260 : decode cL_isSound 260 = .ok (.iload_n 1, 1) := by decide +kernel
theorem dL_isSound_261 : decode cL_isSound 261 = .ok (.iload_n 2, 1) := by decide +kernel
theorem dL_isSound_262 : decode cL_isSound 262 = .ok (.iconst (-1), 1) := by decide +kernel
theorem dL_isSound_263 : decode cL_isSound 263 = .ok (.iconst 2, 1) := by decide +kernel
theorem dL_isSound_264 : decode cL_isSound 264 = .ok (.invokestatic 132, 3) := by decide +kernel
theorem dL_isSound_267 : decode cL_isSound 267 = .ok (.ldc2_w 64, 3) := by decide +kernel
theorem dL_isSound_270 : decode cL_isSound 270 = .ok (.lcmp, 1) := by decide +kernel
theorem dL_isSound_271 : decode cL_isSound 271 = .ok (.ifCond .ne 7, 3) := by decide +kernel
theorem dL_isSound_274 : decode cL_isSound 274 = .ok (.iconst 1, 1) := by decide +kernel
theorem dL_isSound_275 : decode cL_isSound 275 = .ok (.goto 4, 3) := by decide +kernel
theorem dL_isSound_278 : decode cL_isSound 278 = .ok (.iconst 0, 1) := by decide +kernel
theorem dL_isSound_279 : decode cL_isSound 279 = .ok (.istore 8, 2) := by decide +kernel
theorem dL_isSound_281 : decode cL_isSound 281 = .ok (.iconst 0, 1) := by decide +kernel
theorem dL_isSound_282 : decode cL_isSound 282 = .ok (.istore 9, 2) := by decide +kernel
theorem dL_isSound_284 : decode cL_isSound 284 = .ok (.iload 9, 2) := by decide +kernel
theorem dL_isSound_286 : decode cL_isSound 286 = .ok (.iconst 2, 1) := by decide +kernel
theorem dL_isSound_287 : decode cL_isSound 287 = .ok (.if_icmp .ge 214, 3) := by decide +kernel
theorem dL_isSound_290 : decode cL_isSound 290 = .ok (.iload 8, 2) := by decide +kernel
theorem dL_isSound_292 : decode cL_isSound 292 = .ok (.ifCond .eq 209, 3) := by decide +kernel
theorem dL_isSound_295 : decode cL_isSound 295 = .ok (.iload 9, 2) := by decide +kernel
theorem dL_isSound_297 : decode cL_isSound 297 = .ok (.iconst 1, 1) := by decide +kernel
theorem dL_isSound_298 : decode cL_isSound 298 = .ok (.if_icmp .ne 7, 3) := by decide +kernel
theorem dL_isSound_301 : decode cL_isSound 301 = .ok (.iconst 1, 1) := by decide +kernel
theorem dL_isSound_302 : decode cL_isSound 302 = .ok (.goto 4, 3) := by decide +kernel
theorem dL_isSound_305 : decode cL_isSound 305 = .ok (.iconst 0, 1) := by decide +kernel
theorem dL_isSound_306 : decode cL_isSound 306 = .ok (.istore 10, 2) := by decide +kernel
theorem dL_isSound_308 : decode cL_isSound 308 = .ok (.aload_n 0, 1) := by decide +kernel
theorem dL_isSound_309 : decode cL_isSound 309 = .ok (.iload_n 1, 1) := by decide +kernel
theorem dL_isSound_310 : decode cL_isSound 310 = .ok (.iload_n 2, 1) := by decide +kernel
theorem dL_isSound_311 : decode cL_isSound 311 = .ok (.invokevirtual 86, 3) := by decide +kernel
theorem dL_isSound_314 : decode cL_isSound 314 = .ok (.aload_n 0, 1) := by decide +kernel
theorem dL_isSound_315 : decode cL_isSound 315 = .ok (.iload_n 1, 1) := by decide +kernel
theorem dL_isSound_316 : decode cL_isSound 316 = .ok (.iload_n 2, 1) := by decide +kernel
theorem dL_isSound_317 : decode cL_isSound 317 = .ok (.iload 10, 2) := by decide +kernel
theorem dL_isSound_319 : decode cL_isSound 319 = .ok (.invokevirtual 100, 3) := by decide +kernel
theorem dL_isSound_322 : decode cL_isSound 322 = .ok (.ladd, 1) := by decide +kernel
theorem dL_isSound_323 : decode cL_isSound 323 = .ok (.aload_n 0, 1) := by decide +kernel
theorem dL_isSound_324 : decode cL_isSound 324 = .ok (.iload_n 1, 1) := by decide +kernel
theorem dL_isSound_325 : decode cL_isSound 325 = .ok (.iload_n 2, 1) := by decide +kernel
theorem dL_isSound_326 : decode cL_isSound 326 = .ok (.iload 10, 2) := by decide +kernel
theorem dL_isSound_328 : decode cL_isSound 328 = .ok (.invokevirtual 93, 3) := by decide +kernel
theorem dL_isSound_331 : decode cL_isSound 331 = .ok (.aload_n 0, 1) := by decide +kernel
theorem dL_isSound_332 : decode cL_isSound 332 = .ok (.iload_n 1, 1) := by decide +kernel
theorem dL_isSound_333 : decode cL_isSound 333 = .ok (.iload_n 2, 1) := by decide +kernel
theorem dL_isSound_334 : decode cL_isSound 334 = .ok (.iload 10, 2) := by decide +kernel
theorem dL_isSound_336 : decode cL_isSound 336 = .ok (.invokevirtual 97, 3) := by decide +kernel
theorem dL_isSound_339 : decode cL_isSound 339 = .ok (.ladd, 1) := by decide +kernel
theorem dL_isSound_340 : decode cL_isSound 340 = .ok (.aload_n 0, 1) := by decide +kernel
theorem dL_isSound_341 : decode cL_isSound 341 = .ok (.iload_n 1, 1) := by decide +kernel
theorem dL_isSound_342 : decode cL_isSound 342 = .ok (.iload_n 2, 1) := by decide +kernel
theorem dL_isSound_343 : decode cL_isSound 343 = .ok (.iload 10, 2) := by decide +kernel
theorem dL_isSound_345 : decode cL_isSound 345 = .ok (.invokevirtual 103, 3) := by decide +kernel
theorem dL_isSound_348 : decode cL_isSound 348 = .ok (.ladd, 1) := by decide +kernel
theorem dL_isSound_349 : decode cL_isSound 349 = .ok (.lcmp, 1) := by decide +kernel
theorem dL_isSound_350 : decode cL_isSound 350 = .ok (.ifCond .ne 64, 3) := by decide +kernel
theorem dL_isSound_353 : decode cL_isSound 353 = .ok (.aload_n 0, 1) := by decide +kernel
theorem dL_isSound_354 : decode cL_isSound 354 = .ok (.iload_n 1, 1) := by decide +kernel
theorem dL_isSound_355 : decode cL_isSound 355 = .ok (.iload_n 2, 1) := by decide +kernel
theorem dL_isSound_356 : decode cL_isSound 356 = .ok (.iload 10, 2) := by decide +kernel
theorem dL_isSound_358 : decode cL_isSound 358 = .ok (.invokevirtual 93, 3) := by decide +kernel
theorem dL_isSound_361 : decode cL_isSound 361 = .ok (.lconst 0, 1) := by decide +kernel
theorem dL_isSound_362 : decode cL_isSound 362 = .ok (.lcmp, 1) := by decide +kernel
theorem dL_isSound_363 : decode cL_isSound 363 = .ok (.ifCond .lt 51, 3) := by decide +kernel
theorem dL_isSound_366 : decode cL_isSound 366 = .ok (.aload_n 0, 1) := by decide +kernel
theorem dL_isSound_367 : decode cL_isSound 367 = .ok (.iload_n 1, 1) := by decide +kernel
theorem dL_isSound_368 : decode cL_isSound 368 = .ok (.iload_n 2, 1) := by decide +kernel
theorem dL_isSound_369 : decode cL_isSound 369 = .ok (.iload 10, 2) := by decide +kernel
theorem dL_isSound_371 : decode cL_isSound 371 = .ok (.invokevirtual 97, 3) := by decide +kernel
theorem dL_isSound_374 : decode cL_isSound 374 = .ok (.lconst 0, 1) := by decide +kernel
theorem dL_isSound_375 : decode cL_isSound 375 = .ok (.lcmp, 1) := by decide +kernel
theorem dL_isSound_376 : decode cL_isSound 376 = .ok (.ifCond .lt 38, 3) := by decide +kernel
theorem dL_isSound_379 : decode cL_isSound 379 = .ok (.aload_n 0, 1) := by decide +kernel
theorem dL_isSound_380 : decode cL_isSound 380 = .ok (.iload_n 1, 1) := by decide +kernel
theorem dL_isSound_381 : decode cL_isSound 381 = .ok (.iload_n 2, 1) := by decide +kernel
theorem dL_isSound_382 : decode cL_isSound 382 = .ok (.iload 10, 2) := by decide +kernel
theorem dL_isSound_384 : decode cL_isSound 384 = .ok (.invokevirtual 103, 3) := by decide +kernel
theorem dL_isSound_387 : decode cL_isSound 387 = .ok (.lconst 0, 1) := by decide +kernel
theorem dL_isSound_388 : decode cL_isSound 388 = .ok (.lcmp, 1) := by decide +kernel
theorem dL_isSound_389 : decode cL_isSound 389 = .ok (.ifCond .lt 25, 3) := by decide +kernel
theorem dL_isSound_392 : decode cL_isSound 392 = .ok (.iload 7, 2) := by decide +kernel
theorem dL_isSound_394 : decode cL_isSound 394 = .ok (.ifCond .gt 16, 3) := by decide +kernel
theorem dL_isSound_397 : decode cL_isSound 397 = .ok (.aload_n 0, 1) := by decide +kernel
theorem dL_isSound_398 : decode cL_isSound 398 = .ok (.iload_n 1, 1) := by decide +kernel
theorem dL_isSound_399 : decode cL_isSound 399 = .ok (.iload_n 2, 1) := by decide +kernel
theorem dL_isSound_400 : decode cL_isSound 400 = .ok (.iload 10, 2) := by decide +kernel
theorem dL_isSound_402 : decode cL_isSound 402 = .ok (.invokevirtual 93, 3) := by decide +kernel
theorem dL_isSound_405 : decode cL_isSound 405 = .ok (.lconst 0, 1) := by decide +kernel
theorem dL_isSound_406 : decode cL_isSound 406 = .ok (.lcmp, 1) := by decide +kernel
theorem dL_isSound_407 : decode cL_isSound 407 = .ok (.ifCond .ne 7, 3) := by decide +kernel
theorem dL_isSound_410 : decode cL_isSound 410 = .ok (.iconst 1, 1) := by decide +kernel
theorem dL_isSound_411 : decode cL_isSound 411 = .ok (.goto 4, 3) := by decide +kernel
theorem dL_isSound_414 : decode cL_isSound 414 = .ok (.iconst 0, 1) := by decide +kernel
theorem dL_isSound_415 : decode cL_isSound 415 = .ok (.istore 8, 2) := by decide +kernel
theorem dL_isSound_417 : decode cL_isSound 417 = .ok (.iload 8, 2) := by decide +kernel
theorem dL_isSound_419 : decode cL_isSound 419 = .ok (.ifCond .eq 73, 3) := by decide +kernel
theorem dL_isSound_422 : decode cL_isSound 422 = .ok (.iload_n 2, 1) := by decide +kernel
theorem dL_isSound_423 : decode cL_isSound 423 = .ok (.ifCond .eq 65, 3) := by decide +kernel
theorem dL_isSound_426 : decode cL_isSound 426 = .ok (.aload_n 0, 1) := by decide +kernel
theorem dL_isSound_427 : decode cL_isSound 427 = .ok (.iload_n 1, 1) := by decide +kernel
theorem dL_isSound_428 : decode cL_isSound 428 = .ok (.iload_n 2, 1) := by decide +kernel
theorem dL_isSound_429 : decode cL_isSound 429 = .ok (.invokevirtual 86, 3) := by decide +kernel
theorem dL_isSound_432 : decode cL_isSound 432 = .ok (.aload_n 0, 1) := by decide +kernel
theorem dL_isSound_433 : decode cL_isSound 433 = .ok (.iload_n 1, 1) := by decide +kernel
theorem dL_isSound_434 : decode cL_isSound 434 = .ok (.iload_n 2, 1) := by decide +kernel
theorem dL_isSound_435 : decode cL_isSound 435 = .ok (.iconst 1, 1) := by decide +kernel
theorem dL_isSound_436 : decode cL_isSound 436 = .ok (.isub, 1) := by decide +kernel
theorem dL_isSound_437 : decode cL_isSound 437 = .ok (.invokevirtual 86, 3) := by decide +kernel
theorem dL_isSound_440 : decode cL_isSound 440 = .ok (.lcmp, 1) := by decide +kernel
theorem dL_isSound_441 : decode cL_isSound 441 = .ok (.ifCond .lt 51, 3) := by decide +kernel
theorem dL_isSound_444 : decode cL_isSound 444 = .ok (.aload_n 0, 1) := by decide +kernel
theorem dL_isSound_445 : decode cL_isSound 445 = .ok (.iload_n 1, 1) := by decide +kernel
theorem dL_isSound_446 : decode cL_isSound 446 = .ok (.iload_n 2, 1) := by decide +kernel
theorem dL_isSound_447 : decode cL_isSound 447 = .ok (.iload 10, 2) := by decide +kernel
theorem dL_isSound_449 : decode cL_isSound 449 = .ok (.invokevirtual 97, 3) := by decide +kernel
theorem dL_isSound_452 : decode cL_isSound 452 = .ok (.aload_n 0, 1) := by decide +kernel
theorem dL_isSound_453 : decode cL_isSound 453 = .ok (.iload_n 1, 1) := by decide +kernel
theorem dL_isSound_454 : decode cL_isSound 454 = .ok (.iload_n 2, 1) := by decide +kernel
theorem dL_isSound_455 : decode cL_isSound 455 = .ok (.iconst 1, 1) := by decide +kernel
theorem dL_isSound_456 : decode cL_isSound 456 = .ok (.isub, 1) := by decide +kernel
theorem dL_isSound_457 : decode cL_isSound 457 = .ok (.iload 10, 2) := by decide +kernel
theorem dL_isSound_459 : decode cL_isSound 459 = .ok (.invokevirtual 97, 3) := by decide +kernel
theorem dL_isSound_462 : decode cL_isSound 462 = .ok (.lcmp, 1) := by decide +kernel
theorem dL_isSound_463 : decode cL_isSound 463 = .ok (.ifCond .lt 29, 3) := by decide +kernel
theorem dL_isSound_466 : decode cL_isSound 466 = .ok (.aload_n 0, 1) := by decide +kernel
theorem dL_isSound_467 : decode cL_isSound 467 = .ok (.iload_n 1, 1) := by decide +kernel
theorem dL_isSound_468 : decode cL_isSound 468 = .ok (.iload_n 2, 1) := by decide +kernel
theorem dL_isSound_469 : decode cL_isSound 469 = .ok (.iload 10, 2) := by decide +kernel
theorem dL_isSound_471 : decode cL_isSound 471 = .ok (.invokevirtual 103, 3) := by decide +kernel
theorem dL_isSound_474 : decode cL_isSound 474 = .ok (.aload_n 0, 1) := by decide +kernel
theorem dL_isSound_475 : decode cL_isSound 475 = .ok (.iload_n 1, 1) := by decide +kernel
theorem dL_isSound_476 : decode cL_isSound 476 = .ok (.iload_n 2, 1) := by decide +kernel
theorem dL_isSound_477 : decode cL_isSound 477 = .ok (.iconst 1, 1) := by decide +kernel
theorem dL_isSound_478 : decode cL_isSound 478 = .ok (.isub, 1) := by decide +kernel
theorem dL_isSound_479 : decode cL_isSound 479 = .ok (.iload 10, 2) := by decide +kernel
theorem dL_isSound_481 : decode cL_isSound 481 = .ok (.invokevirtual 103, 3) := by decide +kernel
theorem dL_isSound_484 : decode cL_isSound 484 = .ok (.lcmp, 1) := by decide +kernel
theorem dL_isSound_485 : decode cL_isSound 485 = .ok (.ifCond .lt 7, 3) := by decide +kernel
theorem dL_isSound_488 : decode cL_isSound 488 = .ok (.iconst 1, 1) := by decide +kernel
theorem dL_isSound_489 : decode cL_isSound 489 = .ok (.goto 4, 3) := by decide +kernel
theorem dL_isSound_492 : decode cL_isSound 492 = .ok (.iconst 0, 1) := by decide +kernel
theorem dL_isSound_493 : decode cL_isSound 493 = .ok (.istore 8, 2) := by decide +kernel
theorem dL_isSound_495 : decode cL_isSound 495 = .ok (.iinc 9 1, 3) := by decide +kernel
theorem dL_isSound_498 : decode cL_isSound 498 = .ok (.goto (-214), 3) := by decide +kernel
theorem dL_isSound_501 : decode cL_isSound 501 = .ok (.iload 8, 2) := by decide +kernel
theorem dL_isSound_503 : decode cL_isSound 503 = .ok (.ireturn, 1) := by decide +kernel
theorem dL_areMovements_0 : decode cL_areMovements 0 = .ok (.lconst 0, 1) := by decide +kernel
theorem dL_areMovements_1 : decode cL_areMovements 1 = .ok (.lstore_n 2, 1) := by decide +kernel
theorem dL_areMovements_2 : decode cL_areMovements 2 = .ok (.aload_n 0, 1) := by decide +kernel
theorem dL_areMovements_3 : decode cL_areMovements 3 = .ok (.invokevirtual 116, 3) := by decide +kernel
theorem dL_areMovements_6 : decode cL_areMovements 6 = .ok (.istore 4, 2) := by decide +kernel
theorem dL_areMovements_8 : decode cL_areMovements 8 = .ok (.iconst 0, 1) := by decide +kernel
theorem dL_areMovements_9 : decode cL_areMovements 9 = .ok (.istore 5, 2) := by decide +kernel
theorem dL_areMovements_11 : decode cL_areMovements 11 = .ok (.lconst 0, 1) := by decide +kernel
theorem dL_areMovements_12 : decode cL_areMovements 12 = .ok (.lstore 6, 2) := by decide +kernel
theorem dL_areMovements_14 : decode cL_areMovements 14 = .ok (.lconst 0, 1) := by decide +kernel
theorem dL_areMovements_15 : decode cL_areMovements 15 = .ok (.lstore 8, 2) := by decide +kernel
theorem dL_areMovements_17 : decode cL_areMovements 17 = .ok (.iconst 1, 1) := by decide +kernel
theorem dL_areMovements_18 : decode cL_areMovements 18 = .ok (.istore 10, 2) := by decide +kernel
theorem dL_areMovements_20 : decode cL_areMovements 20 = .ok (.iconst 0, 1) := by decide +kernel
theorem dL_areMovements_21 : decode cL_areMovements 21 = .ok (.istore 11, 2) := by decide +kernel
theorem dL_areMovements_23 : decode cL_areMovements 23 = .ok (.iload 11, 2) := by decide +kernel
theorem dL_areMovements_25 : decode cL_areMovements 25 = .ok (.iload 4, 2) := by decide +kernel
theorem dL_areMovements_27 : decode cL_areMovements 27 = .ok (.if_icmp .ge 461, 3) := by decide +kernel
theorem dL_areMovements_30 : decode cL_areMovements 30 = .ok (.iload 10, 2) := by decide +kernel
theorem dL_areMovements_32 : decode cL_areMovements 32 = .ok (.ifCond .eq 456, 3) := by decide +kernel
theorem dL_areMovements_35 : decode cL_areMovements 35 = .ok (.aload_n 0, 1) := by decide +kernel
theorem dL_areMovements_36 : decode cL_areMovements 36 = .ok (.iload 11, 2) := by decide +kernel
theorem dL_areMovements_38 : decode cL_areMovements 38 = .ok (.invokevirtual 50, 3) := by decide +kernel
theorem dL_areMovements_41 : decode cL_areMovements 41 = .ok (.istore 12, 2) := by decide +kernel
theorem dL_areMovements_43 : decode cL_areMovements 43 = .ok (.iload 5, 2) := by decide +kernel
theorem dL_areMovements_45 : decode cL_areMovements 45 = .ok (.aload_n 0, 1) := by decide +kernel
theorem dL_areMovements_46 : decode cL_areMovements 46 = .ok (.iload 11, 2) := by decide +kernel
theorem dL_areMovements_48 : decode cL_areMovements 48 = .ok (.invokevirtual 53, 3) := by decide +kernel
theorem dL_areMovements_51 : decode cL_areMovements 51 = .ok (.ifCond .eq 7, 3) := by decide +kernel
theorem dL_areMovements_54 : decode cL_areMovements 54 = .ok (.iconst 0, 1) := by decide +kernel
theorem dL_areMovements_55 : decode cL_areMovements 55 = .ok (.goto 4, 3) := by decide +kernel
theorem dL_areMovements_58 : decode cL_areMovements 58 = .ok (.iconst 1, 1) := by decide +kernel
theorem dL_areMovements_59 : decode cL_areMovements 59 = .ok (.iadd, 1) := by decide +kernel
theorem dL_areMovements_60 : decode cL_areMovements 60 = .ok (.istore 5, 2) := by decide +kernel
theorem dL_areMovements_62 : decode cL_areMovements 62 = .ok (.aload_n 0, 1) := by decide +kernel
theorem dL_areMovements_63 : decode cL_areMovements 63 = .ok (.iload 11, 2) := by decide +kernel
theorem dL_areMovements_65 : decode cL_areMovements 65 = .ok (.invokevirtual 53, 3) := by decide +kernel
theorem dL_areMovements_68 : decode cL_areMovements 68 = .ok (.ifCond .eq 17, 3) := by decide +kernel
theorem dL_areMovements_71 : decode cL_areMovements 71 = .ok (.iload 12, 2) := by decide +kernel
theorem dL_areMovements_73 : decode cL_areMovements 73 = .ok (.iconst (-1), 1) := by decide +kernel
theorem dL_areMovements_74 : decode cL_areMovements 74 = .ok (.if_icmp .ne 7, 3) := by decide +kernel
theorem dL_areMovements_77 : decode cL_areMovements 77 = .ok (.iconst 1, 1) := by decide +kernel
theorem dL_areMovements_78 : decode cL_areMovements 78 = .ok (.goto 35, 3) := by decide +kernel
theorem dL_areMovements_81 : decode cL_areMovements 81 = .ok (.iconst 0, 1) := by decide +kernel
theorem dL_areMovements_82 : decode cL_areMovements 82 = .ok (.goto 31, 3) := by decide +kernel
theorem dL_areMovements_85 : decode cL_areMovements 85 = .ok (.iload 12, 2) := by decide +kernel
theorem dL_areMovements_87 : decode cL_areMovements 87 = .ok (.ifCond .lt 25, 3) := by decide +kernel
theorem dL_areMovements_90 : decode cL_areMovements 90 = .ok (.iload 12, 2) := by decide +kernel
theorem dL_areMovements_92 : decode cL_areMovements 92 = .ok (.iload 4, 2) := by decide +kernel
theorem dL_areMovements_94 : decode cL_areMovements 94 = .ok (.if_icmp .ge 18, 3) := by decide +kernel
theorem dL_areMovements_97 : decode cL_areMovements 97 = .ok (.lload_n 2, 1) := by decide +kernel
theorem dL_areMovements_98 : decode cL_areMovements 98 = .ok (.iload 12, 2) := by decide +kernel
theorem dL_areMovements_100 : decode cL_areMovements 100 = .ok (.lshr, 1) := by decide +kernel
theorem dL_areMovements_101 : decode cL_areMovements 101 = .ok (.lconst 1, 1) := by decide +kernel
theorem dL_areMovements_102 : decode cL_areMovements 102 = .ok (.land, 1) := by decide +kernel
theorem dL_areMovements_103 : decode cL_areMovements 103 = .ok (.lconst 0, 1) := by decide +kernel
theorem dL_areMovements_104 : decode cL_areMovements 104 = .ok (.lcmp, 1) := by decide +kernel
theorem dL_areMovements_105 : decode cL_areMovements 105 = .ok (.ifCond .ne 7, 3) := by decide +kernel
theorem dL_areMovements_108 : decode cL_areMovements 108 = .ok (.iconst 1, 1) := by decide +kernel
theorem dL_areMovements_109 : decode cL_areMovements 109 = .ok (.goto 4, 3) := by decide +kernel
theorem dL_areMovements_112 : decode cL_areMovements 112 = .ok (.iconst 0, 1) := by decide +kernel
theorem dL_areMovements_113 : decode cL_areMovements 113 = .ok (.istore 10, 2) := by decide +kernel
theorem dL_areMovements_115 : decode cL_areMovements 115 = .ok (.lload_n 2, 1) := by decide +kernel
theorem dL_areMovements_116 : decode cL_areMovements 116 = .ok (.iload 12, 2) := by decide +kernel
theorem dL_areMovements_118 : decode cL_areMovements 118 = .ok (.ifCond .ge 7, 3) := by decide +kernel
theorem dL_areMovements_121 : decode cL_areMovements 121 = .ok (.lconst 0, 1) := by decide +kernel
theorem dL_areMovements_122 : decode cL_areMovements 122 = .ok (.goto 7, 3) := by decide +kernel
theorem dL_areMovements_125 : decode cL_areMovements 125 = .ok (.lconst 1, 1) := by decide +kernel
theorem dL_areMovements_126 : decode cL_areMovements 126 = .ok (.iload 12, 2) := by decide +kernel
theorem dL_areMovements_128 : decode cL_areMovements 128 = .ok (.lshl, 1) := by decide +kernel
theorem dL_areMovements_129 : decode cL_areMovements 129 = .ok (.lor, 1) := by decide +kernel
theorem dL_areMovements_130 : decode cL_areMovements 130 = .ok (.lstore_n 2, 1) := by decide +kernel
theorem dL_areMovements_131 : decode cL_areMovements 131 = .ok (.iconst 0, 1) := by decide +kernel
theorem dL_areMovements_132 : decode cL_areMovements 132 = .ok (.istore 13, 2) := by decide +kernel
theorem dL_areMovements_134 : decode cL_areMovements 134 = .ok (.iload 13, 2) := by decide +kernel
theorem dL_areMovements_136 : decode cL_areMovements 136 = .ok (.iload 11, 2) := by decide +kernel
theorem dL_areMovements_138 : decode cL_areMovements 138 = .ok (.if_icmp .ge 74, 3) := by decide +kernel
theorem dL_areMovements_141 : decode cL_areMovements 141 = .ok (.iload 10, 2) := by decide +kernel
theorem dL_areMovements_143 : decode cL_areMovements 143 = .ok (.ifCond .eq 69, 3) := by decide +kernel
theorem dL_areMovements_146 : decode cL_areMovements 146 = .ok (.iload 12, 2) := by decide +kernel
theorem dL_areMovements_148 : decode cL_areMovements 148 = .ok (.ifCond .lt 64, 3) := by decide +kernel
theorem dL_areMovements_151 : decode cL_areMovements 151 = .ok (.aload_n 0, 1) := by decide +kernel
theorem dL_areMovements_152 : decode cL_areMovements 152 = .ok (.iload 13, 2) := by decide +kernel
theorem dL_areMovements_154 : decode cL_areMovements 154 = .ok (.invokevirtual 50, 3) := by decide +kernel
theorem dL_areMovements_157 : decode cL_areMovements 157 = .ok (.ifCond .lt 42, 3) := by decide +kernel
theorem dL_areMovements_160 : decode cL_areMovements 160 = .ok (.aload_n 0, 1) := by decide +kernel
theorem dL_areMovements_161 : decode cL_areMovements 161 = .ok (.iload 13, 2) := by decide +kernel
theorem dL_areMovements_163 : decode cL_areMovements 163 = .ok (.invokevirtual 47, 3) := by decide +kernel
theorem dL_areMovements_166 : decode cL_areMovements 166 = .ok (.aload_n 0, 1) := by decide +kernel
theorem dL_areMovements_167 : decode cL_areMovements 167 = .ok (.iload 11, 2) := by decide +kernel
theorem dL_areMovements_169 : decode cL_areMovements 169 = .ok (.invokevirtual 47, 3) := by decide +kernel
theorem dL_areMovements_172 : decode cL_areMovements 172 = .ok (.if_icmp .gt 7, 3) := by decide +kernel
theorem dL_areMovements_175 : decode cL_areMovements 175 = .ok (.iconst 1, 1) := by decide +kernel
theorem dL_areMovements_176 : decode cL_areMovements 176 = .ok (.goto 4, 3) := by decide +kernel
theorem dL_areMovements_179 : decode cL_areMovements 179 = .ok (.iconst 0, 1) := by decide +kernel
theorem dL_areMovements_180 : decode cL_areMovements 180 = .ok (.aload_n 0, 1) := by decide +kernel
theorem dL_areMovements_181 : decode cL_areMovements 181 = .ok (.iload 13, 2) := by decide +kernel
theorem dL_areMovements_183 : decode cL_areMovements 183 = .ok (.invokevirtual 50, 3) := by decide +kernel
theorem dL_areMovements_186 : decode cL_areMovements 186 = .ok (.iload 12, 2) := by decide +kernel
theorem dL_areMovements_188 : decode cL_areMovements 188 = .ok (.if_icmp .ge 7, 3) := by decide +kernel
theorem dL_areMovements_191 : decode cL_areMovements 191 = .ok (.iconst 1, 1) := by decide +kernel
theorem dL_areMovements_192 : decode cL_areMovements 192 = .ok (.goto 4, 3) := by decide +kernel
theorem dL_areMovements_195 : decode cL_areMovements 195 = .ok (.iconst 0, 1) := by decide +kernel
end
section
theorem dL_areMovements_196 : decode cL_areMovements 196 = .ok (.if_icmp .ne 7, 3) := by decide +kernel
theorem dL_areMovements_199 : decode cL_areMovements 199 = .ok (.iconst 1, 1) := by decide +kernel
theorem dL_areMovements_200 : decode cL_areMovements 200 = .ok (.goto 4, 3) := by decide +kernel
theorem dL_areMovements_203 : decode cL_areMovements 203 = .ok (.iconst 0, 1) := by decide +kernel
theorem dL_areMovements_204 : decode cL_areMovements 204 = .ok (.istore 10, 2) := by decide +kernel
theorem dL_areMovements_206 : decode cL_areMovements 206 = .ok (.iinc 13 1, 3) := by decide +kernel
theorem dL_areMovements_209 : decode cL_areMovements 209 = .ok (.goto (-75), 3) := by decide +kernel
theorem dL_areMovements_212 : decode cL_areMovements 212 = .ok (.aload_n 0, 1) := by decide +kernel
theorem dL_areMovements_213 : decode cL_areMovements 213 = .ok (.iload 11, 2) := by decide +kernel
theorem dL_areMovements_215 : decode cL_areMovements 215 = .ok (.invokevirtual 44, 3) := by decide +kernel
theorem dL_areMovements_218 : decode cL_areMovements 218 = .ok (.iconst 1, 1) := by decide +kernel
theorem dL_areMovements_219 : decode cL_areMovements 219 = .ok (.if_icmp .ne 12, 3) := by decide +kernel
theorem dL_areMovements_222 : decode cL_areMovements 222 = .ok (.iload 12, 2) := by decide +kernel
theorem dL_areMovements_224 : decode cL_areMovements 224 = .ok (.ifCond .lt 7, 3) := by decide +kernel
theorem dL_areMovements_227 : decode cL_areMovements 227 = .ok (.iconst 1, 1) := by decide +kernel
theorem dL_areMovements_228 : decode cL_areMovements 228 = .ok (.goto 4, 3) := by decide +kernel
theorem dL_areMovements_231 : decode cL_areMovements 231 = .ok (.iconst 0, 1) := by decide +kernel
theorem dL_areMovements_232 : decode cL_areMovements 232 = .ok (.istore 13, 2) := by decide +kernel
theorem dL_areMovements_234 : decode cL_areMovements 234 = .ok (.iload 10, 2) := by decide +kernel
theorem dL_areMovements_236 : decode cL_areMovements 236 = .ok (.ifCond .eq 53, 3) := by decide +kernel
theorem dL_areMovements_239 : decode cL_areMovements 239 = .ok (.iload 13, 2) := by decide +kernel
theorem dL_areMovements_241 : decode cL_areMovements 241 = .ok (.ifCond .eq 30, 3) := by decide +kernel
theorem dL_areMovements_244 : decode cL_areMovements 244 = .ok (.aload_n 0, 1) := by decide +kernel
theorem dL_areMovements_245 : decode cL_areMovements 245 = .ok (.iload 11, 2) := by decide +kernel
theorem dL_areMovements_247 : decode cL_areMovements 247 = .ok (.iconst 0, 1) := by decide +kernel
theorem dL_areMovements_248 : decode cL_areMovements 248 = .ok (.invokestatic 136, 3) := by decide +kernel
theorem dL_areMovements_251 : decode cL_areMovements 251 = .ok (.lconst 0, 1) := by decide +kernel
theorem dL_areMovements_252 : decode cL_areMovements 252 = .ok (.lcmp, 1) := by decide +kernel
theorem dL_areMovements_253 : decode cL_areMovements 253 = .ok (.ifCond .lt 36, 3) := by decide +kernel
theorem dL_areMovements_256 : decode cL_areMovements 256 = .ok (.aload_n 0, 1) := by decide +kernel
theorem dL_areMovements_257 : decode cL_areMovements 257 = .ok (.iload 11, 2) := by decide +kernel
theorem dL_areMovements_259 : decode cL_areMovements 259 = .ok (.iconst 1, 1) := by decide +kernel
theorem dL_areMovements_260 : decode cL_areMovements 260 = .ok (.invokestatic 136, 3) := by decide +kernel
theorem dL_areMovements_263 : decode cL_areMovements 263 = .ok (.lconst 0, 1) := by decide +kernel
theorem dL_areMovements_264 : decode cL_areMovements 264 = .ok (.lcmp, 1) := by decide +kernel
theorem dL_areMovements_265 : decode cL_areMovements 265 = .ok (.ifCond .lt 24, 3) := by decide +kernel
theorem dL_areMovements_268 : decode cL_areMovements 268 = .ok (.goto 17, 3) := by decide +kernel
theorem dL_areMovements_271 : decode cL_areMovements 271 = .ok (.aload_n 0, 1) := by decide +kernel
theorem dL_areMovements_272 : decode cL_areMovements 272 = .ok (.iload 11, 2) := by decide +kernel
theorem dL_areMovements_274 : decode cL_areMovements 274 = .ok (.iconst 1, 1) := by decide +kernel
theorem dL_areMovements_275 : decode cL_areMovements 275 = .ok (.invokestatic 136, 3) := by decide +kernel
theorem dL_areMovements_278 : decode cL_areMovements 278 = .ok (.ldc2_w 66, 3) := by decide +kernel
theorem dL_areMovements_281 : decode cL_areMovements 281 = .ok (.lcmp, 1) := by decide +kernel
theorem dL_areMovements_282 : decode cL_areMovements 282 = .ok (.ifCond .ne 7, 3) := by decide +kernel
theorem dL_areMovements_285 : decode cL_areMovements 285 = .ok (.iconst 1, 1) := by decide +kernel
theorem dL_areMovements_286 : decode cL_areMovements 286 = .ok (.goto 4, 3) := by decide +kernel
theorem dL_areMovements_289 : decode cL_areMovements 289 = .ok (.iconst 0, 1) := by decide +kernel
theorem dL_areMovements_290 : decode cL_areMovements 290 = .ok (.istore 10, 2) := by decide +kernel
theorem dL_areMovements_292 : decode cL_areMovements 292 = .ok (.lload 6, 2) := by decide +kernel
theorem dL_areMovements_294 : decode cL_areMovements 294 = .ok (.iload 13, 2) := by decide +kernel
theorem dL_areMovements_296 : decode cL_areMovements 296 = .ok (.ifCond .eq 13, 3) := by decide +kernel
theorem dL_areMovements_299 : decode cL_areMovements 299 = .ok (.aload_n 0, 1) := by decide +kernel
theorem dL_areMovements_300 : decode cL_areMovements 300 = .ok (.iload 11, 2) := by decide +kernel
theorem dL_areMovements_302 : decode cL_areMovements 302 = .ok (.iconst 0, 1) := by decide +kernel
theorem dL_areMovements_303 : decode cL_areMovements 303 = .ok (.invokestatic 136, 3) := by decide +kernel
theorem dL_areMovements_306 : decode cL_areMovements 306 = .ok (.goto 4, 3) := by decide +kernel
theorem dL_areMovements_309 : decode cL_areMovements 309 = .ok (.lconst 0, 1) := by decide +kernel
theorem dL_areMovements_310 : decode cL_areMovements 310 = .ok (.ladd, 1) := by decide +kernel
theorem dL_areMovements_311 : decode cL_areMovements 311 = .ok (.lstore 6, 2) := by decide +kernel
theorem dL_areMovements_313 : decode cL_areMovements 313 = .ok (.lload 8, 2) := by decide +kernel
theorem dL_areMovements_315 : decode cL_areMovements 315 = .ok (.iload 13, 2) := by decide +kernel
theorem dL_areMovements_317 : decode cL_areMovements 317 = .ok (.ifCond .eq 13, 3) := by decide +kernel
theorem dL_areMovements_320 : decode cL_areMovements 320 = .ok (.aload_n 0, 1) := by decide +kernel
theorem dL_areMovements_321 : decode cL_areMovements 321 = .ok (.iload 11, 2) := by decide +kernel
theorem dL_areMovements_323 : decode cL_areMovements 323 = .ok (.iconst 1, 1) := by decide +kernel
theorem dL_areMovements_324 : decode cL_areMovements 324 = .ok (.invokestatic 136, 3) := by decide +kernel
theorem dL_areMovements_327 : decode cL_areMovements 327 = .ok (.goto 4, 3) := by decide +kernel
theorem dL_areMovements_330 : decode cL_areMovements 330 = .ok (.lconst 0, 1) := by decide +kernel
theorem dL_areMovements_331 : decode cL_areMovements 331 = .ok (.ladd, 1) := by decide +kernel
theorem dL_areMovements_332 : decode cL_areMovements 332 = .ok (.lstore 8, 2) := by decide +kernel
theorem dL_areMovements_334 : decode cL_areMovements 334 = .ok (.aload_n 1, 1) := by decide +kernel
theorem dL_areMovements_335 : decode cL_areMovements 335 = .ok (.iload 11, 2) := by decide +kernel
theorem dL_areMovements_337 : decode cL_areMovements 337 = .ok (.iaload, 1) := by decide +kernel
theorem dL_areMovements_338 : decode cL_areMovements 338 = .ok (.istore 14, 2) := by decide +kernel
theorem dL_areMovements_340 : decode cL_areMovements 340 = .ok (.iconst 0, 1) := by decide +kernel
theorem dL_areMovements_341 : decode cL_areMovements 341 = .ok (.istore 15, 2) := by decide +kernel
theorem dL_areMovements_343 : decode cL_areMovements 343 = .ok (.iload 15, 2) := by decide +kernel
theorem dL_areMovements_345 : decode cL_areMovements 345 = .ok (.iload 4, 2) := by decide +kernel
theorem dL_areMovements_347 : decode cL_areMovements 347 = .ok (.if_icmp .ge 118, 3) := by decide +kernel
theorem dL_areMovements_350 : decode cL_areMovements 350 = .ok (.iload 10, 2) := by decide +kernel
theorem dL_areMovements_352 : decode cL_areMovements 352 = .ok (.ifCond .eq 113, 3) := by decide +kernel
theorem dL_areMovements_355 : decode cL_areMovements 355 = .ok (.aload_n 0, 1) := by decide +kernel
theorem dL_areMovements_356 : decode cL_areMovements 356 = .ok (.iload 11, 2) := by decide +kernel
theorem dL_areMovements_358 : decode cL_areMovements 358 = .ok (.iload 15, 2) := by decide +kernel
theorem dL_areMovements_360 : decode cL_areMovements 360 = .ok (.invokestatic 139, 3) := by decide +kernel
theorem dL_areMovements_363 : decode cL_areMovements 363 = .ok (.istore 16, 2) := by decide +kernel
theorem dL_areMovements_365 : decode cL_areMovements 365 = .ok (.aload_n 0, 1) := by decide +kernel
theorem dL_areMovements_366 : decode cL_areMovements 366 = .ok (.iload 11, 2) := by decide +kernel
theorem dL_areMovements_368 : decode cL_areMovements 368 = .ok (.invokevirtual 44, 3) := by decide +kernel
theorem dL_areMovements_371 : decode cL_areMovements 371 = .ok (.iconst 3, 1) := by decide +kernel
theorem dL_areMovements_372 : decode cL_areMovements 372 = .ok (.if_icmp .ne 52, 3) := by decide +kernel
theorem dL_areMovements_375 : decode cL_areMovements 375 = .ok (.iload 16, 2) := by decide +kernel
theorem dL_areMovements_377 : decode cL_areMovements 377 = .ok (.ifCond .lt 43, 3) := by decide +kernel
theorem dL_areMovements_380 : decode cL_areMovements 380 = .ok (.iload 16, 2) := by decide +kernel
theorem dL_areMovements_382 : decode cL_areMovements 382 = .ok (.ifCond .eq 34, 3) := by decide +kernel
theorem dL_areMovements_385 : decode cL_areMovements 385 = .ok (.aload_n 0, 1) := by decide +kernel
theorem dL_areMovements_386 : decode cL_areMovements 386 = .ok (.iload 15, 2) := by decide +kernel
theorem dL_areMovements_388 : decode cL_areMovements 388 = .ok (.invokevirtual 44, 3) := by decide +kernel
theorem dL_areMovements_391 : decode cL_areMovements 391 = .ok (.ifCond .ne 29, 3) := by decide +kernel
theorem dL_areMovements_394 : decode cL_areMovements 394 = .ok (.iload 15, 2) := by decide +kernel
theorem dL_areMovements_396 : decode cL_areMovements 396 = .ok (.iload 11, 2) := by decide +kernel
theorem dL_areMovements_398 : decode cL_areMovements 398 = .ok (.if_icmp .ge 22, 3) := by decide +kernel
theorem dL_areMovements_401 : decode cL_areMovements 401 = .ok (.aload_n 0, 1) := by decide +kernel
theorem dL_areMovements_402 : decode cL_areMovements 402 = .ok (.iload 15, 2) := by decide +kernel
theorem dL_areMovements_404 : decode cL_areMovements 404 = .ok (.invokevirtual 47, 3) := by decide +kernel
theorem dL_areMovements_407 : decode cL_areMovements 407 = .ok (.aload_n 0, 1) := by decide +kernel
theorem dL_areMovements_408 : decode cL_areMovements 408 = .ok (.iload 11, 2) := by decide +kernel
theorem dL_areMovements_410 : decode cL_areMovements 410 = .ok (.invokevirtual 47, 3) := by decide +kernel
theorem dL_areMovements_413 : decode cL_areMovements 413 = .ok (.if_icmp .gt 7, 3) := by decide +kernel
theorem dL_areMovements_416 : decode cL_areMovements 416 = .ok (.iconst 1, 1) := by decide +kernel
theorem dL_areMovements_417 : decode cL_areMovements 417 = .ok (.goto 19, 3) := by decide +kernel
theorem dL_areMovements_420 : decode cL_areMovements 420 = .ok (.iconst 0, 1) := by decide +kernel
theorem dL_areMovements_421 : decode cL_areMovements 421 = .ok (.goto 15, 3) := by decide +kernel
theorem dL_areMovements_424 : decode cL_areMovements 424 = .ok (.iload 16, 2) := by decide +kernel
theorem dL_areMovements_426 : decode cL_areMovements 426 = .ok (.bipush (-7), 2) := by decide +kernel
theorem dL_areMovements_428 : decode cL_areMovements 428 = .ok (.if_icmp .ne 7, 3) := by decide +kernel
theorem dL_areMovements_431 : decode cL_areMovements 431 = .ok (.iconst 1, 1) := by decide +kernel
theorem dL_areMovements_432 : decode cL_areMovements 432 = .ok (.goto 4, 3) := by decide +kernel
theorem dL_areMovements_435 : decode cL_areMovements 435 = .ok (.iconst 0, 1) := by decide +kernel
theorem dL_areMovements_436 : decode cL_areMovements 436 = .ok (.istore 10, 2) := by decide +kernel
theorem dL_areMovements_438 : decode cL_areMovements 438 = .ok (.iload 14, 2) := by decide +kernel
theorem dL_areMovements_440 : decode cL_areMovements 440 = .ok (.iload 10, 2) := by decide +kernel
theorem dL_areMovements_442 : decode cL_areMovements 442 = .ok (.ifCond .eq 13, 3) := by decide +kernel
theorem dL_areMovements_445 : decode cL_areMovements 445 = .ok (.iload 16, 2) := by decide +kernel
theorem dL_areMovements_447 : decode cL_areMovements 447 = .ok (.ifCond .le 8, 3) := by decide +kernel
theorem dL_areMovements_450 : decode cL_areMovements 450 = .ok (.iload 16, 2) := by decide +kernel
theorem dL_areMovements_452 : decode cL_areMovements 452 = .ok (.goto 4, 3) := by decide +kernel
theorem dL_areMovements_455 : decode cL_areMovements 455 = .ok (.iconst 0, 1) := by decide +kernel
theorem dL_areMovements_456 : decode cL_areMovements 456 = .ok (.isub, 1) := by decide +kernel
theorem dL_areMovements_457 : decode cL_areMovements 457 = .ok (.istore 14, 2) := by decide +kernel
theorem dL_areMovements_459 : decode cL_areMovements 459 = .ok (.iinc 15 1, 3) := by decide +kernel
theorem dL_areMovements_462 : decode cL_areMovements 462 = .ok (.goto (-119), 3) := by decide +kernel
theorem dL_areMovements_465 : decode cL_areMovements 465 = .ok (.iload 10, 2) := by decide +kernel
theorem dL_areMovements_467 : decode cL_areMovements 467 = .ok (.ifCond .eq 12, 3) := by decide +kernel
theorem dL_areMovements_470 : decode cL_areMovements 470 = .ok (.iload 14, 2) := by decide +kernel
theorem dL_areMovements_472 : decode cL_areMovements 472 = .ok (.ifCond .ne 7, 3) := by decide +kernel
theorem dL_areMovements_475 : decode cL_areMovements 475 = .ok (.iconst 1, 1) := by decide +kernel
theorem dL_areMovements_476 : decode cL_areMovements 476 = .ok (.goto 4, 3) := by decide +kernel
theorem dL_areMovements_479 : decode cL_areMovements 479 = .ok (.iconst 0, 1) := by decide +kernel
theorem dL_areMovements_480 : decode cL_areMovements 480 = .ok (.istore 10, 2) := by decide +kernel
theorem dL_areMovements_482 : decode cL_areMovements 482 = .ok (.iinc 11 1, 3) := by decide +kernel
theorem dL_areMovements_485 : decode cL_areMovements 485 = .ok (.goto (-462), 3) := by decide +kernel
theorem dL_areMovements_488 : decode cL_areMovements 488 = .ok (.iload 10, 2) := by decide +kernel
theorem dL_areMovements_490 : decode cL_areMovements 490 = .ok (.ifCond .eq 18, 3) := by decide +kernel
theorem dL_areMovements_493 : decode cL_areMovements 493 = .ok (.lload_n 2, 1) := by decide +kernel
theorem dL_areMovements_494 : decode cL_areMovements 494 = .ok (.lconst 1, 1) := by decide +kernel
theorem dL_areMovements_495 : decode cL_areMovements 495 = .ok (.iload 5, 2) := by decide +kernel
theorem dL_areMovements_497 : decode cL_areMovements 497 = .ok (.lshl, 1) := by decide +kernel
theorem dL_areMovements_498 : decode cL_areMovements 498 = .ok (.lconst 1, 1) := by decide +kernel
theorem dL_areMovements_499 : decode cL_areMovements 499 = .ok (.lsub, 1) := by decide +kernel
theorem dL_areMovements_500 : decode cL_areMovements 500 = .ok (.lcmp, 1) := by decide +kernel
theorem dL_areMovements_501 : decode cL_areMovements 501 = .ok (.ifCond .ne 7, 3) := by decide +kernel
theorem dL_areMovements_504 : decode cL_areMovements 504 = .ok (.iconst 1, 1) := by decide +kernel
theorem dL_areMovements_505 : decode cL_areMovements 505 = .ok (.goto 4, 3) := by decide +kernel
theorem dL_areMovements_508 : decode cL_areMovements 508 = .ok (.iconst 0, 1) := by decide +kernel
theorem dL_areMovements_509 : decode cL_areMovements 509 = .ok (.istore 10, 2) := by decide +kernel
theorem dL_areMovements_511 : decode cL_areMovements 511 = .ok (.iconst 0, 1) := by decide +kernel
theorem dL_areMovements_512 : decode cL_areMovements 512 = .ok (.istore 11, 2) := by decide +kernel
theorem dL_areMovements_514 : decode cL_areMovements 514 = .ok (.iload 11, 2) := by decide +kernel
theorem dL_areMovements_516 : decode cL_areMovements 516 = .ok (.bipush 6, 2) := by decide +kernel
theorem dL_areMovements_518 : decode cL_areMovements 518 = .ok (.if_icmp .ge 39, 3) := by decide +kernel
theorem dL_areMovements_521 : decode cL_areMovements 521 = .ok (.lload 6, 2) := by decide +kernel
theorem dL_areMovements_523 : decode cL_areMovements 523 = .ok (.aload_n 0, 1) := by decide +kernel
theorem dL_areMovements_524 : decode cL_areMovements 524 = .ok (.iload 11, 2) := by decide +kernel
theorem dL_areMovements_526 : decode cL_areMovements 526 = .ok (.sipush 364, 3) := by decide +kernel
theorem dL_areMovements_529 : decode cL_areMovements 529 = .ok (.iconst 0, 1) := by decide +kernel
theorem dL_areMovements_530 : decode cL_areMovements 530 = .ok (.invokevirtual 97, 3) := by decide +kernel
theorem dL_areMovements_533 : decode cL_areMovements 533 = .ok (.lsub, 1) := by decide +kernel
theorem dL_areMovements_534 : decode cL_areMovements 534 = .ok (.lstore 6, 2) := by decide +kernel
theorem dL_areMovements_536 : decode cL_areMovements 536 = .ok (.lload 8, 2) := by decide +kernel
theorem dL_areMovements_538 : decode cL_areMovements 538 = .ok (.aload_n 0, 1) := by decide +kernel
theorem dL_areMovements_539 : decode cL_areMovements 539 = .ok (.iload 11, 2) := by decide +kernel
theorem dL_areMovements_541 : decode cL_areMovements 541 = .ok (.sipush 364, 3) := by decide +kernel
theorem dL_areMovements_544 : decode cL_areMovements 544 = .ok (.iconst 1, 1) := by decide +kernel
theorem dL_areMovements_545 : decode cL_areMovements 545 = .ok (.invokevirtual 97, 3) := by decide +kernel
theorem dL_areMovements_548 : decode cL_areMovements 548 = .ok (.lsub, 1) := by decide +kernel
theorem dL_areMovements_549 : decode cL_areMovements 549 = .ok (.lstore 8, 2) := by decide +kernel
theorem dL_areMovements_551 : decode cL_areMovements 551 = .ok (.iinc 11 1, 3) := by decide +kernel
theorem dL_areMovements_554 : decode cL_areMovements 554 = .ok (.goto (-40), 3) := by decide +kernel
theorem dL_areMovements_557 : decode cL_areMovements 557 = .ok (.iload 10, 2) := by decide +kernel
theorem dL_areMovements_559 : decode cL_areMovements 559 = .ok (.ifCond .eq 75, 3) := by decide +kernel
theorem dL_areMovements_562 : decode cL_areMovements 562 = .ok (.lload 6, 2) := by decide +kernel
theorem dL_areMovements_564 : decode cL_areMovements 564 = .ok (.lconst 0, 1) := by decide +kernel
theorem dL_areMovements_565 : decode cL_areMovements 565 = .ok (.lcmp, 1) := by decide +kernel
theorem dL_areMovements_566 : decode cL_areMovements 566 = .ok (.ifCond .ne 68, 3) := by decide +kernel
theorem dL_areMovements_569 : decode cL_areMovements 569 = .ok (.lload 8, 2) := by decide +kernel
theorem dL_areMovements_571 : decode cL_areMovements 571 = .ok (.lconst 0, 1) := by decide +kernel
theorem dL_areMovements_572 : decode cL_areMovements 572 = .ok (.lcmp, 1) := by decide +kernel
theorem dL_areMovements_573 : decode cL_areMovements 573 = .ok (.ifCond .ne 61, 3) := by decide +kernel
theorem dL_areMovements_576 : decode cL_areMovements 576 = .ok (.aload_n 0, 1) := by decide +kernel
theorem dL_areMovements_577 : decode cL_areMovements 577 = .ok (.iload 4, 2) := by decide +kernel
theorem dL_areMovements_579 : decode cL_areMovements 579 = .ok (.iload 4, 2) := by decide +kernel
theorem dL_areMovements_581 : decode cL_areMovements 581 = .ok (.iconst 4, 1) := by decide +kernel
theorem dL_areMovements_582 : decode cL_areMovements 582 = .ok (.irem, 1) := by decide +kernel
theorem dL_areMovements_583 : decode cL_areMovements 583 = .ok (.invokestatic 142, 3) := by decide +kernel
theorem dL_areMovements_586 : decode cL_areMovements 586 = .ok (.bipush (-5), 2) := by decide +kernel
theorem dL_areMovements_588 : decode cL_areMovements 588 = .ok (.if_icmp .ne 46, 3) := by decide +kernel
theorem dL_areMovements_591 : decode cL_areMovements 591 = .ok (.aload_n 0, 1) := by decide +kernel
theorem dL_areMovements_592 : decode cL_areMovements 592 = .ok (.iconst (-1), 1) := by decide +kernel
theorem dL_areMovements_593 : decode cL_areMovements 593 = .ok (.iload 4, 2) := by decide +kernel
theorem dL_areMovements_595 : decode cL_areMovements 595 = .ok (.iconst 4, 1) := by decide +kernel
theorem dL_areMovements_596 : decode cL_areMovements 596 = .ok (.irem, 1) := by decide +kernel
theorem dL_areMovements_597 : decode cL_areMovements 597 = .ok (.invokestatic 142, 3) := by decide +kernel
theorem dL_areMovements_600 : decode cL_areMovements 600 = .ok (.bipush (-5), 2) := by decide +kernel
theorem dL_areMovements_602 : decode cL_areMovements 602 = .ok (.if_icmp .ne 32, 3) := by decide +kernel
theorem dL_areMovements_605 : decode cL_areMovements 605 = .ok (.aload_n 0, 1) := by decide +kernel
theorem dL_areMovements_606 : decode cL_areMovements 606 = .ok (.iload 4, 2) := by decide +kernel
theorem dL_areMovements_608 : decode cL_areMovements 608 = .ok (.iconst 0, 1) := by decide +kernel
theorem dL_areMovements_609 : decode cL_areMovements 609 = .ok (.invokestatic 139, 3) := by decide +kernel
theorem dL_areMovements_612 : decode cL_areMovements 612 = .ok (.bipush (-5), 2) := by decide +kernel
theorem dL_areMovements_614 : decode cL_areMovements 614 = .ok (.if_icmp .ne 20, 3) := by decide +kernel
theorem dL_areMovements_617 : decode cL_areMovements 617 = .ok (.aload_n 0, 1) := by decide +kernel
theorem dL_areMovements_618 : decode cL_areMovements 618 = .ok (.iconst (-1), 1) := by decide +kernel
theorem dL_areMovements_619 : decode cL_areMovements 619 = .ok (.iconst 0, 1) := by decide +kernel
theorem dL_areMovements_620 : decode cL_areMovements 620 = .ok (.invokestatic 136, 3) := by decide +kernel
theorem dL_areMovements_623 : decode cL_areMovements 623 = .ok (.ldc2_w 64, 3) := by decide +kernel
theorem dL_areMovements_626 : decode cL_areMovements 626 = .ok (.lcmp, 1) := by decide +kernel
theorem dL_areMovements_627 : decode cL_areMovements 627 = .ok (.ifCond .ne 7, 3) := by decide +kernel
theorem dL_areMovements_630 : decode cL_areMovements 630 = .ok (.iconst 1, 1) := by decide +kernel
theorem dL_areMovements_631 : decode cL_areMovements 631 = .ok (.goto 4, 3) := by decide +kernel
theorem dL_areMovements_634 : decode cL_areMovements 634 = .ok (.iconst 0, 1) := by decide +kernel
theorem dL_areMovements_635 : decode cL_areMovements 635 = .ok (.ireturn, 1) := by decide +kernel
theorem dL_isRefused_0 : decode cL_isRefused 0 = .ok (.iload_n 1, 1) := by decide +kernel
theorem dL_isRefused_1 : decode cL_isRefused 1 = .ok (.iconst 2, 1) := by decide +kernel
theorem dL_isRefused_2 : decode cL_isRefused 2 = .ok (.irem, 1) := by decide +kernel
theorem dL_isRefused_3 : decode cL_isRefused 3 = .ok (.ifCond .ne 12, 3) := by decide +kernel
theorem dL_isRefused_6 : decode cL_isRefused 6 = .ok (.iconst (-1), 1) := by decide +kernel
theorem dL_isRefused_7 : decode cL_isRefused 7 = .ok (.iload_n 1, 1) := by decide +kernel
theorem dL_isRefused_8 : decode cL_isRefused 8 = .ok (.bipush 50, 2) := by decide +kernel
theorem dL_isRefused_10 : decode cL_isRefused 10 = .ok (.irem, 1) := by decide +kernel
theorem dL_isRefused_11 : decode cL_isRefused 11 = .ok (.isub, 1) := by decide +kernel
theorem dL_isRefused_12 : decode cL_isRefused 12 = .ok (.goto 11, 3) := by decide +kernel
theorem dL_isRefused_15 : decode cL_isRefused 15 = .ok (.sipush 365, 3) := by decide +kernel
theorem dL_isRefused_18 : decode cL_isRefused 18 = .ok (.iload_n 1, 1) := by decide +kernel
theorem dL_isRefused_19 : decode cL_isRefused 19 = .ok (.bipush 50, 2) := by decide +kernel
theorem dL_isRefused_21 : decode cL_isRefused 21 = .ok (.irem, 1) := by decide +kernel
theorem dL_isRefused_22 : decode cL_isRefused 22 = .ok (.iadd, 1) := by decide +kernel
theorem dL_isRefused_23 : decode cL_isRefused 23 = .ok (.istore_n 2, 1) := by decide +kernel
theorem dL_isRefused_24 : decode cL_isRefused 24 = .ok (.iload_n 1, 1) := by decide +kernel
theorem dL_isRefused_25 : decode cL_isRefused 25 = .ok (.iconst 2, 1) := by decide +kernel
theorem dL_isRefused_26 : decode cL_isRefused 26 = .ok (.irem, 1) := by decide +kernel
theorem dL_isRefused_27 : decode cL_isRefused 27 = .ok (.ifCond .ne 12, 3) := by decide +kernel
theorem dL_isRefused_30 : decode cL_isRefused 30 = .ok (.iconst (-1), 1) := by decide +kernel
theorem dL_isRefused_31 : decode cL_isRefused 31 = .ok (.iload_n 1, 1) := by decide +kernel
theorem dL_isRefused_32 : decode cL_isRefused 32 = .ok (.bipush 50, 2) := by decide +kernel
theorem dL_isRefused_34 : decode cL_isRefused 34 = .ok (.irem, 1) := by decide +kernel
theorem dL_isRefused_35 : decode cL_isRefused 35 = .ok (.isub, 1) := by decide +kernel
theorem dL_isRefused_36 : decode cL_isRefused 36 = .ok (.goto 10, 3) := by decide +kernel
theorem dL_isRefused_39 : decode cL_isRefused 39 = .ok (.bipush 6, 2) := by decide +kernel
theorem dL_isRefused_41 : decode cL_isRefused 41 = .ok (.iload_n 1, 1) := by decide +kernel
theorem dL_isRefused_42 : decode cL_isRefused 42 = .ok (.bipush 50, 2) := by decide +kernel
theorem dL_isRefused_44 : decode cL_isRefused 44 = .ok (.irem, 1) := by decide +kernel
theorem dL_isRefused_45 : decode cL_isRefused 45 = .ok (.iadd, 1) := by decide +kernel
theorem dL_isRefused_46 : decode cL_isRefused 46 = .ok (.istore_n 3, 1) := by decide +kernel
theorem dL_isRefused_47 : decode cL_isRefused 47 = .ok (.iload_n 1, 1) := by decide +kernel
theorem dL_isRefused_48 : decode cL_isRefused 48 = .ok (.iconst 2, 1) := by decide +kernel
theorem dL_isRefused_49 : decode cL_isRefused 49 = .ok (.irem, 1) := by decide +kernel
theorem dL_isRefused_50 : decode cL_isRefused 50 = .ok (.ifCond .ne 7, 3) := by decide +kernel
theorem dL_isRefused_53 : decode cL_isRefused 53 = .ok (.iconst 0, 1) := by decide +kernel
theorem dL_isRefused_54 : decode cL_isRefused 54 = .ok (.goto 11, 3) := by decide +kernel
theorem dL_isRefused_57 : decode cL_isRefused 57 = .ok (.sipush 1001, 3) := by decide +kernel
theorem dL_isRefused_60 : decode cL_isRefused 60 = .ok (.iload_n 1, 1) := by decide +kernel
theorem dL_isRefused_61 : decode cL_isRefused 61 = .ok (.bipush 50, 2) := by decide +kernel
theorem dL_isRefused_63 : decode cL_isRefused 63 = .ok (.irem, 1) := by decide +kernel
theorem dL_isRefused_64 : decode cL_isRefused 64 = .ok (.iadd, 1) := by decide +kernel
theorem dL_isRefused_65 : decode cL_isRefused 65 = .ok (.istore 4, 2) := by decide +kernel
theorem dL_isRefused_67 : decode cL_isRefused 67 = .ok (.iload_n 1, 1) := by decide +kernel
theorem dL_isRefused_68 : decode cL_isRefused 68 = .ok (.iconst 2, 1) := by decide +kernel
theorem dL_isRefused_69 : decode cL_isRefused 69 = .ok (.irem, 1) := by decide +kernel
theorem dL_isRefused_70 : decode cL_isRefused 70 = .ok (.ifCond .ne 7, 3) := by decide +kernel
theorem dL_isRefused_73 : decode cL_isRefused 73 = .ok (.iconst (-1), 1) := by decide +kernel
theorem dL_isRefused_74 : decode cL_isRefused 74 = .ok (.goto 10, 3) := by decide +kernel
theorem dL_isRefused_77 : decode cL_isRefused 77 = .ok (.ldc 145, 2) := by decide +kernel
theorem dL_isRefused_79 : decode cL_isRefused 79 = .ok (.iload_n 1, 1) := by decide +kernel
theorem dL_isRefused_80 : decode cL_isRefused 80 = .ok (.bipush 50, 2) := by decide +kernel
theorem dL_isRefused_82 : decode cL_isRefused 82 = .ok (.irem, 1) := by decide +kernel
theorem dL_isRefused_83 : decode cL_isRefused 83 = .ok (.iadd, 1) := by decide +kernel
theorem dL_isRefused_84 : decode cL_isRefused 84 = .ok (.istore 5, 2) := by decide +kernel
theorem dL_isRefused_86 : decode cL_isRefused 86 = .ok (.aload_n 0, 1) := by decide +kernel
theorem dL_isRefused_87 : decode cL_isRefused 87 = .ok (.invokevirtual 116, 3) := by decide +kernel
theorem dL_isRefused_90 : decode cL_isRefused 90 = .ok (.istore 6, 2) := by decide +kernel
theorem dL_isRefused_92 : decode cL_isRefused 92 = .ok (.aload_n 0, 1) := by decide +kernel
theorem dL_isRefused_93 : decode cL_isRefused 93 = .ok (.invokestatic 146, 3) := by decide +kernel
theorem dL_isRefused_96 : decode cL_isRefused 96 = .ok (.lstore 7, 2) := by decide +kernel
theorem dL_isRefused_98 : decode cL_isRefused 98 = .ok (.aload_n 0, 1) := by decide +kernel
theorem dL_isRefused_99 : decode cL_isRefused 99 = .ok (.iload_n 2, 1) := by decide +kernel
theorem dL_isRefused_100 : decode cL_isRefused 100 = .ok (.iconst 0, 1) := by decide +kernel
theorem dL_isRefused_101 : decode cL_isRefused 101 = .ok (.iconst 1, 1) := by decide +kernel
theorem dL_isRefused_102 : decode cL_isRefused 102 = .ok (.iconst 0, 1) := by decide +kernel
theorem dL_isRefused_103 : decode cL_isRefused 103 = .ok (.invokestatic 150, 3) := by decide +kernel
theorem dL_isRefused_106 : decode cL_isRefused 106 = .ok (.bipush (-6), 2) := by decide +kernel
theorem dL_isRefused_108 : decode cL_isRefused 108 = .ok (.if_icmp .ne 145, 3) := by decide +kernel
theorem dL_isRefused_111 : decode cL_isRefused 111 = .ok (.aload_n 0, 1) := by decide +kernel
theorem dL_isRefused_112 : decode cL_isRefused 112 = .ok (.sipush 364, 3) := by decide +kernel
theorem dL_isRefused_115 : decode cL_isRefused 115 = .ok (.iload_n 3, 1) := by decide +kernel
theorem dL_isRefused_116 : decode cL_isRefused 116 = .ok (.iconst 1, 1) := by decide +kernel
theorem dL_isRefused_117 : decode cL_isRefused 117 = .ok (.iconst 0, 1) := by decide +kernel
theorem dL_isRefused_118 : decode cL_isRefused 118 = .ok (.invokestatic 150, 3) := by decide +kernel
theorem dL_isRefused_121 : decode cL_isRefused 121 = .ok (.bipush (-6), 2) := by decide +kernel
theorem dL_isRefused_123 : decode cL_isRefused 123 = .ok (.if_icmp .ne 130, 3) := by decide +kernel
theorem dL_isRefused_126 : decode cL_isRefused 126 = .ok (.aload_n 0, 1) := by decide +kernel
theorem dL_isRefused_127 : decode cL_isRefused 127 = .ok (.sipush 364, 3) := by decide +kernel
theorem dL_isRefused_130 : decode cL_isRefused 130 = .ok (.iconst 0, 1) := by decide +kernel
theorem dL_isRefused_131 : decode cL_isRefused 131 = .ok (.iload 4, 2) := by decide +kernel
theorem dL_isRefused_133 : decode cL_isRefused 133 = .ok (.iconst 0, 1) := by decide +kernel
theorem dL_isRefused_134 : decode cL_isRefused 134 = .ok (.invokestatic 150, 3) := by decide +kernel
theorem dL_isRefused_137 : decode cL_isRefused 137 = .ok (.bipush (-6), 2) := by decide +kernel
theorem dL_isRefused_139 : decode cL_isRefused 139 = .ok (.if_icmp .ne 114, 3) := by decide +kernel
theorem dL_isRefused_142 : decode cL_isRefused 142 = .ok (.aload_n 0, 1) := by decide +kernel
theorem dL_isRefused_143 : decode cL_isRefused 143 = .ok (.sipush 364, 3) := by decide +kernel
theorem dL_isRefused_146 : decode cL_isRefused 146 = .ok (.iconst 0, 1) := by decide +kernel
theorem dL_isRefused_147 : decode cL_isRefused 147 = .ok (.iconst 1, 1) := by decide +kernel
theorem dL_isRefused_148 : decode cL_isRefused 148 = .ok (.iload 5, 2) := by decide +kernel
theorem dL_isRefused_150 : decode cL_isRefused 150 = .ok (.invokestatic 150, 3) := by decide +kernel
theorem dL_isRefused_153 : decode cL_isRefused 153 = .ok (.bipush (-6), 2) := by decide +kernel
theorem dL_isRefused_155 : decode cL_isRefused 155 = .ok (.if_icmp .ne 98, 3) := by decide +kernel
theorem dL_isRefused_158 : decode cL_isRefused 158 = .ok (.aload_n 0, 1) := by decide +kernel
theorem dL_isRefused_159 : decode cL_isRefused 159 = .ok (.iload_n 2, 1) := by decide +kernel
theorem dL_isRefused_160 : decode cL_isRefused 160 = .ok (.iconst 0, 1) := by decide +kernel
theorem dL_isRefused_161 : decode cL_isRefused 161 = .ok (.iconst 1, 1) := by decide +kernel
theorem dL_isRefused_162 : decode cL_isRefused 162 = .ok (.invokestatic 153, 3) := by decide +kernel
theorem dL_isRefused_165 : decode cL_isRefused 165 = .ok (.bipush (-6), 2) := by decide +kernel
theorem dL_isRefused_167 : decode cL_isRefused 167 = .ok (.if_icmp .ne 86, 3) := by decide +kernel
theorem dL_isRefused_170 : decode cL_isRefused 170 = .ok (.aload_n 0, 1) := by decide +kernel
theorem dL_isRefused_171 : decode cL_isRefused 171 = .ok (.iconst 0, 1) := by decide +kernel
theorem dL_isRefused_172 : decode cL_isRefused 172 = .ok (.iload_n 3, 1) := by decide +kernel
theorem dL_isRefused_173 : decode cL_isRefused 173 = .ok (.iconst 1, 1) := by decide +kernel
theorem dL_isRefused_174 : decode cL_isRefused 174 = .ok (.invokestatic 153, 3) := by decide +kernel
theorem dL_isRefused_177 : decode cL_isRefused 177 = .ok (.bipush (-6), 2) := by decide +kernel
theorem dL_isRefused_179 : decode cL_isRefused 179 = .ok (.if_icmp .ne 74, 3) := by decide +kernel
theorem dL_isRefused_182 : decode cL_isRefused 182 = .ok (.aload_n 0, 1) := by decide +kernel
theorem dL_isRefused_183 : decode cL_isRefused 183 = .ok (.iconst 0, 1) := by decide +kernel
theorem dL_isRefused_184 : decode cL_isRefused 184 = .ok (.iconst 0, 1) := by decide +kernel
theorem dL_isRefused_185 : decode cL_isRefused 185 = .ok (.iload 4, 2) := by decide +kernel
theorem dL_isRefused_187 : decode cL_isRefused 187 = .ok (.invokestatic 153, 3) := by decide +kernel
theorem dL_isRefused_190 : decode cL_isRefused 190 = .ok (.bipush (-6), 2) := by decide +kernel
theorem dL_isRefused_192 : decode cL_isRefused 192 = .ok (.if_icmp .ne 61, 3) := by decide +kernel
theorem dL_isRefused_195 : decode cL_isRefused 195 = .ok (.aload_n 0, 1) := by decide +kernel
theorem dL_isRefused_196 : decode cL_isRefused 196 = .ok (.iload_n 2, 1) := by decide +kernel
theorem dL_isRefused_197 : decode cL_isRefused 197 = .ok (.iconst 0, 1) := by decide +kernel
theorem dL_isRefused_198 : decode cL_isRefused 198 = .ok (.iconst 1, 1) := by decide +kernel
theorem dL_isRefused_199 : decode cL_isRefused 199 = .ok (.iconst 0, 1) := by decide +kernel
theorem dL_isRefused_200 : decode cL_isRefused 200 = .ok (.invokestatic 156, 3) := by decide +kernel
theorem dL_isRefused_203 : decode cL_isRefused 203 = .ok (.bipush (-6), 2) := by decide +kernel
theorem dL_isRefused_205 : decode cL_isRefused 205 = .ok (.if_icmp .ne 48, 3) := by decide +kernel
theorem dL_isRefused_208 : decode cL_isRefused 208 = .ok (.aload_n 0, 1) := by decide +kernel
theorem dL_isRefused_209 : decode cL_isRefused 209 = .ok (.iconst 0, 1) := by decide +kernel
theorem dL_isRefused_210 : decode cL_isRefused 210 = .ok (.iload_n 3, 1) := by decide +kernel
theorem dL_isRefused_211 : decode cL_isRefused 211 = .ok (.iconst 1, 1) := by decide +kernel
theorem dL_isRefused_212 : decode cL_isRefused 212 = .ok (.iconst 0, 1) := by decide +kernel
theorem dL_isRefused_213 : decode cL_isRefused 213 = .ok (.invokestatic 156, 3) := by decide +kernel
theorem dL_isRefused_216 : decode cL_isRefused 216 = .ok (.bipush (-6), 2) := by decide +kernel
theorem dL_isRefused_218 : decode cL_isRefused 218 = .ok (.if_icmp .ne 35, 3) := by decide +kernel
theorem dL_isRefused_221 : decode cL_isRefused 221 = .ok (.aload_n 0, 1) := by decide +kernel
theorem dL_isRefused_222 : decode cL_isRefused 222 = .ok (.iconst 0, 1) := by decide +kernel
theorem dL_isRefused_223 : decode cL_isRefused 223 = .ok (.iconst 0, 1) := by decide +kernel
theorem dL_isRefused_224 : decode cL_isRefused 224 = .ok (.iload 4, 2) := by decide +kernel
theorem dL_isRefused_226 : decode cL_isRefused 226 = .ok (.iconst 0, 1) := by decide +kernel
theorem dL_isRefused_227 : decode cL_isRefused 227 = .ok (.invokestatic 156, 3) := by decide +kernel
theorem dL_isRefused_230 : decode cL_isRefused 230 = .ok (.bipush (-6), 2) := by decide +kernel
theorem dL_isRefused_232 : decode cL_isRefused 232 = .ok (.if_icmp .ne 21, 3) := by decide +kernel
theorem dL_isRefused_235 : decode cL_isRefused 235 = .ok (.aload_n 0, 1) := by decide +kernel
theorem dL_isRefused_236 : decode cL_isRefused 236 = .ok (.iconst 0, 1) := by decide +kernel
theorem dL_isRefused_237 : decode cL_isRefused 237 = .ok (.iconst 0, 1) := by decide +kernel
theorem dL_isRefused_238 : decode cL_isRefused 238 = .ok (.iconst 1, 1) := by decide +kernel
theorem dL_isRefused_239 : decode cL_isRefused 239 = .ok (.iload 5, 2) := by decide +kernel
theorem dL_isRefused_241 : decode cL_isRefused 241 = .ok (.invokestatic 156, 3) := by decide +kernel
theorem dL_isRefused_244 : decode cL_isRefused 244 = .ok (.bipush (-6), 2) := by decide +kernel
theorem dL_isRefused_246 : decode cL_isRefused 246 = .ok (.if_icmp .ne 7, 3) := by decide +kernel
theorem dL_isRefused_249 : decode cL_isRefused 249 = .ok (.iconst 1, 1) := by decide +kernel
theorem dL_isRefused_250 : decode cL_isRefused 250 = .ok (.goto 4, 3) := by decide +kernel
theorem dL_isRefused_253 : decode cL_isRefused 253 = .ok (.iconst 0, 1) := by decide +kernel
theorem dL_isRefused_254 : decode cL_isRefused 254 = .ok (.istore 9, 2) := by decide +kernel
theorem dL_isRefused_256 : decode cL_isRefused 256 = .ok (.iload 9, 2) := by decide +kernel
theorem dL_isRefused_258 : decode cL_isRefused 258 = .ok (.ifCond .eq 189, 3) := by decide +kernel
theorem dL_isRefused_261 : decode cL_isRefused 261 = .ok (.aload_n 0, 1) := by decide +kernel
theorem dL_isRefused_262 : decode cL_isRefused 262 = .ok (.iload_n 2, 1) := by decide +kernel
theorem dL_isRefused_263 : decode cL_isRefused 263 = .ok (.iconst 1, 1) := by decide +kernel
theorem dL_isRefused_264 : decode cL_isRefused 264 = .ok (.iconst 0, 1) := by decide +kernel
theorem dL_isRefused_265 : decode cL_isRefused 265 = .ok (.ldc2_w 158, 3) := by decide +kernel
theorem dL_isRefused_268 : decode cL_isRefused 268 = .ok (.invokestatic 160, 3) := by decide +kernel
theorem dL_isRefused_271 : decode cL_isRefused 271 = .ok (.bipush (-6), 2) := by decide +kernel
theorem dL_isRefused_273 : decode cL_isRefused 273 = .ok (.if_icmp .ne 174, 3) := by decide +kernel
theorem dL_isRefused_276 : decode cL_isRefused 276 = .ok (.aload_n 0, 1) := by decide +kernel
theorem dL_isRefused_277 : decode cL_isRefused 277 = .ok (.iconst 0, 1) := by decide +kernel
theorem dL_isRefused_278 : decode cL_isRefused 278 = .ok (.iload_n 1, 1) := by decide +kernel
theorem dL_isRefused_279 : decode cL_isRefused 279 = .ok (.iconst 2, 1) := by decide +kernel
theorem dL_isRefused_280 : decode cL_isRefused 280 = .ok (.irem, 1) := by decide +kernel
theorem dL_isRefused_281 : decode cL_isRefused 281 = .ok (.ifCond .ne 7, 3) := by decide +kernel
theorem dL_isRefused_284 : decode cL_isRefused 284 = .ok (.iconst 0, 1) := by decide +kernel
theorem dL_isRefused_285 : decode cL_isRefused 285 = .ok (.goto 5, 3) := by decide +kernel
theorem dL_isRefused_288 : decode cL_isRefused 288 = .ok (.iload 5, 2) := by decide +kernel
theorem dL_isRefused_290 : decode cL_isRefused 290 = .ok (.iconst 0, 1) := by decide +kernel
theorem dL_isRefused_291 : decode cL_isRefused 291 = .ok (.lconst 1, 1) := by decide +kernel
theorem dL_isRefused_292 : decode cL_isRefused 292 = .ok (.invokestatic 160, 3) := by decide +kernel
theorem dL_isRefused_295 : decode cL_isRefused 295 = .ok (.bipush (-6), 2) := by decide +kernel
theorem dL_isRefused_297 : decode cL_isRefused 297 = .ok (.if_icmp .ne 150, 3) := by decide +kernel
theorem dL_isRefused_300 : decode cL_isRefused 300 = .ok (.aload_n 0, 1) := by decide +kernel
theorem dL_isRefused_301 : decode cL_isRefused 301 = .ok (.iconst 0, 1) := by decide +kernel
theorem dL_isRefused_302 : decode cL_isRefused 302 = .ok (.iconst 1, 1) := by decide +kernel
end
section
theorem dL_isRefused_303 : decode cL_isRefused 303 = .ok (.iload_n 1, 1) := by decide +kernel
theorem dL_isRefused_304 : decode cL_isRefused 304 = .ok (.iconst 2, 1) := by decide +kernel
theorem dL_isRefused_305 : decode cL_isRefused 305 = .ok (.irem, 1) := by decide +kernel
theorem dL_isRefused_306 : decode cL_isRefused 306 = .ok (.ifCond .ne 7, 3) := by decide +kernel
theorem dL_isRefused_309 : decode cL_isRefused 309 = .ok (.iconst (-1), 1) := by decide +kernel
theorem dL_isRefused_310 : decode cL_isRefused 310 = .ok (.goto 4, 3) := by decide +kernel
theorem dL_isRefused_313 : decode cL_isRefused 313 = .ok (.iconst 3, 1) := by decide +kernel
theorem dL_isRefused_314 : decode cL_isRefused 314 = .ok (.lconst 1, 1) := by decide +kernel
theorem dL_isRefused_315 : decode cL_isRefused 315 = .ok (.invokestatic 160, 3) := by decide +kernel
theorem dL_isRefused_318 : decode cL_isRefused 318 = .ok (.bipush (-6), 2) := by decide +kernel
theorem dL_isRefused_320 : decode cL_isRefused 320 = .ok (.if_icmp .ne 127, 3) := by decide +kernel
theorem dL_isRefused_323 : decode cL_isRefused 323 = .ok (.aload_n 0, 1) := by decide +kernel
theorem dL_isRefused_324 : decode cL_isRefused 324 = .ok (.sipush 364, 3) := by decide +kernel
theorem dL_isRefused_327 : decode cL_isRefused 327 = .ok (.iconst 1, 1) := by decide +kernel
theorem dL_isRefused_328 : decode cL_isRefused 328 = .ok (.iconst 1, 1) := by decide +kernel
theorem dL_isRefused_329 : decode cL_isRefused 329 = .ok (.lconst 0, 1) := by decide +kernel
theorem dL_isRefused_330 : decode cL_isRefused 330 = .ok (.invokestatic 160, 3) := by decide +kernel
theorem dL_isRefused_333 : decode cL_isRefused 333 = .ok (.bipush (-6), 2) := by decide +kernel
theorem dL_isRefused_335 : decode cL_isRefused 335 = .ok (.if_icmp .ne 112, 3) := by decide +kernel
theorem dL_isRefused_338 : decode cL_isRefused 338 = .ok (.aload_n 0, 1) := by decide +kernel
theorem dL_isRefused_339 : decode cL_isRefused 339 = .ok (.iconst 0, 1) := by decide +kernel
theorem dL_isRefused_340 : decode cL_isRefused 340 = .ok (.iconst 1, 1) := by decide +kernel
theorem dL_isRefused_341 : decode cL_isRefused 341 = .ok (.iconst 1, 1) := by decide +kernel
theorem dL_isRefused_342 : decode cL_isRefused 342 = .ok (.ldc2_w 158, 3) := by decide +kernel
theorem dL_isRefused_345 : decode cL_isRefused 345 = .ok (.invokestatic 160, 3) := by decide +kernel
theorem dL_isRefused_348 : decode cL_isRefused 348 = .ok (.bipush (-5), 2) := by decide +kernel
theorem dL_isRefused_350 : decode cL_isRefused 350 = .ok (.if_icmp .ne 97, 3) := by decide +kernel
theorem dL_isRefused_353 : decode cL_isRefused 353 = .ok (.aload_n 0, 1) := by decide +kernel
theorem dL_isRefused_354 : decode cL_isRefused 354 = .ok (.iconst 0, 1) := by decide +kernel
theorem dL_isRefused_355 : decode cL_isRefused 355 = .ok (.iconst 1, 1) := by decide +kernel
theorem dL_isRefused_356 : decode cL_isRefused 356 = .ok (.iconst 1, 1) := by decide +kernel
theorem dL_isRefused_357 : decode cL_isRefused 357 = .ok (.lconst 1, 1) := by decide +kernel
theorem dL_isRefused_358 : decode cL_isRefused 358 = .ok (.iload 6, 2) := by decide +kernel
theorem dL_isRefused_360 : decode cL_isRefused 360 = .ok (.lshl, 1) := by decide +kernel
theorem dL_isRefused_361 : decode cL_isRefused 361 = .ok (.invokestatic 160, 3) := by decide +kernel
theorem dL_isRefused_364 : decode cL_isRefused 364 = .ok (.bipush (-5), 2) := by decide +kernel
theorem dL_isRefused_366 : decode cL_isRefused 366 = .ok (.if_icmp .ne 81, 3) := by decide +kernel
theorem dL_isRefused_369 : decode cL_isRefused 369 = .ok (.aload_n 0, 1) := by decide +kernel
theorem dL_isRefused_370 : decode cL_isRefused 370 = .ok (.iload_n 1, 1) := by decide +kernel
theorem dL_isRefused_371 : decode cL_isRefused 371 = .ok (.iconst 2, 1) := by decide +kernel
theorem dL_isRefused_372 : decode cL_isRefused 372 = .ok (.irem, 1) := by decide +kernel
theorem dL_isRefused_373 : decode cL_isRefused 373 = .ok (.ifCond .ne 12, 3) := by decide +kernel
theorem dL_isRefused_376 : decode cL_isRefused 376 = .ok (.iconst (-1), 1) := by decide +kernel
theorem dL_isRefused_377 : decode cL_isRefused 377 = .ok (.iload_n 1, 1) := by decide +kernel
theorem dL_isRefused_378 : decode cL_isRefused 378 = .ok (.bipush 50, 2) := by decide +kernel
theorem dL_isRefused_380 : decode cL_isRefused 380 = .ok (.irem, 1) := by decide +kernel
theorem dL_isRefused_381 : decode cL_isRefused 381 = .ok (.isub, 1) := by decide +kernel
theorem dL_isRefused_382 : decode cL_isRefused 382 = .ok (.goto 10, 3) := by decide +kernel
theorem dL_isRefused_385 : decode cL_isRefused 385 = .ok (.iload 6, 2) := by decide +kernel
theorem dL_isRefused_387 : decode cL_isRefused 387 = .ok (.iload_n 1, 1) := by decide +kernel
theorem dL_isRefused_388 : decode cL_isRefused 388 = .ok (.bipush 50, 2) := by decide +kernel
theorem dL_isRefused_390 : decode cL_isRefused 390 = .ok (.irem, 1) := by decide +kernel
theorem dL_isRefused_391 : decode cL_isRefused 391 = .ok (.iadd, 1) := by decide +kernel
theorem dL_isRefused_392 : decode cL_isRefused 392 = .ok (.invokestatic 163, 3) := by decide +kernel
theorem dL_isRefused_395 : decode cL_isRefused 395 = .ok (.bipush (-5), 2) := by decide +kernel
theorem dL_isRefused_397 : decode cL_isRefused 397 = .ok (.if_icmp .ne 50, 3) := by decide +kernel
theorem dL_isRefused_400 : decode cL_isRefused 400 = .ok (.aload_n 0, 1) := by decide +kernel
theorem dL_isRefused_401 : decode cL_isRefused 401 = .ok (.iload_n 2, 1) := by decide +kernel
theorem dL_isRefused_402 : decode cL_isRefused 402 = .ok (.invokestatic 166, 3) := by decide +kernel
theorem dL_isRefused_405 : decode cL_isRefused 405 = .ok (.bipush (-6), 2) := by decide +kernel
theorem dL_isRefused_407 : decode cL_isRefused 407 = .ok (.if_icmp .ne 40, 3) := by decide +kernel
theorem dL_isRefused_410 : decode cL_isRefused 410 = .ok (.aload_n 0, 1) := by decide +kernel
theorem dL_isRefused_411 : decode cL_isRefused 411 = .ok (.iload_n 3, 1) := by decide +kernel
theorem dL_isRefused_412 : decode cL_isRefused 412 = .ok (.iconst 1, 1) := by decide +kernel
theorem dL_isRefused_413 : decode cL_isRefused 413 = .ok (.invokestatic 168, 3) := by decide +kernel
theorem dL_isRefused_416 : decode cL_isRefused 416 = .ok (.bipush (-6), 2) := by decide +kernel
theorem dL_isRefused_418 : decode cL_isRefused 418 = .ok (.if_icmp .ne 29, 3) := by decide +kernel
theorem dL_isRefused_421 : decode cL_isRefused 421 = .ok (.aload_n 0, 1) := by decide +kernel
theorem dL_isRefused_422 : decode cL_isRefused 422 = .ok (.iconst 0, 1) := by decide +kernel
theorem dL_isRefused_423 : decode cL_isRefused 423 = .ok (.iload_n 1, 1) := by decide +kernel
theorem dL_isRefused_424 : decode cL_isRefused 424 = .ok (.iconst 2, 1) := by decide +kernel
theorem dL_isRefused_425 : decode cL_isRefused 425 = .ok (.irem, 1) := by decide +kernel
theorem dL_isRefused_426 : decode cL_isRefused 426 = .ok (.ifCond .ne 7, 3) := by decide +kernel
theorem dL_isRefused_429 : decode cL_isRefused 429 = .ok (.iconst 0, 1) := by decide +kernel
theorem dL_isRefused_430 : decode cL_isRefused 430 = .ok (.goto 5, 3) := by decide +kernel
theorem dL_isRefused_433 : decode cL_isRefused 433 = .ok (.bipush 101, 2) := by decide +kernel
theorem dL_isRefused_435 : decode cL_isRefused 435 = .ok (.invokestatic 168, 3) := by decide +kernel
theorem dL_isRefused_438 : decode cL_isRefused 438 = .ok (.bipush (-6), 2) := by decide +kernel
theorem dL_isRefused_440 : decode cL_isRefused 440 = .ok (.if_icmp .ne 7, 3) := by decide +kernel
theorem dL_isRefused_443 : decode cL_isRefused 443 = .ok (.iconst 1, 1) := by decide +kernel
theorem dL_isRefused_444 : decode cL_isRefused 444 = .ok (.goto 4, 3) := by decide +kernel
theorem dL_isRefused_447 : decode cL_isRefused 447 = .ok (.iconst 0, 1) := by decide +kernel
theorem dL_isRefused_448 : decode cL_isRefused 448 = .ok (.istore 9, 2) := by decide +kernel
theorem dL_isRefused_450 : decode cL_isRefused 450 = .ok (.iconst 0, 1) := by decide +kernel
theorem dL_isRefused_451 : decode cL_isRefused 451 = .ok (.istore 10, 2) := by decide +kernel
theorem dL_isRefused_453 : decode cL_isRefused 453 = .ok (.iload 10, 2) := by decide +kernel
theorem dL_isRefused_455 : decode cL_isRefused 455 = .ok (.bipush 12, 2) := by decide +kernel
theorem dL_isRefused_457 : decode cL_isRefused 457 = .ok (.if_icmp .ge 90, 3) := by decide +kernel
theorem dL_isRefused_460 : decode cL_isRefused 460 = .ok (.iload 9, 2) := by decide +kernel
theorem dL_isRefused_462 : decode cL_isRefused 462 = .ok (.ifCond .eq 85, 3) := by decide +kernel
theorem dL_isRefused_465 : decode cL_isRefused 465 = .ok (.aload_n 0, 1) := by decide +kernel
theorem dL_isRefused_466 : decode cL_isRefused 466 = .ok (.iload_n 3, 1) := by decide +kernel
theorem dL_isRefused_467 : decode cL_isRefused 467 = .ok (.iconst 0, 1) := by decide +kernel
theorem dL_isRefused_468 : decode cL_isRefused 468 = .ok (.iload 10, 2) := by decide +kernel
theorem dL_isRefused_470 : decode cL_isRefused 470 = .ok (.invokestatic 110, 3) := by decide +kernel
theorem dL_isRefused_473 : decode cL_isRefused 473 = .ok (.ldc2_w 106, 3) := by decide +kernel
theorem dL_isRefused_476 : decode cL_isRefused 476 = .ok (.lcmp, 1) := by decide +kernel
theorem dL_isRefused_477 : decode cL_isRefused 477 = .ok (.ifCond .ne 61, 3) := by decide +kernel
theorem dL_isRefused_480 : decode cL_isRefused 480 = .ok (.aload_n 0, 1) := by decide +kernel
theorem dL_isRefused_481 : decode cL_isRefused 481 = .ok (.iconst 0, 1) := by decide +kernel
theorem dL_isRefused_482 : decode cL_isRefused 482 = .ok (.iload_n 2, 1) := by decide +kernel
theorem dL_isRefused_483 : decode cL_isRefused 483 = .ok (.iload 10, 2) := by decide +kernel
theorem dL_isRefused_485 : decode cL_isRefused 485 = .ok (.invokestatic 110, 3) := by decide +kernel
theorem dL_isRefused_488 : decode cL_isRefused 488 = .ok (.ldc2_w 106, 3) := by decide +kernel
theorem dL_isRefused_491 : decode cL_isRefused 491 = .ok (.lcmp, 1) := by decide +kernel
theorem dL_isRefused_492 : decode cL_isRefused 492 = .ok (.ifCond .ne 46, 3) := by decide +kernel
theorem dL_isRefused_495 : decode cL_isRefused 495 = .ok (.iload 10, 2) := by decide +kernel
theorem dL_isRefused_497 : decode cL_isRefused 497 = .ok (.iconst 2, 1) := by decide +kernel
theorem dL_isRefused_498 : decode cL_isRefused 498 = .ok (.if_icmp .gt 36, 3) := by decide +kernel
theorem dL_isRefused_501 : decode cL_isRefused 501 = .ok (.aload_n 0, 1) := by decide +kernel
theorem dL_isRefused_502 : decode cL_isRefused 502 = .ok (.iload_n 3, 1) := by decide +kernel
theorem dL_isRefused_503 : decode cL_isRefused 503 = .ok (.iconst 0, 1) := by decide +kernel
theorem dL_isRefused_504 : decode cL_isRefused 504 = .ok (.iconst (-1), 1) := by decide +kernel
theorem dL_isRefused_505 : decode cL_isRefused 505 = .ok (.iload 10, 2) := by decide +kernel
theorem dL_isRefused_507 : decode cL_isRefused 507 = .ok (.invokestatic 132, 3) := by decide +kernel
theorem dL_isRefused_510 : decode cL_isRefused 510 = .ok (.ldc2_w 78, 3) := by decide +kernel
theorem dL_isRefused_513 : decode cL_isRefused 513 = .ok (.lcmp, 1) := by decide +kernel
theorem dL_isRefused_514 : decode cL_isRefused 514 = .ok (.ifCond .ne 24, 3) := by decide +kernel
theorem dL_isRefused_517 : decode cL_isRefused 517 = .ok (.aload_n 0, 1) := by decide +kernel
theorem dL_isRefused_518 : decode cL_isRefused 518 = .ok (.iconst 5, 1) := by decide +kernel
theorem dL_isRefused_519 : decode cL_isRefused 519 = .ok (.iload_n 2, 1) := by decide +kernel
theorem dL_isRefused_520 : decode cL_isRefused 520 = .ok (.bipush 99, 2) := by decide +kernel
theorem dL_isRefused_522 : decode cL_isRefused 522 = .ok (.iload 10, 2) := by decide +kernel
theorem dL_isRefused_524 : decode cL_isRefused 524 = .ok (.invokestatic 132, 3) := by decide +kernel
theorem dL_isRefused_527 : decode cL_isRefused 527 = .ok (.ldc2_w 78, 3) := by decide +kernel
theorem dL_isRefused_530 : decode cL_isRefused 530 = .ok (.lcmp, 1) := by decide +kernel
theorem dL_isRefused_531 : decode cL_isRefused 531 = .ok (.ifCond .ne 7, 3) := by decide +kernel
theorem dL_isRefused_534 : decode cL_isRefused 534 = .ok (.iconst 1, 1) := by decide +kernel
theorem dL_isRefused_535 : decode cL_isRefused 535 = .ok (.goto 4, 3) := by decide +kernel
theorem dL_isRefused_538 : decode cL_isRefused 538 = .ok (.iconst 0, 1) := by decide +kernel
theorem dL_isRefused_539 : decode cL_isRefused 539 = .ok (.istore 9, 2) := by decide +kernel
theorem dL_isRefused_541 : decode cL_isRefused 541 = .ok (.iinc 10 1, 3) := by decide +kernel
theorem dL_isRefused_544 : decode cL_isRefused 544 = .ok (.goto (-91), 3) := by decide +kernel
theorem dL_isRefused_547 : decode cL_isRefused 547 = .ok (.iload 9, 2) := by decide +kernel
theorem dL_isRefused_549 : decode cL_isRefused 549 = .ok (.ifCond .eq 17, 3) := by decide +kernel
theorem dL_isRefused_552 : decode cL_isRefused 552 = .ok (.aload_n 0, 1) := by decide +kernel
theorem dL_isRefused_553 : decode cL_isRefused 553 = .ok (.invokestatic 146, 3) := by decide +kernel
theorem dL_isRefused_556 : decode cL_isRefused 556 = .ok (.lload 7, 2) := by decide +kernel
theorem dL_isRefused_558 : decode cL_isRefused 558 = .ok (.lcmp, 1) := by decide +kernel
theorem dL_isRefused_559 : decode cL_isRefused 559 = .ok (.ifCond .ne 7, 3) := by decide +kernel
theorem dL_isRefused_562 : decode cL_isRefused 562 = .ok (.iconst 1, 1) := by decide +kernel
theorem dL_isRefused_563 : decode cL_isRefused 563 = .ok (.goto 4, 3) := by decide +kernel
theorem dL_isRefused_566 : decode cL_isRefused 566 = .ok (.iconst 0, 1) := by decide +kernel
theorem dL_isRefused_567 : decode cL_isRefused 567 = .ok (.ireturn, 1) := by decide +kernel
theorem dL_isPosted_0 : decode cL_isPosted 0 = .ok (.aload_n 0, 1) := by decide +kernel
theorem dL_isPosted_1 : decode cL_isPosted 1 = .ok (.invokevirtual 116, 3) := by decide +kernel
theorem dL_isPosted_4 : decode cL_isPosted 4 = .ok (.istore 7, 2) := by decide +kernel
theorem dL_isPosted_6 : decode cL_isPosted 6 = .ok (.aload_n 0, 1) := by decide +kernel
theorem dL_isPosted_7 : decode cL_isPosted 7 = .ok (.iload 4, 2) := by decide +kernel
theorem dL_isPosted_9 : decode cL_isPosted 9 = .ok (.iload_n 3, 1) := by decide +kernel
theorem dL_isPosted_10 : decode cL_isPosted 10 = .ok (.invokevirtual 80, 3) := by decide +kernel
theorem dL_isPosted_13 : decode cL_isPosted 13 = .ok (.istore 8, 2) := by decide +kernel
theorem dL_isPosted_15 : decode cL_isPosted 15 = .ok (.aload_n 0, 1) := by decide +kernel
theorem dL_isPosted_16 : decode cL_isPosted 16 = .ok (.iload 4, 2) := by decide +kernel
theorem dL_isPosted_18 : decode cL_isPosted 18 = .ok (.sipush 364, 3) := by decide +kernel
theorem dL_isPosted_21 : decode cL_isPosted 21 = .ok (.invokevirtual 80, 3) := by decide +kernel
theorem dL_isPosted_24 : decode cL_isPosted 24 = .ok (.istore 9, 2) := by decide +kernel
theorem dL_isPosted_26 : decode cL_isPosted 26 = .ok (.aload_n 0, 1) := by decide +kernel
theorem dL_isPosted_27 : decode cL_isPosted 27 = .ok (.iload 4, 2) := by decide +kernel
theorem dL_isPosted_29 : decode cL_isPosted 29 = .ok (.iload_n 3, 1) := by decide +kernel
theorem dL_isPosted_30 : decode cL_isPosted 30 = .ok (.invokevirtual 83, 3) := by decide +kernel
theorem dL_isPosted_33 : decode cL_isPosted 33 = .ok (.istore 10, 2) := by decide +kernel
theorem dL_isPosted_35 : decode cL_isPosted 35 = .ok (.iload_n 3, 1) := by decide +kernel
theorem dL_isPosted_36 : decode cL_isPosted 36 = .ok (.ifCond .ne 7, 3) := by decide +kernel
theorem dL_isPosted_39 : decode cL_isPosted 39 = .ok (.lconst 0, 1) := by decide +kernel
theorem dL_isPosted_40 : decode cL_isPosted 40 = .ok (.goto 12, 3) := by decide +kernel
theorem dL_isPosted_43 : decode cL_isPosted 43 = .ok (.aload_n 0, 1) := by decide +kernel
theorem dL_isPosted_44 : decode cL_isPosted 44 = .ok (.iload 4, 2) := by decide +kernel
theorem dL_isPosted_46 : decode cL_isPosted 46 = .ok (.iload_n 3, 1) := by decide +kernel
theorem dL_isPosted_47 : decode cL_isPosted 47 = .ok (.iconst 1, 1) := by decide +kernel
theorem dL_isPosted_48 : decode cL_isPosted 48 = .ok (.isub, 1) := by decide +kernel
theorem dL_isPosted_49 : decode cL_isPosted 49 = .ok (.invokestatic 170, 3) := by decide +kernel
theorem dL_isPosted_52 : decode cL_isPosted 52 = .ok (.lstore 11, 2) := by decide +kernel
theorem dL_isPosted_54 : decode cL_isPosted 54 = .ok (.aload_n 0, 1) := by decide +kernel
theorem dL_isPosted_55 : decode cL_isPosted 55 = .ok (.iload 4, 2) := by decide +kernel
theorem dL_isPosted_57 : decode cL_isPosted 57 = .ok (.iconst 1, 1) := by decide +kernel
theorem dL_isPosted_58 : decode cL_isPosted 58 = .ok (.iadd, 1) := by decide +kernel
theorem dL_isPosted_59 : decode cL_isPosted 59 = .ok (.bipush 6, 2) := by decide +kernel
theorem dL_isPosted_61 : decode cL_isPosted 61 = .ok (.irem, 1) := by decide +kernel
theorem dL_isPosted_62 : decode cL_isPosted 62 = .ok (.sipush 364, 3) := by decide +kernel
theorem dL_isPosted_65 : decode cL_isPosted 65 = .ok (.invokestatic 128, 3) := by decide +kernel
theorem dL_isPosted_68 : decode cL_isPosted 68 = .ok (.lstore 13, 2) := by decide +kernel
theorem dL_isPosted_70 : decode cL_isPosted 70 = .ok (.iload_n 3, 1) := by decide +kernel
theorem dL_isPosted_71 : decode cL_isPosted 71 = .ok (.aload_n 1, 1) := by decide +kernel
theorem dL_isPosted_72 : decode cL_isPosted 72 = .ok (.iconst 0, 1) := by decide +kernel
theorem dL_isPosted_73 : decode cL_isPosted 73 = .ok (.iaload, 1) := by decide +kernel
theorem dL_isPosted_74 : decode cL_isPosted 74 = .ok (.if_icmp .le 40, 3) := by decide +kernel
theorem dL_isPosted_77 : decode cL_isPosted 77 = .ok (.iload 7, 2) := by decide +kernel
theorem dL_isPosted_79 : decode cL_isPosted 79 = .ok (.bipush 60, 2) := by decide +kernel
theorem dL_isPosted_81 : decode cL_isPosted 81 = .ok (.if_icmp .ge 33, 3) := by decide +kernel
theorem dL_isPosted_84 : decode cL_isPosted 84 = .ok (.iload_n 2, 1) := by decide +kernel
theorem dL_isPosted_85 : decode cL_isPosted 85 = .ok (.ifCond .eq 25, 3) := by decide +kernel
theorem dL_isPosted_88 : decode cL_isPosted 88 = .ok (.iload_n 2, 1) := by decide +kernel
theorem dL_isPosted_89 : decode cL_isPosted 89 = .ok (.iconst 1, 1) := by decide +kernel
theorem dL_isPosted_90 : decode cL_isPosted 90 = .ok (.if_icmp .ne 13, 3) := by decide +kernel
theorem dL_isPosted_93 : decode cL_isPosted 93 = .ok (.iload 5, 2) := by decide +kernel
theorem dL_isPosted_95 : decode cL_isPosted 95 = .ok (.iload 10, 2) := by decide +kernel
theorem dL_isPosted_97 : decode cL_isPosted 97 = .ok (.if_icmp .gt 17, 3) := by decide +kernel
theorem dL_isPosted_100 : decode cL_isPosted 100 = .ok (.goto 10, 3) := by decide +kernel
theorem dL_isPosted_103 : decode cL_isPosted 103 = .ok (.iload 5, 2) := by decide +kernel
theorem dL_isPosted_105 : decode cL_isPosted 105 = .ok (.iload 8, 2) := by decide +kernel
theorem dL_isPosted_107 : decode cL_isPosted 107 = .ok (.if_icmp .gt 7, 3) := by decide +kernel
theorem dL_isPosted_110 : decode cL_isPosted 110 = .ok (.iconst 1, 1) := by decide +kernel
theorem dL_isPosted_111 : decode cL_isPosted 111 = .ok (.goto 4, 3) := by decide +kernel
theorem dL_isPosted_114 : decode cL_isPosted 114 = .ok (.iconst 0, 1) := by decide +kernel
theorem dL_isPosted_115 : decode cL_isPosted 115 = .ok (.istore 15, 2) := by decide +kernel
theorem dL_isPosted_117 : decode cL_isPosted 117 = .ok (.iload 15, 2) := by decide +kernel
theorem dL_isPosted_119 : decode cL_isPosted 119 = .ok (.ifCond .eq 7, 3) := by decide +kernel
theorem dL_isPosted_122 : decode cL_isPosted 122 = .ok (.lconst 0, 1) := by decide +kernel
theorem dL_isPosted_123 : decode cL_isPosted 123 = .ok (.goto 7, 3) := by decide +kernel
theorem dL_isPosted_126 : decode cL_isPosted 126 = .ok (.aload_n 0, 1) := by decide +kernel
theorem dL_isPosted_127 : decode cL_isPosted 127 = .ok (.invokestatic 146, 3) := by decide +kernel
theorem dL_isPosted_130 : decode cL_isPosted 130 = .ok (.lstore 16, 2) := by decide +kernel
theorem dL_isPosted_132 : decode cL_isPosted 132 = .ok (.iload_n 2, 1) := by decide +kernel
theorem dL_isPosted_133 : decode cL_isPosted 133 = .ok (.ifCond .ne 17, 3) := by decide +kernel
theorem dL_isPosted_136 : decode cL_isPosted 136 = .ok (.aload_n 0, 1) := by decide +kernel
theorem dL_isPosted_137 : decode cL_isPosted 137 = .ok (.iload_n 3, 1) := by decide +kernel
theorem dL_isPosted_138 : decode cL_isPosted 138 = .ok (.iload 4, 2) := by decide +kernel
theorem dL_isPosted_140 : decode cL_isPosted 140 = .ok (.iload 5, 2) := by decide +kernel
theorem dL_isPosted_142 : decode cL_isPosted 142 = .ok (.iload 6, 2) := by decide +kernel
theorem dL_isPosted_144 : decode cL_isPosted 144 = .ok (.invokestatic 150, 3) := by decide +kernel
theorem dL_isPosted_147 : decode cL_isPosted 147 = .ok (.goto 31, 3) := by decide +kernel
theorem dL_isPosted_150 : decode cL_isPosted 150 = .ok (.iload_n 2, 1) := by decide +kernel
theorem dL_isPosted_151 : decode cL_isPosted 151 = .ok (.iconst 1, 1) := by decide +kernel
theorem dL_isPosted_152 : decode cL_isPosted 152 = .ok (.if_icmp .ne 15, 3) := by decide +kernel
theorem dL_isPosted_155 : decode cL_isPosted 155 = .ok (.aload_n 0, 1) := by decide +kernel
theorem dL_isPosted_156 : decode cL_isPosted 156 = .ok (.iload_n 3, 1) := by decide +kernel
theorem dL_isPosted_157 : decode cL_isPosted 157 = .ok (.iload 4, 2) := by decide +kernel
theorem dL_isPosted_159 : decode cL_isPosted 159 = .ok (.iload 5, 2) := by decide +kernel
theorem dL_isPosted_161 : decode cL_isPosted 161 = .ok (.invokestatic 153, 3) := by decide +kernel
theorem dL_isPosted_164 : decode cL_isPosted 164 = .ok (.goto 14, 3) := by decide +kernel
theorem dL_isPosted_167 : decode cL_isPosted 167 = .ok (.aload_n 0, 1) := by decide +kernel
theorem dL_isPosted_168 : decode cL_isPosted 168 = .ok (.iload_n 3, 1) := by decide +kernel
theorem dL_isPosted_169 : decode cL_isPosted 169 = .ok (.iload 4, 2) := by decide +kernel
theorem dL_isPosted_171 : decode cL_isPosted 171 = .ok (.iload 5, 2) := by decide +kernel
theorem dL_isPosted_173 : decode cL_isPosted 173 = .ok (.iload 6, 2) := by decide +kernel
theorem dL_isPosted_175 : decode cL_isPosted 175 = .ok (.invokestatic 156, 3) := by decide +kernel
theorem dL_isPosted_178 : decode cL_isPosted 178 = .ok (.istore 18, 2) := by decide +kernel
theorem dL_isPosted_180 : decode cL_isPosted 180 = .ok (.iload 15, 2) := by decide +kernel
theorem dL_isPosted_182 : decode cL_isPosted 182 = .ok (.ifCond .ne 26, 3) := by decide +kernel
theorem dL_isPosted_185 : decode cL_isPosted 185 = .ok (.iload 18, 2) := by decide +kernel
theorem dL_isPosted_187 : decode cL_isPosted 187 = .ok (.bipush (-7), 2) := by decide +kernel
theorem dL_isPosted_189 : decode cL_isPosted 189 = .ok (.if_icmp .ne 17, 3) := by decide +kernel
theorem dL_isPosted_192 : decode cL_isPosted 192 = .ok (.aload_n 0, 1) := by decide +kernel
theorem dL_isPosted_193 : decode cL_isPosted 193 = .ok (.invokestatic 146, 3) := by decide +kernel
theorem dL_isPosted_196 : decode cL_isPosted 196 = .ok (.lload 16, 2) := by decide +kernel
theorem dL_isPosted_198 : decode cL_isPosted 198 = .ok (.lcmp, 1) := by decide +kernel
theorem dL_isPosted_199 : decode cL_isPosted 199 = .ok (.ifCond .ne 7, 3) := by decide +kernel
theorem dL_isPosted_202 : decode cL_isPosted 202 = .ok (.iconst 1, 1) := by decide +kernel
theorem dL_isPosted_203 : decode cL_isPosted 203 = .ok (.goto 4, 3) := by decide +kernel
theorem dL_isPosted_206 : decode cL_isPosted 206 = .ok (.iconst 0, 1) := by decide +kernel
theorem dL_isPosted_207 : decode cL_isPosted 207 = .ok (.ireturn, 1) := by decide +kernel
theorem dL_isPosted_208 : decode cL_isPosted 208 = .ok (.iload_n 2, 1) := by decide +kernel
theorem dL_isPosted_209 : decode cL_isPosted 209 = .ok (.ifCond .ne 8, 3) := by decide +kernel
theorem dL_isPosted_212 : decode cL_isPosted 212 = .ok (.iload 5, 2) := by decide +kernel
theorem dL_isPosted_214 : decode cL_isPosted 214 = .ok (.goto 15, 3) := by decide +kernel
theorem dL_isPosted_217 : decode cL_isPosted 217 = .ok (.iload_n 2, 1) := by decide +kernel
theorem dL_isPosted_218 : decode cL_isPosted 218 = .ok (.iconst 1, 1) := by decide +kernel
theorem dL_isPosted_219 : decode cL_isPosted 219 = .ok (.if_icmp .ne 9, 3) := by decide +kernel
theorem dL_isPosted_222 : decode cL_isPosted 222 = .ok (.iload 5, 2) := by decide +kernel
theorem dL_isPosted_224 : decode cL_isPosted 224 = .ok (.ineg, 1) := by decide +kernel
theorem dL_isPosted_225 : decode cL_isPosted 225 = .ok (.goto 4, 3) := by decide +kernel
theorem dL_isPosted_228 : decode cL_isPosted 228 = .ok (.iconst 0, 1) := by decide +kernel
theorem dL_isPosted_229 : decode cL_isPosted 229 = .ok (.istore 19, 2) := by decide +kernel
theorem dL_isPosted_231 : decode cL_isPosted 231 = .ok (.iload 18, 2) := by decide +kernel
theorem dL_isPosted_233 : decode cL_isPosted 233 = .ok (.iload 7, 2) := by decide +kernel
theorem dL_isPosted_235 : decode cL_isPosted 235 = .ok (.if_icmp .ne 118, 3) := by decide +kernel
theorem dL_isPosted_238 : decode cL_isPosted 238 = .ok (.aload_n 0, 1) := by decide +kernel
theorem dL_isPosted_239 : decode cL_isPosted 239 = .ok (.invokevirtual 116, 3) := by decide +kernel
theorem dL_isPosted_242 : decode cL_isPosted 242 = .ok (.iload 7, 2) := by decide +kernel
theorem dL_isPosted_244 : decode cL_isPosted 244 = .ok (.iconst 1, 1) := by decide +kernel
theorem dL_isPosted_245 : decode cL_isPosted 245 = .ok (.iadd, 1) := by decide +kernel
theorem dL_isPosted_246 : decode cL_isPosted 246 = .ok (.if_icmp .ne 107, 3) := by decide +kernel
theorem dL_isPosted_249 : decode cL_isPosted 249 = .ok (.aload_n 0, 1) := by decide +kernel
theorem dL_isPosted_250 : decode cL_isPosted 250 = .ok (.iload 7, 2) := by decide +kernel
theorem dL_isPosted_252 : decode cL_isPosted 252 = .ok (.invokevirtual 44, 3) := by decide +kernel
theorem dL_isPosted_255 : decode cL_isPosted 255 = .ok (.iload_n 2, 1) := by decide +kernel
theorem dL_isPosted_256 : decode cL_isPosted 256 = .ok (.if_icmp .ne 97, 3) := by decide +kernel
theorem dL_isPosted_259 : decode cL_isPosted 259 = .ok (.aload_n 0, 1) := by decide +kernel
theorem dL_isPosted_260 : decode cL_isPosted 260 = .ok (.iload 7, 2) := by decide +kernel
theorem dL_isPosted_262 : decode cL_isPosted 262 = .ok (.invokevirtual 47, 3) := by decide +kernel
theorem dL_isPosted_265 : decode cL_isPosted 265 = .ok (.iload_n 3, 1) := by decide +kernel
theorem dL_isPosted_266 : decode cL_isPosted 266 = .ok (.if_icmp .ne 87, 3) := by decide +kernel
theorem dL_isPosted_269 : decode cL_isPosted 269 = .ok (.aload_n 0, 1) := by decide +kernel
theorem dL_isPosted_270 : decode cL_isPosted 270 = .ok (.iload 7, 2) := by decide +kernel
theorem dL_isPosted_272 : decode cL_isPosted 272 = .ok (.invokevirtual 53, 3) := by decide +kernel
theorem dL_isPosted_275 : decode cL_isPosted 275 = .ok (.ifCond .ne 78, 3) := by decide +kernel
theorem dL_isPosted_278 : decode cL_isPosted 278 = .ok (.aload_n 0, 1) := by decide +kernel
theorem dL_isPosted_279 : decode cL_isPosted 279 = .ok (.iload 4, 2) := by decide +kernel
theorem dL_isPosted_281 : decode cL_isPosted 281 = .ok (.iload_n 3, 1) := by decide +kernel
theorem dL_isPosted_282 : decode cL_isPosted 282 = .ok (.invokevirtual 80, 3) := by decide +kernel
theorem dL_isPosted_285 : decode cL_isPosted 285 = .ok (.iload 8, 2) := by decide +kernel
theorem dL_isPosted_287 : decode cL_isPosted 287 = .ok (.iload 19, 2) := by decide +kernel
theorem dL_isPosted_289 : decode cL_isPosted 289 = .ok (.iadd, 1) := by decide +kernel
theorem dL_isPosted_290 : decode cL_isPosted 290 = .ok (.if_icmp .ne 63, 3) := by decide +kernel
theorem dL_isPosted_293 : decode cL_isPosted 293 = .ok (.aload_n 0, 1) := by decide +kernel
theorem dL_isPosted_294 : decode cL_isPosted 294 = .ok (.iload 4, 2) := by decide +kernel
theorem dL_isPosted_296 : decode cL_isPosted 296 = .ok (.sipush 364, 3) := by decide +kernel
theorem dL_isPosted_299 : decode cL_isPosted 299 = .ok (.invokevirtual 80, 3) := by decide +kernel
theorem dL_isPosted_302 : decode cL_isPosted 302 = .ok (.iload 9, 2) := by decide +kernel
theorem dL_isPosted_304 : decode cL_isPosted 304 = .ok (.iload 19, 2) := by decide +kernel
theorem dL_isPosted_306 : decode cL_isPosted 306 = .ok (.iadd, 1) := by decide +kernel
theorem dL_isPosted_307 : decode cL_isPosted 307 = .ok (.if_icmp .ne 46, 3) := by decide +kernel
theorem dL_isPosted_310 : decode cL_isPosted 310 = .ok (.aload_n 0, 1) := by decide +kernel
theorem dL_isPosted_311 : decode cL_isPosted 311 = .ok (.iload 4, 2) := by decide +kernel
theorem dL_isPosted_313 : decode cL_isPosted 313 = .ok (.iconst 1, 1) := by decide +kernel
theorem dL_isPosted_314 : decode cL_isPosted 314 = .ok (.iadd, 1) := by decide +kernel
theorem dL_isPosted_315 : decode cL_isPosted 315 = .ok (.bipush 6, 2) := by decide +kernel
theorem dL_isPosted_317 : decode cL_isPosted 317 = .ok (.irem, 1) := by decide +kernel
theorem dL_isPosted_318 : decode cL_isPosted 318 = .ok (.sipush 364, 3) := by decide +kernel
theorem dL_isPosted_321 : decode cL_isPosted 321 = .ok (.invokestatic 128, 3) := by decide +kernel
theorem dL_isPosted_324 : decode cL_isPosted 324 = .ok (.lload 13, 2) := by decide +kernel
theorem dL_isPosted_326 : decode cL_isPosted 326 = .ok (.lcmp, 1) := by decide +kernel
theorem dL_isPosted_327 : decode cL_isPosted 327 = .ok (.ifCond .ne 26, 3) := by decide +kernel
theorem dL_isPosted_330 : decode cL_isPosted 330 = .ok (.iload_n 3, 1) := by decide +kernel
theorem dL_isPosted_331 : decode cL_isPosted 331 = .ok (.ifCond .eq 18, 3) := by decide +kernel
theorem dL_isPosted_334 : decode cL_isPosted 334 = .ok (.aload_n 0, 1) := by decide +kernel
theorem dL_isPosted_335 : decode cL_isPosted 335 = .ok (.iload 4, 2) := by decide +kernel
theorem dL_isPosted_337 : decode cL_isPosted 337 = .ok (.iload_n 3, 1) := by decide +kernel
theorem dL_isPosted_338 : decode cL_isPosted 338 = .ok (.iconst 1, 1) := by decide +kernel
theorem dL_isPosted_339 : decode cL_isPosted 339 = .ok (.isub, 1) := by decide +kernel
theorem dL_isPosted_340 : decode cL_isPosted 340 = .ok (.invokestatic 170, 3) := by decide +kernel
theorem dL_isPosted_343 : decode cL_isPosted 343 = .ok (.lload 11, 2) := by decide +kernel
theorem dL_isPosted_345 : decode cL_isPosted 345 = .ok (.lcmp, 1) := by decide +kernel
theorem dL_isPosted_346 : decode cL_isPosted 346 = .ok (.ifCond .ne 7, 3) := by decide +kernel
theorem dL_isPosted_349 : decode cL_isPosted 349 = .ok (.iconst 1, 1) := by decide +kernel
theorem dL_isPosted_350 : decode cL_isPosted 350 = .ok (.goto 4, 3) := by decide +kernel
theorem dL_isPosted_353 : decode cL_isPosted 353 = .ok (.iconst 0, 1) := by decide +kernel
theorem dL_isPosted_354 : decode cL_isPosted 354 = .ok (.ireturn, 1) := by decide +kernel
theorem dL_receivedOfAll_0 : decode cL_receivedOfAll 0 = .ok (.lconst 0, 1) := by decide +kernel
theorem dL_receivedOfAll_1 : decode cL_receivedOfAll 1 = .ok (.lstore_n 1, 1) := by decide +kernel
theorem dL_receivedOfAll_2 : decode cL_receivedOfAll 2 = .ok (.iconst 0, 1) := by decide +kernel
theorem dL_receivedOfAll_3 : decode cL_receivedOfAll 3 = .ok (.istore_n 3, 1) := by decide +kernel
theorem dL_receivedOfAll_4 : decode cL_receivedOfAll 4 = .ok (.iload_n 3, 1) := by decide +kernel
theorem dL_receivedOfAll_5 : decode cL_receivedOfAll 5 = .ok (.bipush 6, 2) := by decide +kernel
theorem dL_receivedOfAll_7 : decode cL_receivedOfAll 7 = .ok (.if_icmp .ge 20, 3) := by decide +kernel
theorem dL_receivedOfAll_10 : decode cL_receivedOfAll 10 = .ok (.lload_n 1, 1) := by decide +kernel
theorem dL_receivedOfAll_11 : decode cL_receivedOfAll 11 = .ok (.aload_n 0, 1) := by decide +kernel
theorem dL_receivedOfAll_12 : decode cL_receivedOfAll 12 = .ok (.iload_n 3, 1) := by decide +kernel
theorem dL_receivedOfAll_13 : decode cL_receivedOfAll 13 = .ok (.sipush 364, 3) := by decide +kernel
theorem dL_receivedOfAll_16 : decode cL_receivedOfAll 16 = .ok (.invokevirtual 86, 3) := by decide +kernel
theorem dL_receivedOfAll_19 : decode cL_receivedOfAll 19 = .ok (.ladd, 1) := by decide +kernel
theorem dL_receivedOfAll_20 : decode cL_receivedOfAll 20 = .ok (.lstore_n 1, 1) := by decide +kernel
theorem dL_receivedOfAll_21 : decode cL_receivedOfAll 21 = .ok (.iinc 3 1, 3) := by decide +kernel
theorem dL_receivedOfAll_24 : decode cL_receivedOfAll 24 = .ok (.goto (-20), 3) := by decide +kernel
theorem dL_receivedOfAll_27 : decode cL_receivedOfAll 27 = .ok (.lload_n 1, 1) := by decide +kernel
theorem dL_receivedOfAll_28 : decode cL_receivedOfAll 28 = .ok (.lreturn, 1) := by decide +kernel
theorem dL_isLanded_0 : decode cL_isLanded 0 = .ok (.aload_n 0, 1) := by decide +kernel
theorem dL_isLanded_1 : decode cL_isLanded 1 = .ok (.invokevirtual 116, 3) := by decide +kernel
theorem dL_isLanded_4 : decode cL_isLanded 4 = .ok (.istore 8, 2) := by decide +kernel
theorem dL_isLanded_6 : decode cL_isLanded 6 = .ok (.iload_n 3, 1) := by decide +kernel
theorem dL_isLanded_7 : decode cL_isLanded 7 = .ok (.aload_n 1, 1) := by decide +kernel
theorem dL_isLanded_8 : decode cL_isLanded 8 = .ok (.iconst 0, 1) := by decide +kernel
theorem dL_isLanded_9 : decode cL_isLanded 9 = .ok (.iaload, 1) := by decide +kernel
theorem dL_isLanded_10 : decode cL_isLanded 10 = .ok (.if_icmp .le 14, 3) := by decide +kernel
theorem dL_isLanded_13 : decode cL_isLanded 13 = .ok (.iload 8, 2) := by decide +kernel
theorem dL_isLanded_15 : decode cL_isLanded 15 = .ok (.bipush 60, 2) := by decide +kernel
theorem dL_isLanded_17 : decode cL_isLanded 17 = .ok (.if_icmp .ge 7, 3) := by decide +kernel
theorem dL_isLanded_20 : decode cL_isLanded 20 = .ok (.iconst 1, 1) := by decide +kernel
theorem dL_isLanded_21 : decode cL_isLanded 21 = .ok (.goto 4, 3) := by decide +kernel
theorem dL_isLanded_24 : decode cL_isLanded 24 = .ok (.iconst 0, 1) := by decide +kernel
theorem dL_isLanded_25 : decode cL_isLanded 25 = .ok (.istore 9, 2) := by decide +kernel
theorem dL_isLanded_27 : decode cL_isLanded 27 = .ok (.iconst 0, 1) := by decide +kernel
theorem dL_isLanded_28 : decode cL_isLanded 28 = .ok (.istore 10, 2) := by decide +kernel
theorem dL_isLanded_30 : decode cL_isLanded 30 = .ok (.iload 10, 2) := by decide +kernel
theorem dL_isLanded_32 : decode cL_isLanded 32 = .ok (.iload 8, 2) := by decide +kernel
theorem dL_isLanded_34 : decode cL_isLanded 34 = .ok (.if_icmp .ge 61, 3) := by decide +kernel
theorem dL_isLanded_37 : decode cL_isLanded 37 = .ok (.iload 9, 2) := by decide +kernel
theorem dL_isLanded_39 : decode cL_isLanded 39 = .ok (.ifCond .eq 47, 3) := by decide +kernel
theorem dL_isLanded_42 : decode cL_isLanded 42 = .ok (.lload 6, 2) := by decide +kernel
theorem dL_isLanded_44 : decode cL_isLanded 44 = .ok (.iload 10, 2) := by decide +kernel
theorem dL_isLanded_46 : decode cL_isLanded 46 = .ok (.lshr, 1) := by decide +kernel
theorem dL_isLanded_47 : decode cL_isLanded 47 = .ok (.lconst 1, 1) := by decide +kernel
theorem dL_isLanded_48 : decode cL_isLanded 48 = .ok (.land, 1) := by decide +kernel
theorem dL_isLanded_49 : decode cL_isLanded 49 = .ok (.lconst 0, 1) := by decide +kernel
theorem dL_isLanded_50 : decode cL_isLanded 50 = .ok (.lcmp, 1) := by decide +kernel
theorem dL_isLanded_51 : decode cL_isLanded 51 = .ok (.ifCond .eq 31, 3) := by decide +kernel
theorem dL_isLanded_54 : decode cL_isLanded 54 = .ok (.aload_n 0, 1) := by decide +kernel
theorem dL_isLanded_55 : decode cL_isLanded 55 = .ok (.iload 10, 2) := by decide +kernel
theorem dL_isLanded_57 : decode cL_isLanded 57 = .ok (.invokevirtual 53, 3) := by decide +kernel
theorem dL_isLanded_60 : decode cL_isLanded 60 = .ok (.ifCond .ne 26, 3) := by decide +kernel
theorem dL_isLanded_63 : decode cL_isLanded 63 = .ok (.aload_n 0, 1) := by decide +kernel
theorem dL_isLanded_64 : decode cL_isLanded 64 = .ok (.iload 10, 2) := by decide +kernel
theorem dL_isLanded_66 : decode cL_isLanded 66 = .ok (.invokevirtual 44, 3) := by decide +kernel
theorem dL_isLanded_69 : decode cL_isLanded 69 = .ok (.ifCond .ne 17, 3) := by decide +kernel
theorem dL_isLanded_72 : decode cL_isLanded 72 = .ok (.aload_n 0, 1) := by decide +kernel
theorem dL_isLanded_73 : decode cL_isLanded 73 = .ok (.iload 10, 2) := by decide +kernel
theorem dL_isLanded_75 : decode cL_isLanded 75 = .ok (.invokevirtual 47, 3) := by decide +kernel
theorem dL_isLanded_78 : decode cL_isLanded 78 = .ok (.iload_n 3, 1) := by decide +kernel
theorem dL_isLanded_79 : decode cL_isLanded 79 = .ok (.if_icmp .gt 7, 3) := by decide +kernel
theorem dL_isLanded_82 : decode cL_isLanded 82 = .ok (.iconst 1, 1) := by decide +kernel
theorem dL_isLanded_83 : decode cL_isLanded 83 = .ok (.goto 4, 3) := by decide +kernel
theorem dL_isLanded_86 : decode cL_isLanded 86 = .ok (.iconst 0, 1) := by decide +kernel
theorem dL_isLanded_87 : decode cL_isLanded 87 = .ok (.istore 9, 2) := by decide +kernel
theorem dL_isLanded_89 : decode cL_isLanded 89 = .ok (.iinc 10 1, 3) := by decide +kernel
theorem dL_isLanded_92 : decode cL_isLanded 92 = .ok (.goto (-62), 3) := by decide +kernel
theorem dL_isLanded_95 : decode cL_isLanded 95 = .ok (.aload_n 0, 1) := by decide +kernel
theorem dL_isLanded_96 : decode cL_isLanded 96 = .ok (.invokestatic 173, 3) := by decide +kernel
theorem dL_isLanded_99 : decode cL_isLanded 99 = .ok (.lstore 10, 2) := by decide +kernel
theorem dL_isLanded_101 : decode cL_isLanded 101 = .ok (.aload_n 0, 1) := by decide +kernel
end
section
theorem dL_isLanded_102 : decode cL_isLanded 102 = .ok (.iload_n 3, 1) := by decide +kernel
theorem dL_isLanded_103 : decode cL_isLanded 103 = .ok (.iload 4, 2) := by decide +kernel
theorem dL_isLanded_105 : decode cL_isLanded 105 = .ok (.iload 5, 2) := by decide +kernel
theorem dL_isLanded_107 : decode cL_isLanded 107 = .ok (.lload 6, 2) := by decide +kernel
theorem dL_isLanded_109 : decode cL_isLanded 109 = .ok (.invokestatic 160, 3) := by decide +kernel
theorem dL_isLanded_112 : decode cL_isLanded 112 = .ok (.istore 12, 2) := by decide +kernel
theorem dL_isLanded_114 : decode cL_isLanded 114 = .ok (.lload 6, 2) := by decide +kernel
theorem dL_isLanded_116 : decode cL_isLanded 116 = .ok (.lconst 0, 1) := by decide +kernel
theorem dL_isLanded_117 : decode cL_isLanded 117 = .ok (.lcmp, 1) := by decide +kernel
theorem dL_isLanded_118 : decode cL_isLanded 118 = .ok (.ifCond .ne 16, 3) := by decide +kernel
theorem dL_isLanded_121 : decode cL_isLanded 121 = .ok (.iload 12, 2) := by decide +kernel
theorem dL_isLanded_123 : decode cL_isLanded 123 = .ok (.bipush (-6), 2) := by decide +kernel
theorem dL_isLanded_125 : decode cL_isLanded 125 = .ok (.if_icmp .ne 7, 3) := by decide +kernel
theorem dL_isLanded_128 : decode cL_isLanded 128 = .ok (.iconst 1, 1) := by decide +kernel
theorem dL_isLanded_129 : decode cL_isLanded 129 = .ok (.goto 4, 3) := by decide +kernel
theorem dL_isLanded_132 : decode cL_isLanded 132 = .ok (.iconst 0, 1) := by decide +kernel
theorem dL_isLanded_133 : decode cL_isLanded 133 = .ok (.ireturn, 1) := by decide +kernel
theorem dL_isLanded_134 : decode cL_isLanded 134 = .ok (.iload 9, 2) := by decide +kernel
theorem dL_isLanded_136 : decode cL_isLanded 136 = .ok (.ifCond .ne 25, 3) := by decide +kernel
theorem dL_isLanded_139 : decode cL_isLanded 139 = .ok (.iload 12, 2) := by decide +kernel
theorem dL_isLanded_141 : decode cL_isLanded 141 = .ok (.bipush (-7), 2) := by decide +kernel
theorem dL_isLanded_143 : decode cL_isLanded 143 = .ok (.if_icmp .ne 16, 3) := by decide +kernel
theorem dL_isLanded_146 : decode cL_isLanded 146 = .ok (.aload_n 0, 1) := by decide +kernel
theorem dL_isLanded_147 : decode cL_isLanded 147 = .ok (.invokevirtual 116, 3) := by decide +kernel
theorem dL_isLanded_150 : decode cL_isLanded 150 = .ok (.iload 8, 2) := by decide +kernel
theorem dL_isLanded_152 : decode cL_isLanded 152 = .ok (.if_icmp .ne 7, 3) := by decide +kernel
theorem dL_isLanded_155 : decode cL_isLanded 155 = .ok (.iconst 1, 1) := by decide +kernel
theorem dL_isLanded_156 : decode cL_isLanded 156 = .ok (.goto 4, 3) := by decide +kernel
theorem dL_isLanded_159 : decode cL_isLanded 159 = .ok (.iconst 0, 1) := by decide +kernel
theorem dL_isLanded_160 : decode cL_isLanded 160 = .ok (.ireturn, 1) := by decide +kernel
theorem dL_isLanded_161 : decode cL_isLanded 161 = .ok (.iload 12, 2) := by decide +kernel
theorem dL_isLanded_163 : decode cL_isLanded 163 = .ok (.bipush (-7), 2) := by decide +kernel
theorem dL_isLanded_165 : decode cL_isLanded 165 = .ok (.if_icmp .ne 24, 3) := by decide +kernel
theorem dL_isLanded_168 : decode cL_isLanded 168 = .ok (.iload 5, 2) := by decide +kernel
theorem dL_isLanded_170 : decode cL_isLanded 170 = .ok (.iconst 1, 1) := by decide +kernel
theorem dL_isLanded_171 : decode cL_isLanded 171 = .ok (.if_icmp .ne 16, 3) := by decide +kernel
theorem dL_isLanded_174 : decode cL_isLanded 174 = .ok (.aload_n 0, 1) := by decide +kernel
theorem dL_isLanded_175 : decode cL_isLanded 175 = .ok (.invokevirtual 116, 3) := by decide +kernel
theorem dL_isLanded_178 : decode cL_isLanded 178 = .ok (.iload 8, 2) := by decide +kernel
theorem dL_isLanded_180 : decode cL_isLanded 180 = .ok (.if_icmp .ne 7, 3) := by decide +kernel
theorem dL_isLanded_183 : decode cL_isLanded 183 = .ok (.iconst 1, 1) := by decide +kernel
theorem dL_isLanded_184 : decode cL_isLanded 184 = .ok (.goto 4, 3) := by decide +kernel
theorem dL_isLanded_187 : decode cL_isLanded 187 = .ok (.iconst 0, 1) := by decide +kernel
theorem dL_isLanded_188 : decode cL_isLanded 188 = .ok (.ireturn, 1) := by decide +kernel
theorem dL_isLanded_189 : decode cL_isLanded 189 = .ok (.aload_n 2, 1) := by decide +kernel
theorem dL_isLanded_190 : decode cL_isLanded 190 = .ok (.iload 8, 2) := by decide +kernel
theorem dL_isLanded_192 : decode cL_isLanded 192 = .ok (.iload 4, 2) := by decide +kernel
theorem dL_isLanded_194 : decode cL_isLanded 194 = .ok (.iastore, 1) := by decide +kernel
theorem dL_isLanded_195 : decode cL_isLanded 195 = .ok (.iload 12, 2) := by decide +kernel
theorem dL_isLanded_197 : decode cL_isLanded 197 = .ok (.iload 8, 2) := by decide +kernel
theorem dL_isLanded_199 : decode cL_isLanded 199 = .ok (.if_icmp .ne 41, 3) := by decide +kernel
theorem dL_isLanded_202 : decode cL_isLanded 202 = .ok (.aload_n 0, 1) := by decide +kernel
theorem dL_isLanded_203 : decode cL_isLanded 203 = .ok (.iload 8, 2) := by decide +kernel
theorem dL_isLanded_205 : decode cL_isLanded 205 = .ok (.invokevirtual 44, 3) := by decide +kernel
theorem dL_isLanded_208 : decode cL_isLanded 208 = .ok (.iconst 3, 1) := by decide +kernel
theorem dL_isLanded_209 : decode cL_isLanded 209 = .ok (.if_icmp .ne 31, 3) := by decide +kernel
theorem dL_isLanded_212 : decode cL_isLanded 212 = .ok (.aload_n 0, 1) := by decide +kernel
theorem dL_isLanded_213 : decode cL_isLanded 213 = .ok (.iload 8, 2) := by decide +kernel
theorem dL_isLanded_215 : decode cL_isLanded 215 = .ok (.invokevirtual 47, 3) := by decide +kernel
theorem dL_isLanded_218 : decode cL_isLanded 218 = .ok (.iload_n 3, 1) := by decide +kernel
theorem dL_isLanded_219 : decode cL_isLanded 219 = .ok (.if_icmp .ne 21, 3) := by decide +kernel
theorem dL_isLanded_222 : decode cL_isLanded 222 = .ok (.aload_n 0, 1) := by decide +kernel
theorem dL_isLanded_223 : decode cL_isLanded 223 = .ok (.invokestatic 173, 3) := by decide +kernel
theorem dL_isLanded_226 : decode cL_isLanded 226 = .ok (.lload 10, 2) := by decide +kernel
theorem dL_isLanded_228 : decode cL_isLanded 228 = .ok (.iload 4, 2) := by decide +kernel
theorem dL_isLanded_230 : decode cL_isLanded 230 = .ok (.i2l, 1) := by decide +kernel
theorem dL_isLanded_231 : decode cL_isLanded 231 = .ok (.ladd, 1) := by decide +kernel
theorem dL_isLanded_232 : decode cL_isLanded 232 = .ok (.lcmp, 1) := by decide +kernel
theorem dL_isLanded_233 : decode cL_isLanded 233 = .ok (.ifCond .ne 7, 3) := by decide +kernel
theorem dL_isLanded_236 : decode cL_isLanded 236 = .ok (.iconst 1, 1) := by decide +kernel
theorem dL_isLanded_237 : decode cL_isLanded 237 = .ok (.goto 4, 3) := by decide +kernel
theorem dL_isLanded_240 : decode cL_isLanded 240 = .ok (.iconst 0, 1) := by decide +kernel
theorem dL_isLanded_241 : decode cL_isLanded 241 = .ok (.ireturn, 1) := by decide +kernel
theorem dL_isCancelled_0 : decode cL_isCancelled 0 = .ok (.aload_n 0, 1) := by decide +kernel
theorem dL_isCancelled_1 : decode cL_isCancelled 1 = .ok (.iload_n 2, 1) := by decide +kernel
theorem dL_isCancelled_2 : decode cL_isCancelled 2 = .ok (.invokevirtual 53, 3) := by decide +kernel
theorem dL_isCancelled_5 : decode cL_isCancelled 5 = .ok (.istore_n 3, 1) := by decide +kernel
theorem dL_isCancelled_6 : decode cL_isCancelled 6 = .ok (.aload_n 0, 1) := by decide +kernel
theorem dL_isCancelled_7 : decode cL_isCancelled 7 = .ok (.iload_n 2, 1) := by decide +kernel
theorem dL_isCancelled_8 : decode cL_isCancelled 8 = .ok (.invokevirtual 47, 3) := by decide +kernel
theorem dL_isCancelled_11 : decode cL_isCancelled 11 = .ok (.aload_n 1, 1) := by decide +kernel
theorem dL_isCancelled_12 : decode cL_isCancelled 12 = .ok (.iconst 0, 1) := by decide +kernel
theorem dL_isCancelled_13 : decode cL_isCancelled 13 = .ok (.iaload, 1) := by decide +kernel
theorem dL_isCancelled_14 : decode cL_isCancelled 14 = .ok (.if_icmp .gt 7, 3) := by decide +kernel
theorem dL_isCancelled_17 : decode cL_isCancelled 17 = .ok (.iconst 1, 1) := by decide +kernel
theorem dL_isCancelled_18 : decode cL_isCancelled 18 = .ok (.goto 4, 3) := by decide +kernel
theorem dL_isCancelled_21 : decode cL_isCancelled 21 = .ok (.iconst 0, 1) := by decide +kernel
theorem dL_isCancelled_22 : decode cL_isCancelled 22 = .ok (.istore 4, 2) := by decide +kernel
theorem dL_isCancelled_24 : decode cL_isCancelled 24 = .ok (.aload_n 0, 1) := by decide +kernel
theorem dL_isCancelled_25 : decode cL_isCancelled 25 = .ok (.iload_n 2, 1) := by decide +kernel
theorem dL_isCancelled_26 : decode cL_isCancelled 26 = .ok (.invokevirtual 44, 3) := by decide +kernel
theorem dL_isCancelled_29 : decode cL_isCancelled 29 = .ok (.ifCond .ne 7, 3) := by decide +kernel
theorem dL_isCancelled_32 : decode cL_isCancelled 32 = .ok (.iconst 1, 1) := by decide +kernel
theorem dL_isCancelled_33 : decode cL_isCancelled 33 = .ok (.goto 4, 3) := by decide +kernel
theorem dL_isCancelled_36 : decode cL_isCancelled 36 = .ok (.iconst 0, 1) := by decide +kernel
theorem dL_isCancelled_37 : decode cL_isCancelled 37 = .ok (.istore 5, 2) := by decide +kernel
theorem dL_isCancelled_39 : decode cL_isCancelled 39 = .ok (.iconst 0, 1) := by decide +kernel
theorem dL_isCancelled_40 : decode cL_isCancelled 40 = .ok (.istore 6, 2) := by decide +kernel
theorem dL_isCancelled_42 : decode cL_isCancelled 42 = .ok (.iconst 0, 1) := by decide +kernel
theorem dL_isCancelled_43 : decode cL_isCancelled 43 = .ok (.istore 7, 2) := by decide +kernel
theorem dL_isCancelled_45 : decode cL_isCancelled 45 = .ok (.iload 7, 2) := by decide +kernel
theorem dL_isCancelled_47 : decode cL_isCancelled 47 = .ok (.aload_n 0, 1) := by decide +kernel
theorem dL_isCancelled_48 : decode cL_isCancelled 48 = .ok (.invokevirtual 116, 3) := by decide +kernel
theorem dL_isCancelled_51 : decode cL_isCancelled 51 = .ok (.if_icmp .ge 28, 3) := by decide +kernel
theorem dL_isCancelled_54 : decode cL_isCancelled 54 = .ok (.iload 6, 2) := by decide +kernel
theorem dL_isCancelled_56 : decode cL_isCancelled 56 = .ok (.aload_n 0, 1) := by decide +kernel
theorem dL_isCancelled_57 : decode cL_isCancelled 57 = .ok (.iload 7, 2) := by decide +kernel
theorem dL_isCancelled_59 : decode cL_isCancelled 59 = .ok (.invokevirtual 53, 3) := by decide +kernel
theorem dL_isCancelled_62 : decode cL_isCancelled 62 = .ok (.ifCond .eq 7, 3) := by decide +kernel
theorem dL_isCancelled_65 : decode cL_isCancelled 65 = .ok (.iconst 0, 1) := by decide +kernel
theorem dL_isCancelled_66 : decode cL_isCancelled 66 = .ok (.goto 4, 3) := by decide +kernel
theorem dL_isCancelled_69 : decode cL_isCancelled 69 = .ok (.iconst 1, 1) := by decide +kernel
theorem dL_isCancelled_70 : decode cL_isCancelled 70 = .ok (.iadd, 1) := by decide +kernel
theorem dL_isCancelled_71 : decode cL_isCancelled 71 = .ok (.istore 6, 2) := by decide +kernel
theorem dL_isCancelled_73 : decode cL_isCancelled 73 = .ok (.iinc 7 1, 3) := by decide +kernel
theorem dL_isCancelled_76 : decode cL_isCancelled 76 = .ok (.goto (-31), 3) := by decide +kernel
theorem dL_isCancelled_79 : decode cL_isCancelled 79 = .ok (.aload_n 0, 1) := by decide +kernel
theorem dL_isCancelled_80 : decode cL_isCancelled 80 = .ok (.invokestatic 146, 3) := by decide +kernel
theorem dL_isCancelled_83 : decode cL_isCancelled 83 = .ok (.lstore 7, 2) := by decide +kernel
theorem dL_isCancelled_85 : decode cL_isCancelled 85 = .ok (.aload_n 0, 1) := by decide +kernel
theorem dL_isCancelled_86 : decode cL_isCancelled 86 = .ok (.iload_n 2, 1) := by decide +kernel
theorem dL_isCancelled_87 : decode cL_isCancelled 87 = .ok (.invokestatic 163, 3) := by decide +kernel
theorem dL_isCancelled_90 : decode cL_isCancelled 90 = .ok (.istore 9, 2) := by decide +kernel
theorem dL_isCancelled_92 : decode cL_isCancelled 92 = .ok (.iload 9, 2) := by decide +kernel
theorem dL_isCancelled_94 : decode cL_isCancelled 94 = .ok (.ifCond .ge 40, 3) := by decide +kernel
theorem dL_isCancelled_97 : decode cL_isCancelled 97 = .ok (.iload 9, 2) := by decide +kernel
theorem dL_isCancelled_99 : decode cL_isCancelled 99 = .ok (.bipush (-7), 2) := by decide +kernel
theorem dL_isCancelled_101 : decode cL_isCancelled 101 = .ok (.if_icmp .ne 31, 3) := by decide +kernel
theorem dL_isCancelled_104 : decode cL_isCancelled 104 = .ok (.aload_n 0, 1) := by decide +kernel
theorem dL_isCancelled_105 : decode cL_isCancelled 105 = .ok (.invokestatic 146, 3) := by decide +kernel
theorem dL_isCancelled_108 : decode cL_isCancelled 108 = .ok (.lload 7, 2) := by decide +kernel
theorem dL_isCancelled_110 : decode cL_isCancelled 110 = .ok (.lcmp, 1) := by decide +kernel
theorem dL_isCancelled_111 : decode cL_isCancelled 111 = .ok (.ifCond .ne 21, 3) := by decide +kernel
theorem dL_isCancelled_114 : decode cL_isCancelled 114 = .ok (.iload_n 3, 1) := by decide +kernel
theorem dL_isCancelled_115 : decode cL_isCancelled 115 = .ok (.ifCond .ne 13, 3) := by decide +kernel
theorem dL_isCancelled_118 : decode cL_isCancelled 118 = .ok (.iload 4, 2) := by decide +kernel
theorem dL_isCancelled_120 : decode cL_isCancelled 120 = .ok (.ifCond .ne 8, 3) := by decide +kernel
theorem dL_isCancelled_123 : decode cL_isCancelled 123 = .ok (.iload 5, 2) := by decide +kernel
theorem dL_isCancelled_125 : decode cL_isCancelled 125 = .ok (.ifCond .eq 7, 3) := by decide +kernel
theorem dL_isCancelled_128 : decode cL_isCancelled 128 = .ok (.iconst 1, 1) := by decide +kernel
theorem dL_isCancelled_129 : decode cL_isCancelled 129 = .ok (.goto 4, 3) := by decide +kernel
theorem dL_isCancelled_132 : decode cL_isCancelled 132 = .ok (.iconst 0, 1) := by decide +kernel
theorem dL_isCancelled_133 : decode cL_isCancelled 133 = .ok (.ireturn, 1) := by decide +kernel
theorem dL_isCancelled_134 : decode cL_isCancelled 134 = .ok (.iload_n 3, 1) := by decide +kernel
theorem dL_isCancelled_135 : decode cL_isCancelled 135 = .ok (.ifCond .ne 48, 3) := by decide +kernel
theorem dL_isCancelled_138 : decode cL_isCancelled 138 = .ok (.iload 4, 2) := by decide +kernel
theorem dL_isCancelled_140 : decode cL_isCancelled 140 = .ok (.ifCond .ne 43, 3) := by decide +kernel
theorem dL_isCancelled_143 : decode cL_isCancelled 143 = .ok (.iload 9, 2) := by decide +kernel
theorem dL_isCancelled_145 : decode cL_isCancelled 145 = .ok (.iload 6, 2) := by decide +kernel
theorem dL_isCancelled_147 : decode cL_isCancelled 147 = .ok (.iconst 1, 1) := by decide +kernel
theorem dL_isCancelled_148 : decode cL_isCancelled 148 = .ok (.isub, 1) := by decide +kernel
theorem dL_isCancelled_149 : decode cL_isCancelled 149 = .ok (.if_icmp .ne 34, 3) := by decide +kernel
theorem dL_isCancelled_152 : decode cL_isCancelled 152 = .ok (.aload_n 0, 1) := by decide +kernel
theorem dL_isCancelled_153 : decode cL_isCancelled 153 = .ok (.iload_n 2, 1) := by decide +kernel
theorem dL_isCancelled_154 : decode cL_isCancelled 154 = .ok (.invokevirtual 53, 3) := by decide +kernel
theorem dL_isCancelled_157 : decode cL_isCancelled 157 = .ok (.ifCond .eq 26, 3) := by decide +kernel
theorem dL_isCancelled_160 : decode cL_isCancelled 160 = .ok (.aload_n 0, 1) := by decide +kernel
theorem dL_isCancelled_161 : decode cL_isCancelled 161 = .ok (.iload_n 2, 1) := by decide +kernel
theorem dL_isCancelled_162 : decode cL_isCancelled 162 = .ok (.invokevirtual 50, 3) := by decide +kernel
theorem dL_isCancelled_165 : decode cL_isCancelled 165 = .ok (.iconst (-1), 1) := by decide +kernel
theorem dL_isCancelled_166 : decode cL_isCancelled 166 = .ok (.if_icmp .ne 17, 3) := by decide +kernel
theorem dL_isCancelled_169 : decode cL_isCancelled 169 = .ok (.aload_n 0, 1) := by decide +kernel
theorem dL_isCancelled_170 : decode cL_isCancelled 170 = .ok (.iload_n 2, 1) := by decide +kernel
theorem dL_isCancelled_171 : decode cL_isCancelled 171 = .ok (.invokestatic 163, 3) := by decide +kernel
theorem dL_isCancelled_174 : decode cL_isCancelled 174 = .ok (.bipush (-7), 2) := by decide +kernel
theorem dL_isCancelled_176 : decode cL_isCancelled 176 = .ok (.if_icmp .ne 7, 3) := by decide +kernel
theorem dL_isCancelled_179 : decode cL_isCancelled 179 = .ok (.iconst 1, 1) := by decide +kernel
theorem dL_isCancelled_180 : decode cL_isCancelled 180 = .ok (.goto 4, 3) := by decide +kernel
theorem dL_isCancelled_183 : decode cL_isCancelled 183 = .ok (.iconst 0, 1) := by decide +kernel
theorem dL_isCancelled_184 : decode cL_isCancelled 184 = .ok (.ireturn, 1) := by decide +kernel
theorem dL_law_0 : decode cL_law 0 = .ok (.new 11, 3) := by decide +kernel
theorem dL_law_3 : decode cL_law 3 = .ok (.dup, 1) := by decide +kernel
theorem dL_law_4 : decode cL_law 4 = .ok (.invokespecial 176, 3) := by decide +kernel
theorem dL_law_7 : decode cL_law 7 = .ok (.astore_n 1, 1) := by decide +kernel
theorem dL_law_8 : decode cL_law 8 = .ok (.iconst 1, 1) := by decide +kernel
theorem dL_law_9 : decode cL_law 9 = .ok (.newarray .int, 2) := by decide +kernel
theorem dL_law_11 : decode cL_law 11 = .ok (.astore_n 2, 1) := by decide +kernel
theorem dL_law_12 : decode cL_law 12 = .ok (.bipush 60, 2) := by decide +kernel
theorem dL_law_14 : decode cL_law 14 = .ok (.newarray .int, 2) := by decide +kernel
theorem dL_law_16 : decode cL_law 16 = .ok (.astore_n 3, 1) := by decide +kernel
theorem dL_law_17 : decode cL_law 17 = .ok (.bipush 6, 2) := by decide +kernel
theorem dL_law_19 : decode cL_law 19 = .ok (.newarray .int, 2) := by decide +kernel
theorem dL_law_21 : decode cL_law 21 = .ok (.astore 4, 2) := by decide +kernel
theorem dL_law_23 : decode cL_law 23 = .ok (.aload_n 2, 1) := by decide +kernel
theorem dL_law_24 : decode cL_law 24 = .ok (.iconst 0, 1) := by decide +kernel
theorem dL_law_25 : decode cL_law 25 = .ok (.iconst (-1), 1) := by decide +kernel
theorem dL_law_26 : decode cL_law 26 = .ok (.iastore, 1) := by decide +kernel
theorem dL_law_27 : decode cL_law 27 = .ok (.iconst 0, 1) := by decide +kernel
theorem dL_law_28 : decode cL_law 28 = .ok (.istore 5, 2) := by decide +kernel
theorem dL_law_30 : decode cL_law 30 = .ok (.iload 5, 2) := by decide +kernel
theorem dL_law_32 : decode cL_law 32 = .ok (.bipush 6, 2) := by decide +kernel
theorem dL_law_34 : decode cL_law 34 = .ok (.if_icmp .ge 15, 3) := by decide +kernel
theorem dL_law_37 : decode cL_law 37 = .ok (.aload 4, 2) := by decide +kernel
theorem dL_law_39 : decode cL_law 39 = .ok (.iload 5, 2) := by decide +kernel
theorem dL_law_41 : decode cL_law 41 = .ok (.iconst 1, 1) := by decide +kernel
theorem dL_law_42 : decode cL_law 42 = .ok (.iastore, 1) := by decide +kernel
theorem dL_law_43 : decode cL_law 43 = .ok (.iinc 5 1, 3) := by decide +kernel
theorem dL_law_46 : decode cL_law 46 = .ok (.goto (-16), 3) := by decide +kernel
theorem dL_law_49 : decode cL_law 49 = .ok (.aload_n 1, 1) := by decide +kernel
theorem dL_law_50 : decode cL_law 50 = .ok (.invokevirtual 116, 3) := by decide +kernel
theorem dL_law_53 : decode cL_law 53 = .ok (.ifCond .ne 32, 3) := by decide +kernel
theorem dL_law_56 : decode cL_law 56 = .ok (.aload_n 1, 1) := by decide +kernel
theorem dL_law_57 : decode cL_law 57 = .ok (.iconst 0, 1) := by decide +kernel
theorem dL_law_58 : decode cL_law 58 = .ok (.iconst 0, 1) := by decide +kernel
theorem dL_law_59 : decode cL_law 59 = .ok (.invokestatic 177, 3) := by decide +kernel
theorem dL_law_62 : decode cL_law 62 = .ok (.ifCond .eq 23, 3) := by decide +kernel
theorem dL_law_65 : decode cL_law 65 = .ok (.aload_n 1, 1) := by decide +kernel
theorem dL_law_66 : decode cL_law 66 = .ok (.iconst 0, 1) := by decide +kernel
theorem dL_law_67 : decode cL_law 67 = .ok (.invokestatic 181, 3) := by decide +kernel
theorem dL_law_70 : decode cL_law 70 = .ok (.ifCond .eq 15, 3) := by decide +kernel
theorem dL_law_73 : decode cL_law 73 = .ok (.aload_n 1, 1) := by decide +kernel
theorem dL_law_74 : decode cL_law 74 = .ok (.iconst 1, 1) := by decide +kernel
theorem dL_law_75 : decode cL_law 75 = .ok (.invokestatic 181, 3) := by decide +kernel
theorem dL_law_78 : decode cL_law 78 = .ok (.ifCond .eq 7, 3) := by decide +kernel
theorem dL_law_81 : decode cL_law 81 = .ok (.iconst 1, 1) := by decide +kernel
theorem dL_law_82 : decode cL_law 82 = .ok (.goto 4, 3) := by decide +kernel
theorem dL_law_85 : decode cL_law 85 = .ok (.iconst 0, 1) := by decide +kernel
theorem dL_law_86 : decode cL_law 86 = .ok (.istore 5, 2) := by decide +kernel
theorem dL_law_88 : decode cL_law 88 = .ok (.iconst 0, 1) := by decide +kernel
theorem dL_law_89 : decode cL_law 89 = .ok (.istore 6, 2) := by decide +kernel
theorem dL_law_91 : decode cL_law 91 = .ok (.iload 6, 2) := by decide +kernel
theorem dL_law_93 : decode cL_law 93 = .ok (.bipush 70, 2) := by decide +kernel
theorem dL_law_95 : decode cL_law 95 = .ok (.if_icmp .ge 786, 3) := by decide +kernel
theorem dL_law_98 : decode cL_law 98 = .ok (.iload 5, 2) := by decide +kernel
theorem dL_law_100 : decode cL_law 100 = .ok (.ifCond .eq 781, 3) := by decide +kernel
theorem dL_law_103 : decode cL_law 103 = .ok (.aload_n 0, 1) := by decide +kernel
theorem dL_law_104 : decode cL_law 104 = .ok (.iload 6, 2) := by decide +kernel
theorem dL_law_106 : decode cL_law 106 = .ok (.invokestatic 185, 3) := by decide +kernel
theorem dL_law_109 : decode cL_law 109 = .ok (.istore 7, 2) := by decide +kernel
theorem dL_law_111 : decode cL_law 111 = .ok (.iload 7, 2) := by decide +kernel
theorem dL_law_113 : decode cL_law 113 = .ok (.bipush 32, 2) := by decide +kernel
theorem dL_law_115 : decode cL_law 115 = .ok (.idiv, 1) := by decide +kernel
theorem dL_law_116 : decode cL_law 116 = .ok (.istore 8, 2) := by decide +kernel
theorem dL_law_118 : decode cL_law 118 = .ok (.iload 7, 2) := by decide +kernel
theorem dL_law_120 : decode cL_law 120 = .ok (.bipush 32, 2) := by decide +kernel
theorem dL_law_122 : decode cL_law 122 = .ok (.irem, 1) := by decide +kernel
theorem dL_law_123 : decode cL_law 123 = .ok (.istore 9, 2) := by decide +kernel
theorem dL_law_125 : decode cL_law 125 = .ok (.iload 8, 2) := by decide +kernel
theorem dL_law_127 : decode cL_law 127 = .ok (.iconst 5, 1) := by decide +kernel
theorem dL_law_128 : decode cL_law 128 = .ok (.irem, 1) := by decide +kernel
theorem dL_law_129 : decode cL_law 129 = .ok (.iconst 3, 1) := by decide +kernel
theorem dL_law_130 : decode cL_law 130 = .ok (.if_icmp .ge 7, 3) := by decide +kernel
theorem dL_law_133 : decode cL_law 133 = .ok (.iconst 1, 1) := by decide +kernel
theorem dL_law_134 : decode cL_law 134 = .ok (.goto 8, 3) := by decide +kernel
theorem dL_law_137 : decode cL_law 137 = .ok (.iload 8, 2) := by decide +kernel
theorem dL_law_139 : decode cL_law 139 = .ok (.bipush 6, 2) := by decide +kernel
theorem dL_law_141 : decode cL_law 141 = .ok (.irem, 1) := by decide +kernel
theorem dL_law_142 : decode cL_law 142 = .ok (.istore 10, 2) := by decide +kernel
theorem dL_law_144 : decode cL_law 144 = .ok (.iload 8, 2) := by decide +kernel
theorem dL_law_146 : decode cL_law 146 = .ok (.bipush 30, 2) := by decide +kernel
theorem dL_law_148 : decode cL_law 148 = .ok (.idiv, 1) := by decide +kernel
theorem dL_law_149 : decode cL_law 149 = .ok (.iload 6, 2) := by decide +kernel
theorem dL_law_151 : decode cL_law 151 = .ok (.iconst 4, 1) := by decide +kernel
theorem dL_law_152 : decode cL_law 152 = .ok (.irem, 1) := by decide +kernel
theorem dL_law_153 : decode cL_law 153 = .ok (.ifCond .ne 9, 3) := by decide +kernel
theorem dL_law_156 : decode cL_law 156 = .ok (.sipush 365, 3) := by decide +kernel
theorem dL_law_159 : decode cL_law 159 = .ok (.goto 5, 3) := by decide +kernel
theorem dL_law_162 : decode cL_law 162 = .ok (.bipush 60, 2) := by decide +kernel
theorem dL_law_164 : decode cL_law 164 = .ok (.irem, 1) := by decide +kernel
theorem dL_law_165 : decode cL_law 165 = .ok (.istore 11, 2) := by decide +kernel
theorem dL_law_167 : decode cL_law 167 = .ok (.iconst 1, 1) := by decide +kernel
theorem dL_law_168 : decode cL_law 168 = .ok (.iload 8, 2) := by decide +kernel
theorem dL_law_170 : decode cL_law 170 = .ok (.sipush 11000, 3) := by decide +kernel
theorem dL_law_173 : decode cL_law 173 = .ok (.idiv, 1) := by decide +kernel
theorem dL_law_174 : decode cL_law 174 = .ok (.iload 8, 2) := by decide +kernel
theorem dL_law_176 : decode cL_law 176 = .ok (.iconst 4, 1) := by decide +kernel
theorem dL_law_177 : decode cL_law 177 = .ok (.irem, 1) := by decide +kernel
theorem dL_law_178 : decode cL_law 178 = .ok (.ifCond .ne 9, 3) := by decide +kernel
theorem dL_law_181 : decode cL_law 181 = .ok (.sipush 1000, 3) := by decide +kernel
theorem dL_law_184 : decode cL_law 184 = .ok (.goto 5, 3) := by decide +kernel
theorem dL_law_187 : decode cL_law 187 = .ok (.bipush 25, 2) := by decide +kernel
theorem dL_law_189 : decode cL_law 189 = .ok (.irem, 1) := by decide +kernel
theorem dL_law_190 : decode cL_law 190 = .ok (.iadd, 1) := by decide +kernel
theorem dL_law_191 : decode cL_law 191 = .ok (.istore 12, 2) := by decide +kernel
theorem dL_law_193 : decode cL_law 193 = .ok (.iload 8, 2) := by decide +kernel
theorem dL_law_195 : decode cL_law 195 = .ok (.sipush 700, 3) := by decide +kernel
theorem dL_law_198 : decode cL_law 198 = .ok (.idiv, 1) := by decide +kernel
theorem dL_law_199 : decode cL_law 199 = .ok (.iload 8, 2) := by decide +kernel
theorem dL_law_201 : decode cL_law 201 = .ok (.iconst 3, 1) := by decide +kernel
theorem dL_law_202 : decode cL_law 202 = .ok (.irem, 1) := by decide +kernel
theorem dL_law_203 : decode cL_law 203 = .ok (.ifCond .ne 8, 3) := by decide +kernel
theorem dL_law_206 : decode cL_law 206 = .ok (.ldc 145, 2) := by decide +kernel
theorem dL_law_208 : decode cL_law 208 = .ok (.goto 6, 3) := by decide +kernel
theorem dL_law_211 : decode cL_law 211 = .ok (.sipush 1200, 3) := by decide +kernel
theorem dL_law_214 : decode cL_law 214 = .ok (.irem, 1) := by decide +kernel
theorem dL_law_215 : decode cL_law 215 = .ok (.istore 13, 2) := by decide +kernel
theorem dL_law_217 : decode cL_law 217 = .ok (.iload 9, 2) := by decide +kernel
theorem dL_law_219 : decode cL_law 219 = .ok (.bipush 11, 2) := by decide +kernel
theorem dL_law_221 : decode cL_law 221 = .ok (.if_icmp .ge 22, 3) := by decide +kernel
theorem dL_law_224 : decode cL_law 224 = .ok (.aload_n 1, 1) := by decide +kernel
theorem dL_law_225 : decode cL_law 225 = .ok (.aload_n 2, 1) := by decide +kernel
theorem dL_law_226 : decode cL_law 226 = .ok (.iconst 0, 1) := by decide +kernel
theorem dL_law_227 : decode cL_law 227 = .ok (.iload 11, 2) := by decide +kernel
theorem dL_law_229 : decode cL_law 229 = .ok (.iload 10, 2) := by decide +kernel
theorem dL_law_231 : decode cL_law 231 = .ok (.iload 12, 2) := by decide +kernel
theorem dL_law_233 : decode cL_law 233 = .ok (.iload 13, 2) := by decide +kernel
theorem dL_law_235 : decode cL_law 235 = .ok (.invokestatic 189, 3) := by decide +kernel
theorem dL_law_238 : decode cL_law 238 = .ok (.istore 5, 2) := by decide +kernel
theorem dL_law_240 : decode cL_law 240 = .ok (.goto 544, 3) := by decide +kernel
theorem dL_law_243 : decode cL_law 243 = .ok (.iload 9, 2) := by decide +kernel
theorem dL_law_245 : decode cL_law 245 = .ok (.bipush 17, 2) := by decide +kernel
theorem dL_law_247 : decode cL_law 247 = .ok (.if_icmp .ge 70, 3) := by decide +kernel
theorem dL_law_250 : decode cL_law 250 = .ok (.aload_n 1, 1) := by decide +kernel
theorem dL_law_251 : decode cL_law 251 = .ok (.iload 10, 2) := by decide +kernel
theorem dL_law_253 : decode cL_law 253 = .ok (.iload 11, 2) := by decide +kernel
theorem dL_law_255 : decode cL_law 255 = .ok (.invokevirtual 83, 3) := by decide +kernel
theorem dL_law_258 : decode cL_law 258 = .ok (.istore 14, 2) := by decide +kernel
theorem dL_law_260 : decode cL_law 260 = .ok (.aload_n 1, 1) := by decide +kernel
theorem dL_law_261 : decode cL_law 261 = .ok (.aload_n 2, 1) := by decide +kernel
theorem dL_law_262 : decode cL_law 262 = .ok (.iconst 1, 1) := by decide +kernel
theorem dL_law_263 : decode cL_law 263 = .ok (.iload 11, 2) := by decide +kernel
theorem dL_law_265 : decode cL_law 265 = .ok (.iload 10, 2) := by decide +kernel
theorem dL_law_267 : decode cL_law 267 = .ok (.iload 9, 2) := by decide +kernel
theorem dL_law_269 : decode cL_law 269 = .ok (.bipush 13, 2) := by decide +kernel
theorem dL_law_271 : decode cL_law 271 = .ok (.if_icmp .ge 13, 3) := by decide +kernel
theorem dL_law_274 : decode cL_law 274 = .ok (.iload 14, 2) := by decide +kernel
theorem dL_law_276 : decode cL_law 276 = .ok (.ifCond .le 8, 3) := by decide +kernel
theorem dL_law_279 : decode cL_law 279 = .ok (.iload 14, 2) := by decide +kernel
theorem dL_law_281 : decode cL_law 281 = .ok (.goto 27, 3) := by decide +kernel
theorem dL_law_284 : decode cL_law 284 = .ok (.iload 9, 2) := by decide +kernel
theorem dL_law_286 : decode cL_law 286 = .ok (.bipush 15, 2) := by decide +kernel
theorem dL_law_288 : decode cL_law 288 = .ok (.if_icmp .ge 18, 3) := by decide +kernel
theorem dL_law_291 : decode cL_law 291 = .ok (.iload 14, 2) := by decide +kernel
theorem dL_law_293 : decode cL_law 293 = .ok (.sipush 1000, 3) := by decide +kernel
theorem dL_law_296 : decode cL_law 296 = .ok (.if_icmp .ge 10, 3) := by decide +kernel
theorem dL_law_299 : decode cL_law 299 = .ok (.iload 14, 2) := by decide +kernel
theorem dL_law_301 : decode cL_law 301 = .ok (.iconst 1, 1) := by decide +kernel
theorem dL_law_302 : decode cL_law 302 = .ok (.iadd, 1) := by decide +kernel
theorem dL_law_303 : decode cL_law 303 = .ok (.goto 5, 3) := by decide +kernel
theorem dL_law_306 : decode cL_law 306 = .ok (.iload 12, 2) := by decide +kernel
theorem dL_law_308 : decode cL_law 308 = .ok (.iconst 0, 1) := by decide +kernel
theorem dL_law_309 : decode cL_law 309 = .ok (.invokestatic 189, 3) := by decide +kernel
theorem dL_law_312 : decode cL_law 312 = .ok (.istore 5, 2) := by decide +kernel
theorem dL_law_314 : decode cL_law 314 = .ok (.goto 470, 3) := by decide +kernel
theorem dL_law_317 : decode cL_law 317 = .ok (.iload 9, 2) := by decide +kernel
theorem dL_law_319 : decode cL_law 319 = .ok (.bipush 21, 2) := by decide +kernel
theorem dL_law_321 : decode cL_law 321 = .ok (.if_icmp .ge 57, 3) := by decide +kernel
theorem dL_law_324 : decode cL_law 324 = .ok (.aload_n 1, 1) := by decide +kernel
theorem dL_law_325 : decode cL_law 325 = .ok (.iload 10, 2) := by decide +kernel
theorem dL_law_327 : decode cL_law 327 = .ok (.iload 11, 2) := by decide +kernel
theorem dL_law_329 : decode cL_law 329 = .ok (.invokevirtual 80, 3) := by decide +kernel
theorem dL_law_332 : decode cL_law 332 = .ok (.istore 14, 2) := by decide +kernel
theorem dL_law_334 : decode cL_law 334 = .ok (.aload_n 1, 1) := by decide +kernel
theorem dL_law_335 : decode cL_law 335 = .ok (.aload_n 2, 1) := by decide +kernel
theorem dL_law_336 : decode cL_law 336 = .ok (.iconst 2, 1) := by decide +kernel
theorem dL_law_337 : decode cL_law 337 = .ok (.iload 11, 2) := by decide +kernel
theorem dL_law_339 : decode cL_law 339 = .ok (.iload 10, 2) := by decide +kernel
theorem dL_law_341 : decode cL_law 341 = .ok (.iload 9, 2) := by decide +kernel
theorem dL_law_343 : decode cL_law 343 = .ok (.bipush 19, 2) := by decide +kernel
theorem dL_law_345 : decode cL_law 345 = .ok (.if_icmp .ge 21, 3) := by decide +kernel
theorem dL_law_348 : decode cL_law 348 = .ok (.iload 14, 2) := by decide +kernel
theorem dL_law_350 : decode cL_law 350 = .ok (.ifCond .le 16, 3) := by decide +kernel
theorem dL_law_353 : decode cL_law 353 = .ok (.iload 14, 2) := by decide +kernel
theorem dL_law_355 : decode cL_law 355 = .ok (.sipush 1001, 3) := by decide +kernel
theorem dL_law_358 : decode cL_law 358 = .ok (.if_icmp .ge 8, 3) := by decide +kernel
theorem dL_law_361 : decode cL_law 361 = .ok (.iload 14, 2) := by decide +kernel
theorem dL_law_363 : decode cL_law 363 = .ok (.goto 5, 3) := by decide +kernel
theorem dL_law_366 : decode cL_law 366 = .ok (.iload 12, 2) := by decide +kernel
theorem dL_law_368 : decode cL_law 368 = .ok (.iload 13, 2) := by decide +kernel
theorem dL_law_370 : decode cL_law 370 = .ok (.invokestatic 189, 3) := by decide +kernel
theorem dL_law_373 : decode cL_law 373 = .ok (.istore 5, 2) := by decide +kernel
theorem dL_law_375 : decode cL_law 375 = .ok (.goto 409, 3) := by decide +kernel
theorem dL_law_378 : decode cL_law 378 = .ok (.iload 9, 2) := by decide +kernel
theorem dL_law_380 : decode cL_law 380 = .ok (.bipush 26, 2) := by decide +kernel
theorem dL_law_382 : decode cL_law 382 = .ok (.if_icmp .ge 145, 3) := by decide +kernel
theorem dL_law_385 : decode cL_law 385 = .ok (.lconst 0, 1) := by decide +kernel
theorem dL_law_386 : decode cL_law 386 = .ok (.lstore 14, 2) := by decide +kernel
theorem dL_law_388 : decode cL_law 388 = .ok (.iconst 0, 1) := by decide +kernel
theorem dL_law_389 : decode cL_law 389 = .ok (.istore 16, 2) := by decide +kernel
theorem dL_law_391 : decode cL_law 391 = .ok (.iload 16, 2) := by decide +kernel
theorem dL_law_393 : decode cL_law 393 = .ok (.aload_n 1, 1) := by decide +kernel
theorem dL_law_394 : decode cL_law 394 = .ok (.invokevirtual 116, 3) := by decide +kernel
theorem dL_law_397 : decode cL_law 397 = .ok (.if_icmp .ge 86, 3) := by decide +kernel
theorem dL_law_400 : decode cL_law 400 = .ok (.aload_n 1, 1) := by decide +kernel
theorem dL_law_401 : decode cL_law 401 = .ok (.iload 16, 2) := by decide +kernel
theorem dL_law_403 : decode cL_law 403 = .ok (.invokevirtual 53, 3) := by decide +kernel
theorem dL_law_406 : decode cL_law 406 = .ok (.ifCond .ne 27, 3) := by decide +kernel
theorem dL_law_409 : decode cL_law 409 = .ok (.aload_n 1, 1) := by decide +kernel
theorem dL_law_410 : decode cL_law 410 = .ok (.iload 16, 2) := by decide +kernel
theorem dL_law_412 : decode cL_law 412 = .ok (.invokevirtual 44, 3) := by decide +kernel
theorem dL_law_415 : decode cL_law 415 = .ok (.ifCond .ne 18, 3) := by decide +kernel
theorem dL_law_418 : decode cL_law 418 = .ok (.aload_n 1, 1) := by decide +kernel
theorem dL_law_419 : decode cL_law 419 = .ok (.iload 16, 2) := by decide +kernel
theorem dL_law_421 : decode cL_law 421 = .ok (.invokevirtual 47, 3) := by decide +kernel
theorem dL_law_424 : decode cL_law 424 = .ok (.iload 11, 2) := by decide +kernel
theorem dL_law_426 : decode cL_law 426 = .ok (.if_icmp .gt 7, 3) := by decide +kernel
theorem dL_law_429 : decode cL_law 429 = .ok (.iconst 1, 1) := by decide +kernel
theorem dL_law_430 : decode cL_law 430 = .ok (.goto 4, 3) := by decide +kernel
theorem dL_law_433 : decode cL_law 433 = .ok (.iconst 0, 1) := by decide +kernel
theorem dL_law_434 : decode cL_law 434 = .ok (.istore 17, 2) := by decide +kernel
theorem dL_law_436 : decode cL_law 436 = .ok (.lload 14, 2) := by decide +kernel
theorem dL_law_438 : decode cL_law 438 = .ok (.iload 17, 2) := by decide +kernel
theorem dL_law_440 : decode cL_law 440 = .ok (.ifCond .ne 11, 3) := by decide +kernel
theorem dL_law_443 : decode cL_law 443 = .ok (.iload 8, 2) := by decide +kernel
theorem dL_law_445 : decode cL_law 445 = .ok (.bipush 13, 2) := by decide +kernel
theorem dL_law_447 : decode cL_law 447 = .ok (.irem, 1) := by decide +kernel
theorem dL_law_448 : decode cL_law 448 = .ok (.ifCond .ne 25, 3) := by decide +kernel
theorem dL_law_451 : decode cL_law 451 = .ok (.iload 8, 2) := by decide +kernel
theorem dL_law_453 : decode cL_law 453 = .ok (.bipush 30, 2) := by decide +kernel
theorem dL_law_455 : decode cL_law 455 = .ok (.idiv, 1) := by decide +kernel
end
section
theorem dL_law_456 : decode cL_law 456 = .ok (.iload 16, 2) := by decide +kernel
theorem dL_law_458 : decode cL_law 458 = .ok (.iconst 5, 1) := by decide +kernel
theorem dL_law_459 : decode cL_law 459 = .ok (.imul, 1) := by decide +kernel
theorem dL_law_460 : decode cL_law 460 = .ok (.iadd, 1) := by decide +kernel
theorem dL_law_461 : decode cL_law 461 = .ok (.iconst 4, 1) := by decide +kernel
theorem dL_law_462 : decode cL_law 462 = .ok (.irem, 1) := by decide +kernel
theorem dL_law_463 : decode cL_law 463 = .ok (.ifCond .le 10, 3) := by decide +kernel
theorem dL_law_466 : decode cL_law 466 = .ok (.lconst 1, 1) := by decide +kernel
theorem dL_law_467 : decode cL_law 467 = .ok (.iload 16, 2) := by decide +kernel
theorem dL_law_469 : decode cL_law 469 = .ok (.lshl, 1) := by decide +kernel
theorem dL_law_470 : decode cL_law 470 = .ok (.goto 4, 3) := by decide +kernel
theorem dL_law_473 : decode cL_law 473 = .ok (.lconst 0, 1) := by decide +kernel
theorem dL_law_474 : decode cL_law 474 = .ok (.lor, 1) := by decide +kernel
theorem dL_law_475 : decode cL_law 475 = .ok (.lstore 14, 2) := by decide +kernel
theorem dL_law_477 : decode cL_law 477 = .ok (.iinc 16 1, 3) := by decide +kernel
theorem dL_law_480 : decode cL_law 480 = .ok (.goto (-89), 3) := by decide +kernel
theorem dL_law_483 : decode cL_law 483 = .ok (.aload_n 1, 1) := by decide +kernel
theorem dL_law_484 : decode cL_law 484 = .ok (.aload_n 2, 1) := by decide +kernel
theorem dL_law_485 : decode cL_law 485 = .ok (.aload_n 3, 1) := by decide +kernel
theorem dL_law_486 : decode cL_law 486 = .ok (.iload 11, 2) := by decide +kernel
theorem dL_law_488 : decode cL_law 488 = .ok (.iconst 1, 1) := by decide +kernel
theorem dL_law_489 : decode cL_law 489 = .ok (.iload 8, 2) := by decide +kernel
theorem dL_law_491 : decode cL_law 491 = .ok (.sipush 700, 3) := by decide +kernel
theorem dL_law_494 : decode cL_law 494 = .ok (.idiv, 1) := by decide +kernel
theorem dL_law_495 : decode cL_law 495 = .ok (.iload 8, 2) := by decide +kernel
theorem dL_law_497 : decode cL_law 497 = .ok (.iconst 2, 1) := by decide +kernel
theorem dL_law_498 : decode cL_law 498 = .ok (.irem, 1) := by decide +kernel
theorem dL_law_499 : decode cL_law 499 = .ok (.ifCond .ne 8, 3) := by decide +kernel
theorem dL_law_502 : decode cL_law 502 = .ok (.bipush 40, 2) := by decide +kernel
theorem dL_law_504 : decode cL_law 504 = .ok (.goto 5, 3) := by decide +kernel
theorem dL_law_507 : decode cL_law 507 = .ok (.ldc 193, 2) := by decide +kernel
theorem dL_law_509 : decode cL_law 509 = .ok (.irem, 1) := by decide +kernel
theorem dL_law_510 : decode cL_law 510 = .ok (.iadd, 1) := by decide +kernel
theorem dL_law_511 : decode cL_law 511 = .ok (.iload 8, 2) := by decide +kernel
theorem dL_law_513 : decode cL_law 513 = .ok (.iconst 5, 1) := by decide +kernel
theorem dL_law_514 : decode cL_law 514 = .ok (.idiv, 1) := by decide +kernel
theorem dL_law_515 : decode cL_law 515 = .ok (.iconst 3, 1) := by decide +kernel
theorem dL_law_516 : decode cL_law 516 = .ok (.irem, 1) := by decide +kernel
theorem dL_law_517 : decode cL_law 517 = .ok (.lload 14, 2) := by decide +kernel
theorem dL_law_519 : decode cL_law 519 = .ok (.invokestatic 194, 3) := by decide +kernel
theorem dL_law_522 : decode cL_law 522 = .ok (.istore 5, 2) := by decide +kernel
theorem dL_law_524 : decode cL_law 524 = .ok (.goto 260, 3) := by decide +kernel
theorem dL_law_527 : decode cL_law 527 = .ok (.iload 9, 2) := by decide +kernel
theorem dL_law_529 : decode cL_law 529 = .ok (.bipush 30, 2) := by decide +kernel
theorem dL_law_531 : decode cL_law 531 = .ok (.if_icmp .ge 27, 3) := by decide +kernel
theorem dL_law_534 : decode cL_law 534 = .ok (.aload_n 1, 1) := by decide +kernel
theorem dL_law_535 : decode cL_law 535 = .ok (.invokevirtual 116, 3) := by decide +kernel
theorem dL_law_538 : decode cL_law 538 = .ok (.ifCond .le 20, 3) := by decide +kernel
theorem dL_law_541 : decode cL_law 541 = .ok (.aload_n 1, 1) := by decide +kernel
theorem dL_law_542 : decode cL_law 542 = .ok (.aload_n 2, 1) := by decide +kernel
theorem dL_law_543 : decode cL_law 543 = .ok (.iload 8, 2) := by decide +kernel
theorem dL_law_545 : decode cL_law 545 = .ok (.aload_n 1, 1) := by decide +kernel
theorem dL_law_546 : decode cL_law 546 = .ok (.invokevirtual 116, 3) := by decide +kernel
theorem dL_law_549 : decode cL_law 549 = .ok (.irem, 1) := by decide +kernel
theorem dL_law_550 : decode cL_law 550 = .ok (.invokestatic 198, 3) := by decide +kernel
theorem dL_law_553 : decode cL_law 553 = .ok (.istore 5, 2) := by decide +kernel
theorem dL_law_555 : decode cL_law 555 = .ok (.goto 229, 3) := by decide +kernel
theorem dL_law_558 : decode cL_law 558 = .ok (.iload 9, 2) := by decide +kernel
theorem dL_law_560 : decode cL_law 560 = .ok (.bipush 30, 2) := by decide +kernel
theorem dL_law_562 : decode cL_law 562 = .ok (.if_icmp .ne 149, 3) := by decide +kernel
theorem dL_law_565 : decode cL_law 565 = .ok (.iload 8, 2) := by decide +kernel
theorem dL_law_567 : decode cL_law 567 = .ok (.iconst 4, 1) := by decide +kernel
theorem dL_law_568 : decode cL_law 568 = .ok (.irem, 1) := by decide +kernel
theorem dL_law_569 : decode cL_law 569 = .ok (.ifCond .ne 142, 3) := by decide +kernel
theorem dL_law_572 : decode cL_law 572 = .ok (.aload_n 2, 1) := by decide +kernel
theorem dL_law_573 : decode cL_law 573 = .ok (.iconst 0, 1) := by decide +kernel
theorem dL_law_574 : decode cL_law 574 = .ok (.iaload, 1) := by decide +kernel
theorem dL_law_575 : decode cL_law 575 = .ok (.iconst 1, 1) := by decide +kernel
theorem dL_law_576 : decode cL_law 576 = .ok (.iadd, 1) := by decide +kernel
theorem dL_law_577 : decode cL_law 577 = .ok (.iload 8, 2) := by decide +kernel
theorem dL_law_579 : decode cL_law 579 = .ok (.iconst 4, 1) := by decide +kernel
theorem dL_law_580 : decode cL_law 580 = .ok (.idiv, 1) := by decide +kernel
theorem dL_law_581 : decode cL_law 581 = .ok (.bipush 9, 2) := by decide +kernel
theorem dL_law_583 : decode cL_law 583 = .ok (.irem, 1) := by decide +kernel
theorem dL_law_584 : decode cL_law 584 = .ok (.iadd, 1) := by decide +kernel
theorem dL_law_585 : decode cL_law 585 = .ok (.sipush 365, 3) := by decide +kernel
theorem dL_law_588 : decode cL_law 588 = .ok (.if_icmp .ge 19, 3) := by decide +kernel
theorem dL_law_591 : decode cL_law 591 = .ok (.aload_n 2, 1) := by decide +kernel
theorem dL_law_592 : decode cL_law 592 = .ok (.iconst 0, 1) := by decide +kernel
theorem dL_law_593 : decode cL_law 593 = .ok (.iaload, 1) := by decide +kernel
theorem dL_law_594 : decode cL_law 594 = .ok (.iconst 1, 1) := by decide +kernel
theorem dL_law_595 : decode cL_law 595 = .ok (.iadd, 1) := by decide +kernel
theorem dL_law_596 : decode cL_law 596 = .ok (.iload 8, 2) := by decide +kernel
theorem dL_law_598 : decode cL_law 598 = .ok (.iconst 4, 1) := by decide +kernel
theorem dL_law_599 : decode cL_law 599 = .ok (.idiv, 1) := by decide +kernel
theorem dL_law_600 : decode cL_law 600 = .ok (.bipush 9, 2) := by decide +kernel
theorem dL_law_602 : decode cL_law 602 = .ok (.irem, 1) := by decide +kernel
theorem dL_law_603 : decode cL_law 603 = .ok (.iadd, 1) := by decide +kernel
theorem dL_law_604 : decode cL_law 604 = .ok (.goto 6, 3) := by decide +kernel
theorem dL_law_607 : decode cL_law 607 = .ok (.sipush 364, 3) := by decide +kernel
theorem dL_law_610 : decode cL_law 610 = .ok (.istore 14, 2) := by decide +kernel
theorem dL_law_612 : decode cL_law 612 = .ok (.iload 14, 2) := by decide +kernel
theorem dL_law_614 : decode cL_law 614 = .ok (.aload_n 2, 1) := by decide +kernel
theorem dL_law_615 : decode cL_law 615 = .ok (.iconst 0, 1) := by decide +kernel
theorem dL_law_616 : decode cL_law 616 = .ok (.iaload, 1) := by decide +kernel
theorem dL_law_617 : decode cL_law 617 = .ok (.if_icmp .le 9, 3) := by decide +kernel
theorem dL_law_620 : decode cL_law 620 = .ok (.aload_n 2, 1) := by decide +kernel
theorem dL_law_621 : decode cL_law 621 = .ok (.iconst 0, 1) := by decide +kernel
theorem dL_law_622 : decode cL_law 622 = .ok (.iaload, 1) := by decide +kernel
theorem dL_law_623 : decode cL_law 623 = .ok (.goto 5, 3) := by decide +kernel
theorem dL_law_626 : decode cL_law 626 = .ok (.bipush (-7), 2) := by decide +kernel
theorem dL_law_628 : decode cL_law 628 = .ok (.istore 15, 2) := by decide +kernel
theorem dL_law_630 : decode cL_law 630 = .ok (.aload_n 1, 1) := by decide +kernel
theorem dL_law_631 : decode cL_law 631 = .ok (.invokestatic 146, 3) := by decide +kernel
theorem dL_law_634 : decode cL_law 634 = .ok (.lstore 16, 2) := by decide +kernel
theorem dL_law_636 : decode cL_law 636 = .ok (.aload_n 1, 1) := by decide +kernel
theorem dL_law_637 : decode cL_law 637 = .ok (.iload 14, 2) := by decide +kernel
theorem dL_law_639 : decode cL_law 639 = .ok (.invokestatic 166, 3) := by decide +kernel
theorem dL_law_642 : decode cL_law 642 = .ok (.iload 15, 2) := by decide +kernel
theorem dL_law_644 : decode cL_law 644 = .ok (.if_icmp .ne 42, 3) := by decide +kernel
theorem dL_law_647 : decode cL_law 647 = .ok (.aload_n 1, 1) := by decide +kernel
theorem dL_law_648 : decode cL_law 648 = .ok (.invokestatic 146, 3) := by decide +kernel
theorem dL_law_651 : decode cL_law 651 = .ok (.lload 16, 2) := by decide +kernel
theorem dL_law_653 : decode cL_law 653 = .ok (.lcmp, 1) := by decide +kernel
theorem dL_law_654 : decode cL_law 654 = .ok (.ifCond .ne 32, 3) := by decide +kernel
theorem dL_law_657 : decode cL_law 657 = .ok (.aload_n 1, 1) := by decide +kernel
theorem dL_law_658 : decode cL_law 658 = .ok (.iload 14, 2) := by decide +kernel
theorem dL_law_660 : decode cL_law 660 = .ok (.invokestatic 166, 3) := by decide +kernel
theorem dL_law_663 : decode cL_law 663 = .ok (.bipush (-7), 2) := by decide +kernel
theorem dL_law_665 : decode cL_law 665 = .ok (.if_icmp .ne 21, 3) := by decide +kernel
theorem dL_law_668 : decode cL_law 668 = .ok (.aload_n 1, 1) := by decide +kernel
theorem dL_law_669 : decode cL_law 669 = .ok (.iload 14, 2) := by decide +kernel
theorem dL_law_671 : decode cL_law 671 = .ok (.iconst 0, 1) := by decide +kernel
theorem dL_law_672 : decode cL_law 672 = .ok (.iconst 1, 1) := by decide +kernel
theorem dL_law_673 : decode cL_law 673 = .ok (.iconst 1, 1) := by decide +kernel
theorem dL_law_674 : decode cL_law 674 = .ok (.invokestatic 150, 3) := by decide +kernel
theorem dL_law_677 : decode cL_law 677 = .ok (.bipush (-7), 2) := by decide +kernel
theorem dL_law_679 : decode cL_law 679 = .ok (.if_icmp .ne 7, 3) := by decide +kernel
theorem dL_law_682 : decode cL_law 682 = .ok (.iconst 1, 1) := by decide +kernel
theorem dL_law_683 : decode cL_law 683 = .ok (.goto 4, 3) := by decide +kernel
theorem dL_law_686 : decode cL_law 686 = .ok (.iconst 0, 1) := by decide +kernel
theorem dL_law_687 : decode cL_law 687 = .ok (.istore 5, 2) := by decide +kernel
theorem dL_law_689 : decode cL_law 689 = .ok (.aload_n 2, 1) := by decide +kernel
theorem dL_law_690 : decode cL_law 690 = .ok (.iconst 0, 1) := by decide +kernel
theorem dL_law_691 : decode cL_law 691 = .ok (.iload 14, 2) := by decide +kernel
theorem dL_law_693 : decode cL_law 693 = .ok (.aload_n 2, 1) := by decide +kernel
theorem dL_law_694 : decode cL_law 694 = .ok (.iconst 0, 1) := by decide +kernel
theorem dL_law_695 : decode cL_law 695 = .ok (.iaload, 1) := by decide +kernel
theorem dL_law_696 : decode cL_law 696 = .ok (.if_icmp .le 8, 3) := by decide +kernel
theorem dL_law_699 : decode cL_law 699 = .ok (.iload 14, 2) := by decide +kernel
theorem dL_law_701 : decode cL_law 701 = .ok (.goto 6, 3) := by decide +kernel
theorem dL_law_704 : decode cL_law 704 = .ok (.aload_n 2, 1) := by decide +kernel
theorem dL_law_705 : decode cL_law 705 = .ok (.iconst 0, 1) := by decide +kernel
theorem dL_law_706 : decode cL_law 706 = .ok (.iaload, 1) := by decide +kernel
theorem dL_law_707 : decode cL_law 707 = .ok (.iastore, 1) := by decide +kernel
theorem dL_law_708 : decode cL_law 708 = .ok (.goto 76, 3) := by decide +kernel
theorem dL_law_711 : decode cL_law 711 = .ok (.aload 4, 2) := by decide +kernel
theorem dL_law_713 : decode cL_law 713 = .ok (.iload 8, 2) := by decide +kernel
theorem dL_law_715 : decode cL_law 715 = .ok (.bipush 6, 2) := by decide +kernel
theorem dL_law_717 : decode cL_law 717 = .ok (.irem, 1) := by decide +kernel
theorem dL_law_718 : decode cL_law 718 = .ok (.iaload, 1) := by decide +kernel
theorem dL_law_719 : decode cL_law 719 = .ok (.istore 14, 2) := by decide +kernel
theorem dL_law_721 : decode cL_law 721 = .ok (.aload_n 1, 1) := by decide +kernel
theorem dL_law_722 : decode cL_law 722 = .ok (.invokestatic 146, 3) := by decide +kernel
theorem dL_law_725 : decode cL_law 725 = .ok (.lstore 15, 2) := by decide +kernel
theorem dL_law_727 : decode cL_law 727 = .ok (.aload 4, 2) := by decide +kernel
theorem dL_law_729 : decode cL_law 729 = .ok (.iload 8, 2) := by decide +kernel
theorem dL_law_731 : decode cL_law 731 = .ok (.bipush 6, 2) := by decide +kernel
theorem dL_law_733 : decode cL_law 733 = .ok (.irem, 1) := by decide +kernel
theorem dL_law_734 : decode cL_law 734 = .ok (.iconst 1, 1) := by decide +kernel
theorem dL_law_735 : decode cL_law 735 = .ok (.iload 8, 2) := by decide +kernel
theorem dL_law_737 : decode cL_law 737 = .ok (.bipush 6, 2) := by decide +kernel
theorem dL_law_739 : decode cL_law 739 = .ok (.idiv, 1) := by decide +kernel
theorem dL_law_740 : decode cL_law 740 = .ok (.bipush 100, 2) := by decide +kernel
theorem dL_law_742 : decode cL_law 742 = .ok (.irem, 1) := by decide +kernel
theorem dL_law_743 : decode cL_law 743 = .ok (.iadd, 1) := by decide +kernel
theorem dL_law_744 : decode cL_law 744 = .ok (.iastore, 1) := by decide +kernel
theorem dL_law_745 : decode cL_law 745 = .ok (.aload_n 1, 1) := by decide +kernel
theorem dL_law_746 : decode cL_law 746 = .ok (.iload 8, 2) := by decide +kernel
theorem dL_law_748 : decode cL_law 748 = .ok (.bipush 6, 2) := by decide +kernel
theorem dL_law_750 : decode cL_law 750 = .ok (.irem, 1) := by decide +kernel
theorem dL_law_751 : decode cL_law 751 = .ok (.aload 4, 2) := by decide +kernel
theorem dL_law_753 : decode cL_law 753 = .ok (.iload 8, 2) := by decide +kernel
theorem dL_law_755 : decode cL_law 755 = .ok (.bipush 6, 2) := by decide +kernel
theorem dL_law_757 : decode cL_law 757 = .ok (.irem, 1) := by decide +kernel
theorem dL_law_758 : decode cL_law 758 = .ok (.iaload, 1) := by decide +kernel
theorem dL_law_759 : decode cL_law 759 = .ok (.invokestatic 168, 3) := by decide +kernel
theorem dL_law_762 : decode cL_law 762 = .ok (.iload 14, 2) := by decide +kernel
theorem dL_law_764 : decode cL_law 764 = .ok (.if_icmp .ne 17, 3) := by decide +kernel
theorem dL_law_767 : decode cL_law 767 = .ok (.aload_n 1, 1) := by decide +kernel
theorem dL_law_768 : decode cL_law 768 = .ok (.invokestatic 146, 3) := by decide +kernel
theorem dL_law_771 : decode cL_law 771 = .ok (.lload 15, 2) := by decide +kernel
theorem dL_law_773 : decode cL_law 773 = .ok (.lcmp, 1) := by decide +kernel
theorem dL_law_774 : decode cL_law 774 = .ok (.ifCond .ne 7, 3) := by decide +kernel
theorem dL_law_777 : decode cL_law 777 = .ok (.iconst 1, 1) := by decide +kernel
theorem dL_law_778 : decode cL_law 778 = .ok (.goto 4, 3) := by decide +kernel
theorem dL_law_781 : decode cL_law 781 = .ok (.iconst 0, 1) := by decide +kernel
theorem dL_law_782 : decode cL_law 782 = .ok (.istore 5, 2) := by decide +kernel
theorem dL_law_784 : decode cL_law 784 = .ok (.iload 5, 2) := by decide +kernel
theorem dL_law_786 : decode cL_law 786 = .ok (.ifCond .eq 86, 3) := by decide +kernel
theorem dL_law_789 : decode cL_law 789 = .ok (.aload_n 1, 1) := by decide +kernel
theorem dL_law_790 : decode cL_law 790 = .ok (.iload 10, 2) := by decide +kernel
theorem dL_law_792 : decode cL_law 792 = .ok (.iload 11, 2) := by decide +kernel
theorem dL_law_794 : decode cL_law 794 = .ok (.invokestatic 177, 3) := by decide +kernel
theorem dL_law_797 : decode cL_law 797 = .ok (.ifCond .eq 75, 3) := by decide +kernel
theorem dL_law_800 : decode cL_law 800 = .ok (.aload_n 1, 1) := by decide +kernel
theorem dL_law_801 : decode cL_law 801 = .ok (.iload 10, 2) := by decide +kernel
theorem dL_law_803 : decode cL_law 803 = .ok (.sipush 364, 3) := by decide +kernel
theorem dL_law_806 : decode cL_law 806 = .ok (.invokestatic 177, 3) := by decide +kernel
theorem dL_law_809 : decode cL_law 809 = .ok (.ifCond .eq 63, 3) := by decide +kernel
theorem dL_law_812 : decode cL_law 812 = .ok (.aload_n 1, 1) := by decide +kernel
theorem dL_law_813 : decode cL_law 813 = .ok (.iload 8, 2) := by decide +kernel
theorem dL_law_815 : decode cL_law 815 = .ok (.bipush 6, 2) := by decide +kernel
theorem dL_law_817 : decode cL_law 817 = .ok (.irem, 1) := by decide +kernel
theorem dL_law_818 : decode cL_law 818 = .ok (.iload 8, 2) := by decide +kernel
theorem dL_law_820 : decode cL_law 820 = .ok (.bipush 6, 2) := by decide +kernel
theorem dL_law_822 : decode cL_law 822 = .ok (.idiv, 1) := by decide +kernel
theorem dL_law_823 : decode cL_law 823 = .ok (.sipush 365, 3) := by decide +kernel
theorem dL_law_826 : decode cL_law 826 = .ok (.irem, 1) := by decide +kernel
theorem dL_law_827 : decode cL_law 827 = .ok (.invokestatic 177, 3) := by decide +kernel
theorem dL_law_830 : decode cL_law 830 = .ok (.ifCond .eq 42, 3) := by decide +kernel
theorem dL_law_833 : decode cL_law 833 = .ok (.iload 6, 2) := by decide +kernel
theorem dL_law_835 : decode cL_law 835 = .ok (.bipush 8, 2) := by decide +kernel
theorem dL_law_837 : decode cL_law 837 = .ok (.irem, 1) := by decide +kernel
theorem dL_law_838 : decode cL_law 838 = .ok (.ifCond .gt 11, 3) := by decide +kernel
theorem dL_law_841 : decode cL_law 841 = .ok (.aload_n 1, 1) := by decide +kernel
theorem dL_law_842 : decode cL_law 842 = .ok (.aload_n 3, 1) := by decide +kernel
theorem dL_law_843 : decode cL_law 843 = .ok (.invokestatic 201, 3) := by decide +kernel
theorem dL_law_846 : decode cL_law 846 = .ok (.ifCond .eq 26, 3) := by decide +kernel
theorem dL_law_849 : decode cL_law 849 = .ok (.iload 6, 2) := by decide +kernel
theorem dL_law_851 : decode cL_law 851 = .ok (.bipush 24, 2) := by decide +kernel
theorem dL_law_853 : decode cL_law 853 = .ok (.irem, 1) := by decide +kernel
theorem dL_law_854 : decode cL_law 854 = .ok (.ifCond .gt 14, 3) := by decide +kernel
theorem dL_law_857 : decode cL_law 857 = .ok (.aload_n 1, 1) := by decide +kernel
theorem dL_law_858 : decode cL_law 858 = .ok (.iload 7, 2) := by decide +kernel
theorem dL_law_860 : decode cL_law 860 = .ok (.iconst 3, 1) := by decide +kernel
theorem dL_law_861 : decode cL_law 861 = .ok (.idiv, 1) := by decide +kernel
theorem dL_law_862 : decode cL_law 862 = .ok (.invokestatic 181, 3) := by decide +kernel
theorem dL_law_865 : decode cL_law 865 = .ok (.ifCond .eq 7, 3) := by decide +kernel
theorem dL_law_868 : decode cL_law 868 = .ok (.iconst 1, 1) := by decide +kernel
theorem dL_law_869 : decode cL_law 869 = .ok (.goto 4, 3) := by decide +kernel
theorem dL_law_872 : decode cL_law 872 = .ok (.iconst 0, 1) := by decide +kernel
theorem dL_law_873 : decode cL_law 873 = .ok (.istore 5, 2) := by decide +kernel
theorem dL_law_875 : decode cL_law 875 = .ok (.iinc 6 1, 3) := by decide +kernel
theorem dL_law_878 : decode cL_law 878 = .ok (.goto (-787), 3) := by decide +kernel
theorem dL_law_881 : decode cL_law 881 = .ok (.iload 5, 2) := by decide +kernel
theorem dL_law_883 : decode cL_law 883 = .ok (.ireturn, 1) := by decide +kernel
end
