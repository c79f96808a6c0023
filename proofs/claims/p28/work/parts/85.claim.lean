/-! the claim: what holds at the law's entry -/
theorem kp_arr {args : Array Value} {s : State} {ty : FieldType} (h : (Cond.arrayClass ty).before args s = true) (hp : ty = .int) : ∃ cA : ClassId, ArrOfT s cA ty ∧ va_RA s cA ty := by
  obtain ⟨c, k, comp, h1, h2, h3⟩ := Cond.arrayClass_spec h
  refine ⟨c, fun n z => ⟨fun k9 h9 => ?_, k, h2, comp, h3⟩, ?_⟩
  · subst hp; cases h9
  · subst hp; exact h1
theorem kp_arO {args : Array Value} {s : State} {C : String} (h : (Cond.arrayOver (.object C)).before args s = true) : ∃ cA : ClassId, ArrOfT s cA (.object C) ∧ va_RA s cA (.object C) := by
  obtain ⟨comp, c, k, h1, _, h2, h3, h4⟩ := Cond.arrayOver_spec h
  exact ⟨c, fun n z => ⟨fun k h => (by cases h), k, h2, comp, h3⟩, k, comp, h2, h3, h1, h4⟩
theorem kp_str {args : Array Value} {s : State} {k : Nat} {tx : String} (h1 : (Cond.stringRef RX7 k tx).before args s = true) (h2 : (Cond.exactly (.string RX7 k) "java/lang/String").before args s = true) : ∃ a, vk_R RX7 k tx a s := by
  obtain ⟨a, c, cell, kk, q1, _⟩ := Cond.exactly_spec h2
  exact ⟨a, vk_R.of h1 q1⟩
theorem kp_inst : ∀ (c : Nat) (q : vw_C), vwCl[c]? = some q → Cond.instantiable q.1 q.2.2 ∈ lw_tbl := by
  intro c q h
  match c, h with
  | 0, h => cases h; exact List.mem_of_getElem? (i := 56) (by decide +kernel)
  | 1, h => cases h; exact List.mem_of_getElem? (i := 319) (by decide +kernel)
  | 2, h => cases h; exact List.mem_of_getElem? (i := 41) (by decide +kernel)
  | 3, h => cases h; exact List.mem_of_getElem? (i := 313) (by decide +kernel)
  | 4, h => cases h; exact List.mem_of_getElem? (i := 93) (by decide +kernel)
  | 5, h => cases h; exact List.mem_of_getElem? (i := 682) (by decide +kernel)
  | 6, h => cases h; exact List.mem_of_getElem? (i := 31) (by decide +kernel)
  | k + 7, h => simp [vwCl] at h
theorem kp_WA {s : State} {b : Addr} (hts : ∀ w ∈ lw_tbl, w.before #[Value.ref b] s = true) : ∀ w ∈ WA, w.before #[Value.ref b] s = true := by
  intro w hw
  have h1 : w ∈ slL ++ lw_tbl := (List.mem_filter.mp hw).1
  have h2 : ∀ w ∈ slL, w.before #[Value.ref b] s = true := (List.forall_mem_cons.mpr ⟨(sel_priv ⟨by decide, by decide⟩ (n := 7) (hts _ (List.mem_of_getElem? (i := 56) (by decide +kernel))) (hts _ (List.mem_of_getElem? (i := 472) (by decide +kernel))) (hts _ (List.mem_of_getElem? (i := 473) (by decide +kernel))) (hts _ (List.mem_of_getElem? (i := 751) (by decide +kernel)))), (List.forall_mem_cons.mpr ⟨(sel_priv ⟨by decide, by decide⟩ (n := 6) (hts _ (List.mem_of_getElem? (i := 93) (by decide +kernel))) (hts _ (List.mem_of_getElem? (i := 472) (by decide +kernel))) (hts _ (List.mem_of_getElem? (i := 473) (by decide +kernel))) (hts _ (List.mem_of_getElem? (i := 751) (by decide +kernel)))), (List.forall_mem_cons.mpr ⟨(sel_priv ⟨by decide, by decide⟩ (n := 7) (hts _ (List.mem_of_getElem? (i := 56) (by decide +kernel))) (hts _ (List.mem_of_getElem? (i := 492) (by decide +kernel))) (hts _ (List.mem_of_getElem? (i := 493) (by decide +kernel))) (hts _ (List.mem_of_getElem? (i := 752) (by decide +kernel)))), (List.forall_mem_cons.mpr ⟨(sel_priv ⟨by decide, by decide⟩ (n := 6) (hts _ (List.mem_of_getElem? (i := 93) (by decide +kernel))) (hts _ (List.mem_of_getElem? (i := 492) (by decide +kernel))) (hts _ (List.mem_of_getElem? (i := 493) (by decide +kernel))) (hts _ (List.mem_of_getElem? (i := 752) (by decide +kernel)))), (fun _ h => absurd h List.not_mem_nil)⟩)⟩)⟩)⟩)
  rcases List.mem_append.mp h1 with h | h
  · exact h2 w h
  · exact hts w h
theorem kp_GE {s : State} {b : Addr} (hts : ∀ w ∈ lw_tbl, w.before #[Value.ref b] s = true) (hgv : (Jvm.Cond.and given_1 narrow_1).before #[Value.ref b] s = true) : ∃ G : GT, GE G (fun q : Nat => s.heap.size ≤ q) s := by
  have hgs := flat_of_before _ hgv
  have hWA := kp_WA hts
  have hcl : ∀ c : Nat, ∃ p : ClassId × (Nat → Nat), ∀ q : vw_C, vwCl[c]? = some q → u_Kn s q.1 q.2.1 q.2.2 p.1 p.2 := fun c => by
    cases h : vwCl[c]? with
    | none => exact ⟨(default, fun _ => 0), fun q hq => by cases hq⟩
    | some q0 =>
      obtain ⟨cC, iS, hk⟩ := u_known (C := q0.1) (T := q0.2.1) (N := q0.2.2) (n := q0.2.2) hWA (KF c q0 h).2.2.1 (hts _ (kp_inst c q0 h))
      exact ⟨(cC, iS), fun q hq => by cases hq; exact hk⟩
  obtain ⟨f, hf⟩ := Classical.axiomOfChoice hcl
  obtain ⟨cI, i1, i2⟩ := kp_arr (hts _ (List.mem_of_getElem? (i := 129) (by decide +kernel))) rfl
  have hao : (Cond.arrayOver (.object RX3)).before #[Value.ref b] s = true := (hts _ (List.mem_of_getElem? (i := 39) (by decide +kernel)))
  obtain ⟨cM, m1, m2⟩ := kp_arO hao
  refine ⟨(((fun c => (f c).1, fun c => (f c).2) : va_G), cI, cI, cI, cM), ⟨fun c q hq => hf c q hq, fun k q hq => ?_⟩, ⟨?_, ?_⟩, ?_, ?_, ?_, ?_, ?_, va_AO.of hao⟩
  · match k, hq with
    | 0, hq => cases hq; exact ⟨i1, i2⟩
    | 1, hq => cases hq; exact ⟨m1, m2⟩
    | k + 2, hq => simp [tysG] at hq
  · exact vx_Zqof (hts _ (List.mem_of_getElem? (i := 169) (by decide +kernel))) (hts _ (List.mem_of_getElem? (i := 20) (by decide +kernel))) (hgs _ (by decide +kernel)) (fun a h q => absurd h (Nat.not_lt.mpr q))
  · exact vx_Zqof (hts _ (List.mem_of_getElem? (i := 171) (by decide +kernel))) (hts _ (List.mem_of_getElem? (i := 20) (by decide +kernel))) (hgs _ (by decide +kernel)) (fun a h q => absurd h (Nat.not_lt.mpr q))
  · exact (List.forall_mem_cons.mpr ⟨(kp_str (hts _ (List.mem_of_getElem? (i := 237) (by decide +kernel))) (hgs _ (by decide +kernel))), (List.forall_mem_cons.mpr ⟨(kp_str (hts _ (List.mem_of_getElem? (i := 305) (by decide +kernel))) (hgs _ (by decide +kernel))), (List.forall_mem_cons.mpr ⟨(kp_str (hts _ (List.mem_of_getElem? (i := 312) (by decide +kernel))) (hgs _ (by decide +kernel))), (List.forall_mem_cons.mpr ⟨(kp_str (hts _ (List.mem_of_getElem? (i := 641) (by decide +kernel))) (hgs _ (by decide +kernel))), (List.forall_mem_cons.mpr ⟨(kp_str (hts _ (List.mem_of_getElem? (i := 657) (by decide +kernel))) (hgs _ (by decide +kernel))), (List.forall_mem_cons.mpr ⟨(kp_str (hts _ (List.mem_of_getElem? (i := 658) (by decide +kernel))) (hgs _ (by decide +kernel))), (List.forall_mem_cons.mpr ⟨(kp_str (hts _ (List.mem_of_getElem? (i := 667) (by decide +kernel))) (hgs _ (by decide +kernel))), (List.forall_mem_cons.mpr ⟨(kp_str (hts _ (List.mem_of_getElem? (i := 676) (by decide +kernel))) (hgs _ (by decide +kernel))), (List.forall_mem_cons.mpr ⟨(kp_str (hts _ (List.mem_of_getElem? (i := 183) (by decide +kernel))) (hgs _ (by decide +kernel))), (List.forall_mem_cons.mpr ⟨(kp_str (hts _ (List.mem_of_getElem? (i := 719) (by decide +kernel))) (hgs _ (by decide +kernel))), (List.forall_mem_cons.mpr ⟨(kp_str (hts _ (List.mem_of_getElem? (i := 729) (by decide +kernel))) (hgs _ (by decide +kernel))), (List.forall_mem_cons.mpr ⟨(kp_str (hts _ (List.mem_of_getElem? (i := 619) (by decide +kernel))) (hgs _ (by decide +kernel))), (List.forall_mem_cons.mpr ⟨(kp_str (hts _ (List.mem_of_getElem? (i := 610) (by decide +kernel))) (hgs _ (by decide +kernel))), (List.forall_mem_cons.mpr ⟨(kp_str (hts _ (List.mem_of_getElem? (i := 585) (by decide +kernel))) (hgs _ (by decide +kernel))), (fun _ h => absurd h List.not_mem_nil)⟩)⟩)⟩)⟩)⟩)⟩)⟩)⟩)⟩)⟩)⟩)⟩)⟩)⟩)
  · exact (List.forall_mem_cons.mpr ⟨(va_Nw.of rfl (hts _ (List.mem_of_getElem? (i := 42) (by decide +kernel)))), (List.forall_mem_cons.mpr ⟨(va_Nw.of rfl (hts _ (List.mem_of_getElem? (i := 57) (by decide +kernel)))), (List.forall_mem_cons.mpr ⟨(va_Nw.of rfl (hts _ (List.mem_of_getElem? (i := 94) (by decide +kernel)))), (List.forall_mem_cons.mpr ⟨(va_Nw.of rfl (hts _ (List.mem_of_getElem? (i := 60) (by decide +kernel)))), (List.forall_mem_cons.mpr ⟨(va_Nw.of rfl (hts _ (List.mem_of_getElem? (i := 97) (by decide +kernel)))), (fun _ h => absurd h List.not_mem_nil)⟩)⟩)⟩)⟩)⟩)
  · exact (List.forall_mem_cons.mpr ⟨(va_Nw.of rfl (hts _ (List.mem_of_getElem? (i := 463) (by decide +kernel)))), (List.forall_mem_cons.mpr ⟨(va_Nw.of rfl (hts _ (List.mem_of_getElem? (i := 476) (by decide +kernel)))), (List.forall_mem_cons.mpr ⟨(va_Nw.of rfl (hts _ (List.mem_of_getElem? (i := 496) (by decide +kernel)))), (List.forall_mem_cons.mpr ⟨(va_Nw.of rfl (hts _ (List.mem_of_getElem? (i := 509) (by decide +kernel)))), (List.forall_mem_cons.mpr ⟨(va_Nw.of rfl (hts _ (List.mem_of_getElem? (i := 523) (by decide +kernel)))), (List.forall_mem_cons.mpr ⟨(va_Nw.of rfl (hts _ (List.mem_of_getElem? (i := 549) (by decide +kernel)))), (List.forall_mem_cons.mpr ⟨(va_Nw.of rfl (hts _ (List.mem_of_getElem? (i := 538) (by decide +kernel)))), (List.forall_mem_cons.mpr ⟨(va_Nw.of rfl (hts _ (List.mem_of_getElem? (i := 145) (by decide +kernel)))), (List.forall_mem_cons.mpr ⟨(va_Nw.of rfl (hts _ (List.mem_of_getElem? (i := 146) (by decide +kernel)))), (List.forall_mem_cons.mpr ⟨(va_Nw.of rfl (hts _ (List.mem_of_getElem? (i := 147) (by decide +kernel)))), (List.forall_mem_cons.mpr ⟨(va_Nw.of rfl (hts _ (List.mem_of_getElem? (i := 148) (by decide +kernel)))), (List.forall_mem_cons.mpr ⟨(va_Nw.of rfl (hts _ (List.mem_of_getElem? (i := 149) (by decide +kernel)))), (List.forall_mem_cons.mpr ⟨(va_Nw.of rfl (hts _ (List.mem_of_getElem? (i := 150) (by decide +kernel)))), (fun _ h => absurd h List.not_mem_nil)⟩)⟩)⟩)⟩)⟩)⟩)⟩)⟩)⟩)⟩)⟩)⟩)⟩)
  · exact (List.forall_mem_cons.mpr ⟨(va_Nc.of (hgs (Cond.not (Cond.castable "java/lang/IllegalStateException" "java/lang/IllegalArgumentException")) (by decide +kernel))), (List.forall_mem_cons.mpr ⟨(va_Nc.of (hgs (Cond.not (Cond.castable "java/lang/IndexOutOfBoundsException" "java/lang/IllegalArgumentException")) (by decide +kernel))), (List.forall_mem_cons.mpr ⟨(va_Nc.of (hgs (Cond.not (Cond.castable "java/lang/IllegalArgumentException" "java/lang/IllegalStateException")) (by decide +kernel))), (List.forall_mem_cons.mpr ⟨(va_Nc.of (hgs (Cond.not (Cond.castable "java/lang/IndexOutOfBoundsException" "java/lang/IllegalStateException")) (by decide +kernel))), (List.forall_mem_cons.mpr ⟨(va_Nc.of (hgs (Cond.not (Cond.castable "java/lang/IllegalArgumentException" "java/lang/IndexOutOfBoundsException")) (by decide +kernel))), (List.forall_mem_cons.mpr ⟨(va_Nc.of (hgs (Cond.not (Cond.castable "java/lang/IllegalStateException" "java/lang/IndexOutOfBoundsException")) (by decide +kernel))), (fun _ h => absurd h List.not_mem_nil)⟩)⟩)⟩)⟩)⟩)⟩)
  · exact (List.forall_mem_cons.mpr ⟨(va_Nw.of rfl (hts _ (List.mem_of_getElem? (i := 230) (by decide +kernel)))), (List.forall_mem_cons.mpr ⟨(va_Nw.of rfl (hts _ (List.mem_of_getElem? (i := 298) (by decide +kernel)))), (List.forall_mem_cons.mpr ⟨(va_Nw.of rfl (hts _ (List.mem_of_getElem? (i := 144) (by decide +kernel)))), (fun _ h => absurd h List.not_mem_nil)⟩)⟩)⟩)
def A00 : AB := (fun _ _ => 0, fun _ => 0)
def S00 : ST := fun c _ => dfl (tyC c)
theorem kp_HW (G : GT) (Al : Nat → Prop) (H : Heap) : HW G S00 A00 Al H := by
  have hno : ∀ (k : Nat) (z : Int), ¬ lv1 A00 k z := fun k z h => by
    obtain ⟨h1, h2⟩ := h
    have h2' : z < 0 := h2
    omega
  refine ⟨[], fun k z h => absurd h (hno k z), fun q hq => (by cases hq), fun k q h => (by simp at h), ⟨fun i j p q h => (by simp at h), fun k q h => (by simp at h)⟩, ⟨fun k z k' z' h => absurd h (hno k z), fun k _ => (by show (0 : Int) ≤ 1; omega), fun k => Int.le_refl _⟩, fun c z => ?_⟩
  obtain ⟨a, b, d⟩ := dfl_ok (tyC c)
  refine ⟨a, b, d, fun h => ?_⟩
  show dfl (tyC c) < 0
  unfold dfl
  rw [if_pos h]; omega
/-! THE CLAIM OUT OF ONE WALK OF THE LAW'S BODY. Your part is whole_start (and what it stands on); all else here is the same for every law, but numbers. -/
def R_law : String := "LayerbookLaw"
def lw_P (b : Addr) (xs : List Int32) (args : Array Value) (s : State) : Prop := args = #[.ref b] ∧ s.IntsAt b xs ∧ xs.length ≤ 260 ∧ (Jvm.Cond.and given_1 narrow_1).before args s = true
def lw_Q (_ : Array Value) (s : State) (o : Outcome) (t : State) : Prop := o = .returned (some (.int 1)) ∧ Framed s o t [] 671858 7086125
def lw_Z (below : List Frame) (a : Array Value) (s : State) : State → Prop := fun t => ∃ o, t.status = .running ∧ Ended t below o ∧ lw_Q a s o t
/-- the law's own end, with 1 on the stack, nothing written that was there before, its room as the claim has it -/
theorem lw_ret {p : Program} {l : Launch} {e : Env} {s : State} {m : MethodId} {below : List Frame} {meth : Method} {c : Code} {b : Nat} (hx : p.tables.exec = Jvm.exec) (hb : c.code = code) (hr : meth.sig.returnType = ret) (hlocks : meth.locks = false) {pc : Nat} {H : Heap} {ls : Array Slot} (hdg : decode code pc = .ok (.ireturn, 1)) : W p l e room_1 s m #[Value.ref b] below meth c H [] 671858 7086125 (lw_Z below #[Value.ref b] s) (F0 m pc ls [.int 1]) := by
  intro T hT X
  obtain ⟨fs, hret, hrun, hended, hW, hframe⟩ := X.leave (v := some (.int 1)) (hlocks := hlocks) (fun h => by rw [hr] at h; cases h)
  have hmeth' : T.vm.method? m = some meth := X.method'
  refine ⟨T.setFrames fs, ?_, .returned (some (.int 1)), hrun, hended, rfl, ⟨_, rfl⟩, hW, hframe⟩
  jvm_step X.here [X.here.top, hx, hb, hdg, hmeth', hr, ret, narrow_b1]
  (try refine ⟨rfl, ?_⟩); (try refine ⟨rfl, ?_⟩)
  first | (intro acts; rw [hret _ acts rfl rfl rfl]) | rw [hret _ _ rfl rfl rfl]
  exact Steps.refl _
/-- what holds at the law's entry: the machine, the code, the tables' words (any of lw_tbl by 'hts w (by decide +kernel)'), the script of L ints xs at the cell b, what the Statement gives of the start (any of its parts by flat_of_before) -/
def lw_At (p : Program) (s : State) (m : MethodId) (meth : Method) (c : Code) (b L : Nat) (xs : Nat → Int32) : Prop :=
  p.tables.exec = Jvm.exec ∧ c.code = code ∧ meth.sig.returnType = ret ∧ c.maxLocals = 18 ∧ s.vm.findClass R_law = some m.cls ∧ (∀ w ∈ lw_tbl, w.before #[Value.ref b] s = true) ∧ va_X b L xs s s.heap ∧ b < s.heap.size ∧ meth.locks = false ∧ (Jvm.Cond.and given_1 narrow_1).before #[Value.ref b] s = true
theorem whole_start {p : Program} {e : Env} {s : State} {m : MethodId} {below : List Frame} {meth : Method} {c : Code} (l : Launch) (hflags : l.flags = flags0) {b L : Nat} {xs : Nat → Int32} (hL : L ≤ 260) (C0 : lw_At p s m meth c b L xs) : W p l e room_1 s m #[Value.ref b] below meth c s.heap [] 0 0 (lw_Z below #[Value.ref b] s) (entryFrame m ([Value.ref b] : List Value).toArray 18) := by
  obtain ⟨hx, hb, hr, hml, hown, hts, hX, hbl, hlocks, hgv⟩ := id C0
  have hfl : l.stackTraces = false := by
    unfold Launch.stackTraces
    rw [hflags]; decide
  have hWA := kp_WA hts
  obtain ⟨G, hG⟩ := kp_GE hts hgv
  rw [lg_entry_eq]
  have hLH := ent_LH (av := [Value.ref b]) (lv := [some (.ref b), none, none, none, none, none, none, none, none, none, none, none, none, none, none, none, none, none]) (n := 18) (ent_1 rfl (ent_n (ent_n (ent_n (ent_n (ent_n (ent_n (ent_n (ent_n (ent_n (ent_n (ent_n (ent_n (ent_n (ent_n (ent_n (ent_n (ent_n ent_0)))))))))))))))))) rfl
  have CL : CxL G l room_1 cL_law 18 RL meth.name c.exceptionTable.toList b L xs (fun pc lv st S A k n => ∀ (H : Heap) (locs : List Loc) (ls : Array Slot), LH ls 18 lv → HW G S A (fun q : Nat => s.heap.size ≤ q) H → va_S (fun q : Nat => s.heap.size ≤ q) s.heap H locs → W p l e room_1 s m #[Value.ref b] below meth c H locs k n (lw_Z below #[Value.ref b] s) (F0 m pc ls st)) (fun E pc lv S A k n => ∀ (H : Heap) (locs : List Loc) (ls : Array Slot) (rest : List Value) (q9 : Addr) (ce : Cell), LH ls 18 lv → HW G S A (fun q : Nat => s.heap.size ≤ q) H → va_S (fun q : Nat => s.heap.size ≤ q) s.heap H locs → H[q9]? = some ce → ce.vm = .none → s.vm.findClass E = some ce.cls → vx_W p l e room_1 s m #[Value.ref b] below meth c H locs k n (lw_Z below #[Value.ref b] s) (F0 m pc ls rest) q9) :=
    ⟨p, e, s, m, #[Value.ref b], below, meth, c, (fun q : Nat => s.heap.size ≤ q), lw_Z below #[Value.ref b] s, ⟨rfl, rfl, hx, hb, hml, hown, hWA, hG, fun q h => h, hfl, rfl, rfl⟩, hX, hbl, Nat.not_le.mpr hbl⟩
  have FL : FinL (fun pc lv st S A k n => ∀ (H : Heap) (locs : List Loc) (ls : Array Slot), LH ls 18 lv → HW G S A (fun q : Nat => s.heap.size ≤ q) H → va_S (fun q : Nat => s.heap.size ≤ q) s.heap H locs → W p l e room_1 s m #[Value.ref b] below meth c H locs k n (lw_Z below #[Value.ref b] s) (F0 m pc ls st)) := by
    intro pc lv S A k n d hk hn H locs ls hl hw hs
    refine va_forget (fun q hq => hs.2.2 q hq) ?_
    exact W.widen hk hn (lw_ret hx hb hr hlocks d)
  exact lw_body hfl CL.cx CL FL hL (S := S00) (A := A00) (fun _ => rfl) s.heap [] _ hLH (kp_HW G _ _) va_S.rf
set_option maxHeartbeats 4000000 in
theorem lw_walk (l : Launch) (hflags : l.flags = flags0) (b : Addr) (xs : List Int32) : MetFree l x (headSpec (Jvm.Cond.code x code maxLocals ret :: tables_1) room_1) (lw_P b xs) (fun _ _ _ _ _ => True) lw_Q := by
  refine MetFree.of_bodyS (code := code) (maxLocals := maxLocals) (ret := ret) (by decide) ?_ ?_
  · intro args s m h hn
    obtain ⟨meth, c, h1, h2, h3, h4, h5, h6, -, -⟩ := Cond.code_spec hn (atoms_spec (ws := Jvm.Cond.code x code maxLocals ret :: tables_1) h _ List.mem_cons_self)
    exact ⟨meth, c, h1, h2, h3, h4, h5, h6⟩
  · intro p e s m args below meth c s₁ B hml0 hP _
    obtain ⟨rfl, hx, hbd, hgv⟩ := hP
    obtain ⟨scr, harrAt, hlist, hof, hsmall⟩ := hx
    obtain ⟨hcb, hkn, -, -⟩ := State.arrayAt?_spec harrAt
    have hown : s.vm.findClass R_law = some m.cls := findClass_of_methodNamed B.named
    have hts0 : ∀ c ∈ (Jvm.Cond.code x code maxLocals ret :: tables_1), c.before #[Value.ref b] s = true := atoms_spec (ws := Jvm.Cond.code x code maxLocals ret :: tables_1) B.pre
    have hts : ∀ w ∈ lw_tbl, w.before #[Value.ref b] s = true := k2_hts_sels lw_privs (fun w hw => hts0 w (List.mem_cons_of_mem _ hw)) lw_privs_ok
    have hml : c.maxLocals = 18 := B.maxLocals_eq (hts0 _ List.mem_cons_self)
    have X₀ : Stand p l e room_1 s m #[Value.ref b] below meth c s₁ [] 0 0 := Stand.of_body B
    have hh0 : s₁.heap = s.heap := by rw [B.state]; rfl
    have hsz : scr.slots.size = xs.length := by rw [← Array.length_toList, hlist, List.length_map]
    have hval : ∀ j : Nat, j < xs.length → scr.slots[j]? = some (.int (xs.getD j 0)) := fun j hj => by
      rw [← Array.getElem?_toList, hlist]
      simp [hj]
    have hbl : b < s.heap.size := (Array.getElem?_eq_some_iff.mp hcb).1
    have hX : va_X b xs.length (fun j => xs.getD j 0) s s.heap := ⟨scr, hcb, hof, hkn, hsz, hval⟩
    have K : W p l e room_1 s m #[Value.ref b] below meth c s₁.heap [] 0 0 (lw_Z below #[Value.ref b] s) (entryFrame m ([Value.ref b] : List Value).toArray 18) := by
      rw [hh0]
      exact whole_start l hflags hbd ⟨B.exec, B.bytes, B.returns, hml, hown, hts, hX, hbl, B.notSynchronized, hgv⟩
    obtain ⟨t, a1, o, b1, b2, b3⟩ := K s₁ rfl X₀
    exact ⟨t, o, a1, b1, b2, b3⟩
theorem lw_pre_spec {args : Array Value} {s : State} (h : (Jvm.Cond.and given_1 narrow_1).before args s = true) (hr : rest_1_c.before args s = true) : ∃ (b : Addr) (xs : List Int32), lw_P b xs args s := by
  have hs := flat_of_before _ h
  have hq := flat_of_before _ hr
  have hc : (Cond.count 1).before args s = true := hs _ (by decide +kernel)
  have harr : (Cond.arrayOf (.arg 0) .int).before args s = true := hs _ (by decide +kernel)
  have hle : (Cond.le (.length (.arg 0)) (.int 260)).before args s = true := hs _ (by decide +kernel)
  have hlen : (Cond.isInt (.length (.arg 0))).before args s = true := hq _ (by decide +kernel)
  have hall : (Cond.all (.arg 0) (.isInt (.elem (.arg 0) (.index 0)))).before args s = true := hq _ (by decide +kernel)
  obtain ⟨b, xs, hb, hx⟩ := State.ints_of_pre rfl harr hlen hall
  have hsm : xs.length < 2 ^ 31 := hx.choose_spec.2.2.2
  have hev : (Term.length (.arg 0)).eval args s none [] s = some (.int xs.length.toInt32) := hx.length_eval hb
  have hv := Cond.le_ints hev (show (Term.int 260).eval args s none [] s = some (.int 260) from rfl)
  have hd : xs.length.toInt32 ≤ 260 := by
    simpa [Cond.before, Cond.holds, hv] using hle
  have hN : xs.length ≤ 260 := (Int32.ofNat_le_ofNat hsm (by decide)).mp (show Int32.ofNat xs.length ≤ Int32.ofNat 260 from hd)
  exact ⟨b, xs, Cond.one_arg hc (show args[0]? = some (.ref b) from hb), hx, hN, h⟩
theorem lw_comes (l : Launch) (hflags : l.flags = flags0) : Comes l x (Jvm.Cond.code x code maxLocals ret :: tables_1) room_1 (fun tb e args s => Calls_1 tb e args s ∧ rest_1 tb e args s ∧ Pre_1 tb e args s)
    (fun _ _ args s o t => lw_Q args s o t) := by
  intro p e ha hc hk s m args below hf hfit hheap happ hpre
  obtain ⟨b, xs, hP⟩ := lw_pre_spec hpre.2.2 hpre.2.1
  obtain ⟨k, o, h1, h2, h3, hQ⟩ := lw_walk l hflags b xs p e ha hc hk s m args below hf ((Spec.applies_iff_loose hf).mp happ).1 hP trivial
  exact ⟨k, o, h1, h2, h3, hQ⟩
theorem lw_frame {s t : State} {o : Outcome} {args : Array Value} (h : Framed s o t [] 671858 7086125) :
    Framed s o t (fieldLocs frame_1_writes args s ++ arrayLocs frame_1_arrays args s ++ staticLocs frame_1_statics s) 671858 7086125 := h
theorem lw_limb (L : Cond) (hL : ∀ (args : Array Value) (s t : State), L.after args s (.returned (some (.int 1))) t = true) :
    ArmFor flags0 classFile x code maxLocals ret World_1 tables_1 room_1 Calls_1 rest_1 Pre_1
      (fun tb e a s o t => postC L tb e a s o t ∧ Framed s o t (fieldLocs frame_1_writes a s ++ arrayLocs frame_1_arrays a s ++ staticLocs frame_1_statics s) 671858 7086125) := by
  intro l hflags _ _ p e ha hc hk s m args below hf hfit hheap happ hpre
  obtain ⟨k, o, h1, h2, h3, rfl, hF⟩ := lw_comes l hflags p e ha hc hk s m args below hf hfit hheap happ hpre
  exact ⟨k, _, h1, h2, h3, hL args s _, lw_frame hF⟩
theorem i_vc : Claimed_1_1 ∧ Claimed_1_2 := ⟨lw_limb limb_1_1 (fun args s t => by simp [limb_1_1, Cond.after, Cond.holds, Cond.value]), lw_limb limb_1_2 (fun args s t => Cond.after_iff.mpr (by
  first | (rw [show limb_1_2 = Cond.eq .result (.int 1) from rfl, Cond.eq_ints (x := 1) (y := 1) rfl rfl]; simp; done) | (simp [limb_1_2, Cond.value, Term.eval]; done)))⟩
