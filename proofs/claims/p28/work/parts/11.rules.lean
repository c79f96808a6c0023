theorem r_iconst {G : GT} {l : Launch} {R : Room} {cc : ByteArray} {nL : Nat} {own mn : String} {tb : List ExceptionTableEntry} {J : JT} {X : XT} (C : Cx G l R cc nL own mn tb J X) {pc : Nat} {lv : List (Option Value)} {st : List Value} {S : ST} {A : AB} {k n : Nat} {z : Int} (d : decode cc pc = .ok (.iconst z, 1)) (kk : J (pc + 1) lv (vI z :: st) S A k n) : J pc lv st S A k n := by
  obtain ⟨p, e, s, m, args, below, meth, c, Al, Q, rfl, rfl, hx, hb, hml, hown, hts, hG, hAl, hfl, hmn, htb⟩ := C
  intro H locs ls hl hw hs
  exact lv_iconst hx hb d rfl (kk H locs ls hl hw hs)
theorem r_bipush {G : GT} {l : Launch} {R : Room} {cc : ByteArray} {nL : Nat} {own mn : String} {tb : List ExceptionTableEntry} {J : JT} {X : XT} (C : Cx G l R cc nL own mn tb J X) {pc : Nat} {lv : List (Option Value)} {st : List Value} {S : ST} {A : AB} {k n : Nat} {z : Int} (d : decode cc pc = .ok (.bipush z, 2)) (hz : (Int8.ofInt z).toInt32 = iI z) (kk : J (pc + 2) lv (vI z :: st) S A k n) : J pc lv st S A k n := by
  obtain ⟨p, e, s, m, args, below, meth, c, Al, Q, rfl, rfl, hx, hb, hml, hown, hts, hG, hAl, hfl, hmn, htb⟩ := C
  intro H locs ls hl hw hs
  exact lv_bipush hx hb d hz (kk H locs ls hl hw hs)
theorem r_sipush {G : GT} {l : Launch} {R : Room} {cc : ByteArray} {nL : Nat} {own mn : String} {tb : List ExceptionTableEntry} {J : JT} {X : XT} (C : Cx G l R cc nL own mn tb J X) {pc : Nat} {lv : List (Option Value)} {st : List Value} {S : ST} {A : AB} {k n : Nat} {z : Int} (d : decode cc pc = .ok (.sipush z, 3)) (hz : (Int16.ofInt z).toInt32 = iI z) (kk : J (pc + 3) lv (vI z :: st) S A k n) : J pc lv st S A k n := by
  obtain ⟨p, e, s, m, args, below, meth, c, Al, Q, rfl, rfl, hx, hb, hml, hown, hts, hG, hAl, hfl, hmn, htb⟩ := C
  intro H locs ls hl hw hs
  exact lv_sipush hx hb d hz (kk H locs ls hl hw hs)
theorem r_lconst {G : GT} {l : Launch} {R : Room} {cc : ByteArray} {nL : Nat} {own mn : String} {tb : List ExceptionTableEntry} {J : JT} {X : XT} (C : Cx G l R cc nL own mn tb J X) {pc : Nat} {lv : List (Option Value)} {st : List Value} {S : ST} {A : AB} {k n : Nat} {i : Fin 2} (d : decode cc pc = .ok (.lconst i, 1)) (z : Int) (hz : Int64.ofNat (i : Nat) = lI z) (kk : J (pc + 1) lv (vL z :: st) S A k n) : J pc lv st S A k n := by
  obtain ⟨p, e, s, m, args, below, meth, c, Al, Q, rfl, rfl, hx, hb, hml, hown, hts, hG, hAl, hfl, hmn, htb⟩ := C
  intro H locs ls hl hw hs
  exact lv_lconst hx hb d hz (kk H locs ls hl hw hs)
theorem r_ldc {G : GT} {l : Launch} {R : Room} {cc : ByteArray} {nL : Nat} {own mn : String} {tb : List ExceptionTableEntry} {J : JT} {X : XT} (C : Cx G l R cc nL own mn tb J X) {pc : Nat} {lv : List (Option Value)} {st : List Value} {S : ST} {A : AB} {k n : Nat} {i : Nat} {v : Int32} (d : decode cc pc = .ok (.ldc i, 2)) (hc : Cond.constant own i v ∈ WA) (z : Int) (hz : v = iI z) (kk : J (pc + 2) lv (vI z :: st) S A k n) : J pc lv st S A k n := by
  obtain ⟨p, e, s, m, args, below, meth, c, Al, Q, rfl, rfl, hx, hb, hml, hown, hts, hG, hAl, hfl, hmn, htb⟩ := C
  intro H locs ls hl hw hs
  subst hz
  exact lv_ldc hx hb hown (hts _ hc) d (kk H locs ls hl hw hs)
theorem r_ldc2 {G : GT} {l : Launch} {R : Room} {cc : ByteArray} {nL : Nat} {own mn : String} {tb : List ExceptionTableEntry} {J : JT} {X : XT} (C : Cx G l R cc nL own mn tb J X) {pc : Nat} {lv : List (Option Value)} {st : List Value} {S : ST} {A : AB} {k n : Nat} {i : Nat} {v : Int64} (d : decode cc pc = .ok (.ldc2_w i, 3)) (hc : Cond.constantLong own i v ∈ WA) (z : Int) (hz : v = lI z) (kk : J (pc + 3) lv (vL z :: st) S A k n) : J pc lv st S A k n := by
  obtain ⟨p, e, s, m, args, below, meth, c, Al, Q, rfl, rfl, hx, hb, hml, hown, hts, hG, hAl, hfl, hmn, htb⟩ := C
  intro H locs ls hl hw hs
  subst hz
  exact lv_ldc2 hx hb hown (hts _ hc) d (kk H locs ls hl hw hs)
theorem r_null {G : GT} {l : Launch} {R : Room} {cc : ByteArray} {nL : Nat} {own mn : String} {tb : List ExceptionTableEntry} {J : JT} {X : XT} (C : Cx G l R cc nL own mn tb J X) {pc : Nat} {lv : List (Option Value)} {st : List Value} {S : ST} {A : AB} {k n : Nat} (kd : Nat) (d : decode cc pc = .ok (.aconst_null, 1)) (kk : J (pc + 1) lv (vR A kd (-1) :: st) S A k n) : J pc lv st S A k n := by
  obtain ⟨p, e, s, m, args, below, meth, c, Al, Q, rfl, rfl, hx, hb, hml, hown, hts, hG, hAl, hfl, hmn, htb⟩ := C
  intro H locs ls hl hw hs
  exact lv_null hx hb d (kk H locs ls hl hw hs)
theorem r_iload_n {G : GT} {l : Launch} {R : Room} {cc : ByteArray} {nL : Nat} {own mn : String} {tb : List ExceptionTableEntry} {J : JT} {X : XT} (C : Cx G l R cc nL own mn tb J X) {pc : Nat} {lv : List (Option Value)} {st : List Value} {S : ST} {A : AB} {k n : Nat} {i : Fin 4} {z : Int} (d : decode cc pc = .ok (.iload_n i, 1)) (h : lv[(i : Nat)]? = some (some (vI z))) (kk : J (pc + 1) lv (vI z :: st) S A k n) : J pc lv st S A k n := by
  obtain ⟨p, e, s, m, args, below, meth, c, Al, Q, rfl, rfl, hx, hb, hml, hown, hts, hG, hAl, hfl, hmn, htb⟩ := C
  intro H locs ls hl hw hs
  exact lv_iload_n hx hb d rfl (hl.2.2.2 _ _ h) (kk H locs ls hl hw hs)
theorem r_iload {G : GT} {l : Launch} {R : Room} {cc : ByteArray} {nL : Nat} {own mn : String} {tb : List ExceptionTableEntry} {J : JT} {X : XT} (C : Cx G l R cc nL own mn tb J X) {pc : Nat} {lv : List (Option Value)} {st : List Value} {S : ST} {A : AB} {k n : Nat} {i : Nat} {z : Int} (d : decode cc pc = .ok (.iload i, 2)) (h : lv[i]? = some (some (vI z))) (kk : J (pc + 2) lv (vI z :: st) S A k n) : J pc lv st S A k n := by
  obtain ⟨p, e, s, m, args, below, meth, c, Al, Q, rfl, rfl, hx, hb, hml, hown, hts, hG, hAl, hfl, hmn, htb⟩ := C
  intro H locs ls hl hw hs
  exact lv_iload hx hb d (hl.2.2.2 _ _ h) (kk H locs ls hl hw hs)
theorem r_lload_n {G : GT} {l : Launch} {R : Room} {cc : ByteArray} {nL : Nat} {own mn : String} {tb : List ExceptionTableEntry} {J : JT} {X : XT} (C : Cx G l R cc nL own mn tb J X) {pc : Nat} {lv : List (Option Value)} {st : List Value} {S : ST} {A : AB} {k n : Nat} {i : Fin 4} {z : Int} (d : decode cc pc = .ok (.lload_n i, 1)) (h : lv[(i : Nat)]? = some (some (vL z))) (kk : J (pc + 1) lv (vL z :: st) S A k n) : J pc lv st S A k n := by
  obtain ⟨p, e, s, m, args, below, meth, c, Al, Q, rfl, rfl, hx, hb, hml, hown, hts, hG, hAl, hfl, hmn, htb⟩ := C
  intro H locs ls hl hw hs
  exact lv_lload_n hx hb d rfl (hl.2.2.2 _ _ h) (kk H locs ls hl hw hs)
theorem r_lload {G : GT} {l : Launch} {R : Room} {cc : ByteArray} {nL : Nat} {own mn : String} {tb : List ExceptionTableEntry} {J : JT} {X : XT} (C : Cx G l R cc nL own mn tb J X) {pc : Nat} {lv : List (Option Value)} {st : List Value} {S : ST} {A : AB} {k n : Nat} {i : Nat} {z : Int} (d : decode cc pc = .ok (.lload i, 2)) (h : lv[i]? = some (some (vL z))) (kk : J (pc + 2) lv (vL z :: st) S A k n) : J pc lv st S A k n := by
  obtain ⟨p, e, s, m, args, below, meth, c, Al, Q, rfl, rfl, hx, hb, hml, hown, hts, hG, hAl, hfl, hmn, htb⟩ := C
  intro H locs ls hl hw hs
  exact lv_lload hx hb d (hl.2.2.2 _ _ h) (kk H locs ls hl hw hs)
theorem r_aload_n {G : GT} {l : Launch} {R : Room} {cc : ByteArray} {nL : Nat} {own mn : String} {tb : List ExceptionTableEntry} {J : JT} {X : XT} (C : Cx G l R cc nL own mn tb J X) {pc : Nat} {lv : List (Option Value)} {st : List Value} {S : ST} {A : AB} {k n : Nat} {i : Fin 4} {kd : Nat} {z : Int} (d : decode cc pc = .ok (.aload_n i, 1)) (h : lv[(i : Nat)]? = some (some (vR A kd z))) (kk : J (pc + 1) lv (vR A kd z :: st) S A k n) : J pc lv st S A k n := by
  obtain ⟨p, e, s, m, args, below, meth, c, Al, Q, rfl, rfl, hx, hb, hml, hown, hts, hG, hAl, hfl, hmn, htb⟩ := C
  intro H locs ls hl hw hs
  rcases h9 : rfo A kd z with _ | a
  · have e : vR A kd z = .null := by unfold vR; rw [h9]; rfl
    rw [e] at h kk
    exact lv_aload_nN hx hb d rfl (hl.2.2.2 _ _ h) (kk H locs ls hl hw hs)
  · have e : vR A kd z = .ref a := by unfold vR; rw [h9]; rfl
    rw [e] at h kk
    exact lv_aload_n hx hb d rfl (hl.2.2.2 _ _ h) (kk H locs ls hl hw hs)
theorem r_aload {G : GT} {l : Launch} {R : Room} {cc : ByteArray} {nL : Nat} {own mn : String} {tb : List ExceptionTableEntry} {J : JT} {X : XT} (C : Cx G l R cc nL own mn tb J X) {pc : Nat} {lv : List (Option Value)} {st : List Value} {S : ST} {A : AB} {k n : Nat} {i : Nat} {kd : Nat} {z : Int} (d : decode cc pc = .ok (.aload i, 2)) (h : lv[i]? = some (some (vR A kd z))) (kk : J (pc + 2) lv (vR A kd z :: st) S A k n) : J pc lv st S A k n := by
  obtain ⟨p, e, s, m, args, below, meth, c, Al, Q, rfl, rfl, hx, hb, hml, hown, hts, hG, hAl, hfl, hmn, htb⟩ := C
  intro H locs ls hl hw hs
  rcases h9 : rfo A kd z with _ | a
  · have e : vR A kd z = .null := by unfold vR; rw [h9]; rfl
    rw [e] at h kk
    exact lv_aloadN hx hb d (hl.2.2.2 _ _ h) (kk H locs ls hl hw hs)
  · have e : vR A kd z = .ref a := by unfold vR; rw [h9]; rfl
    rw [e] at h kk
    exact lv_aload hx hb d (hl.2.2.2 _ _ h) (kk H locs ls hl hw hs)
theorem r_aloadq_n {G : GT} {l : Launch} {R : Room} {cc : ByteArray} {nL : Nat} {own mn : String} {tb : List ExceptionTableEntry} {J : JT} {X : XT} (C : Cx G l R cc nL own mn tb J X) {pc : Nat} {lv : List (Option Value)} {st : List Value} {S : ST} {A : AB} {k n : Nat} {i : Fin 4} {q : Nat} (d : decode cc pc = .ok (.aload_n i, 1)) (h : lv[(i : Nat)]? = some (some (.ref q))) (kk : J (pc + 1) lv (.ref q :: st) S A k n) : J pc lv st S A k n := by
  obtain ⟨p, e, s, m, args, below, meth, c, Al, Q, rfl, rfl, hx, hb, hml, hown, hts, hG, hAl, hfl, hmn, htb⟩ := C
  intro H locs ls hl hw hs
  exact lv_aload_n hx hb d rfl (hl.2.2.2 _ _ h) (kk H locs ls hl hw hs)
theorem r_aloadq {G : GT} {l : Launch} {R : Room} {cc : ByteArray} {nL : Nat} {own mn : String} {tb : List ExceptionTableEntry} {J : JT} {X : XT} (C : Cx G l R cc nL own mn tb J X) {pc : Nat} {lv : List (Option Value)} {st : List Value} {S : ST} {A : AB} {k n : Nat} {i : Nat} {q : Nat} (d : decode cc pc = .ok (.aload i, 2)) (h : lv[i]? = some (some (.ref q))) (kk : J (pc + 2) lv (.ref q :: st) S A k n) : J pc lv st S A k n := by
  obtain ⟨p, e, s, m, args, below, meth, c, Al, Q, rfl, rfl, hx, hb, hml, hown, hts, hG, hAl, hfl, hmn, htb⟩ := C
  intro H locs ls hl hw hs
  exact lv_aload hx hb d (hl.2.2.2 _ _ h) (kk H locs ls hl hw hs)
theorem WstI_n {p : Program} {l : Launch} {e : Env} {R : Room} {s : State} {m : MethodId} {args : Array Value} {below : List Frame} {meth : Method} {c : Code} {H : Heap} {locs : List Loc} {cells slots : Nat} {Q : State → Prop} {cc : ByteArray} {pc : Nat} {ls ls' : Array Slot} {rest : List Value} (hexec : p.tables.exec = Jvm.exec) (hb : c.code = cc) {i : Fin 4} {x : Int32} (hdg : decode cc pc = .ok (.istore_n i, 1)) (he : storeLocals ls (i : Nat) (.int x) = some ls') (kk : W p l e R s m args below meth c H locs cells slots Q (F0 m (pc + 1) ls' rest)) : W p l e R s m args below meth c H locs cells slots Q (F0 m pc ls (.int x :: rest)) := by
  intro T hT X
  obtain ⟨t, a, b⟩ := kk T hT X
  refine ⟨t, ?_, b⟩
  jvm_step X.here [X.here.top, ↓top_set X.here.top, hexec, hb, hdg, he]
  first | exact a | exact ⟨rfl, a⟩
theorem WstI {p : Program} {l : Launch} {e : Env} {R : Room} {s : State} {m : MethodId} {args : Array Value} {below : List Frame} {meth : Method} {c : Code} {H : Heap} {locs : List Loc} {cells slots : Nat} {Q : State → Prop} {cc : ByteArray} {pc : Nat} {ls ls' : Array Slot} {rest : List Value} (hexec : p.tables.exec = Jvm.exec) (hb : c.code = cc) {i : Nat} {x : Int32} (hdg : decode cc pc = .ok (.istore i, 2)) (he : storeLocals ls i (.int x) = some ls') (kk : W p l e R s m args below meth c H locs cells slots Q (F0 m (pc + 2) ls' rest)) : W p l e R s m args below meth c H locs cells slots Q (F0 m pc ls (.int x :: rest)) := by
  intro T hT X
  obtain ⟨t, a, b⟩ := kk T hT X
  refine ⟨t, ?_, b⟩
  jvm_step X.here [X.here.top, ↓top_set X.here.top, hexec, hb, hdg, he]
  first | exact a | exact ⟨rfl, a⟩
theorem WstL_n {p : Program} {l : Launch} {e : Env} {R : Room} {s : State} {m : MethodId} {args : Array Value} {below : List Frame} {meth : Method} {c : Code} {H : Heap} {locs : List Loc} {cells slots : Nat} {Q : State → Prop} {cc : ByteArray} {pc : Nat} {ls ls' : Array Slot} {rest : List Value} (hexec : p.tables.exec = Jvm.exec) (hb : c.code = cc) {i : Fin 4} {x : Int64} (hdg : decode cc pc = .ok (.lstore_n i, 1)) (he : storeLocals ls (i : Nat) (.long x) = some ls') (kk : W p l e R s m args below meth c H locs cells slots Q (F0 m (pc + 1) ls' rest)) : W p l e R s m args below meth c H locs cells slots Q (F0 m pc ls (.long x :: rest)) := by
  intro T hT X
  obtain ⟨t, a, b⟩ := kk T hT X
  refine ⟨t, ?_, b⟩
  jvm_step X.here [X.here.top, ↓top_set X.here.top, hexec, hb, hdg, he]
  first | exact a | exact ⟨rfl, a⟩
theorem WstL {p : Program} {l : Launch} {e : Env} {R : Room} {s : State} {m : MethodId} {args : Array Value} {below : List Frame} {meth : Method} {c : Code} {H : Heap} {locs : List Loc} {cells slots : Nat} {Q : State → Prop} {cc : ByteArray} {pc : Nat} {ls ls' : Array Slot} {rest : List Value} (hexec : p.tables.exec = Jvm.exec) (hb : c.code = cc) {i : Nat} {x : Int64} (hdg : decode cc pc = .ok (.lstore i, 2)) (he : storeLocals ls i (.long x) = some ls') (kk : W p l e R s m args below meth c H locs cells slots Q (F0 m (pc + 2) ls' rest)) : W p l e R s m args below meth c H locs cells slots Q (F0 m pc ls (.long x :: rest)) := by
  intro T hT X
  obtain ⟨t, a, b⟩ := kk T hT X
  refine ⟨t, ?_, b⟩
  jvm_step X.here [X.here.top, ↓top_set X.here.top, hexec, hb, hdg, he]
  first | exact a | exact ⟨rfl, a⟩
theorem WstA_n {p : Program} {l : Launch} {e : Env} {R : Room} {s : State} {m : MethodId} {args : Array Value} {below : List Frame} {meth : Method} {c : Code} {H : Heap} {locs : List Loc} {cells slots : Nat} {Q : State → Prop} {cc : ByteArray} {pc : Nat} {ls ls' : Array Slot} {rest : List Value} (hexec : p.tables.exec = Jvm.exec) (hb : c.code = cc) {i : Fin 4} {x : Nat} (hdg : decode cc pc = .ok (.astore_n i, 1)) (he : storeLocals ls (i : Nat) (.ref x) = some ls') (kk : W p l e R s m args below meth c H locs cells slots Q (F0 m (pc + 1) ls' rest)) : W p l e R s m args below meth c H locs cells slots Q (F0 m pc ls (.ref x :: rest)) := by
  intro T hT X
  obtain ⟨t, a, b⟩ := kk T hT X
  refine ⟨t, ?_, b⟩
  jvm_step X.here [X.here.top, ↓top_set X.here.top, hexec, hb, hdg, he]
  first | exact a | exact ⟨rfl, a⟩
theorem WstA {p : Program} {l : Launch} {e : Env} {R : Room} {s : State} {m : MethodId} {args : Array Value} {below : List Frame} {meth : Method} {c : Code} {H : Heap} {locs : List Loc} {cells slots : Nat} {Q : State → Prop} {cc : ByteArray} {pc : Nat} {ls ls' : Array Slot} {rest : List Value} (hexec : p.tables.exec = Jvm.exec) (hb : c.code = cc) {i : Nat} {x : Nat} (hdg : decode cc pc = .ok (.astore i, 2)) (he : storeLocals ls i (.ref x) = some ls') (kk : W p l e R s m args below meth c H locs cells slots Q (F0 m (pc + 2) ls' rest)) : W p l e R s m args below meth c H locs cells slots Q (F0 m pc ls (.ref x :: rest)) := by
  intro T hT X
  obtain ⟨t, a, b⟩ := kk T hT X
  refine ⟨t, ?_, b⟩
  jvm_step X.here [X.here.top, ↓top_set X.here.top, hexec, hb, hdg, he]
  first | exact a | exact ⟨rfl, a⟩
theorem WstN_n {p : Program} {l : Launch} {e : Env} {R : Room} {s : State} {m : MethodId} {args : Array Value} {below : List Frame} {meth : Method} {c : Code} {H : Heap} {locs : List Loc} {cells slots : Nat} {Q : State → Prop} {cc : ByteArray} {pc : Nat} {ls ls' : Array Slot} {rest : List Value} (hexec : p.tables.exec = Jvm.exec) (hb : c.code = cc) {i : Fin 4}  (hdg : decode cc pc = .ok (.astore_n i, 1)) (he : storeLocals ls (i : Nat) (.null) = some ls') (kk : W p l e R s m args below meth c H locs cells slots Q (F0 m (pc + 1) ls' rest)) : W p l e R s m args below meth c H locs cells slots Q (F0 m pc ls (.null :: rest)) := by
  intro T hT X
  obtain ⟨t, a, b⟩ := kk T hT X
  refine ⟨t, ?_, b⟩
  jvm_step X.here [X.here.top, ↓top_set X.here.top, hexec, hb, hdg, he]
  first | exact a | exact ⟨rfl, a⟩
theorem WstN {p : Program} {l : Launch} {e : Env} {R : Room} {s : State} {m : MethodId} {args : Array Value} {below : List Frame} {meth : Method} {c : Code} {H : Heap} {locs : List Loc} {cells slots : Nat} {Q : State → Prop} {cc : ByteArray} {pc : Nat} {ls ls' : Array Slot} {rest : List Value} (hexec : p.tables.exec = Jvm.exec) (hb : c.code = cc) {i : Nat}  (hdg : decode cc pc = .ok (.astore i, 2)) (he : storeLocals ls i (.null) = some ls') (kk : W p l e R s m args below meth c H locs cells slots Q (F0 m (pc + 2) ls' rest)) : W p l e R s m args below meth c H locs cells slots Q (F0 m pc ls (.null :: rest)) := by
  intro T hT X
  obtain ⟨t, a, b⟩ := kk T hT X
  refine ⟨t, ?_, b⟩
  jvm_step X.here [X.here.top, ↓top_set X.here.top, hexec, hb, hdg, he]
  first | exact a | exact ⟨rfl, a⟩
theorem r_istore_n {G : GT} {l : Launch} {R : Room} {cc : ByteArray} {nL : Nat} {own mn : String} {tb : List ExceptionTableEntry} {J : JT} {X : XT} (C : Cx G l R cc nL own mn tb J X) {pc : Nat} {lv : List (Option Value)} {st : List Value} {S : ST} {A : AB} {k n : Nat} {i : Fin 4} {z : Int} {lv' : List (Option Value)} (d : decode cc pc = .ok (.istore_n i, 1)) (h : LSt lv (i : Nat) (vI z) lv') (kk : J (pc + 1) lv' st S A k n) : J pc lv (vI z :: st) S A k n := by
  obtain ⟨p, e, s, m, args, below, meth, c, Al, Q, rfl, rfl, hx, hb, hml, hown, hts, hG, hAl, hfl, hmn, htb⟩ := C
  intro H locs ls hl hw hs
  obtain ⟨ls', he, hl'⟩ := h ls nL hl
  exact WstI_n hx hb d he (kk H locs ls' hl' hw hs)
theorem r_istore {G : GT} {l : Launch} {R : Room} {cc : ByteArray} {nL : Nat} {own mn : String} {tb : List ExceptionTableEntry} {J : JT} {X : XT} (C : Cx G l R cc nL own mn tb J X) {pc : Nat} {lv : List (Option Value)} {st : List Value} {S : ST} {A : AB} {k n : Nat} {i : Nat} {z : Int} {lv' : List (Option Value)} (d : decode cc pc = .ok (.istore i, 2)) (h : LSt lv i (vI z) lv') (kk : J (pc + 2) lv' st S A k n) : J pc lv (vI z :: st) S A k n := by
  obtain ⟨p, e, s, m, args, below, meth, c, Al, Q, rfl, rfl, hx, hb, hml, hown, hts, hG, hAl, hfl, hmn, htb⟩ := C
  intro H locs ls hl hw hs
  obtain ⟨ls', he, hl'⟩ := h ls nL hl
  exact WstI hx hb d he (kk H locs ls' hl' hw hs)
theorem r_lstore_n {G : GT} {l : Launch} {R : Room} {cc : ByteArray} {nL : Nat} {own mn : String} {tb : List ExceptionTableEntry} {J : JT} {X : XT} (C : Cx G l R cc nL own mn tb J X) {pc : Nat} {lv : List (Option Value)} {st : List Value} {S : ST} {A : AB} {k n : Nat} {i : Fin 4} {z : Int} {lv' : List (Option Value)} (d : decode cc pc = .ok (.lstore_n i, 1)) (h : LSt lv (i : Nat) (vL z) lv') (kk : J (pc + 1) lv' st S A k n) : J pc lv (vL z :: st) S A k n := by
  obtain ⟨p, e, s, m, args, below, meth, c, Al, Q, rfl, rfl, hx, hb, hml, hown, hts, hG, hAl, hfl, hmn, htb⟩ := C
  intro H locs ls hl hw hs
  obtain ⟨ls', he, hl'⟩ := h ls nL hl
  exact WstL_n hx hb d he (kk H locs ls' hl' hw hs)
theorem r_lstore {G : GT} {l : Launch} {R : Room} {cc : ByteArray} {nL : Nat} {own mn : String} {tb : List ExceptionTableEntry} {J : JT} {X : XT} (C : Cx G l R cc nL own mn tb J X) {pc : Nat} {lv : List (Option Value)} {st : List Value} {S : ST} {A : AB} {k n : Nat} {i : Nat} {z : Int} {lv' : List (Option Value)} (d : decode cc pc = .ok (.lstore i, 2)) (h : LSt lv i (vL z) lv') (kk : J (pc + 2) lv' st S A k n) : J pc lv (vL z :: st) S A k n := by
  obtain ⟨p, e, s, m, args, below, meth, c, Al, Q, rfl, rfl, hx, hb, hml, hown, hts, hG, hAl, hfl, hmn, htb⟩ := C
  intro H locs ls hl hw hs
  obtain ⟨ls', he, hl'⟩ := h ls nL hl
  exact WstL hx hb d he (kk H locs ls' hl' hw hs)
theorem r_astore_n {G : GT} {l : Launch} {R : Room} {cc : ByteArray} {nL : Nat} {own mn : String} {tb : List ExceptionTableEntry} {J : JT} {X : XT} (C : Cx G l R cc nL own mn tb J X) {pc : Nat} {lv : List (Option Value)} {st : List Value} {S : ST} {A : AB} {k n : Nat} {i : Fin 4} {kd : Nat} {z : Int} {lv' : List (Option Value)} (d : decode cc pc = .ok (.astore_n i, 1)) (h : LSt lv (i : Nat) (vR A kd z) lv') (kk : J (pc + 1) lv' st S A k n) : J pc lv (vR A kd z :: st) S A k n := by
  obtain ⟨p, e, s, m, args, below, meth, c, Al, Q, rfl, rfl, hx, hb, hml, hown, hts, hG, hAl, hfl, hmn, htb⟩ := C
  intro H locs ls hl hw hs
  obtain ⟨ls', he, hl'⟩ := h ls nL hl
  rcases h9 : rfo A kd z with _ | a
  · have e : vR A kd z = .null := by unfold vR; rw [h9]; rfl
    rw [e] at he ⊢
    exact WstN_n hx hb d he (kk H locs ls' hl' hw hs)
  · have e : vR A kd z = .ref a := by unfold vR; rw [h9]; rfl
    rw [e] at he ⊢
    exact WstA_n hx hb d he (kk H locs ls' hl' hw hs)
theorem r_astore {G : GT} {l : Launch} {R : Room} {cc : ByteArray} {nL : Nat} {own mn : String} {tb : List ExceptionTableEntry} {J : JT} {X : XT} (C : Cx G l R cc nL own mn tb J X) {pc : Nat} {lv : List (Option Value)} {st : List Value} {S : ST} {A : AB} {k n : Nat} {i : Nat} {kd : Nat} {z : Int} {lv' : List (Option Value)} (d : decode cc pc = .ok (.astore i, 2)) (h : LSt lv i (vR A kd z) lv') (kk : J (pc + 2) lv' st S A k n) : J pc lv (vR A kd z :: st) S A k n := by
  obtain ⟨p, e, s, m, args, below, meth, c, Al, Q, rfl, rfl, hx, hb, hml, hown, hts, hG, hAl, hfl, hmn, htb⟩ := C
  intro H locs ls hl hw hs
  obtain ⟨ls', he, hl'⟩ := h ls nL hl
  rcases h9 : rfo A kd z with _ | a
  · have e : vR A kd z = .null := by unfold vR; rw [h9]; rfl
    rw [e] at he ⊢
    exact WstN hx hb d he (kk H locs ls' hl' hw hs)
  · have e : vR A kd z = .ref a := by unfold vR; rw [h9]; rfl
    rw [e] at he ⊢
    exact WstA hx hb d he (kk H locs ls' hl' hw hs)
theorem r_astoreq_n {G : GT} {l : Launch} {R : Room} {cc : ByteArray} {nL : Nat} {own mn : String} {tb : List ExceptionTableEntry} {J : JT} {X : XT} (C : Cx G l R cc nL own mn tb J X) {pc : Nat} {lv : List (Option Value)} {st : List Value} {S : ST} {A : AB} {k n : Nat} {i : Fin 4} {q : Nat} {lv' : List (Option Value)} (d : decode cc pc = .ok (.astore_n i, 1)) (h : LSt lv (i : Nat) (.ref q) lv') (kk : J (pc + 1) lv' st S A k n) : J pc lv (.ref q :: st) S A k n := by
  obtain ⟨p, e, s, m, args, below, meth, c, Al, Q, rfl, rfl, hx, hb, hml, hown, hts, hG, hAl, hfl, hmn, htb⟩ := C
  intro H locs ls hl hw hs
  obtain ⟨ls', he, hl'⟩ := h ls nL hl
  exact WstA_n hx hb d he (kk H locs ls' hl' hw hs)
theorem r_astoreq {G : GT} {l : Launch} {R : Room} {cc : ByteArray} {nL : Nat} {own mn : String} {tb : List ExceptionTableEntry} {J : JT} {X : XT} (C : Cx G l R cc nL own mn tb J X) {pc : Nat} {lv : List (Option Value)} {st : List Value} {S : ST} {A : AB} {k n : Nat} {i : Nat} {q : Nat} {lv' : List (Option Value)} (d : decode cc pc = .ok (.astore i, 2)) (h : LSt lv i (.ref q) lv') (kk : J (pc + 2) lv' st S A k n) : J pc lv (.ref q :: st) S A k n := by
  obtain ⟨p, e, s, m, args, below, meth, c, Al, Q, rfl, rfl, hx, hb, hml, hown, hts, hG, hAl, hfl, hmn, htb⟩ := C
  intro H locs ls hl hw hs
  obtain ⟨ls', he, hl'⟩ := h ls nL hl
  exact WstA hx hb d he (kk H locs ls' hl' hw hs)
theorem Wiinc {p : Program} {l : Launch} {e : Env} {R : Room} {s : State} {m : MethodId} {args : Array Value} {below : List Frame} {meth : Method} {c : Code} {H : Heap} {locs : List Loc} {cells slots : Nat} {Q : State → Prop} {cc : ByteArray} {pc : Nat} {ls ls' : Array Slot} {rest : List Value} (hexec : p.tables.exec = Jvm.exec) (hb : c.code = cc) {i : Nat} {x : Int32} {d : Int} (hdg : decode cc pc = .ok (.iinc i d, 3)) (hg : ls[i]? = some (.val (.int x))) (he : storeLocals ls i (.int (x + Int32.ofInt d)) = some ls') (kk : W p l e R s m args below meth c H locs cells slots Q (F0 m (pc + 3) ls' rest)) : W p l e R s m args below meth c H locs cells slots Q (F0 m pc ls rest) := by
  intro T hT X
  obtain ⟨t, a, b⟩ := kk T hT X
  refine ⟨t, ?_, b⟩
  jvm_step X.here [X.here.top, ↓top_set X.here.top, hexec, hb, hdg, hg, he]
  exact a
theorem r_iinc {G : GT} {l : Launch} {R : Room} {cc : ByteArray} {nL : Nat} {own mn : String} {tb : List ExceptionTableEntry} {J : JT} {X : XT} (C : Cx G l R cc nL own mn tb J X) {pc : Nat} {lv : List (Option Value)} {st : List Value} {S : ST} {A : AB} {k n : Nat} {i : Nat} {z dz : Int} {lv' : List (Option Value)} (d : decode cc pc = .ok (.iinc i dz, 3)) (h : lv[i]? = some (some (vI z))) (h' : LSt lv i (vI (z + dz)) lv') (kk : J (pc + 3) lv' st S A k n) : J pc lv st S A k n := by
  obtain ⟨p, e, s, m, args, below, meth, c, Al, Q, rfl, rfl, hx, hb, hml, hown, hts, hG, hAl, hfl, hmn, htb⟩ := C
  intro H locs ls hl hw hs
  obtain ⟨ls', he, hl'⟩ := h' ls nL hl
  exact Wiinc hx hb d (hl.2.2.2 _ _ h) (by rw [show iI z + Int32.ofInt dz = iI (z + dz) from iI_add z dz]; exact he) (kk H locs ls' hl' hw hs)
def lle : List (Option Value) → List (Option Value) → Prop
  | [], [] => True
  | a :: t, b :: u => (b = none ∨ b = a) ∧ lle t u
  | _, _ => False
theorem lle_len : ∀ (a b : List (Option Value)), lle a b → a.length = b.length
  | [], [], _ => rfl
  | [], _ :: _, h => by cases h
  | _ :: _, [], h => by cases h
  | _ :: t, _ :: u, h => by rw [List.length_cons, List.length_cons, lle_len t u h.2]
theorem lle_at : ∀ (a b : List (Option Value)), lle a b → ∀ (i : Nat) (v : Value), b[i]? = some (some v) → a[i]? = some (some v)
  | [], [], _, i, v, h => by cases h
  | [], _ :: _, h, _, _, _ => by cases h
  | _ :: _, [], h, _, _, _ => by cases h
  | x :: t, y :: u, h, i, v, hi => by
    cases i with
    | zero =>
      rcases h.1 with e | e
      · rw [e] at hi; cases hi
      · rw [e] at hi; exact hi
    | succ i => exact lle_at t u h.2 i v hi
theorem LH.le {ls : Array Slot} {nL : Nat} {a b : List (Option Value)} (h : LH ls nL a) (hab : lle a b) : LH ls nL b := ⟨h.1, h.2.1, (lle_len a b hab).symm.trans h.2.2.1, fun i v hi => h.2.2.2 i v (lle_at a b hab i v hi)⟩
theorem lle_0 : lle [] [] := trivial
theorem lle_k {o : Option Value} {t u : List (Option Value)} (h : lle t u) : lle (o :: t) (o :: u) := ⟨Or.inr rfl, h⟩
theorem lle_f {o : Option Value} {t u : List (Option Value)} (h : lle t u) : lle (o :: t) (none :: u) := ⟨Or.inl rfl, h⟩
theorem lle_r : ∀ (a : List (Option Value)), lle a a
  | [] => trivial
  | _ :: t => ⟨Or.inr rfl, lle_r t⟩
theorem r_le {G : GT} {l : Launch} {R : Room} {cc : ByteArray} {nL : Nat} {own mn : String} {tb : List ExceptionTableEntry} {J : JT} {X : XT} (C : Cx G l R cc nL own mn tb J X) {pc : Nat} {lv : List (Option Value)} {st : List Value} {S : ST} {A : AB} {k n : Nat} {lv' : List (Option Value)} (h : lle lv lv') (kk : J pc lv' st S A k n) : J pc lv st S A k n := by
  obtain ⟨p, e, s, m, args, below, meth, c, Al, Q, rfl, rfl, hx, hb, hml, hown, hts, hG, hAl, hfl, hmn, htb⟩ := C
  intro H locs ls hl hw hs
  exact kk H locs ls (hl.le h) hw hs
theorem r_wide {G : GT} {l : Launch} {R : Room} {cc : ByteArray} {nL : Nat} {own mn : String} {tb : List ExceptionTableEntry} {J : JT} {X : XT} (C : Cx G l R cc nL own mn tb J X) {pc : Nat} {lv : List (Option Value)} {st : List Value} {S : ST} {A : AB} {k n : Nat} {k' n' : Nat} (h1 : k ≤ k') (h2 : n ≤ n') (kk : J pc lv st S A k' n') : J pc lv st S A k n := by
  obtain ⟨p, e, s, m, args, below, meth, c, Al, Q, rfl, rfl, hx, hb, hml, hown, hts, hG, hAl, hfl, hmn, htb⟩ := C
  intro H locs ls hl hw hs
  exact W.widen h1 h2 (kk H locs ls hl hw hs)
theorem r_wt {G : GT} {l : Launch} {R : Room} {cc : ByteArray} {nL : Nat} {own mn : String} {tb : List ExceptionTableEntry} {J : JT} {X : XT} (C : Cx G l R cc nL own mn tb J X) {pc : Nat} {lv : List (Option Value)} {st : List Value} {S : ST} {A : AB} {k n : Nat} (kk : WT S A → AI A → J pc lv st S A k n) : J pc lv st S A k n := by
  obtain ⟨p, e, s, m, args, below, meth, c, Al, Q, rfl, rfl, hx, hb, hml, hown, hts, hG, hAl, hfl, hmn, htb⟩ := C
  intro H locs ls hl hw hs
  exact kk hw.wt.1 hw.wt.2 H locs ls hl hw hs
theorem r_iadd {G : GT} {l : Launch} {R : Room} {cc : ByteArray} {nL : Nat} {own mn : String} {tb : List ExceptionTableEntry} {J : JT} {X : XT} (C : Cx G l R cc nL own mn tb J X) {pc : Nat} {lv : List (Option Value)} {st : List Value} {S : ST} {A : AB} {k n : Nat} {x y : Int} (d : decode cc pc = .ok (.iadd, 1)) (kk : J (pc + 1) lv (vI (x + y) :: st) S A k n) : J pc lv (vI y :: vI x :: st) S A k n := by
  obtain ⟨p, e, s, m, args, below, meth, c, Al, Q, rfl, rfl, hx, hb, hml, hown, hts, hG, hAl, hfl, hmn, htb⟩ := C
  intro H locs ls hl hw hs
  refine lv_iadd hx hb d ?_
  rw [iI_add]
  exact kk H locs ls hl hw hs
theorem r_isub {G : GT} {l : Launch} {R : Room} {cc : ByteArray} {nL : Nat} {own mn : String} {tb : List ExceptionTableEntry} {J : JT} {X : XT} (C : Cx G l R cc nL own mn tb J X) {pc : Nat} {lv : List (Option Value)} {st : List Value} {S : ST} {A : AB} {k n : Nat} {x y : Int} (d : decode cc pc = .ok (.isub, 1)) (kk : J (pc + 1) lv (vI (x - y) :: st) S A k n) : J pc lv (vI y :: vI x :: st) S A k n := by
  obtain ⟨p, e, s, m, args, below, meth, c, Al, Q, rfl, rfl, hx, hb, hml, hown, hts, hG, hAl, hfl, hmn, htb⟩ := C
  intro H locs ls hl hw hs
  refine lv_isub hx hb d ?_
  rw [iI_sub]
  exact kk H locs ls hl hw hs
theorem r_imul {G : GT} {l : Launch} {R : Room} {cc : ByteArray} {nL : Nat} {own mn : String} {tb : List ExceptionTableEntry} {J : JT} {X : XT} (C : Cx G l R cc nL own mn tb J X) {pc : Nat} {lv : List (Option Value)} {st : List Value} {S : ST} {A : AB} {k n : Nat} {x y : Int} (d : decode cc pc = .ok (.imul, 1)) (kk : J (pc + 1) lv (vI (x * y) :: st) S A k n) : J pc lv (vI y :: vI x :: st) S A k n := by
  obtain ⟨p, e, s, m, args, below, meth, c, Al, Q, rfl, rfl, hx, hb, hml, hown, hts, hG, hAl, hfl, hmn, htb⟩ := C
  intro H locs ls hl hw hs
  refine lv_imul hx hb d ?_
  rw [iI_mul]
  exact kk H locs ls hl hw hs
theorem r_ladd {G : GT} {l : Launch} {R : Room} {cc : ByteArray} {nL : Nat} {own mn : String} {tb : List ExceptionTableEntry} {J : JT} {X : XT} (C : Cx G l R cc nL own mn tb J X) {pc : Nat} {lv : List (Option Value)} {st : List Value} {S : ST} {A : AB} {k n : Nat} {x y : Int} (d : decode cc pc = .ok (.ladd, 1)) (kk : J (pc + 1) lv (vL (x + y) :: st) S A k n) : J pc lv (vL y :: vL x :: st) S A k n := by
  obtain ⟨p, e, s, m, args, below, meth, c, Al, Q, rfl, rfl, hx, hb, hml, hown, hts, hG, hAl, hfl, hmn, htb⟩ := C
  intro H locs ls hl hw hs
  refine lv_ladd hx hb d ?_
  rw [lI_add]
  exact kk H locs ls hl hw hs
theorem r_lsub {G : GT} {l : Launch} {R : Room} {cc : ByteArray} {nL : Nat} {own mn : String} {tb : List ExceptionTableEntry} {J : JT} {X : XT} (C : Cx G l R cc nL own mn tb J X) {pc : Nat} {lv : List (Option Value)} {st : List Value} {S : ST} {A : AB} {k n : Nat} {x y : Int} (d : decode cc pc = .ok (.lsub, 1)) (kk : J (pc + 1) lv (vL (x - y) :: st) S A k n) : J pc lv (vL y :: vL x :: st) S A k n := by
  obtain ⟨p, e, s, m, args, below, meth, c, Al, Q, rfl, rfl, hx, hb, hml, hown, hts, hG, hAl, hfl, hmn, htb⟩ := C
  intro H locs ls hl hw hs
  refine lv_lsub hx hb d ?_
  rw [lI_sub]
  exact kk H locs ls hl hw hs
theorem r_lmul {G : GT} {l : Launch} {R : Room} {cc : ByteArray} {nL : Nat} {own mn : String} {tb : List ExceptionTableEntry} {J : JT} {X : XT} (C : Cx G l R cc nL own mn tb J X) {pc : Nat} {lv : List (Option Value)} {st : List Value} {S : ST} {A : AB} {k n : Nat} {x y : Int} (d : decode cc pc = .ok (.lmul, 1)) (kk : J (pc + 1) lv (vL (x * y) :: st) S A k n) : J pc lv (vL y :: vL x :: st) S A k n := by
  obtain ⟨p, e, s, m, args, below, meth, c, Al, Q, rfl, rfl, hx, hb, hml, hown, hts, hG, hAl, hfl, hmn, htb⟩ := C
  intro H locs ls hl hw hs
  refine lv_lmul hx hb d ?_
  rw [lI_mul]
  exact kk H locs ls hl hw hs
theorem r_ineg {G : GT} {l : Launch} {R : Room} {cc : ByteArray} {nL : Nat} {own mn : String} {tb : List ExceptionTableEntry} {J : JT} {X : XT} (C : Cx G l R cc nL own mn tb J X) {pc : Nat} {lv : List (Option Value)} {st : List Value} {S : ST} {A : AB} {k n : Nat} {x : Int} (d : decode cc pc = .ok (.ineg, 1)) (kk : J (pc + 1) lv (vI (-x) :: st) S A k n) : J pc lv (vI x :: st) S A k n := by
  obtain ⟨p, e, s, m, args, below, meth, c, Al, Q, rfl, rfl, hx, hb, hml, hown, hts, hG, hAl, hfl, hmn, htb⟩ := C
  intro H locs ls hl hw hs
  refine lv_ineg hx hb d ?_
  rw [iI_neg]
  exact kk H locs ls hl hw hs
theorem r_idiv {G : GT} {l : Launch} {R : Room} {cc : ByteArray} {nL : Nat} {own mn : String} {tb : List ExceptionTableEntry} {J : JT} {X : XT} (C : Cx G l R cc nL own mn tb J X) {pc : Nat} {lv : List (Option Value)} {st : List Value} {S : ST} {A : AB} {k n : Nat} {x y : Int} (d : decode cc pc = .ok (.idiv, 1)) (h1 : rI x) (h2 : 0 ≤ x) (h3 : rI y) (h4 : 0 < y) (kk : J (pc + 1) lv (vI (x / y) :: st) S A k n) : J pc lv (vI y :: vI x :: st) S A k n := by
  obtain ⟨p, e, s, m, args, below, meth, c, Al, Q, rfl, rfl, hx, hb, hml, hown, hts, hG, hAl, hfl, hmn, htb⟩ := C
  intro H locs ls hl hw hs
  refine lv_idiv hx hb d (iI_ne0 h3 (by omega)) ?_
  rw [iI_div h1 h2 h3 h4]
  exact kk H locs ls hl hw hs
theorem r_ldiv {G : GT} {l : Launch} {R : Room} {cc : ByteArray} {nL : Nat} {own mn : String} {tb : List ExceptionTableEntry} {J : JT} {X : XT} (C : Cx G l R cc nL own mn tb J X) {pc : Nat} {lv : List (Option Value)} {st : List Value} {S : ST} {A : AB} {k n : Nat} {x y : Int} (d : decode cc pc = .ok (.ldiv, 1)) (h1 : rL x) (h2 : 0 ≤ x) (h3 : rL y) (h4 : 0 < y) (kk : J (pc + 1) lv (vL (x / y) :: st) S A k n) : J pc lv (vL y :: vL x :: st) S A k n := by
  obtain ⟨p, e, s, m, args, below, meth, c, Al, Q, rfl, rfl, hx, hb, hml, hown, hts, hG, hAl, hfl, hmn, htb⟩ := C
  intro H locs ls hl hw hs
  refine lv_ldiv hx hb d (lI_ne0 h3 (by omega)) ?_
  rw [lI_div h1 h2 h3 h4]
  exact kk H locs ls hl hw hs
theorem r_lrem {G : GT} {l : Launch} {R : Room} {cc : ByteArray} {nL : Nat} {own mn : String} {tb : List ExceptionTableEntry} {J : JT} {X : XT} (C : Cx G l R cc nL own mn tb J X) {pc : Nat} {lv : List (Option Value)} {st : List Value} {S : ST} {A : AB} {k n : Nat} {x y : Int} (d : decode cc pc = .ok (.lrem, 1)) (h1 : rL x) (h2 : 0 ≤ x) (h3 : rL y) (h4 : 0 < y) (kk : J (pc + 1) lv (vL (x % y) :: st) S A k n) : J pc lv (vL y :: vL x :: st) S A k n := by
  obtain ⟨p, e, s, m, args, below, meth, c, Al, Q, rfl, rfl, hx, hb, hml, hown, hts, hG, hAl, hfl, hmn, htb⟩ := C
  intro H locs ls hl hw hs
  refine lv_lrem hx hb d (lI_ne0 h3 (by omega)) ?_
  rw [lI_rem h1 h2 h3 h4]
  exact kk H locs ls hl hw hs
theorem r_i2l {G : GT} {l : Launch} {R : Room} {cc : ByteArray} {nL : Nat} {own mn : String} {tb : List ExceptionTableEntry} {J : JT} {X : XT} (C : Cx G l R cc nL own mn tb J X) {pc : Nat} {lv : List (Option Value)} {st : List Value} {S : ST} {A : AB} {k n : Nat} {x : Int} (d : decode cc pc = .ok (.i2l, 1)) (h : rI x) (kk : J (pc + 1) lv (vL x :: st) S A k n) : J pc lv (vI x :: st) S A k n := by
  obtain ⟨p, e, s, m, args, below, meth, c, Al, Q, rfl, rfl, hx, hb, hml, hown, hts, hG, hAl, hfl, hmn, htb⟩ := C
  intro H locs ls hl hw hs
  exact lv_i2l hx hb d (iI_l h) (kk H locs ls hl hw hs)
theorem r_l2i {G : GT} {l : Launch} {R : Room} {cc : ByteArray} {nL : Nat} {own mn : String} {tb : List ExceptionTableEntry} {J : JT} {X : XT} (C : Cx G l R cc nL own mn tb J X) {pc : Nat} {lv : List (Option Value)} {st : List Value} {S : ST} {A : AB} {k n : Nat} {x : Int} (d : decode cc pc = .ok (.l2i, 1)) (kk : J (pc + 1) lv (vI x :: st) S A k n) : J pc lv (vL x :: st) S A k n := by
  obtain ⟨p, e, s, m, args, below, meth, c, Al, Q, rfl, rfl, hx, hb, hml, hown, hts, hG, hAl, hfl, hmn, htb⟩ := C
  intro H locs ls hl hw hs
  exact lv_l2i hx hb d (lI_i x) (kk H locs ls hl hw hs)
def fLshr (x y : Int) : Int := (lI x >>> ((iI y).toInt64 &&& 63)).toInt
def fLshl (x y : Int) : Int := (lI x <<< ((iI y).toInt64 &&& 63)).toInt
def fLushr (x y : Int) : Int := (((lI x).toUInt64 >>> ((iI y).toInt64.toUInt64 &&& Int64.toUInt64 63)).toInt64).toInt
def fLand (x y : Int) : Int := (lI x &&& lI y).toInt
def fLor (x y : Int) : Int := (lI x ||| lI y).toInt
def fIand (x y : Int) : Int := (iI x &&& iI y).toInt
theorem r_lshr {G : GT} {l : Launch} {R : Room} {cc : ByteArray} {nL : Nat} {own mn : String} {tb : List ExceptionTableEntry} {J : JT} {X : XT} (C : Cx G l R cc nL own mn tb J X) {pc : Nat} {lv : List (Option Value)} {st : List Value} {S : ST} {A : AB} {k n : Nat} {x y : Int} (d : decode cc pc = .ok (.lshr, 1)) (kk : rL (fLshr x y) → J (pc + 1) lv (vL (fLshr x y) :: st) S A k n) : J pc lv (vI y :: vL x :: st) S A k n := by
  obtain ⟨p, e, s, m, args, below, meth, c, Al, Q, rfl, rfl, hx, hb, hml, hown, hts, hG, hAl, hfl, hmn, htb⟩ := C
  intro H locs ls hl hw hs
  exact lv_lshr hx hb d (lI_of _).1 (kk (lI_of _).2 H locs ls hl hw hs)
theorem r_lshl {G : GT} {l : Launch} {R : Room} {cc : ByteArray} {nL : Nat} {own mn : String} {tb : List ExceptionTableEntry} {J : JT} {X : XT} (C : Cx G l R cc nL own mn tb J X) {pc : Nat} {lv : List (Option Value)} {st : List Value} {S : ST} {A : AB} {k n : Nat} {x y : Int} (d : decode cc pc = .ok (.lshl, 1)) (kk : rL (fLshl x y) → J (pc + 1) lv (vL (fLshl x y) :: st) S A k n) : J pc lv (vI y :: vL x :: st) S A k n := by
  obtain ⟨p, e, s, m, args, below, meth, c, Al, Q, rfl, rfl, hx, hb, hml, hown, hts, hG, hAl, hfl, hmn, htb⟩ := C
  intro H locs ls hl hw hs
  exact lv_lshl hx hb d (lI_of _).1 (kk (lI_of _).2 H locs ls hl hw hs)
theorem r_lushr {G : GT} {l : Launch} {R : Room} {cc : ByteArray} {nL : Nat} {own mn : String} {tb : List ExceptionTableEntry} {J : JT} {X : XT} (C : Cx G l R cc nL own mn tb J X) {pc : Nat} {lv : List (Option Value)} {st : List Value} {S : ST} {A : AB} {k n : Nat} {x y : Int} (d : decode cc pc = .ok (.lushr, 1)) (kk : rL (fLushr x y) → J (pc + 1) lv (vL (fLushr x y) :: st) S A k n) : J pc lv (vI y :: vL x :: st) S A k n := by
  obtain ⟨p, e, s, m, args, below, meth, c, Al, Q, rfl, rfl, hx, hb, hml, hown, hts, hG, hAl, hfl, hmn, htb⟩ := C
  intro H locs ls hl hw hs
  exact lv_lushr hx hb d (lI_of _).1 (kk (lI_of _).2 H locs ls hl hw hs)
theorem r_land {G : GT} {l : Launch} {R : Room} {cc : ByteArray} {nL : Nat} {own mn : String} {tb : List ExceptionTableEntry} {J : JT} {X : XT} (C : Cx G l R cc nL own mn tb J X) {pc : Nat} {lv : List (Option Value)} {st : List Value} {S : ST} {A : AB} {k n : Nat} {x y : Int} (d : decode cc pc = .ok (.land, 1)) (kk : rL (fLand x y) → J (pc + 1) lv (vL (fLand x y) :: st) S A k n) : J pc lv (vL y :: vL x :: st) S A k n := by
  obtain ⟨p, e, s, m, args, below, meth, c, Al, Q, rfl, rfl, hx, hb, hml, hown, hts, hG, hAl, hfl, hmn, htb⟩ := C
  intro H locs ls hl hw hs
  refine lv_land hx hb d ?_
  rw [(lI_of (lI x &&& lI y)).1]
  exact kk (lI_of _).2 H locs ls hl hw hs
theorem r_lor {G : GT} {l : Launch} {R : Room} {cc : ByteArray} {nL : Nat} {own mn : String} {tb : List ExceptionTableEntry} {J : JT} {X : XT} (C : Cx G l R cc nL own mn tb J X) {pc : Nat} {lv : List (Option Value)} {st : List Value} {S : ST} {A : AB} {k n : Nat} {x y : Int} (d : decode cc pc = .ok (.lor, 1)) (kk : rL (fLor x y) → J (pc + 1) lv (vL (fLor x y) :: st) S A k n) : J pc lv (vL y :: vL x :: st) S A k n := by
  obtain ⟨p, e, s, m, args, below, meth, c, Al, Q, rfl, rfl, hx, hb, hml, hown, hts, hG, hAl, hfl, hmn, htb⟩ := C
  intro H locs ls hl hw hs
  refine lv_lor hx hb d ?_
  rw [(lI_of (lI x ||| lI y)).1]
  exact kk (lI_of _).2 H locs ls hl hw hs
theorem r_iand {G : GT} {l : Launch} {R : Room} {cc : ByteArray} {nL : Nat} {own mn : String} {tb : List ExceptionTableEntry} {J : JT} {X : XT} (C : Cx G l R cc nL own mn tb J X) {pc : Nat} {lv : List (Option Value)} {st : List Value} {S : ST} {A : AB} {k n : Nat} {x y : Int} (d : decode cc pc = .ok (.iand, 1)) (kk : rI (fIand x y) → J (pc + 1) lv (vI (fIand x y) :: st) S A k n) : J pc lv (vI y :: vI x :: st) S A k n := by
  obtain ⟨p, e, s, m, args, below, meth, c, Al, Q, rfl, rfl, hx, hb, hml, hown, hts, hG, hAl, hfl, hmn, htb⟩ := C
  intro H locs ls hl hw hs
  refine lv_iand hx hb d ?_
  rw [(iI_of (iI x &&& iI y)).1]
  exact kk (iI_of _).2 H locs ls hl hw hs
theorem r_lcmp {G : GT} {l : Launch} {R : Room} {cc : ByteArray} {nL : Nat} {own mn : String} {tb : List ExceptionTableEntry} {J : JT} {X : XT} (C : Cx G l R cc nL own mn tb J X) {pc : Nat} {lv : List (Option Value)} {st : List Value} {S : ST} {A : AB} {k n : Nat} {x y : Int} (d : decode cc pc = .ok (.lcmp, 1)) (h1 : rL x) (h2 : rL y) (kk : J (pc + 1) lv (vI (cmpZ x y) :: st) S A k n) : J pc lv (vL y :: vL x :: st) S A k n := by
  obtain ⟨p, e, s, m, args, below, meth, c, Al, Q, rfl, rfl, hx, hb, hml, hown, hts, hG, hAl, hfl, hmn, htb⟩ := C
  intro H locs ls hl hw hs
  refine W.lcmp hx hb d ?_
  rw [lg_cmpZ h1 h2]
  exact kk H locs ls hl hw hs
theorem r_dup {G : GT} {l : Launch} {R : Room} {cc : ByteArray} {nL : Nat} {own mn : String} {tb : List ExceptionTableEntry} {J : JT} {X : XT} (C : Cx G l R cc nL own mn tb J X) {pc : Nat} {lv : List (Option Value)} {st : List Value} {S : ST} {A : AB} {k n : Nat} {v : Value} (d : decode cc pc = .ok (.dup, 1)) (hc : v.category = 1) (kk : J (pc + 1) lv (v :: v :: st) S A k n) : J pc lv (v :: st) S A k n := by
  obtain ⟨p, e, s, m, args, below, meth, c, Al, Q, rfl, rfl, hx, hb, hml, hown, hts, hG, hAl, hfl, hmn, htb⟩ := C
  intro H locs ls hl hw hs
  exact lv_dup hx hb d hc (kk H locs ls hl hw hs)
theorem r_dup2 {G : GT} {l : Launch} {R : Room} {cc : ByteArray} {nL : Nat} {own mn : String} {tb : List ExceptionTableEntry} {J : JT} {X : XT} (C : Cx G l R cc nL own mn tb J X) {pc : Nat} {lv : List (Option Value)} {st : List Value} {S : ST} {A : AB} {k n : Nat} {v w : Value} (d : decode cc pc = .ok (.dup2, 1)) (hv : v.category = 1) (hw' : w.category = 1) (kk : J (pc + 1) lv (v :: w :: v :: w :: st) S A k n) : J pc lv (v :: w :: st) S A k n := by
  obtain ⟨p, e, s, m, args, below, meth, c, Al, Q, rfl, rfl, hx, hb, hml, hown, hts, hG, hAl, hfl, hmn, htb⟩ := C
  intro H locs ls hl hw hs
  exact lv_dup2_11 hx hb d hv hw' (kk H locs ls hl hw hs)
theorem r_pop {G : GT} {l : Launch} {R : Room} {cc : ByteArray} {nL : Nat} {own mn : String} {tb : List ExceptionTableEntry} {J : JT} {X : XT} (C : Cx G l R cc nL own mn tb J X) {pc : Nat} {lv : List (Option Value)} {st : List Value} {S : ST} {A : AB} {k n : Nat} {v : Value} (d : decode cc pc = .ok (.pop, 1)) (hc : v.category = 1) (kk : J (pc + 1) lv st S A k n) : J pc lv (v :: st) S A k n := by
  obtain ⟨p, e, s, m, args, below, meth, c, Al, Q, rfl, rfl, hx, hb, hml, hown, hts, hG, hAl, hfl, hmn, htb⟩ := C
  intro H locs ls hl hw hs
  exact lv_pop hx hb d hc (kk H locs ls hl hw hs)
theorem r_ifeq {G : GT} {l : Launch} {R : Room} {cc : ByteArray} {nL : Nat} {own mn : String} {tb : List ExceptionTableEntry} {J : JT} {X : XT} (C : Cx G l R cc nL own mn tb J X) {pc : Nat} {lv : List (Option Value)} {st : List Value} {S : ST} {A : AB} {k n : Nat} {z : Int} {off : Int} {tgt : Nat} (d : decode cc pc = .ok (.ifCond .eq off, 3)) (ht : (pc : Int) + off = (tgt : Int)) (h : rI z) (kt : z = 0 → J tgt lv st S A k n) (kf : ¬ z = 0 → J (pc + 3) lv st S A k n) : J pc lv (vI z :: st) S A k n := by
  obtain ⟨p, e, s, m, args, below, meth, c, Al, Q, rfl, rfl, hx, hb, hml, hown, hts, hG, hAl, hfl, hmn, htb⟩ := C
  intro H locs ls hl hw hs
  exact lv_if_eq hx hb d ht (fun q => kt ((iI_eq h rI_0).mp q) H locs ls hl hw hs) (fun q => kf (fun q9 => q ((iI_eq h rI_0).mpr q9)) H locs ls hl hw hs)
theorem r_iflt {G : GT} {l : Launch} {R : Room} {cc : ByteArray} {nL : Nat} {own mn : String} {tb : List ExceptionTableEntry} {J : JT} {X : XT} (C : Cx G l R cc nL own mn tb J X) {pc : Nat} {lv : List (Option Value)} {st : List Value} {S : ST} {A : AB} {k n : Nat} {z : Int} {off : Int} {tgt : Nat} (d : decode cc pc = .ok (.ifCond .lt off, 3)) (ht : (pc : Int) + off = (tgt : Int)) (h : rI z) (kt : z < 0 → J tgt lv st S A k n) (kf : ¬ z < 0 → J (pc + 3) lv st S A k n) : J pc lv (vI z :: st) S A k n := by
  obtain ⟨p, e, s, m, args, below, meth, c, Al, Q, rfl, rfl, hx, hb, hml, hown, hts, hG, hAl, hfl, hmn, htb⟩ := C
  intro H locs ls hl hw hs
  exact lv_if_lt hx hb d ht (fun q => kt ((iI_lt h rI_0).mp q) H locs ls hl hw hs) (fun q => kf (fun q9 => q ((iI_lt h rI_0).mpr q9)) H locs ls hl hw hs)
theorem r_ifge {G : GT} {l : Launch} {R : Room} {cc : ByteArray} {nL : Nat} {own mn : String} {tb : List ExceptionTableEntry} {J : JT} {X : XT} (C : Cx G l R cc nL own mn tb J X) {pc : Nat} {lv : List (Option Value)} {st : List Value} {S : ST} {A : AB} {k n : Nat} {z : Int} {off : Int} {tgt : Nat} (d : decode cc pc = .ok (.ifCond .ge off, 3)) (ht : (pc : Int) + off = (tgt : Int)) (h : rI z) (kt : 0 ≤ z → J tgt lv st S A k n) (kf : ¬ 0 ≤ z → J (pc + 3) lv st S A k n) : J pc lv (vI z :: st) S A k n := by
  obtain ⟨p, e, s, m, args, below, meth, c, Al, Q, rfl, rfl, hx, hb, hml, hown, hts, hG, hAl, hfl, hmn, htb⟩ := C
  intro H locs ls hl hw hs
  exact lv_if_ge hx hb d ht (fun q => kt ((iI_le rI_0 h).mp q) H locs ls hl hw hs) (fun q => kf (fun q9 => q ((iI_le rI_0 h).mpr q9)) H locs ls hl hw hs)
theorem r_ifgt {G : GT} {l : Launch} {R : Room} {cc : ByteArray} {nL : Nat} {own mn : String} {tb : List ExceptionTableEntry} {J : JT} {X : XT} (C : Cx G l R cc nL own mn tb J X) {pc : Nat} {lv : List (Option Value)} {st : List Value} {S : ST} {A : AB} {k n : Nat} {z : Int} {off : Int} {tgt : Nat} (d : decode cc pc = .ok (.ifCond .gt off, 3)) (ht : (pc : Int) + off = (tgt : Int)) (h : rI z) (kt : 0 < z → J tgt lv st S A k n) (kf : ¬ 0 < z → J (pc + 3) lv st S A k n) : J pc lv (vI z :: st) S A k n := by
  obtain ⟨p, e, s, m, args, below, meth, c, Al, Q, rfl, rfl, hx, hb, hml, hown, hts, hG, hAl, hfl, hmn, htb⟩ := C
  intro H locs ls hl hw hs
  exact lv_if_gt hx hb d ht (fun q => kt ((iI_lt rI_0 h).mp q) H locs ls hl hw hs) (fun q => kf (fun q9 => q ((iI_lt rI_0 h).mpr q9)) H locs ls hl hw hs)
theorem r_ifle {G : GT} {l : Launch} {R : Room} {cc : ByteArray} {nL : Nat} {own mn : String} {tb : List ExceptionTableEntry} {J : JT} {X : XT} (C : Cx G l R cc nL own mn tb J X) {pc : Nat} {lv : List (Option Value)} {st : List Value} {S : ST} {A : AB} {k n : Nat} {z : Int} {off : Int} {tgt : Nat} (d : decode cc pc = .ok (.ifCond .le off, 3)) (ht : (pc : Int) + off = (tgt : Int)) (h : rI z) (kt : z ≤ 0 → J tgt lv st S A k n) (kf : ¬ z ≤ 0 → J (pc + 3) lv st S A k n) : J pc lv (vI z :: st) S A k n := by
  obtain ⟨p, e, s, m, args, below, meth, c, Al, Q, rfl, rfl, hx, hb, hml, hown, hts, hG, hAl, hfl, hmn, htb⟩ := C
  intro H locs ls hl hw hs
  exact lv_if_le hx hb d ht (fun q => kt ((iI_le h rI_0).mp q) H locs ls hl hw hs) (fun q => kf (fun q9 => q ((iI_le h rI_0).mpr q9)) H locs ls hl hw hs)
theorem r_ifne {G : GT} {l : Launch} {R : Room} {cc : ByteArray} {nL : Nat} {own mn : String} {tb : List ExceptionTableEntry} {J : JT} {X : XT} (C : Cx G l R cc nL own mn tb J X) {pc : Nat} {lv : List (Option Value)} {st : List Value} {S : ST} {A : AB} {k n : Nat} {z : Int} {off : Int} {tgt : Nat} (d : decode cc pc = .ok (.ifCond .ne off, 3)) (ht : (pc : Int) + off = (tgt : Int)) (h : rI z) (kt : ¬ z = 0 → J tgt lv st S A k n) (kf : z = 0 → J (pc + 3) lv st S A k n) : J pc lv (vI z :: st) S A k n := by
  obtain ⟨p, e, s, m, args, below, meth, c, Al, Q, rfl, rfl, hx, hb, hml, hown, hts, hG, hAl, hfl, hmn, htb⟩ := C
  intro H locs ls hl hw hs
  exact lv_if_ne hx hb d ht (fun q => kt (fun q9 => q ((iI_eq h rI_0).mpr q9)) H locs ls hl hw hs) (fun q => kf ((iI_eq h rI_0).mp q) H locs ls hl hw hs)
theorem r_iceq {G : GT} {l : Launch} {R : Room} {cc : ByteArray} {nL : Nat} {own mn : String} {tb : List ExceptionTableEntry} {J : JT} {X : XT} (C : Cx G l R cc nL own mn tb J X) {pc : Nat} {lv : List (Option Value)} {st : List Value} {S : ST} {A : AB} {k n : Nat} {x y : Int} {off : Int} {tgt : Nat} (d : decode cc pc = .ok (.if_icmp .eq off, 3)) (ht : (pc : Int) + off = (tgt : Int)) (h1 : rI x) (h2 : rI y) (kt : x = y → J tgt lv st S A k n) (kf : ¬ x = y → J (pc + 3) lv st S A k n) : J pc lv (vI y :: vI x :: st) S A k n := by
  obtain ⟨p, e, s, m, args, below, meth, c, Al, Q, rfl, rfl, hx, hb, hml, hown, hts, hG, hAl, hfl, hmn, htb⟩ := C
  intro H locs ls hl hw hs
  exact lv_icmp_eq hx hb d ht (fun q => kt ((iI_eq h1 h2).mp q) H locs ls hl hw hs) (fun q => kf (fun q9 => q ((iI_eq h1 h2).mpr q9)) H locs ls hl hw hs)
theorem r_iclt {G : GT} {l : Launch} {R : Room} {cc : ByteArray} {nL : Nat} {own mn : String} {tb : List ExceptionTableEntry} {J : JT} {X : XT} (C : Cx G l R cc nL own mn tb J X) {pc : Nat} {lv : List (Option Value)} {st : List Value} {S : ST} {A : AB} {k n : Nat} {x y : Int} {off : Int} {tgt : Nat} (d : decode cc pc = .ok (.if_icmp .lt off, 3)) (ht : (pc : Int) + off = (tgt : Int)) (h1 : rI x) (h2 : rI y) (kt : x < y → J tgt lv st S A k n) (kf : ¬ x < y → J (pc + 3) lv st S A k n) : J pc lv (vI y :: vI x :: st) S A k n := by
  obtain ⟨p, e, s, m, args, below, meth, c, Al, Q, rfl, rfl, hx, hb, hml, hown, hts, hG, hAl, hfl, hmn, htb⟩ := C
  intro H locs ls hl hw hs
  exact lv_icmp_lt hx hb d ht (fun q => kt ((iI_lt h1 h2).mp q) H locs ls hl hw hs) (fun q => kf (fun q9 => q ((iI_lt h1 h2).mpr q9)) H locs ls hl hw hs)
theorem r_icge {G : GT} {l : Launch} {R : Room} {cc : ByteArray} {nL : Nat} {own mn : String} {tb : List ExceptionTableEntry} {J : JT} {X : XT} (C : Cx G l R cc nL own mn tb J X) {pc : Nat} {lv : List (Option Value)} {st : List Value} {S : ST} {A : AB} {k n : Nat} {x y : Int} {off : Int} {tgt : Nat} (d : decode cc pc = .ok (.if_icmp .ge off, 3)) (ht : (pc : Int) + off = (tgt : Int)) (h1 : rI x) (h2 : rI y) (kt : y ≤ x → J tgt lv st S A k n) (kf : ¬ y ≤ x → J (pc + 3) lv st S A k n) : J pc lv (vI y :: vI x :: st) S A k n := by
  obtain ⟨p, e, s, m, args, below, meth, c, Al, Q, rfl, rfl, hx, hb, hml, hown, hts, hG, hAl, hfl, hmn, htb⟩ := C
  intro H locs ls hl hw hs
  exact lv_icmp_ge hx hb d ht (fun q => kt ((iI_le h2 h1).mp q) H locs ls hl hw hs) (fun q => kf (fun q9 => q ((iI_le h2 h1).mpr q9)) H locs ls hl hw hs)
theorem r_icgt {G : GT} {l : Launch} {R : Room} {cc : ByteArray} {nL : Nat} {own mn : String} {tb : List ExceptionTableEntry} {J : JT} {X : XT} (C : Cx G l R cc nL own mn tb J X) {pc : Nat} {lv : List (Option Value)} {st : List Value} {S : ST} {A : AB} {k n : Nat} {x y : Int} {off : Int} {tgt : Nat} (d : decode cc pc = .ok (.if_icmp .gt off, 3)) (ht : (pc : Int) + off = (tgt : Int)) (h1 : rI x) (h2 : rI y) (kt : y < x → J tgt lv st S A k n) (kf : ¬ y < x → J (pc + 3) lv st S A k n) : J pc lv (vI y :: vI x :: st) S A k n := by
  obtain ⟨p, e, s, m, args, below, meth, c, Al, Q, rfl, rfl, hx, hb, hml, hown, hts, hG, hAl, hfl, hmn, htb⟩ := C
  intro H locs ls hl hw hs
  exact lv_icmp_gt hx hb d ht (fun q => kt ((iI_lt h2 h1).mp q) H locs ls hl hw hs) (fun q => kf (fun q9 => q ((iI_lt h2 h1).mpr q9)) H locs ls hl hw hs)
theorem r_icle {G : GT} {l : Launch} {R : Room} {cc : ByteArray} {nL : Nat} {own mn : String} {tb : List ExceptionTableEntry} {J : JT} {X : XT} (C : Cx G l R cc nL own mn tb J X) {pc : Nat} {lv : List (Option Value)} {st : List Value} {S : ST} {A : AB} {k n : Nat} {x y : Int} {off : Int} {tgt : Nat} (d : decode cc pc = .ok (.if_icmp .le off, 3)) (ht : (pc : Int) + off = (tgt : Int)) (h1 : rI x) (h2 : rI y) (kt : x ≤ y → J tgt lv st S A k n) (kf : ¬ x ≤ y → J (pc + 3) lv st S A k n) : J pc lv (vI y :: vI x :: st) S A k n := by
  obtain ⟨p, e, s, m, args, below, meth, c, Al, Q, rfl, rfl, hx, hb, hml, hown, hts, hG, hAl, hfl, hmn, htb⟩ := C
  intro H locs ls hl hw hs
  exact lv_icmp_le hx hb d ht (fun q => kt ((iI_le h1 h2).mp q) H locs ls hl hw hs) (fun q => kf (fun q9 => q ((iI_le h1 h2).mpr q9)) H locs ls hl hw hs)
theorem r_icne {G : GT} {l : Launch} {R : Room} {cc : ByteArray} {nL : Nat} {own mn : String} {tb : List ExceptionTableEntry} {J : JT} {X : XT} (C : Cx G l R cc nL own mn tb J X) {pc : Nat} {lv : List (Option Value)} {st : List Value} {S : ST} {A : AB} {k n : Nat} {x y : Int} {off : Int} {tgt : Nat} (d : decode cc pc = .ok (.if_icmp .ne off, 3)) (ht : (pc : Int) + off = (tgt : Int)) (h1 : rI x) (h2 : rI y) (kt : ¬ x = y → J tgt lv st S A k n) (kf : x = y → J (pc + 3) lv st S A k n) : J pc lv (vI y :: vI x :: st) S A k n := by
  obtain ⟨p, e, s, m, args, below, meth, c, Al, Q, rfl, rfl, hx, hb, hml, hown, hts, hG, hAl, hfl, hmn, htb⟩ := C
  intro H locs ls hl hw hs
  exact lv_icmp_ne hx hb d ht (fun q => kt (fun q9 => q ((iI_eq h1 h2).mpr q9)) H locs ls hl hw hs) (fun q => kf ((iI_eq h1 h2).mp q) H locs ls hl hw hs)
theorem r_lceq {G : GT} {l : Launch} {R : Room} {cc : ByteArray} {nL : Nat} {own mn : String} {tb : List ExceptionTableEntry} {J : JT} {X : XT} (C : Cx G l R cc nL own mn tb J X) {pc : Nat} {lv : List (Option Value)} {st : List Value} {S : ST} {A : AB} {k n : Nat} {x y : Int} {off : Int} {tgt : Nat} (d : decode cc pc = .ok (.lcmp, 1)) (d' : decode cc (pc + 1) = .ok (.ifCond .eq off, 3)) (ht : ((pc + 1 : Nat) : Int) + off = (tgt : Int)) (h1 : rL x) (h2 : rL y) (kt : x = y → J tgt lv st S A k n) (kf : ¬ x = y → J (pc + 4) lv st S A k n) : J pc lv (vL y :: vL x :: st) S A k n := r_lcmp C d h1 h2 (r_ifeq C d' ht (rI_cmpZ x y) (fun q => kt ((cmpZ_eq x y).mp q)) (fun q => kf (fun q9 => q ((cmpZ_eq x y).mpr q9))))
theorem r_lclt {G : GT} {l : Launch} {R : Room} {cc : ByteArray} {nL : Nat} {own mn : String} {tb : List ExceptionTableEntry} {J : JT} {X : XT} (C : Cx G l R cc nL own mn tb J X) {pc : Nat} {lv : List (Option Value)} {st : List Value} {S : ST} {A : AB} {k n : Nat} {x y : Int} {off : Int} {tgt : Nat} (d : decode cc pc = .ok (.lcmp, 1)) (d' : decode cc (pc + 1) = .ok (.ifCond .lt off, 3)) (ht : ((pc + 1 : Nat) : Int) + off = (tgt : Int)) (h1 : rL x) (h2 : rL y) (kt : x < y → J tgt lv st S A k n) (kf : ¬ x < y → J (pc + 4) lv st S A k n) : J pc lv (vL y :: vL x :: st) S A k n := r_lcmp C d h1 h2 (r_iflt C d' ht (rI_cmpZ x y) (fun q => kt ((cmpZ_lt x y).mp q)) (fun q => kf (fun q9 => q ((cmpZ_lt x y).mpr q9))))
theorem r_lcge {G : GT} {l : Launch} {R : Room} {cc : ByteArray} {nL : Nat} {own mn : String} {tb : List ExceptionTableEntry} {J : JT} {X : XT} (C : Cx G l R cc nL own mn tb J X) {pc : Nat} {lv : List (Option Value)} {st : List Value} {S : ST} {A : AB} {k n : Nat} {x y : Int} {off : Int} {tgt : Nat} (d : decode cc pc = .ok (.lcmp, 1)) (d' : decode cc (pc + 1) = .ok (.ifCond .ge off, 3)) (ht : ((pc + 1 : Nat) : Int) + off = (tgt : Int)) (h1 : rL x) (h2 : rL y) (kt : y ≤ x → J tgt lv st S A k n) (kf : ¬ y ≤ x → J (pc + 4) lv st S A k n) : J pc lv (vL y :: vL x :: st) S A k n := r_lcmp C d h1 h2 (r_ifge C d' ht (rI_cmpZ x y) (fun q => kt ((cmpZ_ge x y).mp q)) (fun q => kf (fun q9 => q ((cmpZ_ge x y).mpr q9))))
theorem r_lcgt {G : GT} {l : Launch} {R : Room} {cc : ByteArray} {nL : Nat} {own mn : String} {tb : List ExceptionTableEntry} {J : JT} {X : XT} (C : Cx G l R cc nL own mn tb J X) {pc : Nat} {lv : List (Option Value)} {st : List Value} {S : ST} {A : AB} {k n : Nat} {x y : Int} {off : Int} {tgt : Nat} (d : decode cc pc = .ok (.lcmp, 1)) (d' : decode cc (pc + 1) = .ok (.ifCond .gt off, 3)) (ht : ((pc + 1 : Nat) : Int) + off = (tgt : Int)) (h1 : rL x) (h2 : rL y) (kt : y < x → J tgt lv st S A k n) (kf : ¬ y < x → J (pc + 4) lv st S A k n) : J pc lv (vL y :: vL x :: st) S A k n := r_lcmp C d h1 h2 (r_ifgt C d' ht (rI_cmpZ x y) (fun q => kt ((cmpZ_gt x y).mp q)) (fun q => kf (fun q9 => q ((cmpZ_gt x y).mpr q9))))
theorem r_lcle {G : GT} {l : Launch} {R : Room} {cc : ByteArray} {nL : Nat} {own mn : String} {tb : List ExceptionTableEntry} {J : JT} {X : XT} (C : Cx G l R cc nL own mn tb J X) {pc : Nat} {lv : List (Option Value)} {st : List Value} {S : ST} {A : AB} {k n : Nat} {x y : Int} {off : Int} {tgt : Nat} (d : decode cc pc = .ok (.lcmp, 1)) (d' : decode cc (pc + 1) = .ok (.ifCond .le off, 3)) (ht : ((pc + 1 : Nat) : Int) + off = (tgt : Int)) (h1 : rL x) (h2 : rL y) (kt : x ≤ y → J tgt lv st S A k n) (kf : ¬ x ≤ y → J (pc + 4) lv st S A k n) : J pc lv (vL y :: vL x :: st) S A k n := r_lcmp C d h1 h2 (r_ifle C d' ht (rI_cmpZ x y) (fun q => kt ((cmpZ_le x y).mp q)) (fun q => kf (fun q9 => q ((cmpZ_le x y).mpr q9))))
theorem r_lcne {G : GT} {l : Launch} {R : Room} {cc : ByteArray} {nL : Nat} {own mn : String} {tb : List ExceptionTableEntry} {J : JT} {X : XT} (C : Cx G l R cc nL own mn tb J X) {pc : Nat} {lv : List (Option Value)} {st : List Value} {S : ST} {A : AB} {k n : Nat} {x y : Int} {off : Int} {tgt : Nat} (d : decode cc pc = .ok (.lcmp, 1)) (d' : decode cc (pc + 1) = .ok (.ifCond .ne off, 3)) (ht : ((pc + 1 : Nat) : Int) + off = (tgt : Int)) (h1 : rL x) (h2 : rL y) (kt : ¬ x = y → J tgt lv st S A k n) (kf : x = y → J (pc + 4) lv st S A k n) : J pc lv (vL y :: vL x :: st) S A k n := r_lcmp C d h1 h2 (r_ifne C d' ht (rI_cmpZ x y) (fun q => kt (fun q9 => q ((cmpZ_eq x y).mpr q9))) (fun q => kf ((cmpZ_eq x y).mp q)))
theorem r_goto {G : GT} {l : Launch} {R : Room} {cc : ByteArray} {nL : Nat} {own mn : String} {tb : List ExceptionTableEntry} {J : JT} {X : XT} (C : Cx G l R cc nL own mn tb J X) {pc : Nat} {lv : List (Option Value)} {st : List Value} {S : ST} {A : AB} {k n : Nat} {off : Int} {tgt : Nat} (d : decode cc pc = .ok (.goto off, 3)) (ht : (pc : Int) + off = (tgt : Int)) (kk : J tgt lv st S A k n) : J pc lv st S A k n := by
  obtain ⟨p, e, s, m, args, below, meth, c, Al, Q, rfl, rfl, hx, hb, hml, hown, hts, hG, hAl, hfl, hmn, htb⟩ := C
  intro H locs ls hl hw hs
  exact lv_goto hx hb d ht (kk H locs ls hl hw hs)
theorem r_ifnull {G : GT} {l : Launch} {R : Room} {cc : ByteArray} {nL : Nat} {own mn : String} {tb : List ExceptionTableEntry} {J : JT} {X : XT} (C : Cx G l R cc nL own mn tb J X) {pc : Nat} {lv : List (Option Value)} {st : List Value} {S : ST} {A : AB} {k n : Nat} {kd : Nat} {z : Int} {off : Int} {tgt : Nat} (d : decode cc pc = .ok (.ifnull off, 3)) (ht : (pc : Int) + off = (tgt : Int)) (kt : z < 0 → J tgt lv st S A k n) (kf : ¬ z < 0 → J (pc + 3) lv st S A k n) : J pc lv (vR A kd z :: st) S A k n := by
  obtain ⟨p, e, s, m, args, below, meth, c, Al, Q, rfl, rfl, hx, hb, hml, hown, hts, hG, hAl, hfl, hmn, htb⟩ := C
  intro H locs ls hl hw hs
  by_cases h0 : z < 0
  · have e : vR A kd z = .null := by unfold vR rfo; rw [if_pos h0]; rfl
    rw [e]
    exact lv_ifnullN hx hb d ht (kt h0 H locs ls hl hw hs)
  · have e : vR A kd z = .ref (A.1 kd z) := by unfold vR rfo; rw [if_neg h0]; rfl
    rw [e]
    exact lv_ifnull hx hb d (kf h0 H locs ls hl hw hs)
theorem r_ifnonnull {G : GT} {l : Launch} {R : Room} {cc : ByteArray} {nL : Nat} {own mn : String} {tb : List ExceptionTableEntry} {J : JT} {X : XT} (C : Cx G l R cc nL own mn tb J X) {pc : Nat} {lv : List (Option Value)} {st : List Value} {S : ST} {A : AB} {k n : Nat} {kd : Nat} {z : Int} {off : Int} {tgt : Nat} (d : decode cc pc = .ok (.ifnonnull off, 3)) (ht : (pc : Int) + off = (tgt : Int)) (kt : ¬ z < 0 → J tgt lv st S A k n) (kf : z < 0 → J (pc + 3) lv st S A k n) : J pc lv (vR A kd z :: st) S A k n := by
  obtain ⟨p, e, s, m, args, below, meth, c, Al, Q, rfl, rfl, hx, hb, hml, hown, hts, hG, hAl, hfl, hmn, htb⟩ := C
  intro H locs ls hl hw hs
  by_cases h0 : z < 0
  · have e : vR A kd z = .null := by unfold vR rfo; rw [if_pos h0]; rfl
    rw [e]
    exact lv_ifnonnullN hx hb d (kf h0 H locs ls hl hw hs)
  · have e : vR A kd z = .ref (A.1 kd z) := by unfold vR rfo; rw [if_neg h0]; rfl
    rw [e]
    exact lv_ifnonnull hx hb d ht (kt h0 H locs ls hl hw hs)
theorem rfo_eq {A : AB} (hA : AI A) {kd : Nat} {z w : Int} (h1 : z < A.2 kd) (h2 : w < A.2 kd) : rfo A kd z = rfo A kd w ↔ (z < 0 ∧ w < 0) ∨ z = w := by
  unfold rfo
  by_cases a : z < 0
  · rw [if_pos a]
    by_cases b : w < 0
    · rw [if_pos b]; exact ⟨fun _ => Or.inl ⟨a, b⟩, fun _ => rfl⟩
    · rw [if_neg b]; exact ⟨fun q => (by cases q), fun q => (by omega)⟩
  · rw [if_neg a]
    by_cases b : w < 0
    · rw [if_pos b]; exact ⟨fun q => (by cases q), fun q => (by omega)⟩
    · rw [if_neg b]
      refine ⟨fun q => Or.inr ?_, fun q => ?_⟩
      · exact (hA.1 kd z kd w ⟨by omega, h1⟩ ⟨by omega, h2⟩ (Option.some.inj q)).2
      · rcases q with q | rfl
        · omega
        · rfl
theorem r_aceq {G : GT} {l : Launch} {R : Room} {cc : ByteArray} {nL : Nat} {own mn : String} {tb : List ExceptionTableEntry} {J : JT} {X : XT} (C : Cx G l R cc nL own mn tb J X) {pc : Nat} {lv : List (Option Value)} {st : List Value} {S : ST} {A : AB} {k n : Nat} {kd : Nat} {x y : Int} {off : Int} {tgt : Nat} (d : decode cc pc = .ok (.if_acmp .eq off, 3)) (ht : (pc : Int) + off = (tgt : Int)) (h1 : x < A.2 kd) (h2 : y < A.2 kd) (kt : (x < 0 ∧ y < 0) ∨ x = y → J tgt lv st S A k n) (kf : ¬ ((x < 0 ∧ y < 0) ∨ x = y) → J (pc + 3) lv st S A k n) : J pc lv (vR A kd y :: vR A kd x :: st) S A k n := by
  obtain ⟨p, e, s, m, args, below, meth, c, Al, Q, rfl, rfl, hx, hb, hml, hown, hts, hG, hAl, hfl, hmn, htb⟩ := C
  intro H locs ls hl hw hs
  exact lv_acmp_eq hx hb d ht (fun q => kt ((rfo_eq hw.wt.2 h1 h2).mp q) H locs ls hl hw hs) (fun q => kf (fun q9 => q ((rfo_eq hw.wt.2 h1 h2).mpr q9)) H locs ls hl hw hs)
theorem r_acne {G : GT} {l : Launch} {R : Room} {cc : ByteArray} {nL : Nat} {own mn : String} {tb : List ExceptionTableEntry} {J : JT} {X : XT} (C : Cx G l R cc nL own mn tb J X) {pc : Nat} {lv : List (Option Value)} {st : List Value} {S : ST} {A : AB} {k n : Nat} {kd : Nat} {x y : Int} {off : Int} {tgt : Nat} (d : decode cc pc = .ok (.if_acmp .ne off, 3)) (ht : (pc : Int) + off = (tgt : Int)) (h1 : x < A.2 kd) (h2 : y < A.2 kd) (kt : ¬ ((x < 0 ∧ y < 0) ∨ x = y) → J tgt lv st S A k n) (kf : (x < 0 ∧ y < 0) ∨ x = y → J (pc + 3) lv st S A k n) : J pc lv (vR A kd y :: vR A kd x :: st) S A k n := by
  obtain ⟨p, e, s, m, args, below, meth, c, Al, Q, rfl, rfl, hx, hb, hml, hown, hts, hG, hAl, hfl, hmn, htb⟩ := C
  intro H locs ls hl hw hs
  exact lv_acmp_ne hx hb d ht (fun q => kt (fun q9 => q ((rfo_eq hw.wt.2 h1 h2).mpr q9)) H locs ls hl hw hs) (fun q => kf ((rfo_eq hw.wt.2 h1 h2).mp q) H locs ls hl hw hs)
