/-! making things -/
def nwA (A : AB) (k q : Nat) : AB := (fun k' z' => if k' = k ∧ z' = A.2 k then q else A.1 k' z', fun k' => if k' = k then A.2 k + 1 else A.2 k')
def nwS (S : ST) (k : Nat) (z : Int) : ST := fun c z' => if c / 32 = k ∧ (k < 8 → z' = z) then dfl (tyC c) else S c z'
theorem nwA_old {A : AB} {k q kd : Nat} {v : Int} (h : v < A.2 kd) : (nwA A k q).1 kd v = A.1 kd v := by
  unfold nwA
  simp only
  rw [if_neg]
  rintro ⟨rfl, rfl⟩
  omega
theorem nwA_new {A : AB} {k q : Nat} : (nwA A k q).1 k (A.2 k) = q := by simp [nwA]
theorem nwA_2 {A : AB} {k q : Nat} : (nwA A k q).2 k = A.2 k + 1 := by simp [nwA]
theorem nwA_2n {A : AB} {k q k' : Nat} (h : k' ≠ k) : (nwA A k q).2 k' = A.2 k' := by simp [nwA, h]
theorem nwA_ge {A : AB} {k q k' : Nat} : A.2 k' ≤ (nwA A k q).2 k' := by
  unfold nwA
  simp only
  split
  next h => rw [h]; omega
  next => omega
theorem rfo_nw {A : AB} {k q kd : Nat} {v : Int} (h : v < A.2 kd) : rfo (nwA A k q) kd v = rfo A kd v := by
  unfold rfo
  rw [nwA_old h]
theorem vR_nw {A : AB} {k q kd : Nat} {v : Int} (h : v < A.2 kd) : vR (nwA A k q) kd v = vR A kd v := by
  unfold vR
  rw [rfo_nw h]
theorem fV_nw {A : AB} {k q t : Nat} {v : Int} (h : 3 ≤ t → v < A.2 (t - 3)) : fV (nwA A k q) t v = fV A t v := by
  match t, h with
  | 0, _ => rfl
  | 1, _ => rfl
  | 2, _ => rfl
  | t + 3, h => exact vR_nw (h (by omega))
theorem fT_tyC {k f : Nat} (hk : k < 8) (hf : f < nF k) : tyC (32 * k + f) = fT k f ∧ (32 * k + f) / 32 = k := by
  have h26 := nF_lt k
  have hd : (32 * k + f) / 32 = k := by omega
  refine ⟨?_, hd⟩
  unfold tyC
  rw [hd, if_pos hk, show (32 * k + f) % 32 = f by omega]
theorem aTN_cases (k : Nat) : (aTN k).1 = 0 ∨ (aTN k).1 = 1 ∨ (aTN k).1 = 2 ∨ (aTN k).1 = 6 := by
  unfold aTN
  split <;> simp
theorem cell_nw {G : GT} {A : AB} {S : ST} (hW : WT S A) {k q k' : Nat} {z' : Int} (hl : lv1 A k' z') (ha : 8 ≤ k → A.2 k = 0) : cellV G (nwA A k q) (nwS S k (A.2 k)) k' z' = cellV G A S k' z' := by
  by_cases hk' : k' < 8
  · rw [cellV_o hk', cellV_o hk']
    congr 2
    unfold oFs
    refine List.map_congr_left (fun f hf => ?_)
    have hf' := List.mem_range.mp hf
    obtain ⟨e1, e2⟩ := fT_tyC hk' hf'
    have e3 : nwS S k (A.2 k) (32 * k' + f) z' = S (32 * k' + f) z' := by
      unfold nwS
      rw [e2, if_neg]
      rintro ⟨rfl, h9⟩
      have := h9 hk'
      have := hl.2
      omega
    rw [e3]
    refine fV_nw (fun h3 => ?_)
    have h9 := (hW (32 * k' + f) z').2.2.2
    rw [e1] at h9
    exact h9 h3
  · have h8 : 8 ≤ k' := by omega
    rw [cellV_a h8, cellV_a h8]
    have hne : k' ≠ k := by
      rintro rfl
      have := ha h8
      obtain ⟨a, b⟩ := hl
      omega
    have e3 : ∀ j : Int, nwS S k (A.2 k) (32 * k') j = S (32 * k') j := by
      intro j
      unfold nwS
      rw [(tyC_a h8).2, if_neg (fun h => hne h.1)]
    obtain ⟨N, hN⟩ : ∃ N, N = (aTN k').2 := ⟨_, rfl⟩
    rcases aTN_cases k' with h | h | h | h
    · have hp : aTN k' = (0, N) := Prod.ext h hN.symm
      rw [aCl_0 hp, aCl_0 hp]; simp only [e3]
    · have hp : aTN k' = (1, N) := Prod.ext h hN.symm
      rw [aCl_1 hp, aCl_1 hp]; simp only [e3]
    · have hp : aTN k' = (2, N) := Prod.ext h hN.symm
      rw [aCl_2 hp, aCl_2 hp]; simp only [e3]
    · have hp : aTN k' = (6, N) := Prod.ext h hN.symm
      rw [aCl_6 hp, aCl_6 hp]
      have e4 : ∀ j : Nat, rfo (nwA A k q) 3 (nwS S k (A.2 k) (32 * k') j) = rfo A 3 (S (32 * k') j) := by
        intro j
        rw [e3]
        refine rfo_nw ?_
        have h9 := (hW (32 * k') j).2.2.2
        rw [(tyC_a h8).1, h] at h9
        exact h9 (by omega)
      simp only [e4]
theorem dfl_ok (t : Nat) : rL (dfl t) ∧ (t = 0 → rI (dfl t)) ∧ (t = 2 → dfl t = 0 ∨ dfl t = 1) := by
  unfold dfl rL rI
  split
  · exact ⟨by omega, by omega, by omega⟩
  · exact ⟨by omega, by omega, by omega⟩
theorem WT.nw {S : ST} {A : AB} (h : WT S A) (hA : AI A) {k q : Nat} : WT (nwS S k (A.2 k)) (nwA A k q) := by
  intro c z'
  unfold nwS
  split
  · obtain ⟨a, b, d⟩ := dfl_ok (tyC c)
    refine ⟨a, b, d, fun h3 => ?_⟩
    unfold dfl
    rw [if_pos h3]
    have h1 := hA.2.2 (tyC c - 3)
    have h2 := nwA_ge (A := A) (k := k) (q := q) (k' := tyC c - 3)
    omega
  · obtain ⟨a, b, d, g⟩ := h c z'
    exact ⟨a, b, d, fun h3 => Int.lt_of_lt_of_le (g h3) nwA_ge⟩
theorem lv1_nw {A : AB} {k q k' : Nat} {z' : Int} (h : lv1 (nwA A k q) k' z') : lv1 A k' z' ∨ (k' = k ∧ z' = A.2 k) := by
  obtain ⟨h1, h2⟩ := h
  unfold nwA at h2
  simp only at h2
  split at h2
  next e =>
    subst e
    by_cases hz : z' = A.2 k'
    · exact Or.inr ⟨rfl, hz⟩
    · exact Or.inl ⟨h1, by omega⟩
  next => exact Or.inl ⟨h1, h2⟩
theorem HW.nw {G : GT} {S : ST} {A : AB} {Al : Nat → Prop} {H1 : Heap} {ws : va_W} (g1 : ∀ (k : Nat) (z : Int), lv1 A k z → (A.1 k z, cellV G A S k z) ∈ ws) (g2 : ∀ q : Nat × va_E, q ∈ ws → ∃ (k : Nat) (z : Int), lv1 A k z ∧ q = (A.1 k z, cellV G A S k z)) (hA : AI A) (hW : WT S A) {k q : Nat} (ha : 8 ≤ k → A.2 k = 0) {e : va_E} (he : e = cellV G (nwA A k q) (nwS S k (A.2 k)) k (A.2 k)) (hP : va_P G.1 vwCl (ws ++ [(q, e)]) H1) (hD : va_D Al (ws ++ [(q, e)])) : HW G (nwS S k (A.2 k)) (nwA A k q) Al H1 := by
  have hnew : (ws ++ [(q, e)])[ws.length]? = some (q, e) := by simp
  have fresh : ∀ (k' : Nat) (z' : Int), lv1 A k' z' → A.1 k' z' ≠ q := by
    intro k' z' hl heq
    obtain ⟨i, hi⟩ := List.getElem?_of_mem (g1 k' z' hl)
    have hil : i < ws.length := (List.getElem?_eq_some_iff.mp hi).1
    have hi' : (ws ++ [(q, e)])[i]? = some (A.1 k' z', cellV G A S k' z') := by rw [List.getElem?_append_left hil]; exact hi
    have := hD.1 i ws.length _ _ hi' hnew heq
    omega
  refine ⟨ws ++ [(q, e)], fun k' z' hl => ?_, fun x hx => ?_, hP, hD, ⟨fun k1 z1 k2 z2 h1 h2 heq => ?_, fun k' h8 => ?_, fun k' => ?_⟩, hW.nw hA⟩
  · rcases lv1_nw hl with h | ⟨rfl, rfl⟩
    · rw [nwA_old h.2, cell_nw hW h ha]
      exact List.mem_append_left _ (g1 k' z' h)
    · rw [nwA_new, ← he]
      exact List.mem_append_right _ List.mem_cons_self
  · rcases List.mem_append.mp hx with hx | hx
    · obtain ⟨k', z', hl, rfl⟩ := g2 x hx
      refine ⟨k', z', ⟨hl.1, Int.lt_of_lt_of_le hl.2 nwA_ge⟩, ?_⟩
      rw [nwA_old hl.2, cell_nw hW hl ha]
    · rw [List.mem_singleton.mp hx]
      refine ⟨k, A.2 k, ⟨hA.2.2 k, by rw [nwA_2]; omega⟩, ?_⟩
      rw [nwA_new, he]
  · rcases lv1_nw h1 with a1 | ⟨rfl, rfl⟩ <;> rcases lv1_nw h2 with a2 | ⟨rfl, rfl⟩
    · rw [nwA_old a1.2, nwA_old a2.2] at heq
      exact hA.1 _ _ _ _ a1 a2 heq
    · rw [nwA_old a1.2, nwA_new] at heq
      exact absurd heq (fresh _ _ a1)
    · rw [nwA_old a2.2, nwA_new] at heq
      exact absurd heq.symm (fresh _ _ a2)
    · exact ⟨rfl, rfl⟩
  · unfold nwA
    simp only
    split
    next h => subst h; rw [ha h8]; omega
    next => exact hA.2.1 k' h8
  · exact Int.le_trans (hA.2.2 k') nwA_ge
theorem r_new {G : GT} {l : Launch} {R : Room} {cc : ByteArray} {nL : Nat} {own mn : String} {tb : List ExceptionTableEntry} {J : JT} {X : XT} (C : Cx G l R cc nL own mn tb J X) {pc : Nat} {lv : List (Option Value)} {st : List Value} {S : ST} {A : AB} {k n : Nat}
    {idx kd N : Nat} {C0 : String} {T : u_T} (d : decode cc pc = .ok (.new idx, 3)) (hc : vwCl[kd]? = some (C0, T, N)) (hcl : Cond.classLink own idx C0 ∈ WA) (hin : Cond.instantiable C0 N ∈ WA) (hini : Cond.initialized C0 ∈ WA) (hkc : k + 1 ≤ R.cells) (hns : n + N ≤ R.slots) (kk : ∀ q : Nat, J (pc + 3) lv (vR (nwA A kd q) kd (A.2 kd) :: st) (nwS S kd (A.2 kd)) (nwA A kd q) (k + 1) (n + N)) : J pc lv st S A k n := by
  obtain ⟨p, e, s, m, args, below, meth, c, Al, Q, rfl, rfl, hx, hb, hml, hown, hts, hG, hAl, hfl, hmn, htb⟩ := C
  intro H locs ls hl hw hs
  obtain ⟨ws, g1, g2, hP, hD, hA, hW⟩ := hw
  obtain ⟨k1, k2, k3, ty, k4, k5, k6⟩ := KF kd _ hc
  have hN : N = nF kd := k2
  refine va_new (ci := kd) (fs := (List.range (nF kd)).map (fun f => fV A (fT kd f) (dfl (fT kd f)))) hx hb hts k3 ty k4 hown (hts _ hcl) (hts _ hin) (hts _ hini) hG.1 hP hD hs hAl hc (fun j hj => ?_) hkc hns d (fun q H1 hP1 hD1 hS1 => ?_)
  · have hj' : j < nF kd := by rw [← hN]; exact hj
    rw [tyfit_dfl (k6 j hj) (A := A)]
    unfold vp_V
    rw [List.getD_eq_getElem?_getD, List.getElem?_map, List.getElem?_range hj']
    rfl
  · have h9 := kk q H1 locs ls hl (HW.nw g1 g2 hA hW (fun h8 => by omega) ?_ hP1 hD1) hS1
    · rw [vR_ref (hA.2.2 kd), nwA_new] at h9
      exact h9
    · rw [cellV_o k1]
      congr 2
      unfold oFs
      refine List.map_congr_left (fun f hf => ?_)
      have hf' := List.mem_range.mp hf
      obtain ⟨e1, e2⟩ := fT_tyC k1 hf'
      have e3 : nwS S kd (A.2 kd) (32 * kd + f) (A.2 kd) = dfl (fT kd f) := by
        unfold nwS
        rw [e2, if_pos ⟨rfl, fun _ => rfl⟩, e1]
      rw [e3]
      refine (fV_nw (fun h3 => ?_)).symm
      unfold dfl
      rw [if_pos h3]
      have := hA.2.2 (fT kd f - 3)
      omega
theorem arr_same {s : State} {a b : ClassId} {ty : FieldType} (h1 : va_RA s a ty) (h2 : va_RA s b ty) : a = b := by
  cases ty with
  | object C =>
    obtain ⟨-, -, -, -, -, e1⟩ := h1
    obtain ⟨-, -, -, -, -, e2⟩ := h2
    exact Option.some.inj (e1.symm.trans e2)
  | _ => exact Option.some.inj (h1.symm.trans h2)
theorem r_newarr {G : GT} {l : Launch} {R : Room} {cc : ByteArray} {nL : Nat} {own mn : String} {tb : List ExceptionTableEntry} {J : JT} {X : XT} (C : Cx G l R cc nL own mn tb J X) {pc : Nat} {lv : List (Option Value)} {st : List Value} {S : ST} {A : AB} {k n : Nat}
    {kd t N : Nat} {at' : ArrayType} (d : decode cc pc = .ok (.newarray at', 2)) (h8 : 8 ≤ kd) (h0 : A.2 kd = 0) (ht : aTN kd = (t, N)) (hN : N < 4000) (hty : at' = .int ∧ t = 0) (har : Cond.arrayClass (newarray.typeOf at') ∈ WA) (hkc : k + 1 ≤ R.cells) (hns : n + N ≤ R.slots) (kk : ∀ q : Nat, J (pc + 2) lv (vR (nwA A kd q) kd 0 :: st) (nwS S kd 0) (nwA A kd q) (k + 1) (n + N)) : J pc lv (vI (N : Int) :: st) S A k n := by
  obtain ⟨p, en, s, m, args, below, meth, c, Al, Q, rfl, rfl, hx, hb, hml, hown, hts, hG, hAl, hfl, hmn, htb⟩ := C
  intro H locs ls hl hw hs
  obtain ⟨ws, g1, g2, hP, hD, hA, hW⟩ := hw
  have hr : rI (N : Int) := by unfold rI; omega
  have hneg : ¬ iI (N : Int) < 0 := by
    rw [← iI_0, iI_lt hr rI_0]
    omega
  have hcl : (iI (N : Int)).toNatClampNeg = N := by rw [iI_clamp hr]; rfl
  have fin : ∀ (q : Nat) (H1 : Heap) (e : va_E), e = aCl G (nwA A kd q) (nwS S kd 0) kd → va_P G.1 vwCl (ws ++ [(q, e)]) H1 → va_D Al (ws ++ [(q, e)]) → va_S Al s.heap H1 locs → W p l en R s m args below meth c H1 locs (k + 1) (n + N) Q (F0 m (pc + 2) ls (.ref q :: st)) := by
    intro q H1 e he hP1 hD1 hS1
    have h9 := kk q H1 locs ls hl ?_ hS1
    · have h7 : vR (nwA A kd q) kd 0 = .ref q := by
        rw [vR_ref (by omega)]
        have := nwA_new (A := A) (k := kd) (q := q)
        rw [h0] at this
        rw [this]
      rw [h7] at h9
      exact h9
    · have h6 := HW.nw (k := kd) (q := q) g1 g2 hA hW (fun _ => h0) (e := e) (by rw [cellV_a h8, h0]; exact he) hP1 hD1
      rw [h0] at h6
      exact h6
  have e3 : ∀ j : Int, nwS S kd 0 (32 * kd) j = dfl t := by
    intro j
    unfold nwS
    rw [(tyC_a h8).2, if_pos ⟨rfl, fun h => by omega⟩, (tyC_a h8).1, ht]
  have har' := hts _ har
  obtain ⟨rfl, rfl⟩ := hty
  · refine va_newa (atype := .int) (ty := .int) (a0 := (N, .inl (fun _ => (0 : Int32)))) hx hb har' rfl hG.1 hP hD hs hAl (fun _ => rfl) hneg hcl (by show N * 4 ≤ _; omega) hkc hns d (fun q cA H1 hK1 hP1 hD1 hS1 => ?_)
    obtain rfl : cA = G.2.1 := arr_same (hK1.2 2 _ rfl).2 (hG.1.2 0 _ rfl).2
    exact fin q H1 _ (by rw [aCl_0 ht]; simp only [e3]; rfl) hP1 hD1 hS1
theorem r_newref {G : GT} {l : Launch} {R : Room} {cc : ByteArray} {nL : Nat} {own mn : String} {tb : List ExceptionTableEntry} {J : JT} {X : XT} (C : Cx G l R cc nL own mn tb J X) {pc : Nat} {lv : List (Option Value)} {st : List Value} {S : ST} {A : AB} {k n : Nat}
    {kd N idx : Nat} (d : decode cc pc = .ok (.anewarray idx, 3)) (h8 : 8 ≤ kd) (h0 : A.2 kd = 0) (ht : aTN kd = (6, N)) (hN : N < 4000) (hcl9 : Cond.classLink own idx RX3 ∈ WA) (hkc : k + 1 ≤ R.cells) (hns : n + N ≤ R.slots) (kk : ∀ q : Nat, J (pc + 3) lv (vR (nwA A kd q) kd 0 :: st) (nwS S kd 0) (nwA A kd q) (k + 1) (n + N)) : J pc lv (vI (N : Int) :: st) S A k n := by
  obtain ⟨p, e, s, m, args, below, meth, c, Al, Q, rfl, rfl, hx, hb, hml, hown, hts, hG, hAl, hfl, hmn, htb⟩ := C
  intro H locs ls hl hw hs
  obtain ⟨ws, g1, g2, hP, hD, hA, hW⟩ := hw
  have hr : rI (N : Int) := by unfold rI; omega
  have hneg : ¬ iI (N : Int) < 0 := by
    rw [← iI_0, iI_lt hr rI_0]
    omega
  have hcl : (iI (N : Int)).toNatClampNeg = N := by rw [iI_clamp hr]; rfl
  have e3 : ∀ j : Int, nwS S kd 0 (32 * kd) j = -1 := by
    intro j
    unfold nwS
    rw [(tyC_a h8).2, if_pos ⟨rfl, fun h => by omega⟩, (tyC_a h8).1, ht]
    rfl
  refine va_newq (C := RX3) hx hb hown (hts _ hcl9) hG.2.2.2.2.2.2.2 hG.1 hP hD hs hAl hneg hcl (by omega) hkc hns d (fun q cA H1 hK1 hP1 hD1 hS1 => ?_)
  obtain rfl : cA = G.2.2.2.2 := arr_same (hK1.2 2 _ rfl).2 (hG.1.2 1 _ rfl).2
  have h9 := kk q H1 locs ls hl ?_ hS1
  · have h7 : vR (nwA A kd q) kd 0 = .ref q := by
      rw [vR_ref (by omega)]
      have := nwA_new (A := A) (k := kd) (q := q)
      rw [h0] at this
      rw [this]
    rw [h7] at h9
    exact h9
  · have h6 := HW.nw (k := kd) (q := q) g1 g2 hA hW (fun _ => h0) (e := _) (by rw [cellV_a h8, h0, aCl_6 ht]; simp only [e3]; rfl) hP1 hD1
    rw [h0] at h6
    exact h6
