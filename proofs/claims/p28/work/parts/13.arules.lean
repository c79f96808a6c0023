theorem r_getI {G : GT} {l : Launch} {R : Room} {cc : ByteArray} {nL : Nat} {own mn : String} {tb : List ExceptionTableEntry} {J : JT} {X : XT} (C : Cx G l R cc nL own mn tb J X) {pc : Nat} {lv : List (Option Value)} {st : List Value} {S : ST} {A : AB} {k n : Nat} {idx kd f : Nat} {z : Int} (c : Nat) (d : decode cc pc = .ok (.getfield idx, 3)) (hf : FG own idx kd f) (ht : fT kd f = 0) (hc : 32 * kd + f = c) (hz : lv1 A kd z) (kk : rI (S c z) → J (pc + 3) lv (vI (S c z) :: st) S A k n) : J pc lv (vR A kd z :: st) S A k n := by
  subst hc
  refine r_getf C d hf hz (fun h => ?_)
  rw [ht] at h ⊢
  rw [ht] at *
  exact kk (h.2.1 rfl)
theorem r_getZ {G : GT} {l : Launch} {R : Room} {cc : ByteArray} {nL : Nat} {own mn : String} {tb : List ExceptionTableEntry} {J : JT} {X : XT} (C : Cx G l R cc nL own mn tb J X) {pc : Nat} {lv : List (Option Value)} {st : List Value} {S : ST} {A : AB} {k n : Nat} {idx kd f : Nat} {z : Int} (c : Nat) (d : decode cc pc = .ok (.getfield idx, 3)) (hf : FG own idx kd f) (ht : fT kd f = 2) (hc : 32 * kd + f = c) (hz : lv1 A kd z) (kk : S c z = 0 ∨ S c z = 1 → J (pc + 3) lv (vI (S c z) :: st) S A k n) : J pc lv (vR A kd z :: st) S A k n := by
  subst hc
  refine r_getf C d hf hz (fun h => ?_)
  rw [ht] at h ⊢
  rw [ht] at *
  exact kk (h.2.2.1 rfl)
theorem r_getJ {G : GT} {l : Launch} {R : Room} {cc : ByteArray} {nL : Nat} {own mn : String} {tb : List ExceptionTableEntry} {J : JT} {X : XT} (C : Cx G l R cc nL own mn tb J X) {pc : Nat} {lv : List (Option Value)} {st : List Value} {S : ST} {A : AB} {k n : Nat} {idx kd f : Nat} {z : Int} (c : Nat) (d : decode cc pc = .ok (.getfield idx, 3)) (hf : FG own idx kd f) (ht : fT kd f = 1) (hc : 32 * kd + f = c) (hz : lv1 A kd z) (kk : rL (S c z) → J (pc + 3) lv (vL (S c z) :: st) S A k n) : J pc lv (vR A kd z :: st) S A k n := by
  subst hc
  refine r_getf C d hf hz (fun h => ?_)
  rw [ht] at h ⊢
  rw [ht] at *
  exact kk (h.1)
theorem r_getA {G : GT} {l : Launch} {R : Room} {cc : ByteArray} {nL : Nat} {own mn : String} {tb : List ExceptionTableEntry} {J : JT} {X : XT} (C : Cx G l R cc nL own mn tb J X) {pc : Nat} {lv : List (Option Value)} {st : List Value} {S : ST} {A : AB} {k n : Nat} {idx kd f : Nat} {z : Int} (c k' : Nat) (d : decode cc pc = .ok (.getfield idx, 3)) (hf : FG own idx kd f) (ht : fT kd f = k' + 3) (hc : 32 * kd + f = c) (hz : lv1 A kd z) (kk : S c z < A.2 k' → J (pc + 3) lv (vR A k' (S c z) :: st) S A k n) : J pc lv (vR A kd z :: st) S A k n := by
  subst hc
  refine r_getf C d hf hz (fun h => ?_)
  rw [ht] at h ⊢
  exact kk (h.2.2.2 (by omega))
theorem r_putI {G : GT} {l : Launch} {R : Room} {cc : ByteArray} {nL : Nat} {own mn : String} {tb : List ExceptionTableEntry} {J : JT} {X : XT} (C : Cx G l R cc nL own mn tb J X) {pc : Nat} {lv : List (Option Value)} {st : List Value} {S : ST} {A : AB} {k n : Nat} {idx kd f : Nat} {z v : Int} (c : Nat) (d : decode cc pc = .ok (.putfield idx, 3)) (hf : FG own idx kd f) (ht : fT kd f = 0) (hc : 32 * kd + f = c) (hz : lv1 A kd z) (hfin : ∀ q : vw_C, vwCl[kd]? = some q → (q.2.1 f).2.2.2 = false ∨ ((q.2.1 f).2.2.2 = true ∧ mn = "<init>" ∧ (q.2.1 f).1 = own)) (hv : rI v) (kk : J (pc + 3) lv st (upS S c z v) A k n) : J pc lv (vI v :: vR A kd z :: st) S A k n := by
  subst hc
  have h9 := r_putf C (lv := lv) (st := st) (S := S) (A := A) (k := k) (n := n) (v := v) d hf hz hfin hv.L (fun _ => hv) (fun q => by omega) (fun q => by omega) kk
  rw [ht] at h9
  exact h9
theorem r_putZ {G : GT} {l : Launch} {R : Room} {cc : ByteArray} {nL : Nat} {own mn : String} {tb : List ExceptionTableEntry} {J : JT} {X : XT} (C : Cx G l R cc nL own mn tb J X) {pc : Nat} {lv : List (Option Value)} {st : List Value} {S : ST} {A : AB} {k n : Nat} {idx kd f : Nat} {z v : Int} (c : Nat) (d : decode cc pc = .ok (.putfield idx, 3)) (hf : FG own idx kd f) (ht : fT kd f = 2) (hc : 32 * kd + f = c) (hz : lv1 A kd z) (hfin : ∀ q : vw_C, vwCl[kd]? = some q → (q.2.1 f).2.2.2 = false ∨ ((q.2.1 f).2.2.2 = true ∧ mn = "<init>" ∧ (q.2.1 f).1 = own)) (hv : v = 0 ∨ v = 1) (kk : J (pc + 3) lv st (upS S c z v) A k n) : J pc lv (vI v :: vR A kd z :: st) S A k n := by
  subst hc
  have h9 := r_putf C (lv := lv) (st := st) (S := S) (A := A) (k := k) (n := n) (v := v) d hf hz hfin (by unfold rL; omega) (fun q => by omega) (fun _ => hv) (fun q => by omega) kk
  rw [ht] at h9
  exact h9
theorem r_putJ {G : GT} {l : Launch} {R : Room} {cc : ByteArray} {nL : Nat} {own mn : String} {tb : List ExceptionTableEntry} {J : JT} {X : XT} (C : Cx G l R cc nL own mn tb J X) {pc : Nat} {lv : List (Option Value)} {st : List Value} {S : ST} {A : AB} {k n : Nat} {idx kd f : Nat} {z v : Int} (c : Nat) (d : decode cc pc = .ok (.putfield idx, 3)) (hf : FG own idx kd f) (ht : fT kd f = 1) (hc : 32 * kd + f = c) (hz : lv1 A kd z) (hfin : ∀ q : vw_C, vwCl[kd]? = some q → (q.2.1 f).2.2.2 = false ∨ ((q.2.1 f).2.2.2 = true ∧ mn = "<init>" ∧ (q.2.1 f).1 = own)) (hv : rL v) (kk : J (pc + 3) lv st (upS S c z v) A k n) : J pc lv (vL v :: vR A kd z :: st) S A k n := by
  subst hc
  have h9 := r_putf C (lv := lv) (st := st) (S := S) (A := A) (k := k) (n := n) (v := v) d hf hz hfin hv (fun q => by omega) (fun q => by omega) (fun q => by omega) kk
  rw [ht] at h9
  exact h9
theorem r_putA {G : GT} {l : Launch} {R : Room} {cc : ByteArray} {nL : Nat} {own mn : String} {tb : List ExceptionTableEntry} {J : JT} {X : XT} (C : Cx G l R cc nL own mn tb J X) {pc : Nat} {lv : List (Option Value)} {st : List Value} {S : ST} {A : AB} {k n : Nat} {idx kd f : Nat} {z v : Int} (c k' : Nat) (d : decode cc pc = .ok (.putfield idx, 3)) (hf : FG own idx kd f) (ht : fT kd f = k' + 3) (hc : 32 * kd + f = c) (hz : lv1 A kd z) (hfin : ∀ q : vw_C, vwCl[kd]? = some q → (q.2.1 f).2.2.2 = false ∨ ((q.2.1 f).2.2.2 = true ∧ mn = "<init>" ∧ (q.2.1 f).1 = own)) (hv : rL v) (hv' : v < A.2 k') (kk : J (pc + 3) lv st (upS S c z v) A k n) : J pc lv (vR A k' v :: vR A kd z :: st) S A k n := by
  subst hc
  have h9 := r_putf C (lv := lv) (st := st) (S := S) (A := A) (k := k) (n := n) (v := v) d hf hz hfin hv (fun q => by omega) (fun q => by omega) (fun _ => by rw [ht]; exact hv') kk
  rw [ht] at h9
  exact h9
theorem aCl_0 {G : GT} {A : AB} {S : ST} {kd N : Nat} (h : aTN kd = (0, N)) : aCl G A S kd = .inl (G.2.1, N, .inl (fun j : Nat => iI (S (32 * kd) j))) := by
  unfold aCl
  rw [h]
  rfl
theorem aCl_1 {G : GT} {A : AB} {S : ST} {kd N : Nat} (h : aTN kd = (1, N)) : aCl G A S kd = .inl (G.2.2.1, N, .inr (.inl (fun j : Nat => lI (S (32 * kd) j)))) := by
  unfold aCl
  rw [h]
  rfl
theorem aCl_2 {G : GT} {A : AB} {S : ST} {kd N : Nat} (h : aTN kd = (2, N)) : aCl G A S kd = .inl (G.2.2.2.1, N, .inl (fun j : Nat => iI (S (32 * kd) j))) := by
  unfold aCl
  rw [h]
  rfl
theorem aCl_6 {G : GT} {A : AB} {S : ST} {kd N : Nat} (h : aTN kd = (6, N)) : aCl G A S kd = .inl (G.2.2.2.2, N, .inr (.inr (.inr (.inr (fun j : Nat => rfo A 3 (S (32 * kd) j)))))) := by
  unfold aCl
  rw [h]
  rfl
theorem arr_at {A : AB} (hA : AI A) {kd : Nat} {z : Int} (h8 : 8 ≤ kd) (hz : lv1 A kd z) : z = 0 := by
  have := hA.2.1 kd h8
  obtain ⟨h1, h2⟩ := hz
  omega
theorem tyC_a {kd : Nat} (h8 : 8 ≤ kd) : tyC (32 * kd) = (aTN kd).1 ∧ (32 * kd) / 32 = kd := by
  have hd : (32 * kd) / 32 = kd := by omega
  refine ⟨?_, hd⟩
  unfold tyC
  rw [hd, if_neg (by omega)]
theorem HW.arr {G : GT} {S : ST} {A : AB} {Al : Nat → Prop} {H H1 : Heap} {ws : va_W} (g1 : ∀ (k : Nat) (z : Int), lv1 A k z → (A.1 k z, cellV G A S k z) ∈ ws) (g2 : ∀ q : Nat × va_E, q ∈ ws → ∃ (k : Nat) (z : Int), lv1 A k z ∧ q = (A.1 k z, cellV G A S k z)) (hA : AI A) (hD : va_D Al ws) {kd : Nat} {z : Int} (h8 : 8 ≤ kd) (hl : lv1 A kd z) {q0 : Nat} (hq : ws[q0]? = some (A.1 kd z, cellV G A S kd z)) {i v : Int} (hW : WT (upS S (32 * kd) i v) A) (hP : va_P G.1 vwCl (ws.set q0 (A.1 kd z, aCl G A (upS S (32 * kd) i v) kd)) H1) (hD1 : va_D Al (ws.set q0 (A.1 kd z, aCl G A (upS S (32 * kd) i v) kd))) : HW G (upS S (32 * kd) i v) A Al H1 := by
  rw [← cellV_a (z := z) h8] at hP hD1
  refine HW.set (H := H) g1 g2 hA hD hl hq (fun k' z' hl' hne => cellV_ne fun hc => ?_) hW hP hD1
  rw [(tyC_a h8).2] at hc
  subst hc
  exact absurd ⟨rfl, (arr_at hA h8 hl').trans (arr_at hA h8 hl).symm⟩ hne
theorem r_iald {G : GT} {l : Launch} {R : Room} {cc : ByteArray} {nL : Nat} {own mn : String} {tb : List ExceptionTableEntry} {J : JT} {X : XT} (C : Cx G l R cc nL own mn tb J X) {pc : Nat} {lv : List (Option Value)} {st : List Value} {S : ST} {A : AB} {k n : Nat} {kd N : Nat} {z i : Int} (c : Nat) (d : decode cc pc = .ok (.iaload, 1)) (h8 : 8 ≤ kd) (ht : aTN kd = (0, N)) (hc : 32 * kd = c) (hz : lv1 A kd z) (h0 : 0 ≤ i) (h1 : i < N) (hi : rI i) (kk : rI (S c i) → J (pc + 1) lv (vI (S c i) :: st) S A k n) : J pc lv (vI i :: vR A kd z :: st) S A k n := by
  subst hc
  obtain ⟨p, e, s, m, args, below, meth, c, Al, Q, rfl, rfl, hx, hb, hml, hown, hts, hG, hAl, hfl, hmn, htb⟩ := C
  intro H locs ls hl hw hs
  rw [vR_ref hz.1]
  have hw' := hw
  obtain ⟨ws, g1, g2, hP, hD, hA, hW⟩ := hw
  obtain ⟨q0, hq⟩ := HW.at (Al := Al) (H := H) g1 hz
  rw [cellV_a h8, aCl_0 ht] at hq
  have hwc := hW (32 * kd) i
  rw [(tyC_a h8).1, ht] at hwc
  refine va_iald hx hb hG.1 hP q0 0 hq rfl (vp_in_iI h0 h1 hi) d ?_
  rw [iI_clamp hi, Int.toNat_of_nonneg h0]
  exact kk (hwc.2.1 rfl) H locs ls hl hw' hs
theorem r_aald {G : GT} {l : Launch} {R : Room} {cc : ByteArray} {nL : Nat} {own mn : String} {tb : List ExceptionTableEntry} {J : JT} {X : XT} (C : Cx G l R cc nL own mn tb J X) {pc : Nat} {lv : List (Option Value)} {st : List Value} {S : ST} {A : AB} {k n : Nat} {kd N : Nat} {z i : Int} (c : Nat) (d : decode cc pc = .ok (.aaload, 1)) (h8 : 8 ≤ kd) (ht : aTN kd = (6, N)) (hc : 32 * kd = c) (hz : lv1 A kd z) (h0 : 0 ≤ i) (h1 : i < N) (hi : rI i) (kk : S c i < A.2 3 → J (pc + 1) lv (vR A 3 (S c i) :: st) S A k n) : J pc lv (vI i :: vR A kd z :: st) S A k n := by
  subst hc
  obtain ⟨p, e, s, m, args, below, meth, c, Al, Q, rfl, rfl, hx, hb, hml, hown, hts, hG, hAl, hfl, hmn, htb⟩ := C
  intro H locs ls hl hw hs
  rw [vR_ref hz.1]
  have hw' := hw
  obtain ⟨ws, g1, g2, hP, hD, hA, hW⟩ := hw
  obtain ⟨q0, hq⟩ := HW.at (Al := Al) (H := H) g1 hz
  rw [cellV_a h8, aCl_6 ht] at hq
  refine va_aldq hx hb hG.1 hP q0 1 hq rfl (vp_in_iI h0 h1 hi) d ?_
  rw [iI_clamp hi, Int.toNat_of_nonneg h0]
  have hwc := (hW (32 * kd) i).2.2.2
  rw [(tyC_a h8).1, ht] at hwc
  exact kk (hwc (by omega)) H locs ls hl hw' hs
theorem r_iast {G : GT} {l : Launch} {R : Room} {cc : ByteArray} {nL : Nat} {own mn : String} {tb : List ExceptionTableEntry} {J : JT} {X : XT} (C : Cx G l R cc nL own mn tb J X) {pc : Nat} {lv : List (Option Value)} {st : List Value} {S : ST} {A : AB} {k n : Nat} {kd N : Nat} {z i : Int} {v : Int} (c : Nat) (d : decode cc pc = .ok (.iastore, 1)) (h8 : 8 ≤ kd) (ht : aTN kd = (0, N)) (hc : 32 * kd = c) (hz : lv1 A kd z) (h0 : 0 ≤ i) (h1 : i < N) (hi : rI i) (hv : rI v) (kk : J (pc + 1) lv st (upS S c i v) A k n) : J pc lv (vI v :: vI i :: vR A kd z :: st) S A k n := by
  subst hc
  obtain ⟨p, e, s, m, args, below, meth, c, Al, Q, rfl, rfl, hx, hb, hml, hown, hts, hG, hAl, hfl, hmn, htb⟩ := C
  intro H locs ls hl hw hs
  rw [vR_ref hz.1]
  obtain ⟨ws, g1, g2, hP, hD, hA, hW⟩ := hw
  obtain ⟨q0, hq⟩ := HW.at (Al := Al) (H := H) g1 hz
  have hq' := hq
  rw [cellV_a h8, aCl_0 ht] at hq
  have e1 : upd (fun j : Nat => iI (S (32 * kd) j)) (iI i).toNatClampNeg (iI v) = fun j : Nat => iI (upS S (32 * kd) i v (32 * kd) j) := by
    funext j
    rw [iI_clamp hi]
    unfold upd upS
    by_cases hj : j = i.toNat
    · rw [if_pos hj, if_pos ⟨rfl, by rw [hj]; exact Int.toNat_of_nonneg h0⟩]
    · rw [if_neg hj, if_neg (fun q => hj (by omega))]
  refine va_iast hx hb hG.1 hP hD hs q0 0 hq rfl (vp_in_iI h0 h1 hi) d (fun H1 locs1 hP1 hD1 hS1 => ?_)
  rw [e1, ← aCl_0 (G := G) (A := A) (S := upS S (32 * kd) i v) ht] at hP1 hD1
  have hty : tyC (32 * kd) = 0 := by rw [(tyC_a h8).1, ht]
  exact kk H1 locs1 ls hl (HW.arr (H := H) g1 g2 hA hD h8 hz hq' (hW.up hv.L (fun _ => hv) (fun q => by omega) (fun q => by omega)) hP1 hD1) hS1
theorem r_alen {G : GT} {l : Launch} {R : Room} {cc : ByteArray} {nL : Nat} {own mn : String} {tb : List ExceptionTableEntry} {J : JT} {X : XT} (C : Cx G l R cc nL own mn tb J X) {pc : Nat} {lv : List (Option Value)} {st : List Value} {S : ST} {A : AB} {k n : Nat} {kd N t : Nat} {z : Int} (d : decode cc pc = .ok (.arraylength, 1)) (h8 : 8 ≤ kd) (ht : aTN kd = (t, N)) (h3 : t = 0 ∨ t = 6) (hz : lv1 A kd z) (kk : J (pc + 1) lv (vI (N : Int) :: st) S A k n) : J pc lv (vR A kd z :: st) S A k n := by
  obtain ⟨p, e, s, m, args, below, meth, c, Al, Q, rfl, rfl, hx, hb, hml, hown, hts, hG, hAl, hfl, hmn, htb⟩ := C
  intro H locs ls hl hw hs
  rw [vR_ref hz.1]
  have hw' := hw
  obtain ⟨ws, g1, g2, hP, hD, hA, hW⟩ := hw
  obtain ⟨q0, hq⟩ := HW.at (Al := Al) (H := H) g1 hz
  rw [cellV_a h8] at hq
  have hN : Int32.ofNat N = iI (N : Int) := Int32.ofInt_eq_ofNat.symm
  have hk := kk H locs ls hl hw' hs
  rcases h3 with rfl | rfl
  · rw [aCl_0 ht] at hq
    exact va_alen hx hb hG.1 hP q0 0 hq rfl hN d hk
  · rw [aCl_6 ht] at hq
    exact va_alen hx hb hG.1 hP q0 1 hq rfl hN d hk
theorem r_aast {G : GT} {l : Launch} {R : Room} {cc : ByteArray} {nL : Nat} {own mn : String} {tb : List ExceptionTableEntry} {J : JT} {X : XT} (C : Cx G l R cc nL own mn tb J X) {pc : Nat} {lv : List (Option Value)} {st : List Value} {S : ST} {A : AB} {k n : Nat} {kd N : Nat} {z i : Int} {v : Int} (c : Nat) (d : decode cc pc = .ok (.aastore, 1)) (h8 : 8 ≤ kd) (ht : aTN kd = (6, N)) (hc : 32 * kd = c) (hz : lv1 A kd z) (h0 : 0 ≤ i) (h1 : i < N) (hi : rI i) (hv : lv1 A 3 v) (hv' : rL v) (kk : J (pc + 1) lv st (upS S c i v) A k n) : J pc lv (vR A 3 v :: vI i :: vR A kd z :: st) S A k n := by
  subst hc
  obtain ⟨p, e, s, m, args, below, meth, c, Al, Q, rfl, rfl, hx, hb, hml, hown, hts, hG, hAl, hfl, hmn, htb⟩ := C
  intro H locs ls hl hw hs
  rw [vR_ref hz.1, vR_ref hv.1]
  obtain ⟨ws, g1, g2, hP, hD, hA, hW⟩ := hw
  obtain ⟨q0, hq⟩ := HW.at (Al := Al) (H := H) g1 hz
  obtain ⟨q3, hq3⟩ := HW.at (Al := Al) (H := H) g1 hv
  have hq' := hq
  rw [cellV_o (by omega)] at hq3
  rw [cellV_a h8, aCl_6 ht] at hq
  have e1 : va_up (fun j : Nat => rfo A 3 (S (32 * kd) j)) (iI i).toNatClampNeg (some (A.1 3 v)) = fun j : Nat => rfo A 3 (upS S (32 * kd) i v (32 * kd) j) := by
    funext j
    rw [iI_clamp hi]
    unfold va_up upS
    by_cases hj : j = i.toNat
    · rw [if_pos hj, if_pos ⟨rfl, by rw [hj]; exact Int.toNat_of_nonneg h0⟩]
      unfold rfo
      rw [if_neg (by have := hv.1; omega)]
    · rw [if_neg hj, if_neg (fun q => hj (by omega))]
  refine va_astq (r := (RX3, TX3, 11)) hx hb hG.1 hP hD hs q0 1 q3 3 hq rfl hq3 rfl (vp_in_iI h0 h1 hi) d (fun H1 locs1 hP1 hD1 hS1 => ?_)
  rw [e1, ← aCl_6 (G := G) (A := A) (S := upS S (32 * kd) i v) ht] at hP1 hD1
  refine kk H1 locs1 ls hl (HW.arr (H := H) g1 g2 hA hD h8 hz hq' (hW.up hv' (fun q => ?_) (fun q => ?_) (fun q => ?_)) hP1 hD1) hS1
  · rw [(tyC_a h8).1, ht] at q; omega
  · rw [(tyC_a h8).1, ht] at q; omega
  · rw [(tyC_a h8).1, ht]; exact hv.2
