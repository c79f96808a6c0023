/-! remainders, numbers as the machine holds them, bits set one by one; hashes -/
theorem iI_rem {a b : Int} (ha : rI a) (h0 : 0 ≤ a) (hb : rI b) (h1 : 0 < b) : iI a - iI a / iI b * iI b = iI (a % b) := by
  rw [iI_div ha h0 hb h1, iI_mul, iI_sub]
  congr 1
  have := Int.mul_ediv_add_emod a b
  rw [Int.mul_comm] at this
  omega
theorem r_irem {G : GT} {l : Launch} {R : Room} {cc : ByteArray} {nL : Nat} {own mn : String} {tb : List ExceptionTableEntry} {J : JT} {X : XT} (C : Cx G l R cc nL own mn tb J X) {pc : Nat} {lv : List (Option Value)} {st : List Value} {S : ST} {A : AB} {k n : Nat} {x y : Int} (d : decode cc pc = .ok (.irem, 1)) (h1 : rI x) (h2 : 0 ≤ x) (h3 : rI y) (h4 : 0 < y) (kk : J (pc + 1) lv (vI (x % y) :: st) S A k n) : J pc lv (vI y :: vI x :: st) S A k n := by
  obtain ⟨p, e, s, m, args, below, meth, c, Al, Q, rfl, rfl, hx, hb, hml, hown, hts, hG, hAl, hfl, hmn, htb⟩ := C
  intro H locs ls hl hw hs
  refine lv_irem hx hb d (iI_ne0 h3 (by omega)) ?_
  rw [iI_rem h1 h2 h3 h4]
  exact kk H locs ls hl hw hs
/-- a long as the machine holds it -/
def wL (z : Int) : Int := (lI z).toInt
theorem wL_r (z : Int) : rL (wL z) := (lI_of (lI z)).2
theorem vL_w (z : Int) : vL z = vL (wL z) := congrArg Value.long (lI_of (lI z)).1
theorem land_01 (x : Int) : fLand x 1 = 0 ∨ fLand x 1 = 1 := by
  unfold fLand
  have h1 : (lI x &&& lI 1).toBitVec = (lI x).toBitVec &&& 1#64 := rfl
  have h2 : ((lI x).toBitVec &&& 1#64) = if (lI x).toBitVec.getLsbD 0 then 1#64 else 0#64 := by
    apply BitVec.eq_of_getLsbD_eq
    intro i hi
    rw [BitVec.getLsbD_and]
    by_cases h0 : i = 0
    · subst h0
      cases h : (lI x).toBitVec.getLsbD 0 <;> simp
    · cases h : (lI x).toBitVec.getLsbD 0 <;> simp [BitVec.getLsbD_one, h0]
  show (lI x &&& lI 1).toBitVec.toInt = 0 ∨ (lI x &&& lI 1).toBitVec.toInt = 1
  rw [h1, h2]
  cases h : (lI x).toBitVec.getLsbD 0 <;> simp
theorem not_has {s m : Int} (h : ¬ hasB s m) : fLand (fLshr s m) 1 = 0 := by
  rcases land_01 (fLshr s m) with q | q
  · exact q
  · exact absurd q h
theorem lshl_bv {s m : Int} (h0 : 0 ≤ m) (h1 : m < 64) : (lI s <<< ((iI m).toInt64 &&& 63)).toBitVec = (lI s).toBitVec <<< m.toNat := by
  rw [Int64.toBitVec_shiftLeft, sh_k h0 h1]
  show (lI s).toBitVec <<< ((BitVec.ofNat 64 m.toNat).smod 64).toNat = _
  rw [sh_s ⟨m.toNat, by omega⟩]
theorem bit_or {s m j : Int} (h0 : 0 ≤ m) (h1 : m < 64) (j0 : 0 ≤ j) (j1 : j < 64) : hasB (fLor s (fLshl 1 m)) j ↔ hasB s j ∨ j = m := by
  rw [has_bit j0 j1, has_bit j0 j1]
  unfold bitB fLor
  rw [← (lI_of _).1]
  have e : (lI s ||| lI (fLshl 1 m)).toBitVec = (lI s).toBitVec ||| (lI (fLshl 1 m)).toBitVec := rfl
  have e2 : (lI (fLshl 1 m)).toBitVec = 1#64 <<< m.toNat := by
    unfold fLshl
    rw [← (lI_of _).1, lshl_bv h0 h1]
    rfl
  rw [e, e2, BitVec.getLsbD_or, BitVec.getLsbD_shiftLeft, BitVec.getLsbD_one]
  simp only [Bool.or_eq_true, Bool.and_eq_true, Bool.not_eq_true', decide_eq_true_eq, decide_eq_false_iff_not]
  constructor
  · rintro (h | h)
    · exact Or.inl h
    · exact Or.inr (by omega)
  · rintro (h | h)
    · exact Or.inl h
    · exact Or.inr (by omega)
theorem bit_z {j : Int} (j0 : 0 ≤ j) (j1 : j < 64) : ¬ hasB 0 j := by
  rw [has_bit j0 j1]
  unfold bitB
  have e : (lI 0).toBitVec = 0#64 := rfl
  rw [e, BitVec.getLsbD_zero]
  simp
theorem shl_p : ∀ c : Fin 61, fLshl 1 ((c : Nat) : Int) = 2 ^ (c : Nat) := by decide +kernel
theorem pow_p : ∀ c : Fin 61, (0 : Int) ≤ 2 ^ (c : Nat) - 1 ∧ (2 : Int) ^ (c : Nat) - 1 ≤ 1152921504606846975 := by decide +kernel
theorem bit_p : ∀ c : Fin 61, ∀ j : Fin 64, (BitVec.ofInt 64 ((2 : Int) ^ (c : Nat) - 1)).getLsbD j = decide ((j : Nat) < (c : Nat)) := by decide +kernel
theorem low_r {c : Int} (h : 0 ≤ c ∧ c ≤ 60) : rL (fLshl 1 c - 1) := by
  obtain ⟨k, rfl⟩ : ∃ k : Nat, c = k := ⟨c.toNat, by omega⟩
  have h1 := shl_p ⟨k, by omega⟩
  have h2 := pow_p ⟨k, by omega⟩
  have h1' : fLshl 1 (k : Int) = 2 ^ k := h1
  have h2' : (0 : Int) ≤ 2 ^ k - 1 ∧ (2 : Int) ^ k - 1 ≤ 1152921504606846975 := h2
  rw [h1']
  omega
theorem bits_all {P c : Int} (hP : rL P) (hc : 0 ≤ c ∧ c ≤ 60) (h : ∀ j, 0 ≤ j → j < 64 → (hasB P j ↔ j < c)) : P = fLshl 1 c - 1 := by
  have hr := low_r hc
  refine (lI_eq hP hr).mp ?_
  obtain ⟨k, rfl⟩ : ∃ k : Nat, c = k := ⟨c.toNat, by omega⟩
  have h1 : fLshl 1 (k : Int) = 2 ^ k := shl_p ⟨k, by omega⟩
  rw [h1]
  have e : (lI ((2 : Int) ^ k - 1)).toBitVec = BitVec.ofInt 64 ((2 : Int) ^ k - 1) := rfl
  refine Int64.toBitVec_inj.mp ?_
  rw [e]
  apply BitVec.eq_of_getLsbD_eq
  intro i hi
  have hb := bit_p ⟨k, by omega⟩ ⟨i, hi⟩
  have hb' : (BitVec.ofInt 64 ((2 : Int) ^ k - 1)).getLsbD i = decide (i < k) := hb
  rw [hb']
  have h9 := h (i : Int) (by omega) (by omega)
  rw [has_bit (by omega) (by omega)] at h9
  unfold bitB at h9
  rw [Int.toNat_natCast] at h9
  by_cases q : i < k
  · rw [decide_eq_true q]; exact h9.mpr (by omega)
  · rw [decide_eq_false q]; exact Bool.eq_false_iff.mpr (fun z => q (by have := h9.mp z; omega))
/-! hashes of answers -/
def inH (g : Int → Int) : Nat → Int → Int
  | 0, h => h
  | k + 1, h => 1000003 * inH g k h + g k
def outH (G : Int → Int → Int) (st : Int) : Nat → Int → Int → Int
  | 0, _, h => h
  | N + 1, d, h => if d < 0 then h else outH G st N (d - st) (inH (G d) 12 h)
def sgh (G : Int → Int → Int) (u : Int) : Int := outH G (1 + u / 7) (u.toNat + 1) u 0
theorem inH_c {g g' : Int → Int} : ∀ (k : Nat) (h : Int), (∀ w : Int, 0 ≤ w → w < k → g w = g' w) → inH g k h = inH g' k h
  | 0, _, _ => rfl
  | k + 1, h, e => by
    show 1000003 * inH g k h + g k = 1000003 * inH g' k h + g' k
    rw [inH_c k h (fun w w0 w1 => e w w0 (by omega)), e k (by omega) (by omega)]
theorem outH_neg {G : Int → Int → Int} {st : Int} (f : Nat) {d h : Int} (hd : d < 0) : outH G st f d h = h := by
  cases f with
  | zero => rfl
  | succ f => show (if d < 0 then h else _) = h; rw [if_pos hd]
theorem outH_pos {G : Int → Int → Int} {st d h F : Int} {f : Nat} (h0 : 0 ≤ d) (hf : d < f) (hs : 1 ≤ st) (hF : outH G st f d h = F) : ∃ f' : Nat, f = f' + 1 ∧ d - st < f' ∧ outH G st f' (d - st) (inH (G d) 12 h) = F := by
  cases f with
  | zero => omega
  | succ f =>
    refine ⟨f, rfl, by omega, ?_⟩
    have e : (if d < 0 then h else outH G st f (d - st) (inH (G d) 12 h)) = F := hF
    rw [if_neg (by omega)] at e
    exact e
theorem outH_c {G G' : Int → Int → Int} {st u : Int} (hs : 1 ≤ st) (e : ∀ d w : Int, 0 ≤ d → d ≤ u → 0 ≤ w → w < 12 → G d w = G' d w) : ∀ (f : Nat) (d h : Int), d ≤ u → outH G st f d h = outH G' st f d h
  | 0, _, _, _ => rfl
  | f + 1, d, h, hd => by
    show (if d < 0 then h else outH G st f (d - st) (inH (G d) 12 h)) = (if d < 0 then h else outH G' st f (d - st) (inH (G' d) 12 h))
    by_cases q : d < 0
    · rw [if_pos q, if_pos q]
    · rw [if_neg q, if_neg q, inH_c 12 h (fun w w0 w1 => e d w (by omega) hd w0 (by omega)), outH_c hs e f _ _ (by omega)]
theorem sgh_c {G G' : Int → Int → Int} {u : Int} (hu : 0 ≤ u) (e : ∀ d w : Int, 0 ≤ d → d ≤ u → 0 ≤ w → w < 12 → G d w = G' d w) : sgh G u = sgh G' u := outH_c (by omega) e _ _ _ (Int.le_refl _)
noncomputable def psA (R : RW) (i : Int) : Int → Int → Int := fun d w => if w = 1 then 0 else akv R i d w
noncomputable def al1 (R : RW) : Nat → Int
  | 0 => R.n
  | k + 1 => 8191 * al1 R k + R.kd k + 7 * R.dy k + 4001 * cI (R.gn k = 0) (fst k (LdR R)) (-1)
noncomputable def al2 (R : RW) : Nat → Int
  | 0 => al1 R R.n.toNat
  | k + 1 => 31 * al2 R k + wL (sgh (akv R k) 364)
noncomputable def allF (R : RW) : Int := al2 R 6
/-- the answers by their numbers -/
theorem akv_0 (R : RW) (i d : Int) : akv R i d 0 = haR R i d := rfl
theorem akv_1 (R : RW) (i d : Int) : akv R i d 1 = mn 1000 (spR R i d 60) := rfl
theorem akv_2 (R : RW) (i d : Int) : akv R i d 2 = (wk R i d).rcv := rfl
theorem akv_3 (R : RW) (i d : Int) : akv R i d 3 = ((wk R i d).q.length : Int) := rfl
theorem akv_4 (R : RW) (i d : Int) : akv R i d 4 = qc (wk R i d).q := rfl
theorem akv_5 (R : RW) (i d : Int) : akv R i d 5 = (wk R i d).avg := rfl
theorem akv_6 (R : RW) (i d : Int) : akv R i d 6 = (wk R i d).i0 := rfl
theorem akv_7 (R : RW) (i d : Int) : akv R i d 7 = (wk R i d).i1 := rfl
theorem akv_8 (R : RW) (i d : Int) : akv R i d 8 = (wk R i d).v0 := rfl
theorem akv_9 (R : RW) (i d : Int) : akv R i d 9 = (wk R i d).v1 := rfl
theorem akv_10 (R : RW) (i d : Int) : akv R i d 10 = (wk R i d).e0 := rfl
theorem akv_11 (R : RW) (i d : Int) : akv R i d 11 = (wk R i d).e1 := rfl
