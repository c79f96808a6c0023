/-! bits -/
theorem bit_1 (y : Int64) : (y &&& lI 1).toInt = 1 ↔ y.toBitVec.getLsbD 0 = true := by
  have h1 : (y &&& lI 1).toBitVec = y.toBitVec &&& 1#64 := rfl
  have h2 : (y.toBitVec &&& 1#64) = if y.toBitVec.getLsbD 0 then 1#64 else 0#64 := by
    apply BitVec.eq_of_getLsbD_eq
    intro i hi
    rw [BitVec.getLsbD_and]
    by_cases h0 : i = 0
    · subst h0
      cases h : y.toBitVec.getLsbD 0 <;> simp
    · cases h : y.toBitVec.getLsbD 0 <;> simp [BitVec.getLsbD_one, h0]
  show (y &&& lI 1).toBitVec.toInt = 1 ↔ _
  rw [h1, h2]
  cases h : y.toBitVec.getLsbD 0 <;> simp
theorem sh_k {m : Int} (h0 : 0 ≤ m) (h1 : m < 64) : ((iI m).toInt64 &&& 63).toBitVec = BitVec.ofNat 64 m.toNat := by
  obtain ⟨k, rfl⟩ : ∃ k : Nat, m = k := ⟨m.toNat, by omega⟩
  have hk : k < 64 := by omega
  have key : ∀ j : Fin 64, ((iI ((j : Nat) : Int)).toInt64 &&& 63).toBitVec = BitVec.ofNat 64 ((j : Nat) : Int).toNat := by decide
  exact key ⟨k, hk⟩
theorem sh_s : ∀ j : Fin 64, ((BitVec.ofNat 64 (j : Nat)).smod 64).toNat = j := by decide
theorem sh_u : ∀ j : Fin 64, ((BitVec.ofNat 64 (j : Nat)) % 64).toNat = j := by decide
theorem lshr_bv {s m : Int} (h0 : 0 ≤ m) (h1 : m < 64) : (lI s >>> ((iI m).toInt64 &&& 63)).toBitVec = (lI s).toBitVec.sshiftRight m.toNat := by
  rw [Int64.toBitVec_shiftRight, sh_k h0 h1]
  show (lI s).toBitVec.sshiftRight ((BitVec.ofNat 64 m.toNat).smod 64).toNat = _
  rw [sh_s ⟨m.toNat, by omega⟩]
theorem lushr_bv {s m : Int} (h0 : 0 ≤ m) (h1 : m < 64) : (((lI s).toUInt64 >>> ((iI m).toInt64.toUInt64 &&& Int64.toUInt64 63)).toInt64).toBitVec = (lI s).toBitVec >>> m.toNat := by
  have h2 : ((iI m).toInt64.toUInt64 &&& Int64.toUInt64 63).toBitVec = BitVec.ofNat 64 m.toNat := sh_k h0 h1
  show ((lI s).toUInt64 >>> ((iI m).toInt64.toUInt64 &&& Int64.toUInt64 63)).toBitVec = _
  rw [UInt64.toBitVec_shiftRight, h2]
  show (lI s).toBitVec >>> ((BitVec.ofNat 64 m.toNat) % 64).toNat = _
  rw [sh_u ⟨m.toNat, by omega⟩]
/-- bit m of the number s -/
def bitB (s : Int) (k : Nat) : Prop := (lI s).toBitVec.getLsbD k = true
theorem has_bit {s m : Int} (h0 : 0 ≤ m) (h1 : m < 64) : hasB s m ↔ bitB s m.toNat := by
  unfold hasB fLand fLshr
  rw [← (lI_of _).1, bit_1, lshr_bv h0 h1, BitVec.getLsbD_sshiftRight]
  unfold bitB
  simp
  omega
theorem cho_bit {s m : Int} (h0 : 0 ≤ m) (h1 : m < 64) : fLand (fLushr s m) 1 = 1 ↔ hasB s m := by
  rw [has_bit h0 h1]
  unfold fLand fLushr
  rw [← (lI_of _).1, bit_1, lushr_bv h0 h1, BitVec.getLsbD_ushiftRight]
  unfold bitB
  simp
theorem ush_0 {s n : Int} (h0 : 0 ≤ n) (h1 : n < 64) : fLushr s n = 0 ↔ allR n 64 (fun m => ¬ hasB s m) := by
  have e1 : fLushr s n = ((lI s).toBitVec >>> n.toNat).toInt := by
    unfold fLushr
    rw [← lushr_bv h0 h1]
    rfl
  have e2 : ((lI s).toBitVec >>> n.toNat).toInt = 0 ↔ (lI s).toBitVec >>> n.toNat = 0#64 := by
    constructor
    · intro h
      exact BitVec.eq_of_toInt_eq (by rw [h]; rfl)
    · intro h; rw [h]; rfl
  rw [e1, e2]
  constructor
  · intro h m hm0 hm1 hb
    have h9 := (has_bit (by omega) hm1).mp hb
    unfold bitB at h9
    have h8 : ((lI s).toBitVec >>> n.toNat).getLsbD (m.toNat - n.toNat) = false := by rw [h]; simp
    rw [BitVec.getLsbD_ushiftRight, show n.toNat + (m.toNat - n.toNat) = m.toNat by omega, h9] at h8
    cases h8
  · intro h
    apply BitVec.eq_of_getLsbD_eq
    intro i hi
    rw [BitVec.getLsbD_ushiftRight, BitVec.getLsbD_zero]
    by_cases hk : n.toNat + i < 64
    · have h9 : ¬ hasB s (n.toNat + i : Nat) := h (n.toNat + i : Nat) (by omega) (by omega)
      rw [has_bit (by omega) (by omega)] at h9
      unfold bitB at h9
      rw [show ((n.toNat + i : Nat) : Int).toNat = n.toNat + i from Int.toNat_natCast _] at h9
      exact Bool.eq_false_iff.mpr h9
    · exact BitVec.getLsbD_of_ge _ _ (by omega)
