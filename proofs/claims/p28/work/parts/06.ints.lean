/-! numbers of the machine as whole numbers -/
def iI (z : Int) : Int32 := Int32.ofInt z
def lI (z : Int) : Int64 := Int64.ofInt z
abbrev vI (z : Int) : Value := .int (iI z)
abbrev vL (z : Int) : Value := .long (lI z)
abbrev rI (z : Int) : Prop := -2147483648 ≤ z ∧ z ≤ 2147483647
abbrev rL (z : Int) : Prop := -9223372036854775808 ≤ z ∧ z ≤ 9223372036854775807
theorem rI.L {z : Int} (h : rI z) : rL z := by unfold rI at h; unfold rL; omega
theorem iI_toInt {z : Int} (h : rI z) : (iI z).toInt = z := Int32.toInt_ofInt_of_le (by unfold rI at h; omega) (by unfold rI at h; omega)
theorem lI_toInt {z : Int} (h : rL z) : (lI z).toInt = z := Int64.toInt_ofInt_of_le (by unfold rL at h; omega) (by unfold rL at h; omega)
theorem iI_of (x : Int32) : x = iI x.toInt ∧ rI x.toInt := ⟨(Int32.ofInt_toInt x).symm, by have h1 := x.le_toInt; have h2 := x.toInt_lt; unfold rI; omega⟩
theorem lI_of (x : Int64) : x = lI x.toInt ∧ rL x.toInt := ⟨(Int64.ofInt_toInt x).symm, by have h1 := x.le_toInt; have h2 := x.toInt_lt; unfold rL; omega⟩
theorem iI_add (a b : Int) : iI a + iI b = iI (a + b) := (Int32.ofInt_add a b).symm
theorem iI_sub (a b : Int) : iI a - iI b = iI (a - b) := (Int32.ofInt_sub a b).symm
theorem iI_mul (a b : Int) : iI a * iI b = iI (a * b) := (Int32.ofInt_mul a b).symm
theorem iI_neg (a : Int) : -iI a = iI (-a) := (Int32.ofInt_neg a).symm
theorem lI_add (a b : Int) : lI a + lI b = lI (a + b) := (Int64.ofInt_add a b).symm
theorem lI_sub (a b : Int) : lI a - lI b = lI (a - b) := (Int64.ofInt_sub a b).symm
theorem lI_mul (a b : Int) : lI a * lI b = lI (a * b) := (Int64.ofInt_mul a b).symm
theorem iI_le {a b : Int} (ha : rI a) (hb : rI b) : iI a ≤ iI b ↔ a ≤ b := by rw [Int32.le_iff_toInt_le, iI_toInt ha, iI_toInt hb]
theorem iI_lt {a b : Int} (ha : rI a) (hb : rI b) : iI a < iI b ↔ a < b := by rw [Int32.lt_iff_toInt_lt, iI_toInt ha, iI_toInt hb]
theorem iI_eq {a b : Int} (ha : rI a) (hb : rI b) : iI a = iI b ↔ a = b := by rw [← Int32.toInt_inj, iI_toInt ha, iI_toInt hb]
theorem lI_le {a b : Int} (ha : rL a) (hb : rL b) : lI a ≤ lI b ↔ a ≤ b := by rw [Int64.le_iff_toInt_le, lI_toInt ha, lI_toInt hb]
theorem lI_lt {a b : Int} (ha : rL a) (hb : rL b) : lI a < lI b ↔ a < b := by rw [Int64.lt_iff_toInt_lt, lI_toInt ha, lI_toInt hb]
theorem lI_eq {a b : Int} (ha : rL a) (hb : rL b) : lI a = lI b ↔ a = b := by rw [← Int64.toInt_inj, lI_toInt ha, lI_toInt hb]
theorem iI_l {a : Int} (h : rI a) : (iI a).toInt64 = lI a := by
  rw [← Int64.toInt_inj, Int32.toInt_toInt64, iI_toInt h, lI_toInt h.L]
theorem lI_i (a : Int) : (lI a).toInt32 = iI a := Int64.toInt32_ofInt
theorem iI_0 : iI 0 = 0 := rfl
theorem lI_0 : lI 0 = 0 := rfl
theorem rI_0 : rI 0 := by unfold rI; omega
theorem rL_0 : rL 0 := by unfold rL; omega
theorem tdiv_pos {a b : Int} (ha : 0 ≤ a) : a.tdiv b = a / b := Int.tdiv_eq_ediv_of_nonneg ha
theorem iI_div {a b : Int} (ha : rI a) (h0 : 0 ≤ a) (hb : rI b) (h1 : 0 < b) : iI a / iI b = iI (a / b) := by
  rw [← tdiv_pos h0]
  exact (Int32.ofInt_tdiv (by unfold rI at ha; show (-2147483648 : Int) ≤ a; omega) (by unfold rI at ha; show a ≤ (2147483647 : Int); omega) (by unfold rI at hb; show (-2147483648 : Int) ≤ b; omega) (by unfold rI at hb; show b ≤ (2147483647 : Int); omega)).symm
theorem lI_div {a b : Int} (ha : rL a) (h0 : 0 ≤ a) (hb : rL b) (h1 : 0 < b) : lI a / lI b = lI (a / b) := by
  rw [← tdiv_pos h0]
  exact (Int64.ofInt_tdiv (by unfold rL at ha; show (-9223372036854775808 : Int) ≤ a; omega) (by unfold rL at ha; show a ≤ (9223372036854775807 : Int); omega) (by unfold rL at hb; show (-9223372036854775808 : Int) ≤ b; omega) (by unfold rL at hb; show b ≤ (9223372036854775807 : Int); omega)).symm
theorem lI_rem {a b : Int} (ha : rL a) (h0 : 0 ≤ a) (hb : rL b) (h1 : 0 < b) : lI a - lI a / lI b * lI b = lI (a % b) := by
  rw [lI_div ha h0 hb h1, lI_mul, lI_sub]
  congr 1
  have := Int.mul_ediv_add_emod a b
  rw [Int.mul_comm] at this
  omega
theorem iI_ne0 {b : Int} (hb : rI b) (h : b ≠ 0) : ¬ iI b = 0 := fun e => h ((iI_eq hb rI_0).mp e)
theorem lI_ne0 {b : Int} (hb : rL b) (h : b ≠ 0) : ¬ lI b = 0 := fun e => h ((lI_eq hb rL_0).mp e)
theorem iI_clamp {z : Int} (h : rI z) : (iI z).toNatClampNeg = z.toNat := by
  show (iI z).toInt.toNat = _
  rw [iI_toInt h]
theorem vp_in_iI {z : Int} {n : Nat} (h0 : 0 ≤ z) (h1 : z < n) (hr : rI z) : vp_in (iI z) n := by
  rw [vp_in_iff, iI_toInt hr]
  exact ⟨h0, h1⟩
/-- a comparison of two longs -/
def cmpZ (a b : Int) : Int := if b < a then 1 else if a = b then 0 else -1
theorem lg_cmpZ {a b : Int} (ha : rL a) (hb : rL b) : lg_cmp (lI a) (lI b) = iI (cmpZ a b) := by
  unfold lg_cmp cmpZ
  by_cases h1 : b < a
  · rw [if_pos (show lI a > lI b from (lI_lt hb ha).mpr h1), if_pos h1]; rfl
  · rw [if_neg (show ¬ lI a > lI b from fun q => h1 ((lI_lt hb ha).mp q)), if_neg h1]
    by_cases h2 : a = b
    · rw [if_pos ((lI_eq ha hb).mpr h2), if_pos h2]; rfl
    · rw [if_neg (fun q => h2 ((lI_eq ha hb).mp q)), if_neg h2]; rfl
theorem rI_cmpZ (a b : Int) : rI (cmpZ a b) := by
  unfold cmpZ rI
  split
  · omega
  · split <;> omega
theorem cmpZ_eq (a b : Int) : cmpZ a b = 0 ↔ a = b := by unfold cmpZ; split <;> (try split) <;> omega
theorem cmpZ_gt (a b : Int) : 0 < cmpZ a b ↔ b < a := by unfold cmpZ; split <;> (try split) <;> omega
theorem cmpZ_lt (a b : Int) : cmpZ a b < 0 ↔ a < b := by unfold cmpZ; split <;> (try split) <;> omega
theorem cmpZ_le (a b : Int) : cmpZ a b ≤ 0 ↔ a ≤ b := by unfold cmpZ; split <;> (try split) <;> omega
theorem cmpZ_ge (a b : Int) : 0 ≤ cmpZ a b ↔ b ≤ a := by unfold cmpZ; split <;> (try split) <;> omega
/-! locals by place -/
def LH (ls : Array Slot) (nL : Nat) (lv : List (Option Value)) : Prop := ls.size = nL ∧ lv_wf ls ∧ lv.length = nL ∧ ∀ (i : Nat) (v : Value), lv[i]? = some (some v) → ls[i]? = some (.val v)
def noL : Option Value → Prop
  | some v => v.category = 1
  | none => True
/-- what a store of v at i makes of the locals -/
def LSt (lv : List (Option Value)) (i : Nat) (v : Value) (lv' : List (Option Value)) : Prop := ∀ (ls : Array Slot) (nL : Nat), LH ls nL lv → ∃ ls', storeLocals ls i v = some ls' ∧ LH ls' nL lv'
theorem LH.has {ls : Array Slot} {nL : Nat} {lv : List (Option Value)} (h : LH ls nL lv) : lv_has ls nL ((List.range lv.length).filterMap (fun i => match lv[i]? with | some (some v) => some (i, v) | _ => none)) := by
  refine ⟨h.1, h.2.1, fun q hq => ?_⟩
  obtain ⟨i, -, hi⟩ := List.mem_filterMap.mp hq
  split at hi
  next v hv => cases hi; exact h.2.2.2 _ _ hv
  next => cases hi
theorem LH.mem {lv : List (Option Value)} {i : Nat} {v : Value} (h : lv[i]? = some (some v)) : (i, v) ∈ (List.range lv.length).filterMap (fun i => match lv[i]? with | some (some v) => some (i, v) | _ => none) := by
  refine List.mem_filterMap.mpr ⟨i, List.mem_range.mpr (List.getElem?_eq_some_iff.mp h).1, ?_⟩
  simp [h]
theorem LSt.one {pre post : List (Option Value)} {x : Option Value} {v : Value} (hc : v.category = 1) (hp : ∀ o, pre.getLast? = some o → noL o) : LSt (pre ++ x :: post) pre.length v (pre ++ some v :: post) := by
  intro ls nL h
  have hlen := h.2.2.1
  obtain ⟨ls', e1, h1⟩ := lv_store1 (i := pre.length) (v := v) h.has (by rw [← hlen, List.length_append, List.length_cons]; omega) hc
  refine ⟨ls', e1, h1.1, h1.2.1, ?_, fun i w hi => ?_⟩
  · rw [← hlen]; simp
  · refine h1.2.2 (i, w) ?_
    by_cases hx : i = pre.length
    · subst hx
      rw [List.getElem?_append_right (Nat.le_refl _), Nat.sub_self] at hi
      cases hi
      exact List.mem_cons_self
    · refine List.mem_cons_of_mem _ (List.mem_filter.mpr ⟨LH.mem (lv := pre ++ x :: post) ?_, ?_⟩)
      · by_cases hl : i < pre.length
        · rw [List.getElem?_append_left hl] at hi ⊢
          exact hi
        · rw [List.getElem?_append_right (by omega)] at hi ⊢
          obtain ⟨j, hj⟩ : ∃ j, i - pre.length = j + 1 := ⟨i - pre.length - 1, by omega⟩
          rw [hj] at hi ⊢
          exact hi
      · have g1 : (i == pre.length) = false := by simp [hx]
        have g2 : (i + 1 == pre.length && w.category == 2) = false := by
          by_cases h2 : i + 1 = pre.length
          · have hl : i < pre.length := by omega
            rw [List.getElem?_append_left hl] at hi
            have h3 := hp (some w) (by rw [List.getLast?_eq_getElem?, show pre.length - 1 = i by omega]; exact hi)
            simp [show w.category = 1 from h3]
          · simp [h2]
        simp [g1, g2]
theorem LSt.two {pre post : List (Option Value)} {x y : Option Value} {v : Value} (hc : v.category = 2) (hp : ∀ o, pre.getLast? = some o → noL o) : LSt (pre ++ x :: y :: post) pre.length v (pre ++ some v :: none :: post) := by
  intro ls nL h
  have hlen := h.2.2.1
  obtain ⟨ls', e1, h1⟩ := lv_store2 (i := pre.length) (v := v) h.has (by rw [← hlen, List.length_append, List.length_cons, List.length_cons]; omega) hc
  refine ⟨ls', e1, h1.1, h1.2.1, ?_, fun i w hi => ?_⟩
  · rw [← hlen]; simp
  · refine h1.2.2 (i, w) ?_
    by_cases hx : i = pre.length
    · subst hx
      rw [List.getElem?_append_right (Nat.le_refl _), Nat.sub_self] at hi
      cases hi
      exact List.mem_cons_self
    · have hx2 : i ≠ pre.length + 1 := by
        intro hq
        rw [List.getElem?_append_right (by omega), show i - pre.length = 1 by omega] at hi
        cases hi
      refine List.mem_cons_of_mem _ (List.mem_filter.mpr ⟨LH.mem (lv := pre ++ x :: y :: post) ?_, ?_⟩)
      · by_cases hl : i < pre.length
        · rw [List.getElem?_append_left hl] at hi ⊢
          exact hi
        · rw [List.getElem?_append_right (by omega)] at hi ⊢
          obtain ⟨j, hj⟩ : ∃ j, i - pre.length = j + 2 := ⟨i - pre.length - 2, by omega⟩
          rw [hj] at hi ⊢
          exact hi
      · have g1 : (i == pre.length) = false := by simp [hx]
        have g3 : (i == pre.length + 1) = false := by simp [hx2]
        have g2 : (i + 1 == pre.length && w.category == 2) = false := by
          by_cases h2 : i + 1 = pre.length
          · have hl : i < pre.length := by omega
            rw [List.getElem?_append_left hl] at hi
            have h3 := hp (some w) (by rw [List.getLast?_eq_getElem?, show pre.length - 1 = i by omega]; exact hi)
            simp [show w.category = 1 from h3]
          · simp [h2]
        simp [g1, g2, g3]
