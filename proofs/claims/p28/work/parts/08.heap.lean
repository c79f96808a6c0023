/-! the heap as numbers: S c z, the value of field (or array) c of the thing z; the addresses A -/
abbrev ST : Type := Nat → Int → Int
abbrev AB : Type := (Nat → Int → Nat) × (Nat → Int)
abbrev GT : Type := va_G × ClassId × ClassId × ClassId × ClassId
def tysG (G : GT) : List (ClassId × FieldType) := [(G.2.1, .int), (G.2.2.2.2, .object RX3)]
/-- the kinds of the fields of the objects of kind k: 0 int, 1 long, 2 boolean, k + 3 a reference to a thing of kind k -/
def fTs (k : Nat) : List Nat := match k with
  | 0 => [0, 1, 1, 1, 1, 4, 4]
  | 1 => [0, 0, 1, 4]
  | 2 => [6, 0]
  | 3 => [0, 0, 0, 0, 0, 0, 4, 2, 6, 8, 1]
  | 4 => [0, 1, 1, 1, 1, 1]
  | 5 => [6, 8, 0, 1]
  | 6 => [11, 5, 3, 7, 12, 0, 0]
  | _ => []
def fT (k f : Nat) : Nat := (fTs k).getD f 0
def nF (k : Nat) : Nat := (fTs k).length
/-- arrays: kind 8 the posted movements, 9 the weights, 40, 41, 42 the law's three; what they hold (0 int, 1 long, 2 boolean, 6 movements) and how many -/
def aTN (k : Nat) : Nat × Nat := match k with
  | 8 => (6, 60)
  | 9 => (0, 6)
  | 40 => (0, 1)
  | 41 => (0, 60)
  | 42 => (0, 6)
  | _ => (1, 1)
/-- the kind of what code c holds -/
def tyC (c : Nat) : Nat := if c / 32 < 8 then fT (c / 32) (c % 32) else (aTN (c / 32)).1
def rfo (A : AB) (k : Nat) (z : Int) : Option Nat := if z < 0 then none else some (A.1 k z)
def vR (A : AB) (k : Nat) (z : Int) : Value := va_rf (rfo A k z)
def fV (A : AB) (t : Nat) (z : Int) : Value := match t with
  | 0 => vI z
  | 1 => vL z
  | 2 => vI z
  | k + 3 => vR A k z
def oFs (A : AB) (S : ST) (k : Nat) (z : Int) : List Value := (List.range (nF k)).map (fun f => fV A (fT k f) (S (32 * k + f) z))
def aCl (G : GT) (A : AB) (S : ST) (k : Nat) : va_E := match (aTN k).1 with
  | 0 => .inl (G.2.1, (aTN k).2, .inl (fun j => iI (S (32 * k) j)))
  | 1 => .inl (G.2.2.1, (aTN k).2, .inr (.inl (fun j => lI (S (32 * k) j))))
  | 2 => .inl (G.2.2.2.1, (aTN k).2, .inl (fun j => iI (S (32 * k) j)))
  | _ => .inl (G.2.2.2.2, (aTN k).2, .inr (.inr (.inr (.inr (fun j => rfo A 3 (S (32 * k) j))))))
def cellV (G : GT) (A : AB) (S : ST) (k : Nat) (z : Int) : va_E := if k < 8 then .inr (k, oFs A S k z) else aCl G A S k
/-- every number in the range of its kind; booleans 0 or 1 -/
def WT (S : ST) (A : AB) : Prop := ∀ (c : Nat) (z : Int), rL (S c z) ∧ (tyC c = 0 → rI (S c z)) ∧ (tyC c = 2 → S c z = 0 ∨ S c z = 1) ∧ (3 ≤ tyC c → S c z < A.2 (tyC c - 3))
abbrev lv1 (A : AB) (k : Nat) (z : Int) : Prop := 0 ≤ z ∧ z < A.2 k
def AI (A : AB) : Prop := (∀ (k : Nat) (z : Int) (k' : Nat) (z' : Int), lv1 A k z → lv1 A k' z' → A.1 k z = A.1 k' z' → k = k' ∧ z = z') ∧ (∀ k, 8 ≤ k → A.2 k ≤ 1) ∧ ∀ k, 0 ≤ A.2 k
def HW (G : GT) (S : ST) (A : AB) (Al : Nat → Prop) (H : Heap) : Prop :=
  ∃ ws : va_W, (∀ (k : Nat) (z : Int), lv1 A k z → (A.1 k z, cellV G A S k z) ∈ ws) ∧ (∀ q : Nat × va_E, q ∈ ws → ∃ (k : Nat) (z : Int), lv1 A k z ∧ q = (A.1 k z, cellV G A S k z)) ∧ va_P G.1 vwCl ws H ∧ va_D Al ws ∧ AI A ∧ WT S A
def upS (S : ST) (c : Nat) (z v : Int) : ST := fun c' z' => if c' = c ∧ z' = z then v else S c' z'
theorem upS_self (S : ST) (c : Nat) (z v : Int) : upS S c z v c z = v := by simp [upS]
theorem upS_ne (S : ST) {c c' : Nat} {z z' : Int} (v : Int) (h : c' = c → z' ≠ z) : upS S c z v c' z' = S c' z' := by
  unfold upS
  split
  next q => exact absurd q.2 (h q.1)
  next => rfl
theorem upS_c (S : ST) {c c' : Nat} {z z' : Int} (v : Int) (h : c' ≠ c) : upS S c z v c' z' = S c' z' := upS_ne S v (fun q => absurd q h)
theorem upS_z (S : ST) {c c' : Nat} {z z' : Int} (v : Int) (h : z' ≠ z) : upS S c z v c' z' = S c' z' := upS_ne S v (fun _ => h)
theorem oFs_get {A : AB} {S : ST} {k f : Nat} {z : Int} (h : f < nF k) : (oFs A S k z)[f]? = some (fV A (fT k f) (S (32 * k + f) z)) := by
  unfold oFs
  rw [List.getElem?_map, List.getElem?_range h]
  rfl
theorem oFs_len {A : AB} {S : ST} {k : Nat} {z : Int} : (oFs A S k z).length = nF k := by simp [oFs]
theorem nF_lt (k : Nat) : nF k ≤ 26 := by
  unfold nF
  rcases k with _ | _ | _ | _ | _ | _ | _ | _ | k
  all_goals first | decide | (show ([] : List Nat).length ≤ 26; decide)
theorem oFs_set {A : AB} {S : ST} {k f : Nat} {z v : Int} (h : f < nF k) : (oFs A S k z).set f (fV A (fT k f) v) = oFs A (upS S (32 * k + f) z v) k z := by
  apply List.ext_getElem?
  intro j
  by_cases hj : j < nF k
  · rw [oFs_get (S := upS S (32 * k + f) z v) hj]
    by_cases hjf : j = f
    · subst hjf
      rw [List.getElem?_set_self (by rw [oFs_len]; exact hj), upS_self]
    · rw [List.getElem?_set_ne (Ne.symm hjf), oFs_get hj, upS_c]
      omega
  · rw [List.getElem?_eq_none (by rw [List.length_set, oFs_len]; omega), List.getElem?_eq_none (by rw [oFs_len]; omega)]
theorem oFs_ne {A : AB} {S : ST} {c k : Nat} {z z' v : Int} (h : c / 32 = k → z' ≠ z) : oFs A (upS S c z v) k z' = oFs A S k z' := by
  unfold oFs
  refine List.map_congr_left (fun f hf => ?_)
  have hf' := List.mem_range.mp hf
  have h26 := nF_lt k
  rw [upS_ne]
  intro hc
  exact h (by omega)
theorem aCl_ne {G : GT} {A : AB} {S : ST} {c k : Nat} {z v : Int} (h : c ≠ 32 * k) : aCl G A (upS S c z v) k = aCl G A S k := by
  have e : ∀ j : Int, upS S c z v (32 * k) j = S (32 * k) j := fun j => upS_c S v (fun q => h q.symm)
  unfold aCl
  simp only [e]
theorem cellV_ne {G : GT} {A : AB} {S : ST} {c k : Nat} {z z' v : Int} (h : c / 32 = k → z' ≠ z ∧ k < 8) : cellV G A (upS S c z v) k z' = cellV G A S k z' := by
  unfold cellV
  by_cases hk : k < 8
  · rw [if_pos hk, if_pos hk, oFs_ne (fun q => (h q).1)]
  · rw [if_neg hk, if_neg hk, aCl_ne]
    intro q
    have : c / 32 = k := by omega
    exact hk (h this).2
theorem WT.up {S : ST} {A : AB} (h : WT S A) {c : Nat} {z v : Int} (h1 : rL v) (h2 : tyC c = 0 → rI v) (h3 : tyC c = 2 → v = 0 ∨ v = 1) (h4 : 3 ≤ tyC c → v < A.2 (tyC c - 3)) : WT (upS S c z v) A := by
  intro c' z'
  unfold upS
  split
  next q => rw [q.1]; exact ⟨h1, h2, h3, h4⟩
  next => exact h c' z'
/-- a place's cell in the list -/
theorem HW.at {G : GT} {S : ST} {A : AB} {Al : Nat → Prop} {H : Heap} {ws : va_W} (h1 : ∀ (k : Nat) (z : Int), lv1 A k z → (A.1 k z, cellV G A S k z) ∈ ws) {k : Nat} {z : Int} (h : lv1 A k z) : ∃ q0 : Nat, ws[q0]? = some (A.1 k z, cellV G A S k z) := List.getElem?_of_mem (h1 k z h)
/-- one thing's cell replaced -/
theorem HW.set {G : GT} {S S' : ST} {A : AB} {Al : Nat → Prop} {H H1 : Heap} {ws : va_W} (h1 : ∀ (k : Nat) (z : Int), lv1 A k z → (A.1 k z, cellV G A S k z) ∈ ws) (h2 : ∀ q : Nat × va_E, q ∈ ws → ∃ (k : Nat) (z : Int), lv1 A k z ∧ q = (A.1 k z, cellV G A S k z)) (hA : AI A) (hD : va_D Al ws) {k : Nat} {z : Int} (hl : lv1 A k z) {q0 : Nat} (hq : ws[q0]? = some (A.1 k z, cellV G A S k z))
    (hne : ∀ (k' : Nat) (z' : Int), lv1 A k' z' → ¬ (k' = k ∧ z' = z) → cellV G A S' k' z' = cellV G A S k' z') (hW : WT S' A) (hP : va_P G.1 vwCl (ws.set q0 (A.1 k z, cellV G A S' k z)) H1) (hD1 : va_D Al (ws.set q0 (A.1 k z, cellV G A S' k z))) : HW G S' A Al H1 := by
  have hlt : q0 < ws.length := (List.getElem?_eq_some_iff.mp hq).1
  refine ⟨_, fun k' z' h' => ?_, fun q hq' => ?_, hP, hD1, hA, hW⟩
  · by_cases e : k' = k ∧ z' = z
    · rw [e.1, e.2]
      exact List.mem_of_getElem? (i := q0) (List.getElem?_set_self hlt)
    · obtain ⟨i, hi⟩ := List.getElem?_of_mem (h1 k' z' h')
      have hne0 : i ≠ q0 := by
        intro hq9
        rw [hq9, hq] at hi
        have h9 := hA.1 k z k' z' hl h' (congrArg Prod.fst (Option.some.inj hi))
        exact e ⟨h9.1.symm, h9.2.symm⟩
      rw [hne k' z' h' e]
      exact List.mem_of_getElem? (i := i) (by rw [List.getElem?_set_ne (Ne.symm hne0)]; exact hi)
  · obtain ⟨i, hi⟩ := List.getElem?_of_mem hq'
    by_cases hx : i = q0
    · subst hx
      rw [List.getElem?_set_self hlt] at hi
      exact ⟨k, z, hl, (Option.some.inj hi).symm⟩
    · rw [List.getElem?_set_ne (Ne.symm hx)] at hi
      obtain ⟨k', z', h', e⟩ := h2 q (List.mem_of_getElem? hi)
      refine ⟨k', z', h', ?_⟩
      rw [e, hne k' z' h']
      rintro ⟨rfl, rfl⟩
      rw [e] at hi
      exact hx (hD.1 i q0 _ _ hi hq rfl)
