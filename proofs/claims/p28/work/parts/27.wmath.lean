/-! words and mathematics of a walk (out of the proof of whole) -/
/-- bit m of the set s, by the sign's shift -/
def hasB (s m : Int) : Prop := fLand (fLshr s m) 1 = 1
/-- the basis of a movement -/
def basM (S : ST) (b m : Int) : Int := if b = 0 then S 416 m else if b = 1 then S 448 m else S 416 m * S 640 (S 384 m)
theorem mul_b {a b x y : Int} (h0 : 0 ≤ a) (h1 : a ≤ x) (h2 : 0 ≤ b) (h3 : b ≤ y) : 0 ≤ a * b ∧ a * b ≤ x * y := ⟨Int.mul_nonneg h0 h2, Int.mul_le_mul h1 h3 h2 (by omega)⟩
def gmx (f : Int → Int) : Nat → Int
  | 0 => 0
  | k + 1 => if f (gmx f k) < f (k + 1 : Nat) then ((k + 1 : Nat) : Int) else gmx f k
theorem gmx_b (f : Int → Int) : ∀ k : Nat, 0 ≤ gmx f k ∧ gmx f k ≤ k
  | 0 => ⟨Int.le_refl _, Int.le_refl _⟩
  | k + 1 => by
    have := gmx_b f k
    show 0 ≤ (if f (gmx f k) < f (k + 1 : Nat) then ((k + 1 : Nat) : Int) else gmx f k) ∧ (if f (gmx f k) < f (k + 1 : Nat) then ((k + 1 : Nat) : Int) else gmx f k) ≤ _
    split <;> omega
def plc (m : Int) : List Int → Int → Int → Int
  | [], _, f => f
  | x :: t, i, f => plc m t (i + 1) (if x = m then i else f)
/-- the parts when so many cents are given -/
def giv (n1 : Nat) : Nat → (Int → Int) → (Int → Int) → Int → Int
  | 0, _, p => p
  | k + 1, f, p => giv n1 k (fu f (gmx f n1) (-1)) (fu p (gmx f n1) (p (gmx f n1) + 1))
noncomputable def smB (S : ST) (b s : Int) : Int := sumI (fun m => cI (hasB s m) (basM S b m) 0) (S 232 0)
noncomputable def shr (S : ST) (a b s : Int) (r : Int) : Int := cI (hasB s r) (a * basM S b r / smB S b s) 0
noncomputable def rmn (S : ST) (a b s : Int) (r : Int) : Int := cI (hasB s r) (a * basM S b r % smB S b s) (-1)
noncomputable def lft (S : ST) (a b s : Int) : Int := a - sumI (shr S a b s) (S 232 0)
noncomputable def spP (S : ST) (a b s : Int) : Int → Int := giv (S 232 0 - 1).toNat (lft S a b s).toNat (rmn S a b s) (shr S a b s)
theorem sum_nn {f : Int → Int} : ∀ n : Nat, (∀ m : Int, 0 ≤ m → m < n → 0 ≤ f m) → 0 ≤ sumN f n
  | 0, _ => Int.le_refl _
  | n + 1, h => by
    have h1 := sum_nn n (fun m m0 m1 => h m m0 (by omega))
    have h2 := h n (by omega) (by omega)
    show 0 ≤ sumN f n + f n
    omega
theorem sum_ge {f : Int → Int} : ∀ (n : Nat), (∀ m : Int, 0 ≤ m → m < n → 0 ≤ f m) → ∀ i : Int, 0 ≤ i → i < n → f i ≤ sumN f n
  | 0, _, i, h0, h1 => by omega
  | n + 1, h, i, h0, h1 => by
    show f i ≤ sumN f n + f n
    by_cases e : i = n
    · have := sum_nn n (fun m m0 m1 => h m m0 (by omega))
      rw [e]; omega
    · have := sum_ge n (fun m m0 m1 => h m m0 (by omega)) i h0 (by omega)
      have := h n (by omega) (by omega)
      omega
theorem quo_b {a b s : Int} (ha : 0 ≤ a) (hb : 0 ≤ b) (hs : 0 < s) (h : b ≤ s) : 0 ≤ a * b / s ∧ a * b / s ≤ a := by
  refine ⟨Int.ediv_nonneg (Int.mul_nonneg ha hb) (by omega), ?_⟩
  have h1 : a * b ≤ a * s := Int.mul_le_mul_of_nonneg_left h ha
  have h2 := Int.ediv_le_ediv hs h1
  rw [Int.mul_ediv_cancel _ (by omega)] at h2
  exact h2
/-! the reference: the queue of layers -/
abbrev QL3 := List (Int × Int × Int)
def QD (S : ST) (q : QL3) : Prop := S 244 0 = q.length ∧ ∀ (i : Nat) (x : Int × Int × Int), q[i]? = some x → S 992 i = x.1 ∧ S 1024 i = x.2.1 ∧ S 1056 i = x.2.2
def qc : QL3 → Int
  | [] => 0
  | x :: t => x.2.1 + qc t
def qu : QL3 → Int
  | [] => 0
  | x :: t => x.1 + qu t
def QOK (q : QL3) : Prop := ∀ x ∈ q, (1 ≤ x.1 ∧ x.1 ≤ 1000) ∧ 0 ≤ x.2.1
theorem qc_nn : ∀ {q : QL3}, QOK q → 0 ≤ qc q
  | [], _ => Int.le_refl _
  | x :: t, h => by
    have h1 := qc_nn (q := t) (fun y hy => h y (List.mem_cons_of_mem _ hy))
    have h2 := h x List.mem_cons_self
    show 0 ≤ x.2.1 + qc t
    omega
theorem qu_nn : ∀ {q : QL3}, QOK q → 0 ≤ qu q
  | [], _ => Int.le_refl _
  | x :: t, h => by
    have h1 := qu_nn (q := t) (fun y hy => h y (List.mem_cons_of_mem _ hy))
    have h2 := h x List.mem_cons_self
    show 0 ≤ x.1 + qu t
    omega
def mn (a b : Int) : Int := if a < b then a else b
/-- units taken from the queue: their cost, what is left -/
def tk : QL3 → Int → Int × QL3
  | [], _ => (0, [])
  | x :: t, u => if u ≤ 0 then (0, x :: t) else
      if x.1 ≤ u then (x.2.1 * x.1 / x.1 + (tk t (u - x.1)).1, (tk t (u - x.1)).2)
      else (x.2.1 * u / x.1, (x.1 - u, x.2.1 - x.2.1 * u / x.1, x.2.2) :: t)
theorem tk_0 (q : QL3) {u : Int} (h : u ≤ 0) : tk q u = (0, q) := by
  cases q with
  | nil => rfl
  | cons x t => show (if u ≤ 0 then _ else _) = _; rw [if_pos h]
theorem tk_1 (x : Int × Int × Int) (t : QL3) {u : Int} (h : 0 < u) (h1 : x.1 ≤ u) : tk (x :: t) u = (x.2.1 * x.1 / x.1 + (tk t (u - x.1)).1, (tk t (u - x.1)).2) := by
  show (if u ≤ 0 then _ else _) = _
  rw [if_neg (by omega), if_pos h1]
theorem tk_2 (x : Int × Int × Int) (t : QL3) {u : Int} (h : 0 < u) (h1 : ¬ x.1 ≤ u) : tk (x :: t) u = (x.2.1 * u / x.1, (x.1 - u, x.2.1 - x.2.1 * u / x.1, x.2.2) :: t) := by
  show (if u ≤ 0 then _ else _) = _
  rw [if_neg (by omega), if_neg h1]
theorem tk_ok : ∀ (q : QL3) (u : Int), QOK q → QOK (tk q u).2 ∧ (tk q u).1 + qc (tk q u).2 = qc q ∧ 0 ≤ (tk q u).1 ∧ (tk q u).2.length ≤ q.length ∧ (0 ≤ u → u ≤ qu q → qu (tk q u).2 = qu q - u) ∧ (∀ y ∈ (tk q u).2, ∃ x ∈ q, y.2.2 = x.2.2 ∧ y.1 ≤ x.1)
  | [], u, h => ⟨h, rfl, Int.le_refl _, Nat.le_refl _, fun h1 h2 => by show (0 : Int) = 0 - u; have : qu [] = 0 := rfl; omega, fun y hy => by cases hy⟩
  | x :: t, u, h => by
    obtain ⟨⟨hx1, hx2⟩, hx3⟩ := h x List.mem_cons_self
    have ht : QOK t := fun y hy => h y (List.mem_cons_of_mem _ hy)
    by_cases h0 : u ≤ 0
    · rw [tk_0 _ h0]
      exact ⟨h, by show 0 + qc (x :: t) = _; omega, Int.le_refl _, Nat.le_refl _, fun h1 h2 => by show qu (x :: t) = _; omega, fun y hy => ⟨y, hy, rfl, Int.le_refl _⟩⟩
    · by_cases h1 : x.1 ≤ u
      · rw [tk_1 _ _ (by omega) h1]
        obtain ⟨i1, i2, i3, i4, i5, i6⟩ := tk_ok t (u - x.1) ht
        have e : x.2.1 * x.1 / x.1 = x.2.1 := Int.mul_ediv_cancel _ (by omega)
        refine ⟨i1, ?_, ?_, ?_, fun q1 q2 => ?_, fun y hy => ?_⟩
        · show x.2.1 * x.1 / x.1 + (tk t (u - x.1)).1 + qc (tk t (u - x.1)).2 = x.2.1 + qc t
          omega
        · show 0 ≤ x.2.1 * x.1 / x.1 + (tk t (u - x.1)).1
          omega
        · show (tk t (u - x.1)).2.length ≤ (x :: t).length
          rw [List.length_cons]; omega
        · show qu (tk t (u - x.1)).2 = x.1 + qu t - u
          have q3 : u ≤ x.1 + qu t := q2
          have := i5 (by omega) (by omega)
          omega
        · obtain ⟨z, hz, e1, e2⟩ := i6 y hy
          exact ⟨z, List.mem_cons_of_mem _ hz, e1, e2⟩
      · rw [tk_2 _ _ (by omega) h1]
        have hq := quo_b (a := x.2.1) (b := u) (s := x.1) hx3 (by omega) (by omega) (by omega)
        refine ⟨fun y hy => ?_, ?_, hq.1, Nat.le_refl _, fun q1 q2 => ?_, fun y hy => ?_⟩
        · rcases List.mem_cons.mp hy with rfl | hy
          · refine ⟨⟨?_, ?_⟩, ?_⟩
            · show 1 ≤ x.1 - u; omega
            · show x.1 - u ≤ 1000; omega
            · show 0 ≤ x.2.1 - x.2.1 * u / x.1; omega
          · exact ht y hy
        · show x.2.1 * u / x.1 + (x.2.1 - x.2.1 * u / x.1 + qc t) = x.2.1 + qc t
          omega
        · show x.1 - u + qu t = x.1 + qu t - u
          omega
        · rcases List.mem_cons.mp hy with rfl | hy
          · exact ⟨x, List.mem_cons_self, rfl, by show x.1 - u ≤ x.1; omega⟩
          · exact ⟨y, List.mem_cons_of_mem _ hy, rfl, Int.le_refl _⟩
theorem ins_get {α : Type} (x : α) : ∀ (a b : List α) (k : Nat), (a ++ x :: b)[k]? = if k < a.length then (a ++ b)[k]? else if k = a.length then some x else (a ++ b)[k - 1]?
  | [], b, k => by
    cases k with
    | zero => rfl
    | succ k => show b[k]? = _; rw [if_neg (by show ¬ k + 1 < 0; omega), if_neg (by show ¬ k + 1 = 0; omega)]; rfl
  | y :: t, b, k => by
    cases k with
    | zero => rw [if_pos (by simp)]; rfl
    | succ k =>
      show (t ++ x :: b)[k]? = _
      rw [ins_get x t b k]
      by_cases h1 : k < t.length
      · rw [if_pos h1, if_pos (show k + 1 < (y :: t).length by rw [List.length_cons]; omega)]; rfl
      · rw [if_neg h1, if_neg (show ¬ k + 1 < (y :: t).length by rw [List.length_cons]; omega)]
        by_cases h2 : k = t.length
        · rw [if_pos h2, if_pos (show k + 1 = (y :: t).length by rw [List.length_cons]; omega)]
        · rw [if_neg h2, if_neg (show ¬ k + 1 = (y :: t).length by rw [List.length_cons]; omega)]
          obtain ⟨j, rfl⟩ : ∃ j, k = j + 1 := ⟨k - 1, by omega⟩
          rfl
/-! a walk through the ledger, as a function -/
abbrev RW := (Int → Int) × (Int → Int) × (Int → Int) × (Int → Int) × (Int → Int) × (Int → Int) × (Int → Int) × (Int → Int) × Int
def RW.kd (R : RW) : Int → Int := R.1
def RW.dy (R : RW) : Int → Int := R.2.1
def RW.it (R : RW) : Int → Int := R.2.2.1
def RW.qt (R : RW) : Int → Int := R.2.2.2.1
def RW.co (R : RW) : Int → Int := R.2.2.2.2.1
def RW.gn (R : RW) : Int → Int := R.2.2.2.2.2.1
def RW.sp (R : RW) : Int → Int := R.2.2.2.2.2.2.1
def RW.pt (R : RW) : Int → Int := R.2.2.2.2.2.2.2.1
def RW.n (R : RW) : Int := R.2.2.2.2.2.2.2.2
def rwM (S : ST) : RW := ⟨S 320, S 352, S 384, S 416, S 448, S 480, S 512, S 544, S 232 0⟩
abbrev WS := Int × Int × Int × Int × Int × Int × Int × Int × Int × QL3 × (Int → Int)
def WS.hand (w : WS) : Int := w.1
def WS.avg (w : WS) : Int := w.2.1
def WS.rcv (w : WS) : Int := w.2.2.1
def WS.i0 (w : WS) : Int := w.2.2.2.1
def WS.i1 (w : WS) : Int := w.2.2.2.2.1
def WS.v0 (w : WS) : Int := w.2.2.2.2.2.1
def WS.v1 (w : WS) : Int := w.2.2.2.2.2.2.1
def WS.e0 (w : WS) : Int := w.2.2.2.2.2.2.2.1
def WS.e1 (w : WS) : Int := w.2.2.2.2.2.2.2.2.1
def WS.q (w : WS) : QL3 := w.2.2.2.2.2.2.2.2.2.1
def WS.ic (w : WS) : Int → Int := w.2.2.2.2.2.2.2.2.2.2
def WD (S : ST) (w : WS) : Prop := S 237 0 = w.hand ∧ S 238 0 = w.avg ∧ S 239 0 = w.rcv ∧ S 832 0 = w.i0 ∧ S 832 1 = w.i1 ∧ S 864 0 = w.v0 ∧ S 864 1 = w.v1 ∧ S 896 0 = w.e0 ∧ S 896 1 = w.e1 ∧ QD S w.q ∧ ∀ j, S 928 j = w.ic j
def qmore (r p d : Int) : QL3 → Int
  | [] => 0
  | x :: t => if x.2.2 = r then p * x.1 / d else qmore r p d t
def qadd (r p d : Int) : QL3 → QL3
  | [] => []
  | x :: t => if x.2.2 = r then (x.1, x.2.1 + p * x.1 / d, x.2.2) :: t else x :: qadd r p d t
def landW (w : WS) (r p d : Int) : WS :=
  (w.hand, w.avg + p * mn w.hand d / d, w.rcv + p, w.i0, w.i1, w.v0, w.v1, w.e0 + (p - qmore r p d w.q), w.e1 + (p - p * mn w.hand d / d), qadd r p d w.q, w.ic)
def moveW (R : RW) (w : WS) (m : Int) : WS :=
  if R.kd m = 0 then (w.hand + R.qt m, w.avg + R.co m, w.rcv + R.co m, w.i0, w.i1, w.v0, w.v1, w.e0, w.e1, w.q ++ [(R.qt m, R.co m, m)], w.ic)
  else if R.kd m = 1 then (w.hand - R.qt m, w.avg + (R.co m - w.avg * R.qt m / w.hand), w.rcv, w.i0 + (tk w.q (R.qt m)).1, w.i1 + w.avg * R.qt m / w.hand, w.v0, w.v1, w.e0, w.e1, (tk w.q (R.qt m)).2, fu (fu w.ic (2 * m) (tk w.q (R.qt m)).1) (2 * m + 1) (w.avg * R.qt m / w.hand))
  else (w.hand, w.avg + (R.co m - w.avg * R.qt m / w.hand), w.rcv, w.i0, w.i1, w.v0 + (R.co m - (tk w.q (R.qt m)).1), w.v1 + (R.co m - w.avg * R.qt m / w.hand), w.e0, w.e1, (R.qt m, R.co m, m) :: (tk w.q (R.qt m)).2, w.ic)
noncomputable def wI (p : Prop) (a b : WS) : WS := @ite WS p (Classical.propDecidable p) a b
theorem wI_t {p : Prop} {a b : WS} (h : p) : wI p a b = a := by unfold wI; rw [if_pos h]
theorem wI_f {p : Prop} {a b : WS} (h : ¬ p) : wI p a b = b := by unfold wI; rw [if_neg h]
noncomputable def landsW (R : RW) (item m : Int) : Nat → WS → WS
  | 0, w => w
  | k + 1, w => wI (hasB (R.sp m) k ∧ R.it k = item) (landW (landsW R item m k w) k (R.pt (60 * m + k)) (R.qt k)) (landsW R item m k w)
noncomputable def stepW (R : RW) (item : Int) (w : WS) (m : Int) : WS :=
  if R.kd m = 3 then landsW R item m R.n.toNat w else if R.it m = item then moveW R w m else w
noncomputable def walkW (R : RW) (item day : Int) : List Int → WS → WS
  | [], w => w
  | m :: t, w => if R.dy m ≤ day then walkW R item day t (stepW R item w m) else w
def bt (x t : Int) : Prop := -(10000000000000 * t) ≤ x ∧ x ≤ 10000000000000 * t
/-- bounds -/
def WB (w : WS) (t : Int) : Prop := (0 ≤ w.hand ∧ w.hand ≤ 1000 * t) ∧ (0 ≤ w.avg ∧ w.avg ≤ 2000000000 * t) ∧ qc w.q ≤ 2000000000 * t ∧ bt w.rcv t ∧ bt w.i0 t ∧ bt w.i1 t ∧ bt w.v0 t ∧ bt w.v1 t ∧ bt w.e0 t ∧ bt w.e1 t
def WI (R : RW) (item : Int) (a : List Int) (t : Int) (w : WS) : Prop := QOK w.q ∧ (w.q.map fun x => x.2.2).Nodup ∧ (∀ x ∈ w.q, x.2.2 ∈ a) ∧ w.q.length ≤ a.length ∧ qu w.q = w.hand ∧ w.hand = hs (chg R.kd R.it R.qt item) a ∧ WB w t
/-- what rows hold -/
def RG (R : RW) : Prop := (0 ≤ R.n ∧ R.n ≤ 60) ∧ ∀ m, 0 ≤ m → m < R.n → ((0 ≤ R.kd m ∧ R.kd m ≤ 3) ∧ (0 ≤ R.dy m ∧ R.dy m ≤ 364) ∧ (¬ R.kd m = 3 → (0 ≤ R.it m ∧ R.it m ≤ 5) ∧ 1 ≤ R.qt m) ∧ (0 ≤ R.qt m ∧ R.qt m ≤ 1000) ∧ (0 ≤ R.co m ∧ R.co m ≤ 1000000)) ∧ (R.kd m = 3 → R.it m = -1 ∧ R.qt m = 0 ∧ ∀ r, 0 ≤ r → r < 60 → (0 ≤ R.pt (60 * m + r) ∧ R.pt (60 * m + r) ≤ 2000000) ∧ (hasB (R.sp m) r → r < m ∧ R.kd r = 0))
theorem qmore_b {r p d : Int} (hp : 0 ≤ p ∧ p ≤ 2000000) (hd : 1 ≤ d) : ∀ {q : QL3}, QOK q → 0 ≤ qmore r p d q ∧ qmore r p d q ≤ 2000000000
  | [], _ => ⟨Int.le_refl _, by show (0 : Int) ≤ _; omega⟩
  | x :: t, h => by
    have h1 := qmore_b hp hd (r := r) (q := t) (fun y hy => h y (List.mem_cons_of_mem _ hy))
    obtain ⟨⟨h2, h3⟩, h4⟩ := h x List.mem_cons_self
    show 0 ≤ (if x.2.2 = r then p * x.1 / d else qmore r p d t) ∧ (if x.2.2 = r then p * x.1 / d else qmore r p d t) ≤ _
    split
    · have h5 := mul_b (a := p) (b := x.1) hp.1 hp.2 (by omega) h3
      have h6 : 0 ≤ p * x.1 / d := Int.ediv_nonneg h5.1 (by omega)
      have h7 : p * x.1 / d ≤ p * x.1 := Int.ediv_le_self _ h5.1
      omega
    · exact h1
theorem qadd_ok {r p d : Int} (hp : 0 ≤ p ∧ p ≤ 2000000) (hd : 1 ≤ d) : ∀ {q : QL3}, QOK q → QOK (qadd r p d q) ∧ qc (qadd r p d q) = qc q + qmore r p d q ∧ qu (qadd r p d q) = qu q ∧ (qadd r p d q).map (fun x => x.2.2) = q.map (fun x => x.2.2)
  | [], h => ⟨h, rfl, rfl, rfl⟩
  | x :: t, h => by
    obtain ⟨i1, i2, i3, i4⟩ := qadd_ok hp hd (r := r) (q := t) (fun y hy => h y (List.mem_cons_of_mem _ hy))
    obtain ⟨⟨h2, h3⟩, h4⟩ := h x List.mem_cons_self
    by_cases e : x.2.2 = r
    · have e1 : qadd r p d (x :: t) = (x.1, x.2.1 + p * x.1 / d, x.2.2) :: t := by show (if _ then _ else _) = _; rw [if_pos e]
      have e2 : qmore r p d (x :: t) = p * x.1 / d := by show (if _ then _ else _) = _; rw [if_pos e]
      rw [e1, e2]
      have h5 := mul_b (a := p) (b := x.1) hp.1 hp.2 (by omega) h3
      have h6 : 0 ≤ p * x.1 / d := Int.ediv_nonneg h5.1 (by omega)
      refine ⟨fun y hy => ?_, ?_, rfl, rfl⟩
      · rcases List.mem_cons.mp hy with rfl | hy
        · exact ⟨⟨h2, h3⟩, by show 0 ≤ x.2.1 + p * x.1 / d; omega⟩
        · exact h y (List.mem_cons_of_mem _ hy)
      · show x.2.1 + p * x.1 / d + qc t = x.2.1 + qc t + p * x.1 / d
        omega
    · have e1 : qadd r p d (x :: t) = x :: qadd r p d t := by show (if _ then _ else _) = _; rw [if_neg e]
      have e2 : qmore r p d (x :: t) = qmore r p d t := by show (if _ then _ else _) = _; rw [if_neg e]
      rw [e1, e2]
      refine ⟨fun y hy => ?_, ?_, ?_, ?_⟩
      · rcases List.mem_cons.mp hy with rfl | hy
        · exact ⟨⟨h2, h3⟩, h4⟩
        · exact i1 y hy
      · show x.2.1 + qc (qadd r p d t) = x.2.1 + qc t + qmore r p d t
        omega
      · show x.1 + qu (qadd r p d t) = x.1 + qu t
        omega
      · show x.2.2 :: (qadd r p d t).map (fun x => x.2.2) = x.2.2 :: t.map (fun x => x.2.2)
        rw [i4]
theorem WI_land {R : RW} {item t : Int} {a : List Int} {w : WS} (h : WI R item a t w) {r p d : Int} (hp : 0 ≤ p ∧ p ≤ 2000000) (hd : 1 ≤ d) : WI R item a (t + 1) (landW w r p d) := by
  obtain ⟨h1, h2, h3, h4, h5, h6, ⟨b1, b2, b3, b4, b5, b6, b7, b8, b9, b10⟩⟩ := h
  obtain ⟨q1, q2, q3, q4⟩ := qadd_ok hp hd (r := r) h1
  have q5 := qmore_b hp hd (r := r) h1
  have hm : 0 ≤ mn w.hand d ∧ mn w.hand d ≤ d := by unfold mn; split <;> omega
  have q6 := quo_b (a := p) (b := mn w.hand d) (s := d) hp.1 hm.1 (by omega) hm.2
  refine ⟨q1, ?_, fun x hx => ?_, ?_, ?_, h6, ⟨⟨b1.1, ?_⟩, ⟨?_, ?_⟩, ?_, ?_, ?_, ?_, ?_, ?_, ?_, ?_⟩⟩
  · show ((qadd r p d w.q).map fun x => x.2.2).Nodup
    rw [q4]; exact h2
  · have hx' : x.2.2 ∈ (qadd r p d w.q).map (fun x => x.2.2) := List.mem_map.mpr ⟨x, hx, rfl⟩
    rw [q4] at hx'
    obtain ⟨y, hy, e⟩ := List.mem_map.mp hx'
    rw [← e]; exact h3 y hy
  · have : ((qadd r p d w.q).map (fun x => x.2.2)).length = (w.q.map (fun x => x.2.2)).length := by rw [q4]
    rw [List.length_map, List.length_map] at this
    show (qadd r p d w.q).length ≤ _
    omega
  · show qu (qadd r p d w.q) = w.hand
    omega
  · show w.hand ≤ _; omega
  · show 0 ≤ w.avg + p * mn w.hand d / d; omega
  · show w.avg + p * mn w.hand d / d ≤ _; omega
  · show qc (qadd r p d w.q) ≤ _; omega
  · unfold bt at *; show _ ≤ w.rcv + p ∧ w.rcv + p ≤ _; omega
  · unfold bt at *; show _ ≤ w.i0 ∧ w.i0 ≤ _; omega
  · unfold bt at *; show _ ≤ w.i1 ∧ w.i1 ≤ _; omega
  · unfold bt at *; show _ ≤ w.v0 ∧ w.v0 ≤ _; omega
  · unfold bt at *; show _ ≤ w.v1 ∧ w.v1 ≤ _; omega
  · unfold bt at *; show _ ≤ w.e0 + (p - qmore r p d w.q) ∧ w.e0 + (p - qmore r p d w.q) ≤ _; omega
  · unfold bt at *; show _ ≤ w.e1 + (p - p * mn w.hand d / d) ∧ w.e1 + (p - p * mn w.hand d / d) ≤ _; omega
theorem WI_more {R : RW} {item t t' : Int} {a : List Int} {w : WS} (h : WI R item a t w) (ht : t ≤ t') : WI R item a t' w := by
  obtain ⟨h1, h2, h3, h4, h5, h6, ⟨b1, b2, b3, b4, b5, b6, b7, b8, b9, b10⟩⟩ := h
  unfold bt at *
  exact ⟨h1, h2, h3, h4, h5, h6, ⟨by omega, by omega, by omega, by unfold bt; omega, by unfold bt; omega, by unfold bt; omega, by unfold bt; omega, by unfold bt; omega, by unfold bt; omega, by unfold bt; omega⟩⟩
theorem WI_skip {R : RW} {item t m : Int} {a : List Int} {w : WS} (h : WI R item a t w) (hc : chg R.kd R.it R.qt item m = 0) : WI R item (a ++ [m]) t w := by
  obtain ⟨h1, h2, h3, h4, h5, h6, h7⟩ := h
  refine ⟨h1, h2, fun x hx => List.mem_append_left _ (h3 x hx), by rw [List.length_append, List.length_singleton]; omega, h5, by rw [hs_one, hc]; omega, h7⟩
theorem qc_app : ∀ (a b : QL3), qc (a ++ b) = qc a + qc b
  | [], b => by show qc b = 0 + qc b; omega
  | x :: t, b => by show x.2.1 + qc (t ++ b) = x.2.1 + qc t + qc b; rw [qc_app t b]; omega
theorem qu_app : ∀ (a b : QL3), qu (a ++ b) = qu a + qu b
  | [], b => by show qu b = 0 + qu b; omega
  | x :: t, b => by show x.1 + qu (t ++ b) = x.1 + qu t + qu b; rw [qu_app t b]; omega
theorem tk_map : ∀ (q : QL3) (u : Int), ∃ p, q.map (fun x => x.2.2) = p ++ (tk q u).2.map (fun x => x.2.2)
  | [], u => ⟨[], rfl⟩
  | x :: t, u => by
    by_cases h0 : u ≤ 0
    · rw [tk_0 _ h0]; exact ⟨[], rfl⟩
    · by_cases h1 : x.1 ≤ u
      · rw [tk_1 _ _ (by omega) h1]
        obtain ⟨p, hp⟩ := tk_map t (u - x.1)
        exact ⟨x.2.2 :: p, by show x.2.2 :: t.map (fun x => x.2.2) = _; rw [hp]; rfl⟩
      · rw [tk_2 _ _ (by omega) h1]; exact ⟨[], rfl⟩
theorem WI_move {R : RW} {item t m : Int} {a : List Int} {w : WS} (h : WI R item a t w) (ht : 0 ≤ t ∧ t ≤ 4000) (hk : R.kd m = 0 ∨ R.kd m = 1 ∨ R.kd m = 2) (hi : R.it m = item) (hq : 1 ≤ R.qt m ∧ R.qt m ≤ 1000) (hc : 0 ≤ R.co m ∧ R.co m ≤ 1000000) (hm : m ∉ a) (hv : ¬ R.kd m = 0 → R.qt m ≤ w.hand) : WI R item (a ++ [m]) (t + 1) (moveW R w m) := by
  obtain ⟨h1, h2, h3, h4, h5, h6, ⟨b1, b2, b3, b4, b5, b6, b7, b8, b9, b10⟩⟩ := h
  have hnew : m ∉ w.q.map (fun x => x.2.2) := fun q => by
    obtain ⟨x, hx, e⟩ := List.mem_map.mp q
    exact hm (e ▸ h3 x hx)
  have hch : chg R.kd R.it R.qt item m = dlt R.kd R.qt m := by unfold chg; rw [if_pos hi]
  unfold moveW
  by_cases k0 : R.kd m = 0
  · rw [if_pos k0]
    refine ⟨fun x hx => ?_, ?_, fun x hx => ?_, ?_, ?_, ?_, ⟨⟨?_, ?_⟩, ⟨?_, ?_⟩, ?_, ?_, ?_, ?_, ?_, ?_, ?_, ?_⟩⟩
    · rcases List.mem_append.mp hx with hx | hx
      · exact h1 x hx
      · rw [List.mem_singleton.mp hx]; exact ⟨⟨by show 1 ≤ R.qt m; omega, by show R.qt m ≤ 1000; omega⟩, by show 0 ≤ R.co m; omega⟩
    · show ((w.q ++ [(R.qt m, R.co m, m)]).map fun x => x.2.2).Nodup
      rw [List.map_append, List.nodup_append]
      refine ⟨h2, by simp, fun x hx y hy e => ?_⟩
      have : y = m := by simpa using hy
      exact hnew (this ▸ e ▸ hx)
    · rcases List.mem_append.mp hx with hx | hx
      · exact List.mem_append_left _ (h3 x hx)
      · rw [List.mem_singleton.mp hx]; exact List.mem_append_right _ (List.mem_singleton.mpr rfl)
    · show (w.q ++ [(R.qt m, R.co m, m)]).length ≤ _
      rw [List.length_append, List.length_append, List.length_singleton, List.length_singleton]; omega
    · show qu (w.q ++ [(R.qt m, R.co m, m)]) = w.hand + R.qt m
      rw [qu_app, h5]; show w.hand + (R.qt m + 0) = _; omega
    · show w.hand + R.qt m = _
      rw [hs_one, hch, h6]; unfold dlt; rw [if_pos k0]
    · show 0 ≤ w.hand + R.qt m; omega
    · show w.hand + R.qt m ≤ _; omega
    · show 0 ≤ w.avg + R.co m; omega
    · show w.avg + R.co m ≤ _; omega
    · show qc (w.q ++ [(R.qt m, R.co m, m)]) ≤ _
      rw [qc_app]; show qc w.q + (R.co m + 0) ≤ _; omega
    · unfold bt at *; show _ ≤ w.rcv + R.co m ∧ w.rcv + R.co m ≤ _; omega
    · unfold bt at *; show _ ≤ w.i0 ∧ w.i0 ≤ _; omega
    · unfold bt at *; show _ ≤ w.i1 ∧ w.i1 ≤ _; omega
    · unfold bt at *; show _ ≤ w.v0 ∧ w.v0 ≤ _; omega
    · unfold bt at *; show _ ≤ w.v1 ∧ w.v1 ≤ _; omega
    · unfold bt at *; show _ ≤ w.e0 ∧ w.e0 ≤ _; omega
    · unfold bt at *; show _ ≤ w.e1 ∧ w.e1 ≤ _; omega
  · rw [if_neg k0]
    have hv := hv k0
    obtain ⟨t1, t2, t3, t4, t5, t6⟩ := tk_ok w.q (R.qt m) h1
    have t5 := t5 (by omega) (by omega)
    have t7 := qc_nn t1
    obtain ⟨p, hp⟩ := tk_map w.q (R.qt m)
    have hnd : ((tk w.q (R.qt m)).2.map fun x => x.2.2).Nodup := by
      have h9 := h2
      rw [hp, List.nodup_append] at h9
      exact h9.2.1
    have hor : ∀ x ∈ (tk w.q (R.qt m)).2, x.2.2 ∈ a := fun x hx => by
      obtain ⟨y, hy, e, _⟩ := t6 x hx
      rw [e]; exact h3 y hy
    have hav := quo_b (a := w.avg) (b := R.qt m) (s := w.hand) b2.1 (by omega) (by omega) hv
    by_cases k1 : R.kd m = 1
    · rw [if_pos k1]
      refine ⟨t1, hnd, fun x hx => List.mem_append_left _ (hor x hx), ?_, ?_, ?_, ⟨⟨?_, ?_⟩, ⟨?_, ?_⟩, ?_, ?_, ?_, ?_, ?_, ?_, ?_, ?_⟩⟩
      · show (tk w.q (R.qt m)).2.length ≤ _
        rw [List.length_append, List.length_singleton]; omega
      · show qu (tk w.q (R.qt m)).2 = w.hand - R.qt m
        omega
      · show w.hand - R.qt m = _
        rw [hs_one, hch, h6]; unfold dlt; rw [if_neg k0, if_pos k1]; omega
      · show 0 ≤ w.hand - R.qt m; omega
      · show w.hand - R.qt m ≤ _; omega
      · show 0 ≤ w.avg + (R.co m - w.avg * R.qt m / w.hand); omega
      · show w.avg + (R.co m - w.avg * R.qt m / w.hand) ≤ _; omega
      · show qc (tk w.q (R.qt m)).2 ≤ _; omega
      · unfold bt at *; show _ ≤ w.rcv ∧ w.rcv ≤ _; omega
      · unfold bt at *; show _ ≤ w.i0 + (tk w.q (R.qt m)).1 ∧ w.i0 + (tk w.q (R.qt m)).1 ≤ _; omega
      · unfold bt at *; show _ ≤ w.i1 + w.avg * R.qt m / w.hand ∧ w.i1 + w.avg * R.qt m / w.hand ≤ _; omega
      · unfold bt at *; show _ ≤ w.v0 ∧ w.v0 ≤ _; omega
      · unfold bt at *; show _ ≤ w.v1 ∧ w.v1 ≤ _; omega
      · unfold bt at *; show _ ≤ w.e0 ∧ w.e0 ≤ _; omega
      · unfold bt at *; show _ ≤ w.e1 ∧ w.e1 ≤ _; omega
    · rw [if_neg k1]
      refine ⟨fun x hx => ?_, ?_, fun x hx => ?_, ?_, ?_, ?_, ⟨⟨?_, ?_⟩, ⟨?_, ?_⟩, ?_, ?_, ?_, ?_, ?_, ?_, ?_, ?_⟩⟩
      · rcases List.mem_cons.mp hx with rfl | hx
        · exact ⟨⟨by show 1 ≤ R.qt m; omega, by show R.qt m ≤ 1000; omega⟩, by show 0 ≤ R.co m; omega⟩
        · exact t1 x hx
      · show (m :: (tk w.q (R.qt m)).2.map fun x => x.2.2).Nodup
        refine List.nodup_cons.mpr ⟨fun q => ?_, hnd⟩
        obtain ⟨x, hx, e⟩ := List.mem_map.mp q
        exact hm (e ▸ hor x hx)
      · rcases List.mem_cons.mp hx with rfl | hx
        · exact List.mem_append_right _ (List.mem_singleton.mpr rfl)
        · exact List.mem_append_left _ (hor x hx)
      · show (tk w.q (R.qt m)).2.length + 1 ≤ _
        rw [List.length_append, List.length_singleton]; omega
      · show R.qt m + qu (tk w.q (R.qt m)).2 = w.hand
        omega
      · show w.hand = _
        rw [hs_one, hch, h6]; unfold dlt; rw [if_neg k0, if_neg k1]; omega
      · show 0 ≤ w.hand; omega
      · show w.hand ≤ _; omega
      · show 0 ≤ w.avg + (R.co m - w.avg * R.qt m / w.hand); omega
      · show w.avg + (R.co m - w.avg * R.qt m / w.hand) ≤ _; omega
      · show R.co m + qc (tk w.q (R.qt m)).2 ≤ _; omega
      · unfold bt at *; show _ ≤ w.rcv ∧ w.rcv ≤ _; omega
      · unfold bt at *; show _ ≤ w.i0 ∧ w.i0 ≤ _; omega
      · unfold bt at *; show _ ≤ w.i1 ∧ w.i1 ≤ _; omega
      · unfold bt at *; show _ ≤ w.v0 + (R.co m - (tk w.q (R.qt m)).1) ∧ w.v0 + (R.co m - (tk w.q (R.qt m)).1) ≤ _; omega
      · unfold bt at *; show _ ≤ w.v1 + (R.co m - w.avg * R.qt m / w.hand) ∧ w.v1 + (R.co m - w.avg * R.qt m / w.hand) ≤ _; omega
      · unfold bt at *; show _ ≤ w.e0 ∧ w.e0 ≤ _; omega
      · unfold bt at *; show _ ≤ w.e1 ∧ w.e1 ≤ _; omega
theorem WI_lands {R : RW} (hR : RG R) {item t m : Int} {a : List Int} {w : WS} (h : WI R item a t w) (hm0 : 0 ≤ m) (hm1 : m < R.n) (hk : R.kd m = 3) : ∀ k : Nat, k ≤ R.n → WI R item a (t + k) (landsW R item m k w)
  | 0, _ => by rw [Int.natCast_zero, Int.add_zero]; exact h
  | k + 1, hkn => by
    have ih := WI_lands hR h hm0 hm1 hk k (by omega)
    show WI R item a _ (wI _ _ _)
    by_cases q : hasB (R.sp m) k ∧ R.it k = item
    · rw [wI_t q]
      obtain ⟨hn, hr⟩ := hR
      have h1 := (hr m hm0 hm1).2 hk
      have h2 := h1.2.2 k (by omega) (by omega)
      have h3 := h2.2 q.1
      have h4 := (hr k (by omega) (by omega)).1
      have h5 := WI_land ih (r := k) h2.1 (h4.2.2.1 (by omega)).2
      rw [show t + ((k + 1 : Nat) : Int) = t + (k : Int) + 1 by omega]
      exact h5
    · rw [wI_f q]
      exact WI_more ih (by omega)
theorem WI_step {R : RW} (hR : RG R) {item t m : Int} {a : List Int} {w : WS} (h : WI R item a t w) (ht : 0 ≤ t ∧ t ≤ 4000) (hit : 0 ≤ item) (hm0 : 0 ≤ m) (hm1 : m < R.n) (hm : m ∉ a) (hv : tks R.kd R.it item m → R.qt m ≤ w.hand) : WI R item (a ++ [m]) (t + 61) (stepW R item w m) := by
  have hr := (hR.2 m hm0 hm1)
  unfold stepW
  by_cases k3 : R.kd m = 3
  · rw [if_pos k3]
    have h1 := WI_lands hR h hm0 hm1 k3 R.n.toNat (by have := hR.1; omega)
    have h2 := WI_skip (m := m) h1 (by unfold chg; have := hr.2 k3; rw [if_neg (by omega)])
    exact WI_more h2 (by have := hR.1; omega)
  · rw [if_neg k3]
    by_cases hi : R.it m = item
    · rw [if_pos hi]
      have hk := hr.1.1
      refine WI_more (WI_move h ht (by omega) hi ⟨(hr.1.2.2.1 k3).2, hr.1.2.2.2.1.2⟩ hr.1.2.2.2.2 hm (fun k0 => hv ⟨hi, by omega⟩)) (by omega)
    · rw [if_neg hi]
      exact WI_more (WI_skip h (by unfold chg; rw [if_neg hi])) (by omega)
theorem led_nd (dy gn : Int → Int) : ∀ n : Nat, (led dy gn n).Nodup
  | 0 => List.nodup_nil
  | n + 1 => by
    show (if gn n = 0 then ins dy n (led dy gn n) else led dy gn n).Nodup
    split
    · have key : ∀ l : List Int, l.Nodup → (n : Int) ∉ l → (ins dy n l).Nodup := by
        intro l
        induction l with
        | nil => intro _ _; show [(n : Int)].Nodup; simp
        | cons x t ih =>
          intro h1 h2
          show (if dy n < dy x then (n : Int) :: x :: t else x :: ins dy n t).Nodup
          split
          · exact List.nodup_cons.mpr ⟨h2, h1⟩
          · obtain ⟨h3, h4⟩ := List.nodup_cons.mp h1
            refine List.nodup_cons.mpr ⟨fun q => ?_, ih h4 (fun q => h2 (List.mem_cons_of_mem _ q))⟩
            rcases (ins_mem t).mp q with e | q
            · exact h2 (e ▸ List.mem_cons_self)
            · exact h3 q
      refine key _ (led_nd dy gn n) (fun q => ?_)
      have := (led_mem dy gn n).mp q
      omega
    · exact led_nd dy gn n
theorem plc_n {r : Int} : ∀ (l : List Int) (i f : Int), r ∉ l → plc r l i f = f
  | [], _, _, _ => rfl
  | x :: t, i, f, h => by
    show plc r t (i + 1) (if x = r then i else f) = f
    rw [if_neg (show ¬ x = r from fun e => h (e ▸ List.mem_cons_self)), plc_n t _ _ (fun q => h (List.mem_cons_of_mem _ q))]
theorem plc_y {r : Int} : ∀ (a b : List Int) (i f : Int), r ∉ b → plc r (a ++ r :: b) i f = i + a.length
  | [], b, i, f, h => by
    show plc r b (i + 1) (if r = r then i else f) = i + 0
    rw [if_pos rfl, plc_n _ _ _ h]; omega
  | x :: t, b, i, f, h => by
    show plc r (t ++ r :: b) (i + 1) (if x = r then i else f) = _
    rw [plc_y t b _ _ h, List.length_cons]; omega
theorem qmore_n {r p d : Int} : ∀ (q : QL3), r ∉ q.map (fun x => x.2.2) → qmore r p d q = 0 ∧ qadd r p d q = q
  | [], _ => ⟨rfl, rfl⟩
  | x :: t, h => by
    have h1 : ¬ x.2.2 = r := fun e => h (e ▸ List.mem_cons_self)
    have h2 := qmore_n (p := p) (d := d) t (fun q => h (List.mem_cons_of_mem _ q))
    exact ⟨by show (if _ then _ else _) = _; rw [if_neg h1, h2.1], by show (if _ then _ else _) = _; rw [if_neg h1, h2.2]⟩
theorem qmore_y {p d : Int} (x : Int × Int × Int) : ∀ (a b : QL3), x.2.2 ∉ a.map (fun x => x.2.2) → qmore x.2.2 p d (a ++ x :: b) = p * x.1 / d ∧ qadd x.2.2 p d (a ++ x :: b) = a ++ (x.1, x.2.1 + p * x.1 / d, x.2.2) :: b
  | [], b, _ => ⟨by show (if _ then _ else _) = _; rw [if_pos rfl], by show (if _ then _ else _) = _; rw [if_pos rfl]; rfl⟩
  | y :: t, b, h => by
    have h1 : ¬ y.2.2 = x.2.2 := fun e => h (e ▸ List.mem_cons_self)
    have h2 := qmore_y (p := p) (d := d) x t b (fun q => h (List.mem_cons_of_mem _ q))
    exact ⟨by show (if _ then _ else _) = _; rw [if_neg h1]; exact h2.1, by show (if _ then _ else _) = _; rw [if_neg h1]; show y :: qadd x.2.2 p d (t ++ x :: b) = _; rw [h2.2]; rfl⟩
theorem q_split {r : Int} : ∀ (q : QL3), r ∈ q.map (fun x => x.2.2) → ∃ a x b, q = a ++ x :: b ∧ x.2.2 = r
  | [], h => by cases h
  | y :: t, h => by
    rcases List.mem_cons.mp h with e | h
    · exact ⟨[], y, t, rfl, e.symm⟩
    · obtain ⟨a, x, b, e, e2⟩ := q_split t h
      exact ⟨y :: a, x, b, by rw [e]; rfl, e2⟩
theorem QD.up {S : ST} {q : QL3} (h : QD S q) {c : Nat} {z v : Int} (hc : c ∉ [244, 992, 1024, 1056]) : QD (upS S c z v) q := by
  have e : ∀ c' ∈ [244, 992, 1024, 1056], ∀ i, upS S c z v c' i = S c' i := fun c' h' i => upS_c S v (fun e => hc (e ▸ h'))
  exact ⟨(e 244 (by decide) 0).trans h.1, fun i x hx => by rw [e 992 (by decide), e 1024 (by decide), e 1056 (by decide)]; exact h.2 i x hx⟩
theorem QD.fr {S S' : ST} {q : QL3} {cs : List Nat} (h : QD S q) (hF : Fr cs S S') (hc : ∀ c ∈ [244, 992, 1024, 1056], c ∉ cs) : QD S' q := ⟨(hF 244 0 (hc 244 (by decide))).trans h.1, fun i x hx => by rw [hF 992 _ (hc 992 (by decide)), hF 1024 _ (hc 1024 (by decide)), hF 1056 _ (hc 1056 (by decide))]; exact h.2 i x hx⟩
theorem QD.set {S : ST} {a b : QL3} {x : Int × Int × Int} (h : QD S (a ++ x :: b)) (v : Int) : QD (upS S 1024 a.length v) (a ++ (x.1, v, x.2.2) :: b) := by
  refine ⟨?_, fun i y hy => ?_⟩
  · rw [upS_c _ _ (by decide), h.1, List.length_append, List.length_append, List.length_cons, List.length_cons]
  · rw [upS_c S v (show 992 ≠ 1024 by decide), upS_c S v (show 1056 ≠ 1024 by decide)]
    rw [ins_get] at hy
    by_cases h1 : i < a.length
    · rw [if_pos h1] at hy
      rw [upS_z _ _ (by omega)]
      exact h.2 i y (by rw [ins_get, if_pos h1]; exact hy)
    · rw [if_neg h1] at hy
      by_cases h2 : i = a.length
      · rw [if_pos h2] at hy
        cases hy
        subst h2
        have h9 := h.2 a.length x (by rw [ins_get, if_neg h1, if_pos rfl])
        rw [upS_self]
        exact ⟨h9.1, rfl, h9.2.2⟩
      · rw [if_neg h2] at hy
        rw [upS_z _ _ (by omega)]
        exact h.2 i y (by rw [ins_get, if_neg h1, if_neg h2]; exact hy)
/-! the reference: a whole walk, and what asks for it -/
def w00 (ic : Int → Int) : WS := (0, 0, 0, 0, 0, 0, 0, 0, 0, [], ic)
theorem WD.fr {S S' : ST} {w : WS} {cs : List Nat} (h : WD S w) (hF : Fr cs S S') (hc : ∀ c ∈ [237, 238, 239, 244, 832, 864, 896, 928, 992, 1024, 1056], c ∉ cs) : WD S' w := by
  obtain ⟨h1, h2, h3, h4, h5, h6, h7, h8, h9, h10, h11⟩ := h
  exact ⟨(hF _ _ (hc 237 (by decide))).trans h1, (hF _ _ (hc 238 (by decide))).trans h2, (hF _ _ (hc 239 (by decide))).trans h3, (hF _ _ (hc 832 (by decide))).trans h4, (hF _ _ (hc 832 (by decide))).trans h5, (hF _ _ (hc 864 (by decide))).trans h6, (hF _ _ (hc 864 (by decide))).trans h7, (hF _ _ (hc 896 (by decide))).trans h8, (hF _ _ (hc 896 (by decide))).trans h9, h10.fr hF (fun c h' => hc c (by simp at h'; rcases h' with rfl | rfl | rfl | rfl <;> decide)), fun j => (hF _ _ (hc 928 (by decide))).trans (h11 j)⟩
theorem WI_00 (R : RW) (item : Int) (ic : Int → Int) : WI R item [] 0 (w00 ic) := by
  refine ⟨fun x hx => (by cases hx), List.nodup_nil, fun x hx => (by cases hx), Nat.le_refl _, rfl, rfl, ⟨⟨Int.le_refl _, Int.le_refl _⟩, ⟨Int.le_refl _, Int.le_refl _⟩, Int.le_refl _, ?_, ?_, ?_, ?_, ?_, ?_, ?_⟩⟩ <;> exact ⟨by show _ ≤ (0 : Int); omega, by show (0 : Int) ≤ _; omega⟩
/-- the ledger of the rows -/
abbrev LdR (R : RW) : List Int := led R.dy R.gn R.n.toNat
def RV (R : RW) (item : Int) : Prop := vld (chg R.kd R.it R.qt item) R.qt (tks R.kd R.it item) 0 (LdR R)
/-! the reference: what asks for a walk -/
noncomputable def WKr (R : RW) (item day : Int) (ic : Int → Int) : WS := walkW R item day (LdR R) (w00 ic)
def akOk (item day : Int) : Prop := (0 ≤ item ∧ item ≤ 5) ∧ (0 ≤ day ∧ day ≤ 364)
theorem WI_len {R : RW} (hR : RG R) {item day : Int} (hit : 0 ≤ item) : ∀ (b a : List Int) (w : WS), LdR R = a ++ b → WI R item a (61 * a.length) w → vld (chg R.kd R.it R.qt item) R.qt (tks R.kd R.it item) w.hand b → (walkW R item day b w).q.length ≤ 60
  | [], a, w, hab, hw, hv => by
    have h0 : (LdR R).length ≤ R.n.toNat := led_len R.dy R.gn R.n.toNat
    have h9 := hR.1
    rw [hab, List.append_nil] at h0
    have h1 := hw.2.2.2.1
    show w.q.length ≤ 60
    omega
  | m :: t, a, w, hab, hw, hv => by
    have hlen : (LdR R).length ≤ R.n.toNat := led_len R.dy R.gn R.n.toNat
    rw [hab, List.length_append, List.length_cons] at hlen
    have h9 := hR.1
    have hm := (led_mem R.dy R.gn R.n.toNat).mp (show m ∈ LdR R by rw [hab]; simp)
    have hnd : (LdR R).Nodup := led_nd R.dy R.gn R.n.toNat
    rw [hab, List.nodup_append] at hnd
    have hma : m ∉ a := fun q => hnd.2.2 m q m List.mem_cons_self rfl
    show (if R.dy m ≤ day then walkW R item day t (stepW R item w m) else w).q.length ≤ 60
    split
    · have h1 := WI_step hR hw (by omega) hit hm.1.1 (by omega) hma hv.1
      have hh : (stepW R item w m).hand = w.hand + chg R.kd R.it R.qt item m := by
        rw [h1.2.2.2.2.2.1, hs_one, ← hw.2.2.2.2.2.1]
      exact WI_len hR hit t (a ++ [m]) _ (by rw [hab]; simp) (WI_more h1 (by rw [List.length_append, List.length_singleton]; omega)) (by rw [hh]; exact hv.2)
    · have := hw.2.2.2.1; omega
theorem WKr_len {R : RW} (hR : RG R) {item day : Int} (hit : 0 ≤ item) (hv : RV R item) (ic : Int → Int) : (WKr R item day ic).q.length ≤ 60 := WI_len hR hit (LdR R) [] (w00 ic) rfl (WI_00 R item ic) hv
def qat (q : QL3) (k : Int) : Int × Int × Int := (q[k.toNat]?).getD (0, 0, 0)
def hAt (dy f : Int → Int) (day : Int) : List Int → Int → Int
  | [], u => u
  | m :: t, u => if dy m ≤ day then hAt dy f day t (u + f m) else u
noncomputable def avL (dy f q : Int → Int) (tk : Int → Prop) (day : Int) : List Int → Int → Int → Int
  | [], u, l => mn u l
  | m :: t, u, l => avL dy f q tk day t (u + f m) (cI (day < dy m ∧ tk m ∧ u - q m < l) (u - q m) l)
/-! making things: old addresses stay -/
def AE (A A' : AB) : Prop := ∀ (k : Nat) (z : Int), z < A.2 k → vR A' k z = vR A k z ∧ z < A'.2 k
theorem AE.rf {A : AB} : AE A A := fun _ _ h => ⟨rfl, h⟩
theorem AE.tr {A B C : AB} (h : AE A B) (h' : AE B C) : AE A C := fun k z q => ⟨(h' k z (h k z q).2).1.trans (h k z q).1, (h' k z (h k z q).2).2⟩
theorem r_gAS {J : JT} {pc : Nat} {lv : List (Option Value)} {st : List Value} {S : ST} {A : AB} {k n kd q : Nat} {z0 : Int} (h : ∀ (A' : AB) (S' : ST), AE A A' → A'.2 kd = A.2 kd + 1 → (∀ k', k' ≠ kd → A'.2 k' = A.2 k') → (∀ c z, (c / 32 ≠ kd ∨ (kd < 8 ∧ z ≠ A.2 kd)) → S' c z = S c z) → (∀ c z, c / 32 = kd → (8 ≤ kd ∨ z = A.2 kd) → S' c z = dfl (tyC c)) → J pc lv (vR A' kd z0 :: st) S' A' k n) : J pc lv (vR (nwA A kd q) kd z0 :: st) (nwS S kd (A.2 kd)) (nwA A kd q) k n := by
  refine h _ _ (fun k' z hz => ⟨vR_nw hz, Int.lt_of_lt_of_le hz nwA_ge⟩) nwA_2 (fun k' hk => nwA_2n hk) (fun c z hc => ?_) (fun c z hc hz => ?_)
  · unfold nwS
    rw [if_neg]
    rintro ⟨h1, h2⟩
    rcases hc with hc | ⟨h3, h4⟩
    · exact hc h1
    · exact h4 (h2 h3)
  · unfold nwS
    have h9 : c / 32 = kd ∧ (kd < 8 → z = A.2 kd) := ⟨hc, fun h8 => by
      rcases hz with hz | hz
      · omega
      · exact hz⟩
    rw [if_pos h9]
/-- the reference under its making: these arrays are made -/
def MI (A0 : AB) (S0 : ST) (js : List Nat) (S : ST) (A : AB) : Prop := lv1 A 7 0 ∧ AE A0 A ∧ (∀ k, k ∉ js.map (fun j => 10 + j) → A.2 k = A0.2 k) ∧ (∀ j ∈ js, A.2 (10 + j) = 1 ∧ S (224 + j) 0 = 0) ∧ (∀ c z, c / 32 ≠ 7 → c / 32 ∉ js.map (fun j => 10 + j) → S c z = S0 c z) ∧ (∀ c z, c / 32 = 7 → c - 224 ∉ js → c ≠ 233 → S c z = S0 c z)
theorem MI.step {A0 : AB} {S0 : ST} {js : List Nat} {S S' : ST} {A A' : AB} (h : MI A0 S0 js S A) {j : Nat} (hj : j ∉ js) (hj2 : j < 26) (hjs : ∀ i ∈ js, i < 26) (hE : AE A A') (h1 : A'.2 (10 + j) = 1) (h2 : ∀ k', k' ≠ 10 + j → A'.2 k' = A.2 k') (hs : ∀ c z, c / 32 ≠ 10 + j → S' c z = S c z) : MI A0 S0 (j :: js) (upS S' (224 + j) 0 0) A' := by
  obtain ⟨a1, a2, a3, a4, a5, a6⟩ := h
  refine ⟨⟨Int.le_refl _, by rw [h2 7 (by omega)]; exact a1.2⟩, a2.tr hE, fun k hk => ?_, fun i hi => ?_, fun c z hc hc2 => ?_, fun c z hc hc2 hc3 => ?_⟩
  · rw [h2 k (fun e => hk (by rw [e]; exact List.mem_cons_self))]
    exact a3 k (fun q => hk (List.mem_cons_of_mem _ q))
  · rcases List.mem_cons.mp hi with rfl | hi
    · exact ⟨h1, upS_self _ _ _ _⟩
    · have hne : i ≠ j := fun e => hj (e ▸ hi)
      have h9 := a4 i hi
      have h7 := hjs i hi
      have h8 : (224 + i) / 32 ≠ 10 + j := by omega
      exact ⟨by rw [h2 _ (by omega)]; exact h9.1, by rw [upS_c _ _ (by omega), hs _ _ h8]; exact h9.2⟩
  · rw [upS_c _ _ (by omega), hs c z (fun e => hc2 (by rw [e]; exact List.mem_cons_self))]
    exact a5 c z hc (fun q => hc2 (List.mem_cons_of_mem _ q))
  · have h9 : c ≠ 224 + j := fun e => hc2 (by rw [e, show 224 + j - 224 = j by omega]; exact List.mem_cons_self)
    rw [upS_c _ _ h9, hs c z (by omega)]
    exact a6 c z hc (fun q => hc2 (List.mem_cons_of_mem _ q)) hc3
