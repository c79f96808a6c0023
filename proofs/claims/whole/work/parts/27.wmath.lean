/-! a walk through the ledger, as a function -/
abbrev RW := (Int → Int) × (Int → Int) × (Int → Int) × (Int → Int) × (Int → Int) × (Int → Int) × (Int → Int) × (Int → Int) × Int
def RW.kd (R : RW) : Int → Int := R.1
def RW.dy (R : RW) : Int → Int := R.2.1
def RW.it (R : RW) : Int → Int := R.2.2.1
def RW.qt (R : RW) : Int → Int := R.2.2.2.1
def RW.co (R : RW) : Int → Int := R.2.2.2.2.1
def RW.gn (R : RW) : Int → Int := R.2.2.2.2.2.1
def RW.sp (R : RW) : Int → Int := R.2.2.2.2.2.2.1
def RW.pt (R : RW) : Int → Int := R.2.2.2.2.2.2.2.1
def RW.n (R : RW) : Int := R.2.2.2.2.2.2.2.2
def rwM (S : ST) : RW := ⟨S 320, S 352, S 384, S 416, S 448, S 480, S 512, S 544, S 232 0⟩
abbrev WS := Int × Int × Int × Int × Int × Int × Int × Int × Int × QL3 × (Int → Int)
def WS.hand (w : WS) : Int := w.1
def WS.avg (w : WS) : Int := w.2.1
def WS.rcv (w : WS) : Int := w.2.2.1
def WS.i0 (w : WS) : Int := w.2.2.2.1
def WS.i1 (w : WS) : Int := w.2.2.2.2.1
def WS.v0 (w : WS) : Int := w.2.2.2.2.2.1
def WS.v1 (w : WS) : Int := w.2.2.2.2.2.2.1
def WS.e0 (w : WS) : Int := w.2.2.2.2.2.2.2.1
def WS.e1 (w : WS) : Int := w.2.2.2.2.2.2.2.2.1
def WS.q (w : WS) : QL3 := w.2.2.2.2.2.2.2.2.2.1
def WS.ic (w : WS) : Int → Int := w.2.2.2.2.2.2.2.2.2.2
def WD (S : ST) (w : WS) : Prop := S 237 0 = w.hand ∧ S 238 0 = w.avg ∧ S 239 0 = w.rcv ∧ S 832 0 = w.i0 ∧ S 832 1 = w.i1 ∧ S 864 0 = w.v0 ∧ S 864 1 = w.v1 ∧ S 896 0 = w.e0 ∧ S 896 1 = w.e1 ∧ QD S w.q ∧ ∀ j, S 928 j = w.ic j
def qmore (r p d : Int) : QL3 → Int
  | [] => 0
  | x :: t => if x.2.2 = r then p * x.1 / d else qmore r p d t
def qadd (r p d : Int) : QL3 → QL3
  | [] => []
  | x :: t => if x.2.2 = r then (x.1, x.2.1 + p * x.1 / d, x.2.2) :: t else x :: qadd r p d t
def landW (w : WS) (r p d : Int) : WS :=
  (w.hand, w.avg + p * mn w.hand d / d, w.rcv + p, w.i0, w.i1, w.v0, w.v1, w.e0 + (p - qmore r p d w.q), w.e1 + (p - p * mn w.hand d / d), qadd r p d w.q, w.ic)
def moveW (R : RW) (w : WS) (m : Int) : WS :=
  if R.kd m = 0 then (w.hand + R.qt m, w.avg + R.co m, w.rcv + R.co m, w.i0, w.i1, w.v0, w.v1, w.e0, w.e1, w.q ++ [(R.qt m, R.co m, m)], w.ic)
  else if R.kd m = 1 then (w.hand - R.qt m, w.avg + (R.co m - w.avg * R.qt m / w.hand), w.rcv, w.i0 + (tk w.q (R.qt m)).1, w.i1 + w.avg * R.qt m / w.hand, w.v0, w.v1, w.e0, w.e1, (tk w.q (R.qt m)).2, fu (fu w.ic (2 * m) (tk w.q (R.qt m)).1) (2 * m + 1) (w.avg * R.qt m / w.hand))
  else (w.hand, w.avg + (R.co m - w.avg * R.qt m / w.hand), w.rcv, w.i0, w.i1, w.v0 + (R.co m - (tk w.q (R.qt m)).1), w.v1 + (R.co m - w.avg * R.qt m / w.hand), w.e0, w.e1, (R.qt m, R.co m, m) :: (tk w.q (R.qt m)).2, w.ic)
noncomputable def wI (p : Prop) (a b : WS) : WS := @ite WS p (Classical.propDecidable p) a b
theorem wI_t {p : Prop} {a b : WS} (h : p) : wI p a b = a := by unfold wI; rw [if_pos h]
theorem wI_f {p : Prop} {a b : WS} (h : ¬ p) : wI p a b = b := by unfold wI; rw [if_neg h]
noncomputable def landsW (R : RW) (item m : Int) : Nat → WS → WS
  | 0, w => w
  | k + 1, w => wI (hasB (R.sp m) k ∧ R.it k = item) (landW (landsW R item m k w) k (R.pt (60 * m + k)) (R.qt k)) (landsW R item m k w)
noncomputable def stepW (R : RW) (item : Int) (w : WS) (m : Int) : WS :=
  if R.kd m = 3 then landsW R item m R.n.toNat w else if R.it m = item then moveW R w m else w
noncomputable def walkW (R : RW) (item day : Int) : List Int → WS → WS
  | [], w => w
  | m :: t, w => if R.dy m ≤ day then walkW R item day t (stepW R item w m) else w
def bt (x t : Int) : Prop := -(10000000000000 * t) ≤ x ∧ x ≤ 10000000000000 * t
/-- bounds -/
def WB (w : WS) (t : Int) : Prop := (0 ≤ w.hand ∧ w.hand ≤ 1000 * t) ∧ (0 ≤ w.avg ∧ w.avg ≤ 2000000000 * t) ∧ qc w.q ≤ 2000000000 * t ∧ bt w.rcv t ∧ bt w.i0 t ∧ bt w.i1 t ∧ bt w.v0 t ∧ bt w.v1 t ∧ bt w.e0 t ∧ bt w.e1 t
def WI (R : RW) (item : Int) (a : List Int) (t : Int) (w : WS) : Prop := QOK w.q ∧ (w.q.map fun x => x.2.2).Nodup ∧ (∀ x ∈ w.q, x.2.2 ∈ a) ∧ w.q.length ≤ a.length ∧ qu w.q = w.hand ∧ w.hand = hs (chg R.kd R.it R.qt item) a ∧ WB w t
/-- what rows hold -/
def RG (R : RW) : Prop := (0 ≤ R.n ∧ R.n ≤ 60) ∧ ∀ m, 0 ≤ m → m < R.n → ((0 ≤ R.kd m ∧ R.kd m ≤ 3) ∧ (0 ≤ R.dy m ∧ R.dy m ≤ 364) ∧ (¬ R.kd m = 3 → (0 ≤ R.it m ∧ R.it m ≤ 5) ∧ 1 ≤ R.qt m) ∧ (0 ≤ R.qt m ∧ R.qt m ≤ 1000) ∧ (0 ≤ R.co m ∧ R.co m ≤ 1000000)) ∧ (R.kd m = 3 → R.it m = -1 ∧ R.qt m = 0 ∧ ∀ r, 0 ≤ r → r < 60 → (0 ≤ R.pt (60 * m + r) ∧ R.pt (60 * m + r) ≤ 2000000) ∧ (hasB (R.sp m) r → r < m ∧ R.kd r = 0))
theorem qmore_b {r p d : Int} (hp : 0 ≤ p ∧ p ≤ 2000000) (hd : 1 ≤ d) : ∀ {q : QL3}, QOK q → 0 ≤ qmore r p d q ∧ qmore r p d q ≤ 2000000000
  | [], _ => ⟨Int.le_refl _, by show (0 : Int) ≤ _; omega⟩
  | x :: t, h => by
    have h1 := qmore_b hp hd (r := r) (q := t) (fun y hy => h y (List.mem_cons_of_mem _ hy))
    obtain ⟨⟨h2, h3⟩, h4⟩ := h x List.mem_cons_self
    show 0 ≤ (if x.2.2 = r then p * x.1 / d else qmore r p d t) ∧ (if x.2.2 = r then p * x.1 / d else qmore r p d t) ≤ _
    split
    · have h5 := mul_b (a := p) (b := x.1) hp.1 hp.2 (by omega) h3
      have h6 : 0 ≤ p * x.1 / d := Int.ediv_nonneg h5.1 (by omega)
      have h7 : p * x.1 / d ≤ p * x.1 := Int.ediv_le_self _ h5.1
      omega
    · exact h1
theorem qadd_ok {r p d : Int} (hp : 0 ≤ p ∧ p ≤ 2000000) (hd : 1 ≤ d) : ∀ {q : QL3}, QOK q → QOK (qadd r p d q) ∧ qc (qadd r p d q) = qc q + qmore r p d q ∧ qu (qadd r p d q) = qu q ∧ (qadd r p d q).map (fun x => x.2.2) = q.map (fun x => x.2.2)
  | [], h => ⟨h, rfl, rfl, rfl⟩
  | x :: t, h => by
    obtain ⟨i1, i2, i3, i4⟩ := qadd_ok hp hd (r := r) (q := t) (fun y hy => h y (List.mem_cons_of_mem _ hy))
    obtain ⟨⟨h2, h3⟩, h4⟩ := h x List.mem_cons_self
    by_cases e : x.2.2 = r
    · have e1 : qadd r p d (x :: t) = (x.1, x.2.1 + p * x.1 / d, x.2.2) :: t := by show (if _ then _ else _) = _; rw [if_pos e]
      have e2 : qmore r p d (x :: t) = p * x.1 / d := by show (if _ then _ else _) = _; rw [if_pos e]
      rw [e1, e2]
      have h5 := mul_b (a := p) (b := x.1) hp.1 hp.2 (by omega) h3
      have h6 : 0 ≤ p * x.1 / d := Int.ediv_nonneg h5.1 (by omega)
      refine ⟨fun y hy => ?_, ?_, rfl, rfl⟩
      · rcases List.mem_cons.mp hy with rfl | hy
        · exact ⟨⟨h2, h3⟩, by show 0 ≤ x.2.1 + p * x.1 / d; omega⟩
        · exact h y (List.mem_cons_of_mem _ hy)
      · show x.2.1 + p * x.1 / d + qc t = x.2.1 + qc t + p * x.1 / d
        omega
    · have e1 : qadd r p d (x :: t) = x :: qadd r p d t := by show (if _ then _ else _) = _; rw [if_neg e]
      have e2 : qmore r p d (x :: t) = qmore r p d t := by show (if _ then _ else _) = _; rw [if_neg e]
      rw [e1, e2]
      refine ⟨fun y hy => ?_, ?_, ?_, ?_⟩
      · rcases List.mem_cons.mp hy with rfl | hy
        · exact ⟨⟨h2, h3⟩, h4⟩
        · exact i1 y hy
      · show x.2.1 + qc (qadd r p d t) = x.2.1 + qc t + qmore r p d t
        omega
      · show x.1 + qu (qadd r p d t) = x.1 + qu t
        omega
      · show x.2.2 :: (qadd r p d t).map (fun x => x.2.2) = x.2.2 :: t.map (fun x => x.2.2)
        rw [i4]
theorem WI_land {R : RW} {item t : Int} {a : List Int} {w : WS} (h : WI R item a t w) {r p d : Int} (hp : 0 ≤ p ∧ p ≤ 2000000) (hd : 1 ≤ d) : WI R item a (t + 1) (landW w r p d) := by
  obtain ⟨h1, h2, h3, h4, h5, h6, ⟨b1, b2, b3, b4, b5, b6, b7, b8, b9, b10⟩⟩ := h
  obtain ⟨q1, q2, q3, q4⟩ := qadd_ok hp hd (r := r) h1
  have q5 := qmore_b hp hd (r := r) h1
  have hm : 0 ≤ mn w.hand d ∧ mn w.hand d ≤ d := by unfold mn; split <;> omega
  have q6 := quo_b (a := p) (b := mn w.hand d) (s := d) hp.1 hm.1 (by omega) hm.2
  refine ⟨q1, ?_, fun x hx => ?_, ?_, ?_, h6, ⟨⟨b1.1, ?_⟩, ⟨?_, ?_⟩, ?_, ?_, ?_, ?_, ?_, ?_, ?_, ?_⟩⟩
  · show ((qadd r p d w.q).map fun x => x.2.2).Nodup
    rw [q4]; exact h2
  · have hx' : x.2.2 ∈ (qadd r p d w.q).map (fun x => x.2.2) := List.mem_map.mpr ⟨x, hx, rfl⟩
    rw [q4] at hx'
    obtain ⟨y, hy, e⟩ := List.mem_map.mp hx'
    rw [← e]; exact h3 y hy
  · have : ((qadd r p d w.q).map (fun x => x.2.2)).length = (w.q.map (fun x => x.2.2)).length := by rw [q4]
    rw [List.length_map, List.length_map] at this
    show (qadd r p d w.q).length ≤ _
    omega
  · show qu (qadd r p d w.q) = w.hand
    omega
  · show w.hand ≤ _; omega
  · show 0 ≤ w.avg + p * mn w.hand d / d; omega
  · show w.avg + p * mn w.hand d / d ≤ _; omega
  · show qc (qadd r p d w.q) ≤ _; omega
  · unfold bt at *; show _ ≤ w.rcv + p ∧ w.rcv + p ≤ _; omega
  · unfold bt at *; show _ ≤ w.i0 ∧ w.i0 ≤ _; omega
  · unfold bt at *; show _ ≤ w.i1 ∧ w.i1 ≤ _; omega
  · unfold bt at *; show _ ≤ w.v0 ∧ w.v0 ≤ _; omega
  · unfold bt at *; show _ ≤ w.v1 ∧ w.v1 ≤ _; omega
  · unfold bt at *; show _ ≤ w.e0 + (p - qmore r p d w.q) ∧ w.e0 + (p - qmore r p d w.q) ≤ _; omega
  · unfold bt at *; show _ ≤ w.e1 + (p - p * mn w.hand d / d) ∧ w.e1 + (p - p * mn w.hand d / d) ≤ _; omega
theorem WI_more {R : RW} {item t t' : Int} {a : List Int} {w : WS} (h : WI R item a t w) (ht : t ≤ t') : WI R item a t' w := by
  obtain ⟨h1, h2, h3, h4, h5, h6, ⟨b1, b2, b3, b4, b5, b6, b7, b8, b9, b10⟩⟩ := h
  unfold bt at *
  exact ⟨h1, h2, h3, h4, h5, h6, ⟨by omega, by omega, by omega, by unfold bt; omega, by unfold bt; omega, by unfold bt; omega, by unfold bt; omega, by unfold bt; omega, by unfold bt; omega, by unfold bt; omega⟩⟩
theorem WI_skip {R : RW} {item t m : Int} {a : List Int} {w : WS} (h : WI R item a t w) (hc : chg R.kd R.it R.qt item m = 0) : WI R item (a ++ [m]) t w := by
  obtain ⟨h1, h2, h3, h4, h5, h6, h7⟩ := h
  refine ⟨h1, h2, fun x hx => List.mem_append_left _ (h3 x hx), by rw [List.length_append, List.length_singleton]; omega, h5, by rw [hs_one, hc]; omega, h7⟩
theorem qc_app : ∀ (a b : QL3), qc (a ++ b) = qc a + qc b
  | [], b => by show qc b = 0 + qc b; omega
  | x :: t, b => by show x.2.1 + qc (t ++ b) = x.2.1 + qc t + qc b; rw [qc_app t b]; omega
theorem qu_app : ∀ (a b : QL3), qu (a ++ b) = qu a + qu b
  | [], b => by show qu b = 0 + qu b; omega
  | x :: t, b => by show x.1 + qu (t ++ b) = x.1 + qu t + qu b; rw [qu_app t b]; omega
theorem tk_map : ∀ (q : QL3) (u : Int), ∃ p, q.map (fun x => x.2.2) = p ++ (tk q u).2.map (fun x => x.2.2)
  | [], u => ⟨[], rfl⟩
  | x :: t, u => by
    by_cases h0 : u ≤ 0
    · rw [tk_0 _ h0]; exact ⟨[], rfl⟩
    · by_cases h1 : x.1 ≤ u
      · rw [tk_1 _ _ (by omega) h1]
        obtain ⟨p, hp⟩ := tk_map t (u - x.1)
        exact ⟨x.2.2 :: p, by show x.2.2 :: t.map (fun x => x.2.2) = _; rw [hp]; rfl⟩
      · rw [tk_2 _ _ (by omega) h1]; exact ⟨[], rfl⟩
theorem WI_move {R : RW} {item t m : Int} {a : List Int} {w : WS} (h : WI R item a t w) (ht : 0 ≤ t ∧ t ≤ 4000) (hk : R.kd m = 0 ∨ R.kd m = 1 ∨ R.kd m = 2) (hi : R.it m = item) (hq : 1 ≤ R.qt m ∧ R.qt m ≤ 1000) (hc : 0 ≤ R.co m ∧ R.co m ≤ 1000000) (hm : m ∉ a) (hv : ¬ R.kd m = 0 → R.qt m ≤ w.hand) : WI R item (a ++ [m]) (t + 1) (moveW R w m) := by
  obtain ⟨h1, h2, h3, h4, h5, h6, ⟨b1, b2, b3, b4, b5, b6, b7, b8, b9, b10⟩⟩ := h
  have hnew : m ∉ w.q.map (fun x => x.2.2) := fun q => by
    obtain ⟨x, hx, e⟩ := List.mem_map.mp q
    exact hm (e ▸ h3 x hx)
  have hch : chg R.kd R.it R.qt item m = dlt R.kd R.qt m := by unfold chg; rw [if_pos hi]
  unfold moveW
  by_cases k0 : R.kd m = 0
  · rw [if_pos k0]
    refine ⟨fun x hx => ?_, ?_, fun x hx => ?_, ?_, ?_, ?_, ⟨⟨?_, ?_⟩, ⟨?_, ?_⟩, ?_, ?_, ?_, ?_, ?_, ?_, ?_, ?_⟩⟩
    · rcases List.mem_append.mp hx with hx | hx
      · exact h1 x hx
      · rw [List.mem_singleton.mp hx]; exact ⟨⟨by show 1 ≤ R.qt m; omega, by show R.qt m ≤ 1000; omega⟩, by show 0 ≤ R.co m; omega⟩
    · show ((w.q ++ [(R.qt m, R.co m, m)]).map fun x => x.2.2).Nodup
      rw [List.map_append, List.nodup_append]
      refine ⟨h2, by simp, fun x hx y hy e => ?_⟩
      have : y = m := by simpa using hy
      exact hnew (this ▸ e ▸ hx)
    · rcases List.mem_append.mp hx with hx | hx
      · exact List.mem_append_left _ (h3 x hx)
      · rw [List.mem_singleton.mp hx]; exact List.mem_append_right _ (List.mem_singleton.mpr rfl)
    · show (w.q ++ [(R.qt m, R.co m, m)]).length ≤ _
      rw [List.length_append, List.length_append, List.length_singleton, List.length_singleton]; omega
    · show qu (w.q ++ [(R.qt m, R.co m, m)]) = w.hand + R.qt m
      rw [qu_app, h5]; show w.hand + (R.qt m + 0) = _; omega
    · show w.hand + R.qt m = _
      rw [hs_one, hch, h6]; unfold dlt; rw [if_pos k0]
    · show 0 ≤ w.hand + R.qt m; omega
    · show w.hand + R.qt m ≤ _; omega
    · show 0 ≤ w.avg + R.co m; omega
    · show w.avg + R.co m ≤ _; omega
    · show qc (w.q ++ [(R.qt m, R.co m, m)]) ≤ _
      rw [qc_app]; show qc w.q + (R.co m + 0) ≤ _; omega
    · unfold bt at *; show _ ≤ w.rcv + R.co m ∧ w.rcv + R.co m ≤ _; omega
    · unfold bt at *; show _ ≤ w.i0 ∧ w.i0 ≤ _; omega
    · unfold bt at *; show _ ≤ w.i1 ∧ w.i1 ≤ _; omega
    · unfold bt at *; show _ ≤ w.v0 ∧ w.v0 ≤ _; omega
    · unfold bt at *; show _ ≤ w.v1 ∧ w.v1 ≤ _; omega
    · unfold bt at *; show _ ≤ w.e0 ∧ w.e0 ≤ _; omega
    · unfold bt at *; show _ ≤ w.e1 ∧ w.e1 ≤ _; omega
  · rw [if_neg k0]
    have hv := hv k0
    obtain ⟨t1, t2, t3, t4, t5, t6⟩ := tk_ok w.q (R.qt m) h1
    have t5 := t5 (by omega) (by omega)
    have t7 := qc_nn t1
    obtain ⟨p, hp⟩ := tk_map w.q (R.qt m)
    have hnd : ((tk w.q (R.qt m)).2.map fun x => x.2.2).Nodup := by
      have h9 := h2
      rw [hp, List.nodup_append] at h9
      exact h9.2.1
    have hor : ∀ x ∈ (tk w.q (R.qt m)).2, x.2.2 ∈ a := fun x hx => by
      obtain ⟨y, hy, e, _⟩ := t6 x hx
      rw [e]; exact h3 y hy
    have hav := quo_b (a := w.avg) (b := R.qt m) (s := w.hand) b2.1 (by omega) (by omega) hv
    by_cases k1 : R.kd m = 1
    · rw [if_pos k1]
      refine ⟨t1, hnd, fun x hx => List.mem_append_left _ (hor x hx), ?_, ?_, ?_, ⟨⟨?_, ?_⟩, ⟨?_, ?_⟩, ?_, ?_, ?_, ?_, ?_, ?_, ?_, ?_⟩⟩
      · show (tk w.q (R.qt m)).2.length ≤ _
        rw [List.length_append, List.length_singleton]; omega
      · show qu (tk w.q (R.qt m)).2 = w.hand - R.qt m
        omega
      · show w.hand - R.qt m = _
        rw [hs_one, hch, h6]; unfold dlt; rw [if_neg k0, if_pos k1]; omega
      · show 0 ≤ w.hand - R.qt m; omega
      · show w.hand - R.qt m ≤ _; omega
      · show 0 ≤ w.avg + (R.co m - w.avg * R.qt m / w.hand); omega
      · show w.avg + (R.co m - w.avg * R.qt m / w.hand) ≤ _; omega
      · show qc (tk w.q (R.qt m)).2 ≤ _; omega
      · unfold bt at *; show _ ≤ w.rcv ∧ w.rcv ≤ _; omega
      · unfold bt at *; show _ ≤ w.i0 + (tk w.q (R.qt m)).1 ∧ w.i0 + (tk w.q (R.qt m)).1 ≤ _; omega
      · unfold bt at *; show _ ≤ w.i1 + w.avg * R.qt m / w.hand ∧ w.i1 + w.avg * R.qt m / w.hand ≤ _; omega
      · unfold bt at *; show _ ≤ w.v0 ∧ w.v0 ≤ _; omega
      · unfold bt at *; show _ ≤ w.v1 ∧ w.v1 ≤ _; omega
      · unfold bt at *; show _ ≤ w.e0 ∧ w.e0 ≤ _; omega
      · unfold bt at *; show _ ≤ w.e1 ∧ w.e1 ≤ _; omega
    · rw [if_neg k1]
      refine ⟨fun x hx => ?_, ?_, fun x hx => ?_, ?_, ?_, ?_, ⟨⟨?_, ?_⟩, ⟨?_, ?_⟩, ?_, ?_, ?_, ?_, ?_, ?_, ?_, ?_⟩⟩
      · rcases List.mem_cons.mp hx with rfl | hx
        · exact ⟨⟨by show 1 ≤ R.qt m; omega, by show R.qt m ≤ 1000; omega⟩, by show 0 ≤ R.co m; omega⟩
        · exact t1 x hx
      · show (m :: (tk w.q (R.qt m)).2.map fun x => x.2.2).Nodup
        refine List.nodup_cons.mpr ⟨fun q => ?_, hnd⟩
        obtain ⟨x, hx, e⟩ := List.mem_map.mp q
        exact hm (e ▸ hor x hx)
      · rcases List.mem_cons.mp hx with rfl | hx
        · exact List.mem_append_right _ (List.mem_singleton.mpr rfl)
        · exact List.mem_append_left _ (hor x hx)
      · show (tk w.q (R.qt m)).2.length + 1 ≤ _
        rw [List.length_append, List.length_singleton]; omega
      · show R.qt m + qu (tk w.q (R.qt m)).2 = w.hand
        omega
      · show w.hand = _
        rw [hs_one, hch, h6]; unfold dlt; rw [if_neg k0, if_neg k1]; omega
      · show 0 ≤ w.hand; omega
      · show w.hand ≤ _; omega
      · show 0 ≤ w.avg + (R.co m - w.avg * R.qt m / w.hand); omega
      · show w.avg + (R.co m - w.avg * R.qt m / w.hand) ≤ _; omega
      · show R.co m + qc (tk w.q (R.qt m)).2 ≤ _; omega
      · unfold bt at *; show _ ≤ w.rcv ∧ w.rcv ≤ _; omega
      · unfold bt at *; show _ ≤ w.i0 ∧ w.i0 ≤ _; omega
      · unfold bt at *; show _ ≤ w.i1 ∧ w.i1 ≤ _; omega
      · unfold bt at *; show _ ≤ w.v0 + (R.co m - (tk w.q (R.qt m)).1) ∧ w.v0 + (R.co m - (tk w.q (R.qt m)).1) ≤ _; omega
      · unfold bt at *; show _ ≤ w.v1 + (R.co m - w.avg * R.qt m / w.hand) ∧ w.v1 + (R.co m - w.avg * R.qt m / w.hand) ≤ _; omega
      · unfold bt at *; show _ ≤ w.e0 ∧ w.e0 ≤ _; omega
      · unfold bt at *; show _ ≤ w.e1 ∧ w.e1 ≤ _; omega
theorem WI_lands {R : RW} (hR : RG R) {item t m : Int} {a : List Int} {w : WS} (h : WI R item a t w) (hm0 : 0 ≤ m) (hm1 : m < R.n) (hk : R.kd m = 3) : ∀ k : Nat, k ≤ R.n → WI R item a (t + k) (landsW R item m k w)
  | 0, _ => by rw [Int.natCast_zero, Int.add_zero]; exact h
  | k + 1, hkn => by
    have ih := WI_lands hR h hm0 hm1 hk k (by omega)
    show WI R item a _ (wI _ _ _)
    by_cases q : hasB (R.sp m) k ∧ R.it k = item
    · rw [wI_t q]
      obtain ⟨hn, hr⟩ := hR
      have h1 := (hr m hm0 hm1).2 hk
      have h2 := h1.2.2 k (by omega) (by omega)
      have h3 := h2.2 q.1
      have h4 := (hr k (by omega) (by omega)).1
      have h5 := WI_land ih (r := k) h2.1 (h4.2.2.1 (by omega)).2
      rw [show t + ((k + 1 : Nat) : Int) = t + (k : Int) + 1 by omega]
      exact h5
    · rw [wI_f q]
      exact WI_more ih (by omega)
theorem WI_step {R : RW} (hR : RG R) {item t m : Int} {a : List Int} {w : WS} (h : WI R item a t w) (ht : 0 ≤ t ∧ t ≤ 4000) (hit : 0 ≤ item) (hm0 : 0 ≤ m) (hm1 : m < R.n) (hm : m ∉ a) (hv : tks R.kd R.it item m → R.qt m ≤ w.hand) : WI R item (a ++ [m]) (t + 61) (stepW R item w m) := by
  have hr := (hR.2 m hm0 hm1)
  unfold stepW
  by_cases k3 : R.kd m = 3
  · rw [if_pos k3]
    have h1 := WI_lands hR h hm0 hm1 k3 R.n.toNat (by have := hR.1; omega)
    have h2 := WI_skip (m := m) h1 (by unfold chg; have := hr.2 k3; rw [if_neg (by omega)])
    exact WI_more h2 (by have := hR.1; omega)
  · rw [if_neg k3]
    by_cases hi : R.it m = item
    · rw [if_pos hi]
      have hk := hr.1.1
      refine WI_more (WI_move h ht (by omega) hi ⟨(hr.1.2.2.1 k3).2, hr.1.2.2.2.1.2⟩ hr.1.2.2.2.2 hm (fun k0 => hv ⟨hi, by omega⟩)) (by omega)
    · rw [if_neg hi]
      exact WI_more (WI_skip h (by unfold chg; rw [if_neg hi])) (by omega)
theorem led_nd (dy gn : Int → Int) : ∀ n : Nat, (led dy gn n).Nodup
  | 0 => List.nodup_nil
  | n + 1 => by
    show (if gn n = 0 then ins dy n (led dy gn n) else led dy gn n).Nodup
    split
    · have key : ∀ l : List Int, l.Nodup → (n : Int) ∉ l → (ins dy n l).Nodup := by
        intro l
        induction l with
        | nil => intro _ _; show [(n : Int)].Nodup; simp
        | cons x t ih =>
          intro h1 h2
          show (if dy n < dy x then (n : Int) :: x :: t else x :: ins dy n t).Nodup
          split
          · exact List.nodup_cons.mpr ⟨h2, h1⟩
          · obtain ⟨h3, h4⟩ := List.nodup_cons.mp h1
            refine List.nodup_cons.mpr ⟨fun q => ?_, ih h4 (fun q => h2 (List.mem_cons_of_mem _ q))⟩
            rcases (ins_mem t).mp q with e | q
            · exact h2 (e ▸ List.mem_cons_self)
            · exact h3 q
      refine key _ (led_nd dy gn n) (fun q => ?_)
      have := (led_mem dy gn n).mp q
      omega
    · exact led_nd dy gn n
theorem plc_n {r : Int} : ∀ (l : List Int) (i f : Int), r ∉ l → plc r l i f = f
  | [], _, _, _ => rfl
  | x :: t, i, f, h => by
    show plc r t (i + 1) (if x = r then i else f) = f
    rw [if_neg (show ¬ x = r from fun e => h (e ▸ List.mem_cons_self)), plc_n t _ _ (fun q => h (List.mem_cons_of_mem _ q))]
theorem plc_y {r : Int} : ∀ (a b : List Int) (i f : Int), r ∉ b → plc r (a ++ r :: b) i f = i + a.length
  | [], b, i, f, h => by
    show plc r b (i + 1) (if r = r then i else f) = i + 0
    rw [if_pos rfl, plc_n _ _ _ h]; omega
  | x :: t, b, i, f, h => by
    show plc r (t ++ r :: b) (i + 1) (if x = r then i else f) = _
    rw [plc_y t b _ _ h, List.length_cons]; omega
theorem qmore_n {r p d : Int} : ∀ (q : QL3), r ∉ q.map (fun x => x.2.2) → qmore r p d q = 0 ∧ qadd r p d q = q
  | [], _ => ⟨rfl, rfl⟩
  | x :: t, h => by
    have h1 : ¬ x.2.2 = r := fun e => h (e ▸ List.mem_cons_self)
    have h2 := qmore_n (p := p) (d := d) t (fun q => h (List.mem_cons_of_mem _ q))
    exact ⟨by show (if _ then _ else _) = _; rw [if_neg h1, h2.1], by show (if _ then _ else _) = _; rw [if_neg h1, h2.2]⟩
theorem qmore_y {p d : Int} (x : Int × Int × Int) : ∀ (a b : QL3), x.2.2 ∉ a.map (fun x => x.2.2) → qmore x.2.2 p d (a ++ x :: b) = p * x.1 / d ∧ qadd x.2.2 p d (a ++ x :: b) = a ++ (x.1, x.2.1 + p * x.1 / d, x.2.2) :: b
  | [], b, _ => ⟨by show (if _ then _ else _) = _; rw [if_pos rfl], by show (if _ then _ else _) = _; rw [if_pos rfl]; rfl⟩
  | y :: t, b, h => by
    have h1 : ¬ y.2.2 = x.2.2 := fun e => h (e ▸ List.mem_cons_self)
    have h2 := qmore_y (p := p) (d := d) x t b (fun q => h (List.mem_cons_of_mem _ q))
    exact ⟨by show (if _ then _ else _) = _; rw [if_neg h1]; exact h2.1, by show (if _ then _ else _) = _; rw [if_neg h1]; show y :: qadd x.2.2 p d (t ++ x :: b) = _; rw [h2.2]; rfl⟩
theorem q_split {r : Int} : ∀ (q : QL3), r ∈ q.map (fun x => x.2.2) → ∃ a x b, q = a ++ x :: b ∧ x.2.2 = r
  | [], h => by cases h
  | y :: t, h => by
    rcases List.mem_cons.mp h with e | h
    · exact ⟨[], y, t, rfl, e.symm⟩
    · obtain ⟨a, x, b, e, e2⟩ := q_split t h
      exact ⟨y :: a, x, b, by rw [e]; rfl, e2⟩
