/-! places, costs of issues and parts, summed up -/
/-- what the rows hold beside: a landed cost's parts -/
def RX (R : RW) : Prop := ∀ m, 0 ≤ m → m < R.n → R.kd m = 3 → (∀ r, 0 ≤ r → r < 60 → (¬ hasB (R.sp m) r → R.pt (60 * m + r) = 0) ∧ (hasB (R.sp m) r → R.dy r ≤ R.dy m)) ∧ sumI (fun r => R.pt (60 * m + r)) 60 = R.co m
theorem fst_b {m : Int} : ∀ L : List Int, 0 ≤ fst m L ∧ fst m L ≤ L.length ∧ (m ∈ L → fst m L < L.length)
  | [] => ⟨Int.le_refl _, Int.le_refl _, fun h => by cases h⟩
  | x :: t => by
    obtain ⟨h1, h2, h3⟩ := fst_b (m := m) t
    show 0 ≤ (if x = m then 0 else 1 + fst m t) ∧ (if x = m then 0 else 1 + fst m t) ≤ ((x :: t).length : Int) ∧ (m ∈ x :: t → (if x = m then 0 else 1 + fst m t) < ((x :: t).length : Int))
    rw [List.length_cons]
    by_cases e : x = m
    · rw [if_pos e]; exact ⟨by omega, by omega, fun _ => by omega⟩
    · rw [if_neg e]
      refine ⟨by omega, by omega, fun h => ?_⟩
      rcases List.mem_cons.mp h with q | q
      · exact absurd q.symm e
      · have := h3 q; omega
theorem fst_i {x y : Int} : ∀ L : List Int, x ∈ L → y ∈ L → fst x L = fst y L → x = y
  | [], h, _, _ => by cases h
  | z :: t, hx, hy, e => by
    have e' : (if z = x then 0 else 1 + fst x t) = (if z = y then 0 else 1 + fst y t) := e
    have hbx := (fst_b (m := x) t).1
    have hby := (fst_b (m := y) t).1
    by_cases zx : z = x
    · rw [if_pos zx] at e'
      by_cases zy : z = y
      · rw [← zx, zy]
      · rw [if_neg zy] at e'; omega
    · rw [if_neg zx] at e'
      by_cases zy : z = y
      · rw [if_pos zy] at e'; omega
      · rw [if_neg zy] at e'
        rcases List.mem_cons.mp hx with q | hx
        · exact absurd q.symm zx
        rcases List.mem_cons.mp hy with q | hy
        · exact absurd q.symm zy
        exact fst_i t hx hy (by omega)
theorem fst_r {r : Int → Int → Prop} {x y : Int} : ∀ L : List Int, L.Pairwise r → x ∈ L → y ∈ L → fst x L < fst y L → r x y
  | [], _, h, _, _ => by cases h
  | z :: t, hp, hx, hy, e => by
    obtain ⟨p1, p2⟩ := List.pairwise_cons.mp hp
    have e' : (if z = x then 0 else 1 + fst x t) < (if z = y then 0 else 1 + fst y t) := e
    have hbx := (fst_b (m := x) t).1
    by_cases zy : z = y
    · rw [if_pos zy] at e'
      split at e' <;> omega
    · rcases List.mem_cons.mp hy with q | hy
      · exact absurd q.symm zy
      by_cases zx : z = x
      · rw [← zx]; exact p1 y hy
      · rw [if_neg zx, if_neg zy] at e'
        rcases List.mem_cons.mp hx with q | hx
        · exact absurd q.symm zx
        exact fst_r t p2 hx hy (by omega)
/-- the order of the places -/
theorem place_lt {R : RW} {x y : Int} (hx : x ∈ LdR R) (hy : y ∈ LdR R) (hxy : x < y) : (R.dy x ≤ R.dy y) ↔ fst x (LdR R) < fst y (LdR R) := by
  have hpw : (LdR R).Pairwise (lex R.dy) := led_pw R.dy R.gn R.n.toNat
  constructor
  · intro h
    by_cases q : fst x (LdR R) < fst y (LdR R)
    · exact q
    · exfalso
      by_cases q2 : fst x (LdR R) = fst y (LdR R)
      · have := fst_i _ hx hy q2; omega
      · have := fst_r _ hpw hy hx (by omega)
        unfold lex at this
        omega
  · intro h
    have := fst_r _ hpw hx hy h
    unfold lex at this
    omega
theorem led_cnt (dy gn : Int → Int) : ∀ n : Nat, ((led dy gn n).length : Int) = sumN (fun m => if gn m = 0 then 1 else 0) n
  | 0 => rfl
  | n + 1 => by
    have ih := led_cnt dy gn n
    show ((if gn n = 0 then ins dy n (led dy gn n) else led dy gn n).length : Int) = sumN (fun m => if gn m = 0 then 1 else 0) n + (if gn n = 0 then 1 else 0)
    split
    · rw [ins_len]; omega
    · omega
theorem hs_ins {f dy : Int → Int} {m : Int} : ∀ l : List Int, hs f (ins dy m l) = f m + hs f l
  | [] => rfl
  | x :: t => by
    show hs f (if dy m < dy x then m :: x :: t else x :: ins dy m t) = f m + (f x + hs f t)
    split
    · rfl
    · show f x + hs f (ins dy m t) = _
      rw [hs_ins t]; omega
theorem hs_led (f dy gn : Int → Int) : ∀ n : Nat, hs f (led dy gn n) = sumN (fun m => if gn m = 0 then f m else 0) n
  | 0 => rfl
  | n + 1 => by
    have ih := hs_led f dy gn n
    show hs f (if gn n = 0 then ins dy n (led dy gn n) else led dy gn n) = sumN (fun m => if gn m = 0 then f m else 0) n + (if gn n = 0 then f n else 0)
    split
    · rw [hs_ins]; omega
    · omega
theorem hs_add (g g' : Int → Int) : ∀ L : List Int, hs g L + hs g' L = hs (fun m => g m + g' m) L
  | [] => rfl
  | x :: t => by
    have ih := hs_add g g' t
    show g x + hs g t + (g' x + hs g' t) = g x + g' x + hs (fun m => g m + g' m) t
    omega
theorem hs_z : ∀ L : List Int, hs (fun _ => (0 : Int)) L = 0
  | [] => rfl
  | x :: t => by
    have ih := hs_z t
    show (0 : Int) + hs (fun _ => 0) t = 0
    omega
theorem sum_hs (F : Int → Int → Int) (L : List Int) : ∀ k : Nat, sumN (fun i => hs (F i) L) k = hs (fun m => sumN (fun i => F i m) k) L
  | 0 => (hs_z L).symm
  | k + 1 => by
    show sumN (fun i => hs (F i) L) k + hs (F k) L = hs (fun m => sumN (fun i => F i m) k + F k m) L
    rw [sum_hs F L k]
    exact hs_add _ _ L
/-- one of six -/
theorem one_6 {j c : Int} (h : 0 ≤ j ∧ j ≤ 5) : sumN (fun i => if j = i then c else 0) 6 = c := by
  show 0 + (if j = ((0 : Nat) : Int) then c else 0) + (if j = ((1 : Nat) : Int) then c else 0) + (if j = ((2 : Nat) : Int) then c else 0) + (if j = ((3 : Nat) : Int) then c else 0) + (if j = ((4 : Nat) : Int) then c else 0) + (if j = ((5 : Nat) : Int) then c else 0) = c
  repeat' split
  all_goals omega
theorem zero_n : ∀ n : Nat, sumN (fun _ => (0 : Int)) n = 0
  | 0 => rfl
  | n + 1 => by show sumN (fun _ => (0 : Int)) n + 0 = 0; rw [zero_n n]; rfl
/-! costs of issues -/
noncomputable def c0R (R : RW) (m : Int) : Int := (wk R (R.it m) (R.dy m)).ic (2 * m)
noncomputable def c1R (R : RW) (m : Int) : Int := (wk R (R.it m) (R.dy m)).ic (2 * m + 1)
def isI (R : RW) (i m : Int) : Prop := R.kd m = 1 ∧ R.it m = i
def IC (R : RW) (i : Int) (a : List Int) (w : WS) : Prop := w.i0 = hs (fun m => if R.kd m = 1 ∧ R.it m = i then w.ic (2 * m) else 0) a ∧ w.i1 = hs (fun m => if R.kd m = 1 ∧ R.it m = i then w.ic (2 * m + 1) else 0) a ∧ ∀ m ∈ a, R.kd m = 1 → R.it m = i → 0 ≤ w.ic (2 * m) ∧ 0 ≤ w.ic (2 * m + 1)
theorem lands_i (R : RW) (item m : Int) (w : WS) : ∀ k : Nat, (landsW R item m k w).i0 = w.i0 ∧ (landsW R item m k w).i1 = w.i1
  | 0 => ⟨rfl, rfl⟩
  | k + 1 => by
    have ih := lands_i R item m w k
    show (wI (hasB (R.sp m) k ∧ R.it k = item) (landW (landsW R item m k w) k (R.pt (60 * m + k)) (R.qt k)) (landsW R item m k w)).i0 = w.i0 ∧ (wI (hasB (R.sp m) k ∧ R.it k = item) (landW (landsW R item m k w) k (R.pt (60 * m + k)) (R.qt k)) (landsW R item m k w)).i1 = w.i1
    by_cases h : hasB (R.sp m) k ∧ R.it k = item
    · rw [wI_t h]; exact ih
    · rw [wI_f h]; exact ih
theorem step_i {R : RW} {item m : Int} {w : WS} (h : ¬ (R.kd m = 1 ∧ R.it m = item)) : (stepW R item w m).i0 = w.i0 ∧ (stepW R item w m).i1 = w.i1 := by
  unfold stepW
  by_cases h0 : R.kd m = 3
  · rw [if_pos h0]; exact lands_i R item m w _
  · rw [if_neg h0]
    by_cases h1 : R.it m = item
    · rw [if_pos h1]
      unfold moveW
      by_cases k0 : R.kd m = 0
      · rw [if_pos k0]; exact ⟨rfl, rfl⟩
      · rw [if_neg k0, if_neg (fun k1 => h ⟨k1, h1⟩)]; exact ⟨rfl, rfl⟩
    · rw [if_neg h1]; exact ⟨rfl, rfl⟩
theorem IC_step {R : RW} {item m t : Int} {a : List Int} {w : WS} (hI : WI R item a t w) (hm : m ∉ a) (hq : R.kd m = 1 → R.it m = item → (0 ≤ R.qt m ∧ 1 ≤ R.qt m) ∧ R.qt m ≤ w.hand) (h : IC R item a w) : IC R item (a ++ [m]) (stepW R item w m) := by
  obtain ⟨c1, c2, c3⟩ := h
  have hne : ∀ x ∈ a, x ≠ m := fun x hx e => hm (e ▸ hx)
  have e1 : ∀ x ∈ a, (stepW R item w m).ic (2 * x) = w.ic (2 * x) ∧ (stepW R item w m).ic (2 * x + 1) = w.ic (2 * x + 1) := fun x hx => by
    have := hne x hx
    exact ⟨step_ic R item w m _ (by omega) (by omega), step_ic R item w m _ (by omega) (by omega)⟩
  have e2 : hs (fun x => if R.kd x = 1 ∧ R.it x = item then (stepW R item w m).ic (2 * x) else 0) a = hs (fun x => if R.kd x = 1 ∧ R.it x = item then w.ic (2 * x) else 0) a := hs_c _ (fun x hx => by rw [(e1 x hx).1])
  have e3 : hs (fun x => if R.kd x = 1 ∧ R.it x = item then (stepW R item w m).ic (2 * x + 1) else 0) a = hs (fun x => if R.kd x = 1 ∧ R.it x = item then w.ic (2 * x + 1) else 0) a := hs_c _ (fun x hx => by rw [(e1 x hx).2])
  unfold IC
  rw [hs_one, hs_one, e2, e3, ← c1, ← c2]
  by_cases hi : R.kd m = 1 ∧ R.it m = item
  · rw [if_pos hi, if_pos hi]
    have es : stepW R item w m = (w.hand - R.qt m, w.avg + (R.co m - w.avg * R.qt m / w.hand), w.rcv, w.i0 + (tk w.q (R.qt m)).1, w.i1 + w.avg * R.qt m / w.hand, w.v0, w.v1, w.e0, w.e1, (tk w.q (R.qt m)).2, fu (fu w.ic (2 * m) (tk w.q (R.qt m)).1) (2 * m + 1) (w.avg * R.qt m / w.hand)) := by
      unfold stepW moveW
      rw [if_neg (by omega), if_pos hi.2, if_neg (by omega), if_pos hi.1]
    have f1 : (stepW R item w m).ic (2 * m) = (tk w.q (R.qt m)).1 := by
      rw [es]
      show fu (fu w.ic (2 * m) (tk w.q (R.qt m)).1) (2 * m + 1) (w.avg * R.qt m / w.hand) (2 * m) = _
      rw [fu_ne _ _ (by omega), fu_self]
    have f2 : (stepW R item w m).ic (2 * m + 1) = w.avg * R.qt m / w.hand := by
      rw [es]
      show fu (fu w.ic (2 * m) (tk w.q (R.qt m)).1) (2 * m + 1) (w.avg * R.qt m / w.hand) (2 * m + 1) = _
      rw [fu_self]
    have hq := hq hi.1 hi.2
    obtain ⟨h1, h2, h3, h4, h5, h6, hb⟩ := hI
    have t3 := (tk_ok w.q (R.qt m) h1).2.2.1
    have hav := quo_b (a := w.avg) (b := R.qt m) (s := w.hand) hb.2.1.1 (by omega) (by omega) hq.2
    rw [f1, f2]
    refine ⟨by rw [es]; rfl, by rw [es]; rfl, fun x hx k1 i1 => ?_⟩
    rcases List.mem_append.mp hx with hx | hx
    · rw [(e1 x hx).1, (e1 x hx).2]; exact c3 x hx k1 i1
    · rw [List.mem_singleton.mp hx, f1, f2]; exact ⟨t3, hav.1⟩
  · rw [if_neg hi, if_neg hi, Int.add_zero, Int.add_zero]
    obtain ⟨s1, s2⟩ := step_i (w := w) hi
    refine ⟨s1, s2, fun x hx k1 i1 => ?_⟩
    rcases List.mem_append.mp hx with hx | hx
    · rw [(e1 x hx).1, (e1 x hx).2]; exact c3 x hx k1 i1
    · rw [List.mem_singleton.mp hx] at k1 i1; exact absurd ⟨k1, i1⟩ hi
theorem IC_walk {R : RW} (hR : RG R) {item day : Int} (hit : 0 ≤ item) : ∀ (b a : List Int) (w : WS), LdR R = a ++ b → (∀ x ∈ b, R.dy x ≤ day) → WI R item a (61 * a.length) w → vld (chg R.kd R.it R.qt item) R.qt (tks R.kd R.it item) w.hand b → IC R item a w → IC R item (LdR R) (walkW R item day b w)
  | [], a, w, hab, _, _, _, h => by rw [hab, List.append_nil]; exact h
  | m :: t, a, w, hab, hd, hw, hv, h => by
    have hlen : (LdR R).length ≤ R.n.toNat := led_len R.dy R.gn R.n.toNat
    rw [hab, List.length_append, List.length_cons] at hlen
    have h9 := hR.1
    have hm := (led_mem R.dy R.gn R.n.toNat).mp (show m ∈ LdR R by rw [hab]; simp)
    have hnd : (LdR R).Nodup := led_nd R.dy R.gn R.n.toNat
    rw [hab, List.nodup_append] at hnd
    have hma : m ∉ a := fun q => hnd.2.2 m q m List.mem_cons_self rfl
    have hr := (hR.2 m hm.1.1 (by omega)).1
    have h1 := WI_step hR hw (by omega) hit hm.1.1 (by omega) hma hv.1
    have h2 := IC_step hw hma (fun k1 i1 => ⟨⟨hr.2.2.2.1.1, (hr.2.2.1 (by omega)).2⟩, hv.1 ⟨i1, Or.inl k1⟩⟩) h
    have hh : (stepW R item w m).hand = w.hand + chg R.kd R.it R.qt item m := by
      rw [h1.2.2.2.2.2.1, hs_one, ← hw.2.2.2.2.2.1]
    show IC R item (LdR R) (if R.dy m ≤ day then walkW R item day t (stepW R item w m) else w)
    rw [if_pos (hd m List.mem_cons_self)]
    exact IC_walk hR hit t (a ++ [m]) _ (by rw [hab]; simp) (fun x hx => hd x (List.mem_cons_of_mem _ hx)) (WI_more h1 (by rw [List.length_append, List.length_singleton]; omega)) (by rw [hh]; exact hv.2) h2
theorem cost_eq4 {R : RW} (hR : RG R) {m : Int} (hm0 : 0 ≤ m) (hm1 : m < R.n) (k1 : R.kd m = 1) (hg : R.gn m = 0) (ic ic' : Int → Int) : (WKr R (R.it m) 364 ic).ic (2 * m) = (WKr R (R.it m) (R.dy m) ic').ic (2 * m) ∧ (WKr R (R.it m) 364 ic).ic (2 * m + 1) = (WKr R (R.it m) (R.dy m) ic').ic (2 * m + 1) := by
  have hl : m ∈ LdR R := (led_mem R.dy R.gn R.n.toNat).mpr ⟨by omega, hg⟩
  obtain ⟨a, b, hab⟩ := List.append_of_mem hl
  have hpw : (LdR R).Pairwise (lex R.dy) := led_pw R.dy R.gn R.n.toNat
  have hnd : (LdR R).Nodup := led_nd R.dy R.gn R.n.toNat
  rw [hab] at hpw hnd
  have hb : m ∉ b := (List.nodup_cons.mp (List.nodup_append.mp hnd).2.1).1
  have ha : ∀ x ∈ a, R.dy x ≤ R.dy m := fun x hx => by
    have := (List.pairwise_append.mp hpw).2.2 x hx m List.mem_cons_self
    unfold lex at this
    omega
  have hdm := (hR.2 m hm0 hm1).1.2.1
  have ha2 : ∀ x ∈ a, R.dy x ≤ 364 := fun x hx => by have := ha x hx; omega
  obtain ⟨c1, c2⟩ := cost_1 (ic := ic) hab ha2 (by omega) hb k1
  obtain ⟨c3, c4⟩ := cost_1 (ic := ic') hab ha (Int.le_refl _) hb k1
  have ew : walkW R (R.it m) 364 a (w00 ic) = walkW R (R.it m) (R.dy m) a (w00 ic) := walk_day R (R.it m) 364 (R.dy m) a _ (fun x hx => ⟨ha2 x hx, ha x hx⟩)
  obtain ⟨g, eg⟩ : ∃ g, walkW R (R.it m) (R.dy m) a (w00 ic) = sic (walkW R (R.it m) (R.dy m) a (w00 ic')) g := sic_walk R (R.it m) (R.dy m) a (w00 ic') ic
  rw [c1, c2, c3, c4, ew, eg]
  exact ⟨rfl, rfl⟩
/-- what the class answers for an issue is c0R, c1R -/
theorem cost_R {R : RW} (hR : RG R) {m : Int} (hm0 : 0 ≤ m) (hm1 : m < R.n) (k1 : R.kd m = 1) (hg : R.gn m = 0) (ic : Int → Int) : (WKr R (R.it m) (R.dy m) ic).ic (2 * m) = c0R R m ∧ (WKr R (R.it m) (R.dy m) ic).ic (2 * m + 1) = c1R R m := by
  have h1 := cost_eq4 hR hm0 hm1 k1 hg ic ic
  have h2 := cost_eq4 hR hm0 hm1 k1 hg ic (fun _ => 0)
  exact ⟨h1.1.symm.trans h2.1, h1.2.symm.trans h2.2⟩
theorem IC_364 {R : RW} (hR : RG R) {item : Int} (hit : 0 ≤ item) (hv : RV R item) : IC R item (LdR R) (wk R item 364) := by
  refine IC_walk hR hit (LdR R) [] (w00 (fun _ => 0)) rfl (fun x hx => ?_) (WI_00 R item _) hv ⟨rfl, rfl, fun m hm => by cases hm⟩
  have h9 := (led_mem R.dy R.gn R.n.toNat).mp hx
  have hn := hR.1
  exact (hR.2 x h9.1.1 (by omega)).1.2.1.2
theorem cost_nn {R : RW} (hR : RG R) (hV : ∀ i, 0 ≤ i → i ≤ 5 → RV R i) {m : Int} (hm0 : 0 ≤ m) (hm1 : m < R.n) (k1 : R.kd m = 1) (hg : R.gn m = 0) : 0 ≤ c0R R m ∧ 0 ≤ c1R R m := by
  have hit := ((hR.2 m hm0 hm1).1.2.2.1 (by omega)).1
  have hn := hR.1
  have h := (IC_364 hR hit.1 (hV _ hit.1 hit.2)).2.2 m ((led_mem R.dy R.gn R.n.toNat).mpr ⟨by omega, hg⟩) k1 rfl
  have h2 := cost_eq4 hR hm0 hm1 k1 hg (fun _ => 0) (fun _ => 0)
  have e1 : (wk R (R.it m) 364).ic (2 * m) = c0R R m := h2.1
  have e2 : (wk R (R.it m) 364).ic (2 * m + 1) = c1R R m := h2.2
  rw [← e1, ← e2]
  exact h
theorem cost_sum {R : RW} (hR : RG R) (hV : ∀ i, 0 ≤ i → i ≤ 5 → RV R i) : sumI (fun m => if R.kd m = 1 ∧ R.gn m = 0 then c0R R m else 0) R.n = sumI (fun i => (wk R i 364).i0) 6 ∧ sumI (fun m => if R.kd m = 1 ∧ R.gn m = 0 then c1R R m else 0) R.n = sumI (fun i => (wk R i 364).i1) 6 := by
  have hn := hR.1
  have hl : ∀ x ∈ LdR R, (0 ≤ x ∧ x < R.n) ∧ R.gn x = 0 := fun x hx => by
    have h9 := (led_mem R.dy R.gn R.n.toNat).mp hx
    exact ⟨⟨h9.1.1, by omega⟩, h9.2⟩
  have key : ∀ (f : WS → Int) (cR : Int → Int) (o : Int), (∀ i, 0 ≤ i → i ≤ 5 → f (wk R i 364) = hs (fun m => if R.kd m = 1 ∧ R.it m = i then (wk R i 364).ic (2 * m + o) else 0) (LdR R)) → (∀ m, 0 ≤ m → m < R.n → R.kd m = 1 → R.gn m = 0 → (wk R (R.it m) 364).ic (2 * m + o) = cR m) → sumI (fun m => if R.kd m = 1 ∧ R.gn m = 0 then cR m else 0) R.n = sumI (fun i => f (wk R i 364)) 6 := by
    intro f cR o h1 h2
    have e1 : sumI (fun i => f (wk R i 364)) 6 = sumN (fun i => hs (fun m => if R.it m = i then (if R.kd m = 1 then cR m else 0) else 0) (LdR R)) 6 := by
      show sumN (fun i => f (wk R i 364)) 6 = _
      refine sumN_c 6 (fun i i0 i1 => ?_)
      rw [h1 i i0 (by omega)]
      refine hs_c _ (fun m hm => ?_)
      have hm' := hl m hm
      by_cases ei : R.it m = i
      · rw [if_pos ei]
        by_cases k1 : R.kd m = 1
        · rw [if_pos ⟨k1, ei⟩, if_pos k1, ← ei, h2 m hm'.1.1 hm'.1.2 k1 hm'.2]
        · rw [if_neg (fun q => k1 q.1), if_neg k1]
      · rw [if_neg ei, if_neg (fun q => ei q.2)]
    rw [e1, sum_hs]
    have e2 : hs (fun m => sumN (fun i => if R.it m = i then (if R.kd m = 1 then cR m else 0) else 0) 6) (LdR R) = hs (fun m => if R.kd m = 1 then cR m else 0) (LdR R) := by
      refine hs_c _ (fun m hm => ?_)
      have hm' := hl m hm
      by_cases k1 : R.kd m = 1
      · rw [if_pos k1]
        exact one_6 ((hR.2 m hm'.1.1 hm'.1.2).1.2.2.1 (by omega)).1
      · rw [if_neg k1]
        rw [sumN_c (g := fun _ => 0) 6 (fun i _ _ => by split <;> rfl)]
        exact zero_n 6
    rw [e2]
    show _ = hs (fun m => if R.kd m = 1 then cR m else 0) (led R.dy R.gn R.n.toNat)
    rw [hs_led]
    unfold sumI
    refine sumN_c _ (fun m _ _ => ?_)
    by_cases g : R.gn m = 0
    · rw [if_pos g]
      by_cases k1 : R.kd m = 1
      · rw [if_pos ⟨k1, g⟩, if_pos k1]
      · rw [if_neg (fun q => k1 q.1), if_neg k1]
    · rw [if_neg g, if_neg (fun q => g q.2)]
  constructor
  · refine key WS.i0 (c0R R) 0 (fun i i0 i1 => ?_) (fun m m0 m1 k1 g => ?_)
    · have := (IC_364 hR i0 (hV i i0 i1)).1
      rw [this]
      refine hs_c _ (fun m _ => ?_)
      rw [Int.add_zero]
    · rw [Int.add_zero]; exact (cost_eq4 hR m0 m1 k1 g (fun _ => 0) (fun _ => 0)).1
  · refine key WS.i1 (c1R R) 1 (fun i i0 i1 => ?_) (fun m m0 m1 k1 g => ?_)
    · exact (IC_364 hR i0 (hV i i0 i1)).2.1
    · exact (cost_eq4 hR m0 m1 k1 g (fun _ => 0) (fun _ => 0)).2
/-- what is received of all items -/
noncomputable def rcS (R : RW) (i m : Int) : Int := if R.kd m = 3 then sumN (fun k => @ite Int (hasB (R.sp m) k ∧ R.it k = i) (Classical.propDecidable _) (R.pt (60 * m + k)) 0) R.n.toNat else if R.it m = i then (if R.kd m = 0 then R.co m else 0) else 0
def totR (R : RW) (m : Int) : Int := if R.kd m = 3 ∨ R.kd m = 0 then R.co m else 0
theorem lands_rcv (R : RW) (item m : Int) (w : WS) : ∀ k : Nat, (landsW R item m k w).rcv = w.rcv + sumN (fun k => @ite Int (hasB (R.sp m) k ∧ R.it k = item) (Classical.propDecidable _) (R.pt (60 * m + k)) 0) k
  | 0 => by show w.rcv = w.rcv + 0; omega
  | k + 1 => by
    have ih := lands_rcv R item m w k
    show (wI (hasB (R.sp m) k ∧ R.it k = item) (landW (landsW R item m k w) k (R.pt (60 * m + k)) (R.qt k)) (landsW R item m k w)).rcv = w.rcv + (sumN (fun k => @ite Int (hasB (R.sp m) k ∧ R.it k = item) (Classical.propDecidable _) (R.pt (60 * m + k)) 0) k + @ite Int (hasB (R.sp m) k ∧ R.it k = item) (Classical.propDecidable _) (R.pt (60 * m + k)) 0)
    by_cases h : hasB (R.sp m) k ∧ R.it k = item
    · rw [wI_t h, if_pos h]
      show (landsW R item m k w).rcv + R.pt (60 * m + k) = _
      omega
    · rw [wI_f h, if_neg h]; omega
theorem step_rcv (R : RW) (item m : Int) (w : WS) : (stepW R item w m).rcv = w.rcv + rcS R item m := by
  unfold stepW rcS
  by_cases h0 : R.kd m = 3
  · rw [if_pos h0, if_pos h0]; exact lands_rcv R item m w _
  · rw [if_neg h0, if_neg h0]
    by_cases h1 : R.it m = item
    · rw [if_pos h1, if_pos h1]
      unfold moveW
      by_cases k0 : R.kd m = 0
      · rw [if_pos k0, if_pos k0]; rfl
      · rw [if_neg k0, if_neg k0]
        by_cases k1 : R.kd m = 1
        · rw [if_pos k1]; show w.rcv = w.rcv + 0; omega
        · rw [if_neg k1]; show w.rcv = w.rcv + 0; omega
    · rw [if_neg h1, if_neg h1]; omega
theorem walk_rcv (R : RW) (item day : Int) : ∀ (l : List Int) (w : WS), (∀ x ∈ l, R.dy x ≤ day) → (walkW R item day l w).rcv = w.rcv + hs (rcS R item) l
  | [], w, _ => by show w.rcv = w.rcv + 0; omega
  | m :: t, w, h => by
    show (if R.dy m ≤ day then walkW R item day t (stepW R item w m) else w).rcv = w.rcv + (rcS R item m + hs (rcS R item) t)
    rw [if_pos (h m List.mem_cons_self), walk_rcv R item day t _ (fun x hx => h x (List.mem_cons_of_mem _ hx)), step_rcv]
    omega
theorem sumN_z {f : Int → Int} {n : Nat} : ∀ j : Nat, (∀ m : Int, (n : Int) ≤ m → m < ((n + j : Nat) : Int) → f m = 0) → sumN f (n + j) = sumN f n
  | 0, _ => rfl
  | j + 1, h => by
    show sumN f (n + j) + f ((n + j : Nat) : Int) = _
    rw [sumN_z j (fun m m0 m1 => h m m0 (by omega)), h ((n + j : Nat) : Int) (by omega) (by omega), Int.add_zero]
theorem sumN_add (g g' : Int → Int) : ∀ n : Nat, sumN g n + sumN g' n = sumN (fun j => g j + g' j) n
  | 0 => rfl
  | n + 1 => by
    have ih := sumN_add g g' n
    show sumN g n + g n + (sumN g' n + g' n) = sumN (fun j => g j + g' j) n + (g n + g' n)
    omega
theorem sum_sum (F : Int → Int → Int) (n : Nat) : ∀ k : Nat, sumN (fun i => sumN (F i) n) k = sumN (fun j => sumN (fun i => F i j) k) n
  | 0 => (zero_n n).symm
  | k + 1 => by
    show sumN (fun i => sumN (F i) n) k + sumN (F k) n = sumN (fun j => sumN (fun i => F i j) k + F k j) n
    rw [sum_sum F n k]
    exact sumN_add _ _ n
theorem rcv_all {R : RW} (hR : RG R) (hR2 : RG2 R) (hX : RX R) : sumI (fun i => (wk R i 364).rcv) 6 = hs (totR R) (LdR R) := by
  have hn := hR.1
  have hl : ∀ x ∈ LdR R, (0 ≤ x ∧ x < R.n) ∧ R.gn x = 0 := fun x hx => by
    have h9 := (led_mem R.dy R.gn R.n.toNat).mp hx
    exact ⟨⟨h9.1.1, by omega⟩, h9.2⟩
  have e1 : sumI (fun i => (wk R i 364).rcv) 6 = sumN (fun i => hs (rcS R i) (LdR R)) 6 := by
    show sumN (fun i => (wk R i 364).rcv) 6 = _
    refine sumN_c 6 (fun i _ _ => ?_)
    have h9 := walk_rcv R i 364 (LdR R) (w00 (fun _ => 0)) (fun x hx => (hR.2 x (hl x hx).1.1 (hl x hx).1.2).1.2.1.2)
    show (walkW R i 364 (LdR R) (w00 (fun _ => 0))).rcv = _
    rw [h9]
    show (0 : Int) + _ = _
    omega
  rw [e1, sum_hs]
  refine hs_c _ (fun m hm => ?_)
  have hm' := hl m hm
  have hr := hR.2 m hm'.1.1 hm'.1.2
  show sumN (fun i => rcS R i m) 6 = totR R m
  by_cases k3 : R.kd m = 3
  · have ex := hX m hm'.1.1 hm'.1.2 k3
    have e2 : sumN (fun i => rcS R i m) 6 = sumN (fun i => sumN (fun k => @ite Int (hasB (R.sp m) k ∧ R.it k = i) (Classical.propDecidable _) (R.pt (60 * m + k)) 0) R.n.toNat) 6 := sumN_c 6 (fun i _ _ => by unfold rcS; rw [if_pos k3])
    rw [e2, sum_sum (fun i k => @ite Int (hasB (R.sp m) k ∧ R.it k = i) (Classical.propDecidable _) (R.pt (60 * m + k)) 0) R.n.toNat 6]
    have e3 : sumN (fun k => sumN (fun i => @ite Int (hasB (R.sp m) k ∧ R.it k = i) (Classical.propDecidable _) (R.pt (60 * m + k)) 0) 6) R.n.toNat = sumN (fun k => R.pt (60 * m + k)) R.n.toNat := by
      refine sumN_c _ (fun k k0 k1 => ?_)
      by_cases hb : hasB (R.sp m) k
      · have hk := ((hr.2 k3).2.2 k k0 (by omega)).2 hb
        have hk2 := ((hR.2 k k0 (by omega)).1.2.2.1 (by omega)).1
        have e4 : sumN (fun i => @ite Int (hasB (R.sp m) k ∧ R.it k = i) (Classical.propDecidable _) (R.pt (60 * m + k)) 0) 6 = sumN (fun i => if R.it k = i then R.pt (60 * m + k) else 0) 6 := sumN_c 6 (fun i _ _ => by
          by_cases ei : R.it k = i
          · rw [if_pos ⟨hb, ei⟩, if_pos ei]
          · rw [if_neg (fun q => ei q.2), if_neg ei])
        show sumN (fun i => @ite Int (hasB (R.sp m) k ∧ R.it k = i) (Classical.propDecidable _) (R.pt (60 * m + k)) 0) 6 = _
        rw [e4]
        exact one_6 hk2
      · show sumN (fun i => @ite Int (hasB (R.sp m) k ∧ R.it k = i) (Classical.propDecidable _) (R.pt (60 * m + k)) 0) 6 = _
        rw [sumN_c (g := fun _ => 0) 6 (fun i _ _ => if_neg (fun q => hb q.1)), zero_n, (ex.1 k k0 (by omega)).1 hb]
    rw [e3]
    have e5 := sumN_z (f := fun k => R.pt (60 * m + k)) (n := R.n.toNat) (60 - R.n.toNat) (fun k k0 k1 => (ex.1 k (by omega) (by omega)).1 (hR2.2.1 m hm'.1.1 hm'.1.2 k3 k (by omega) (by omega)))
    rw [show R.n.toNat + (60 - R.n.toNat) = 60 by omega] at e5
    rw [← e5]
    unfold totR
    rw [if_pos (Or.inl k3)]
    exact ex.2
  · have e2 : sumN (fun i => rcS R i m) 6 = sumN (fun i => if R.it m = i then (if R.kd m = 0 then R.co m else 0) else 0) 6 := sumN_c 6 (fun i _ _ => by unfold rcS; rw [if_neg k3])
    rw [e2, one_6 (hr.1.2.2.1 k3).1]
    unfold totR
    by_cases k0 : R.kd m = 0
    · rw [if_pos k0, if_pos (Or.inr k0)]
    · rw [if_neg k0, if_neg (fun q => q.elim k3 k0)]
