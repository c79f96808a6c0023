/-! what a walk keeps: what came in and was revalued is what went out, was expensed and is there; nothing is less than 0; what is counted grows -/
def WV (R : RW) (w : WS) : Prop := w.rcv + w.v0 = qc w.q + w.i0 + w.e0 ∧ w.rcv + w.v1 = w.avg + w.i1 + w.e1 ∧ 0 ≤ w.rcv ∧ 0 ≤ w.i0 ∧ 0 ≤ w.i1 ∧ 0 ≤ w.e0 ∧ 0 ≤ w.e1 ∧ (w.hand = 0 → w.avg = 0) ∧ ∀ x ∈ w.q, x.1 ≤ R.qt x.2.2 ∧ (R.kd x.2.2 = 0 ∨ R.kd x.2.2 = 2)
def MO (w w' : WS) : Prop := w.rcv ≤ w'.rcv ∧ w.i0 ≤ w'.i0 ∧ w.i1 ≤ w'.i1 ∧ w.e0 ≤ w'.e0 ∧ w.e1 ≤ w'.e1
theorem MO.rf (w : WS) : MO w w := ⟨Int.le_refl _, Int.le_refl _, Int.le_refl _, Int.le_refl _, Int.le_refl _⟩
theorem MO.tr {a b c : WS} (h : MO a b) (k : MO b c) : MO a c := ⟨Int.le_trans h.1 k.1, Int.le_trans h.2.1 k.2.1, Int.le_trans h.2.2.1 k.2.2.1, Int.le_trans h.2.2.2.1 k.2.2.2.1, Int.le_trans h.2.2.2.2 k.2.2.2.2⟩
theorem qmore_p {r p d : Int} (hp : 0 ≤ p) (hd : 1 ≤ d) : ∀ (q : QL3), QOK q → (∀ x ∈ q, x.2.2 = r → x.1 ≤ d) → qmore r p d q ≤ p
  | [], _, _ => hp
  | x :: t, h, hx => by
    have h1 := qmore_p (r := r) hp hd t (fun y hy => h y (List.mem_cons_of_mem _ hy)) (fun y hy => hx y (List.mem_cons_of_mem _ hy))
    obtain ⟨⟨h2, h3⟩, h4⟩ := h x List.mem_cons_self
    show (if x.2.2 = r then p * x.1 / d else qmore r p d t) ≤ p
    split
    next e => exact (quo_b (a := p) (b := x.1) (s := d) hp (by omega) (by omega) (hx x List.mem_cons_self e)).2
    next => exact h1
theorem qadd_el {r p d : Int} : ∀ (q : QL3) (y : Int × Int × Int), y ∈ qadd r p d q → ∃ x ∈ q, y.1 = x.1 ∧ y.2.2 = x.2.2
  | [], y, h => by cases h
  | x :: t, y, h => by
    have h' : y ∈ (if x.2.2 = r then (x.1, x.2.1 + p * x.1 / d, x.2.2) :: t else x :: qadd r p d t) := h
    split at h'
    · rcases List.mem_cons.mp h' with rfl | h9
      · exact ⟨x, List.mem_cons_self, rfl, rfl⟩
      · exact ⟨y, List.mem_cons_of_mem _ h9, rfl, rfl⟩
    · rcases List.mem_cons.mp h' with rfl | h9
      · exact ⟨y, List.mem_cons_self, rfl, rfl⟩
      · obtain ⟨z, hz, e⟩ := qadd_el t y h9
        exact ⟨z, List.mem_cons_of_mem _ hz, e⟩
theorem WV_land {R : RW} {item t : Int} {a : List Int} {w : WS} (hI : WI R item a t w) {r p d : Int} (hp : 0 ≤ p ∧ p ≤ 2000000) (hd : 1 ≤ d) (hdr : R.qt r = d) (h : WV R w) : WV R (landW w r p d) ∧ MO w (landW w r p d) := by
  obtain ⟨h1, h2, h3, h4, h5, h6, hb⟩ := hI
  obtain ⟨v1, v2, v3, v4, v5, v6, v7, v8, v9⟩ := h
  obtain ⟨q1, q2, q3, q4⟩ := qadd_ok hp hd (r := r) h1
  have q5 := qmore_b hp hd (r := r) h1
  have q6 := qmore_p (r := r) hp.1 hd w.q h1 (fun x hx e => by rw [← hdr, ← e]; exact (v9 x hx).1)
  have hh := hb.1.1
  have hm : 0 ≤ mn w.hand d ∧ mn w.hand d ≤ d := by unfold mn; split <;> omega
  have q7 := quo_b (a := p) (b := mn w.hand d) (s := d) hp.1 hm.1 (by omega) hm.2
  refine ⟨⟨?_, ?_, ?_, v4, v5, ?_, ?_, ?_, ?_⟩, ?_, Int.le_refl _, Int.le_refl _, ?_, ?_⟩
  · show w.rcv + p + w.v0 = qc (qadd r p d w.q) + w.i0 + (w.e0 + (p - qmore r p d w.q)); omega
  · show w.rcv + p + w.v1 = w.avg + p * mn w.hand d / d + w.i1 + (w.e1 + (p - p * mn w.hand d / d)); omega
  · show 0 ≤ w.rcv + p; omega
  · show 0 ≤ w.e0 + (p - qmore r p d w.q); omega
  · show 0 ≤ w.e1 + (p - p * mn w.hand d / d); omega
  · intro e
    have e' : w.hand = 0 := e
    show w.avg + p * mn w.hand d / d = 0
    have e2 : mn w.hand d = 0 := by unfold mn; rw [e', if_pos (by omega)]
    rw [e2, v8 e', Int.mul_zero, Int.zero_ediv]; rfl
  · intro y hy
    obtain ⟨x, hx, e1, e2⟩ := qadd_el w.q y hy
    rw [e1, e2]
    exact v9 x hx
  · show w.rcv ≤ w.rcv + p; omega
  · show w.e0 ≤ w.e0 + (p - qmore r p d w.q); omega
  · show w.e1 ≤ w.e1 + (p - p * mn w.hand d / d); omega
theorem WV_move {R : RW} {item t m : Int} {a : List Int} {w : WS} (hI : WI R item a t w) (hk : R.kd m = 0 ∨ R.kd m = 1 ∨ R.kd m = 2) (hq : 1 ≤ R.qt m ∧ R.qt m ≤ 1000) (hc : 0 ≤ R.co m) (hc1 : R.kd m = 1 → R.co m = 0) (hv : ¬ R.kd m = 0 → R.qt m ≤ w.hand) (h : WV R w) : WV R (moveW R w m) ∧ MO w (moveW R w m) := by
  obtain ⟨h1, h2, h3, h4, h5, h6, hb⟩ := hI
  obtain ⟨v1, v2, v3, v4, v5, v6, v7, v8, v9⟩ := h
  unfold moveW
  by_cases k0 : R.kd m = 0
  · rw [if_pos k0]
    have hh := hb.1.1
    refine ⟨⟨?_, ?_, ?_, v4, v5, v6, v7, ?_, ?_⟩, ?_, Int.le_refl _, Int.le_refl _, Int.le_refl _, Int.le_refl _⟩
    · show w.rcv + R.co m + w.v0 = qc (w.q ++ [(R.qt m, R.co m, m)]) + w.i0 + w.e0
      rw [qc_app]
      show _ = qc w.q + (R.co m + 0) + w.i0 + w.e0
      omega
    · show w.rcv + R.co m + w.v1 = w.avg + R.co m + w.i1 + w.e1; omega
    · show 0 ≤ w.rcv + R.co m; omega
    · intro e
      have e' : w.hand + R.qt m = 0 := e
      omega
    · intro x hx
      rcases List.mem_append.mp hx with hx | hx
      · exact v9 x hx
      · rw [List.mem_singleton.mp hx]; exact ⟨Int.le_refl _, Or.inl k0⟩
    · show w.rcv ≤ w.rcv + R.co m; omega
  · rw [if_neg k0]
    have hv := hv k0
    obtain ⟨t1, t2, t3, t4, t5, t6⟩ := tk_ok w.q (R.qt m) h1
    have hav := quo_b (a := w.avg) (b := R.qt m) (s := w.hand) hb.2.1.1 (by omega) (by omega) hv
    have hel : ∀ y ∈ (tk w.q (R.qt m)).2, y.1 ≤ R.qt y.2.2 ∧ (R.kd y.2.2 = 0 ∨ R.kd y.2.2 = 2) := fun y hy => by
      obtain ⟨x, hx, e1, e2⟩ := t6 y hy
      have h9 := v9 x hx
      rw [e1]
      exact ⟨Int.le_trans e2 h9.1, h9.2⟩
    by_cases k1 : R.kd m = 1
    · have hc1 := hc1 k1
      rw [if_pos k1]
      refine ⟨⟨?_, ?_, v3, ?_, ?_, v6, v7, ?_, hel⟩, Int.le_refl _, ?_, ?_, Int.le_refl _, Int.le_refl _⟩
      · show w.rcv + w.v0 = qc (tk w.q (R.qt m)).2 + (w.i0 + (tk w.q (R.qt m)).1) + w.e0; omega
      · show w.rcv + w.v1 = w.avg + (R.co m - w.avg * R.qt m / w.hand) + (w.i1 + w.avg * R.qt m / w.hand) + w.e1; omega
      · show 0 ≤ w.i0 + (tk w.q (R.qt m)).1; omega
      · show 0 ≤ w.i1 + w.avg * R.qt m / w.hand; omega
      · intro e
        have e' : w.hand - R.qt m = 0 := e
        show w.avg + (R.co m - w.avg * R.qt m / w.hand) = 0
        have e2 : R.qt m = w.hand := by omega
        rw [e2, Int.mul_ediv_cancel _ (by omega)]
        omega
      · show w.i0 ≤ w.i0 + (tk w.q (R.qt m)).1; omega
      · show w.i1 ≤ w.i1 + w.avg * R.qt m / w.hand; omega
    · rw [if_neg k1]
      refine ⟨⟨?_, ?_, v3, v4, v5, v6, v7, ?_, ?_⟩, MO.rf _⟩
      · show w.rcv + (w.v0 + (R.co m - (tk w.q (R.qt m)).1)) = R.co m + qc (tk w.q (R.qt m)).2 + w.i0 + w.e0; omega
      · show w.rcv + (w.v1 + (R.co m - w.avg * R.qt m / w.hand)) = w.avg + (R.co m - w.avg * R.qt m / w.hand) + w.i1 + w.e1; omega
      · intro e
        have e' : w.hand = 0 := e
        omega
      · intro x hx
        rcases List.mem_cons.mp hx with rfl | hx
        · exact ⟨Int.le_refl _, Or.inr (by show R.kd m = 2; omega)⟩
        · exact hel x hx
theorem WV_lands {R : RW} (hR : RG R) {item t m : Int} {a : List Int} {w : WS} (hI : WI R item a t w) (hm0 : 0 ≤ m) (hm1 : m < R.n) (hk : R.kd m = 3) (h : WV R w) : ∀ k : Nat, k ≤ R.n → WV R (landsW R item m k w) ∧ MO w (landsW R item m k w)
  | 0, _ => ⟨h, MO.rf _⟩
  | k + 1, hkn => by
    have ih := WV_lands hR hI hm0 hm1 hk h k (by omega)
    have iw := WI_lands hR hI hm0 hm1 hk k (by omega)
    show WV R (wI _ _ _) ∧ MO w (wI _ _ _)
    by_cases q : hasB (R.sp m) k ∧ R.it k = item
    · rw [wI_t q]
      obtain ⟨hn, hr⟩ := hR
      have h1 := (hr m hm0 hm1).2 hk
      have h2 := h1.2.2 k (by omega) (by omega)
      have h3 := h2.2 q.1
      have h4 := (hr k (by omega) (by omega)).1
      have h5 := WV_land iw (r := k) h2.1 (h4.2.2.1 (by omega)).2 rfl ih.1
      exact ⟨h5.1, ih.2.tr h5.2⟩
    · rw [wI_f q]; exact ih
theorem WV_step {R : RW} (hR : RG R) (hR2 : RG2 R) {item t m : Int} {a : List Int} {w : WS} (hI : WI R item a t w) (hm0 : 0 ≤ m) (hm1 : m < R.n) (hv : tks R.kd R.it item m → R.qt m ≤ w.hand) (h : WV R w) : WV R (stepW R item w m) ∧ MO w (stepW R item w m) := by
  have hr := (hR.2 m hm0 hm1)
  unfold stepW
  by_cases k3 : R.kd m = 3
  · rw [if_pos k3]
    exact WV_lands hR hI hm0 hm1 k3 h R.n.toNat (by have := hR.1; omega)
  · rw [if_neg k3]
    by_cases hi : R.it m = item
    · rw [if_pos hi]
      have hk := hr.1.1
      exact WV_move hI (by omega) ⟨(hr.1.2.2.1 k3).2, hr.1.2.2.2.1.2⟩ hr.1.2.2.2.2.1 (fun k1 => hR2.1 m hm0 hm1 k1) (fun k0 => hv ⟨hi, by omega⟩) h
    · rw [if_neg hi]; exact ⟨h, MO.rf _⟩
theorem walk_v {R : RW} (hR : RG R) (hR2 : RG2 R) {item day : Int} (hit : 0 ≤ item) : ∀ (b a : List Int) (w : WS), LdR R = a ++ b → WI R item a (61 * a.length) w → vld (chg R.kd R.it R.qt item) R.qt (tks R.kd R.it item) w.hand b → WV R w → ∃ a', (∀ x ∈ a', x ∈ LdR R ∧ (x ∈ a ∨ R.dy x ≤ day)) ∧ WI R item a' 3660 (walkW R item day b w) ∧ WV R (walkW R item day b w) ∧ MO w (walkW R item day b w)
  | [], a, w, hab, hw, hv, h => ⟨a, fun x hx => ⟨by rw [hab]; exact List.mem_append_left _ hx, Or.inl hx⟩, WI_more hw (by have := led_len R.dy R.gn R.n.toNat; have h9 := hR.1; have : (LdR R).length ≤ R.n.toNat := this; rw [hab, List.append_nil] at this; omega), h, MO.rf _⟩
  | m :: t, a, w, hab, hw, hv, h => by
    have hlen : (LdR R).length ≤ R.n.toNat := led_len R.dy R.gn R.n.toNat
    rw [hab, List.length_append, List.length_cons] at hlen
    have h9 := hR.1
    have hm := (led_mem R.dy R.gn R.n.toNat).mp (show m ∈ LdR R by rw [hab]; simp)
    have hnd : (LdR R).Nodup := led_nd R.dy R.gn R.n.toNat
    rw [hab, List.nodup_append] at hnd
    have hma : m ∉ a := fun q => hnd.2.2 m q m List.mem_cons_self rfl
    show ∃ a', (∀ x ∈ a', x ∈ LdR R ∧ (x ∈ a ∨ R.dy x ≤ day)) ∧ WI R item a' 3660 (if R.dy m ≤ day then walkW R item day t (stepW R item w m) else w) ∧ WV R (if R.dy m ≤ day then walkW R item day t (stepW R item w m) else w) ∧ MO w (if R.dy m ≤ day then walkW R item day t (stepW R item w m) else w)
    by_cases hd : R.dy m ≤ day
    · rw [if_pos hd]
      have h1 := WI_step hR hw (by omega) hit hm.1.1 (by omega) hma hv.1
      have h2 := WV_step hR hR2 hw hm.1.1 (by omega) hv.1 h
      have hh : (stepW R item w m).hand = w.hand + chg R.kd R.it R.qt item m := by
        rw [h1.2.2.2.2.2.1, hs_one, ← hw.2.2.2.2.2.1]
      obtain ⟨a', e1, e2, e3, e4⟩ := walk_v (day := day) hR hR2 hit t (a ++ [m]) _ (by rw [hab]; simp) (WI_more h1 (by rw [List.length_append, List.length_singleton]; omega)) (by rw [hh]; exact hv.2) h2.1
      refine ⟨a', fun x hx => ⟨(e1 x hx).1, ?_⟩, e2, e3, h2.2.tr e4⟩
      rcases (e1 x hx).2 with q | q
      · rcases List.mem_append.mp q with q | q
        · exact Or.inl q
        · rw [List.mem_singleton.mp q]; exact Or.inr hd
      · exact Or.inr q
    · rw [if_neg hd]
      exact ⟨a, fun x hx => ⟨by rw [hab]; exact List.mem_append_left _ hx, Or.inl hx⟩, WI_more hw (by omega), h, MO.rf _⟩
theorem WV_00 (R : RW) (ic : Int → Int) : WV R (w00 ic) := ⟨rfl, rfl, Int.le_refl _, Int.le_refl _, Int.le_refl _, Int.le_refl _, Int.le_refl _, fun _ => rfl, fun x hx => by cases hx⟩
/-- an item at the end of a day -/
theorem wk_sound {R : RW} (hR : RG R) (hR2 : RG2 R) {item day : Int} (hit : 0 ≤ item) (hv : RV R item) : ∃ a', (∀ x ∈ a', x ∈ LdR R ∧ R.dy x ≤ day) ∧ WI R item a' 3660 (wk R item day) ∧ WV R (wk R item day) := by
  obtain ⟨a', h1, h2, h3, _⟩ := walk_v (day := day) hR hR2 hit (LdR R) [] (w00 (fun _ => 0)) rfl (WI_00 R item _) hv (WV_00 R _)
  refine ⟨a', fun x hx => ⟨(h1 x hx).1, ?_⟩, h2, h3⟩
  rcases (h1 x hx).2 with q | q
  · cases q
  · exact q
/-- .. and the day ahead of it -/
theorem walk_stop (R : RW) (item day : Int) : ∀ (b : List Int) (w : WS), (∀ x ∈ b, day < R.dy x) → walkW R item day b w = w
  | [], _, _ => rfl
  | x :: t, w, h => by
    show (if R.dy x ≤ day then walkW R item day t (stepW R item w x) else w) = w
    rw [if_neg (by have := h x List.mem_cons_self; omega)]
theorem wk_mono {R : RW} (hR : RG R) (hR2 : RG2 R) {item d d' : Int} (hit : 0 ≤ item) (hv : RV R item) (hd : d ≤ d') : MO (wk R item d) (wk R item d') := by
  obtain ⟨a, b, hab, ha, hb⟩ := srt_split d (LdR R) (led_srt _ _ _)
  have e1 : wk R item d = walkW R item d a (w00 (fun _ => 0)) := by
    unfold wk WKr
    rw [hab, walk_app R item d b a _ ha, walk_stop R item d b _ hb]
  have e2 : wk R item d' = walkW R item d' b (walkW R item d a (w00 (fun _ => 0))) := by
    unfold wk WKr
    rw [hab, walk_app R item d' b a _ (fun x hx => by have := ha x hx; omega), walk_day R item d' d a _ (fun x hx => ⟨by have := ha x hx; omega, ha x hx⟩)]
  rw [RV_ab hab] at hv
  obtain ⟨ww, hww⟩ : ∃ ww, ww = walkW R item d a (w00 (fun _ => 0)) := ⟨_, rfl⟩
  have key : ∀ (c p : List Int) (w : WS), a = p ++ c → WI R item p (61 * p.length) w → vld (chg R.kd R.it R.qt item) R.qt (tks R.kd R.it item) w.hand c → WV R w → WI R item a (61 * a.length) (walkW R item d c w) ∧ WV R (walkW R item d c w) := by
    intro c
    induction c with
    | nil => intro p w hp hw _ h; rw [List.append_nil] at hp; subst hp; exact ⟨hw, h⟩
    | cons m t ih =>
      intro p w hp hw hvv h
      have hlen : (LdR R).length ≤ R.n.toNat := led_len R.dy R.gn R.n.toNat
      rw [hab, hp, List.length_append, List.length_append, List.length_cons] at hlen
      have h9 := hR.1
      have hma' : m ∈ a := by rw [hp]; simp
      have hm := (led_mem R.dy R.gn R.n.toNat).mp (show m ∈ LdR R by rw [hab]; exact List.mem_append_left _ hma')
      have hnd : (LdR R).Nodup := led_nd R.dy R.gn R.n.toNat
      rw [hab, hp, List.append_assoc, List.nodup_append] at hnd
      have hmp : m ∉ p := fun q => hnd.2.2 m q m (by simp) rfl
      have h1 := WI_step hR hw (by omega) hit hm.1.1 (by omega) hmp hvv.1
      have h2 := WV_step hR hR2 hw hm.1.1 (by omega) hvv.1 h
      have hh : (stepW R item w m).hand = w.hand + chg R.kd R.it R.qt item m := by
        rw [h1.2.2.2.2.2.1, hs_one, ← hw.2.2.2.2.2.1]
      show WI R item a (61 * a.length) (if R.dy m ≤ d then walkW R item d t (stepW R item w m) else w) ∧ WV R (if R.dy m ≤ d then walkW R item d t (stepW R item w m) else w)
      rw [if_pos (ha m hma')]
      exact ih (p ++ [m]) _ (by rw [hp]; simp) (WI_more h1 (by rw [List.length_append, List.length_singleton]; omega)) (by rw [hh]; exact hvv.2) h2.1
  have h3 := key a [] (w00 (fun _ => 0)) rfl (WI_00 R item _) hv.1 (WV_00 R _)
  have h4 := walk_v (day := d') hR hR2 hit b a _ hab h3.1 (by rw [h3.1.2.2.2.2.2.1]; exact hv.2) h3.2
  obtain ⟨_, _, _, _, h5⟩ := h4
  rw [e1, e2]
  exact h5
/-- the layers -/
theorem qat_mem {q : QL3} {k : Int} (h0 : 0 ≤ k) (h1 : k < (q.length : Int)) : qat q k ∈ q := by
  have hk : k.toNat < q.length := by omega
  unfold qat
  rw [List.getElem?_eq_getElem hk]
  exact List.getElem_mem hk
theorem qat_ne {q : QL3} (hn : (q.map fun x => x.2.2).Nodup) {j k : Int} (h0 : 0 ≤ j) (h1 : j < k) (h2 : k < (q.length : Int)) : (qat q j).2.2 ≠ (qat q k).2.2 := by
  intro e
  have hj : j.toNat < q.length := by omega
  have hk : k.toNat < q.length := by omega
  unfold qat at e
  rw [List.getElem?_eq_getElem hj, List.getElem?_eq_getElem hk] at e
  have e' : q[j.toNat].2.2 = q[k.toNat].2.2 := e
  have hp := List.pairwise_iff_getElem.mp hn j.toNat k.toNat (by rw [List.length_map]; exact hj) (by rw [List.length_map]; exact hk) (by omega)
  rw [List.getElem_map, List.getElem_map] at hp
  exact hp e'
/-- sums over the first layers -/
def qcK (q : QL3) (k : Int) : Int := sumI (fun j => (qat q j).2.1) k
def quK (q : QL3) (k : Int) : Int := sumI (fun j => (qat q j).1) k
theorem sumN_c {f g : Int → Int} : ∀ n : Nat, (∀ j : Int, 0 ≤ j → j < n → f j = g j) → sumN f n = sumN g n
  | 0, _ => rfl
  | n + 1, h => by
    show sumN f n + f n = sumN g n + g n
    rw [sumN_c n (fun j h0 h1 => h j h0 (by omega)), h n (by omega) (by omega)]
theorem sumN_s1 {f : Int → Int} : ∀ n : Nat, sumN f (n + 1) = f 0 + sumN (fun j => f (j + 1)) n
  | 0 => by show (0 : Int) + f 0 = f 0 + 0; omega
  | n + 1 => by
    show sumN f (n + 1) + f (n + 1 : Nat) = f 0 + (sumN (fun j => f (j + 1)) n + f ((n : Int) + 1))
    rw [sumN_s1 n, show ((n + 1 : Nat) : Int) = (n : Int) + 1 by omega]
    omega
theorem qat_s (x : Int × Int × Int) (t : QL3) {j : Int} (h : 0 ≤ j) : qat (x :: t) (j + 1) = qat t j := by
  unfold qat
  rw [toN_s h]
  rfl
theorem qcN : ∀ q : QL3, sumN (fun j => (qat q j).2.1) q.length = qc q ∧ sumN (fun j => (qat q j).1) q.length = qu q
  | [] => ⟨rfl, rfl⟩
  | x :: t => by
    obtain ⟨h1, h2⟩ := qcN t
    rw [List.length_cons, sumN_s1, sumN_s1]
    rw [sumN_c (f := fun j => (qat (x :: t) (j + 1)).2.1) (g := fun j => (qat t j).2.1) t.length (fun j j0 _ => by show (qat (x :: t) (j + 1)).2.1 = _; rw [qat_s x t j0]), sumN_c (f := fun j => (qat (x :: t) (j + 1)).1) (g := fun j => (qat t j).1) t.length (fun j j0 _ => by show (qat (x :: t) (j + 1)).1 = _; rw [qat_s x t j0]), h1, h2]
    exact ⟨rfl, rfl⟩
theorem qcK_all (q : QL3) : qcK q q.length = qc q ∧ quK q q.length = qu q := by
  unfold qcK quK sumI
  rw [Int.toNat_natCast]
  exact qcN q
theorem qK_s (q : QL3) {k : Int} (h : 0 ≤ k) : qcK q (k + 1) = qcK q k + (qat q k).2.1 ∧ quK q (k + 1) = quK q k + (qat q k).1 := ⟨sumI_s _ h, sumI_s _ h⟩
theorem qK_0 (q : QL3) : qcK q 0 = 0 ∧ quK q 0 = 0 := ⟨rfl, rfl⟩
/-- all that the law asks of an item at the end of a day -/
theorem sound_all {R : RW} (hR : RG R) (hR2 : RG2 R) {item day : Int} (hit : 0 ≤ item) (hv : RV R item) :
    (∀ k, 0 ≤ k → k < ((wk R item day).q.length : Int) → (1 ≤ (qat (wk R item day).q k).1 ∧ (qat (wk R item day).q k).1 ≤ 1000) ∧ 0 ≤ (qat (wk R item day).q k).2.1 ∧ (0 ≤ (qat (wk R item day).q k).2.2 ∧ (qat (wk R item day).q k).2.2 < R.n) ∧ R.gn (qat (wk R item day).q k).2.2 = 0 ∧ R.dy (qat (wk R item day).q k).2.2 ≤ day ∧ (R.kd (qat (wk R item day).q k).2.2 = 0 ∨ R.kd (qat (wk R item day).q k).2.2 = 2)) ∧
    ((wk R item day).q.length ≤ 60 ∧ (0 ≤ qc (wk R item day).q ∧ qc (wk R item day).q ≤ 1000000000000000) ∧ haR R item day = qu (wk R item day).q ∧ (0 ≤ haR R item day ∧ haR R item day ≤ 4000000)) ∧
    (0 ≤ (wk R item day).avg ∧ (haR R item day = 0 → (wk R item day).avg = 0 ∧ qc (wk R item day).q = 0)) ∧ WV R (wk R item day) ∧ WB (wk R item day) 3660 ∧ ((wk R item day).q.map fun x => x.2.2).Nodup := by
  obtain ⟨a', h1, ⟨w1, w2, w3, w4, w5, w6, w7⟩, h3⟩ := wk_sound (day := day) hR hR2 hit hv
  have hh : (wk R item day).hand = haR R item day := wk_hand R item day _
  have hwb := w7
  obtain ⟨⟨b1, b2⟩, b3, b4, _⟩ := w7
  have hq0 := qc_nn w1
  refine ⟨fun k k0 k1 => ?_, ⟨?_, ⟨hq0, by omega⟩, by rw [← hh, w5], by omega⟩, ⟨b3.1, fun e => ⟨h3.2.2.2.2.2.2.2.1 (by omega), ?_⟩⟩, h3, hwb, w2⟩
  · have hm := qat_mem (q := (wk R item day).q) k0 k1
    have h5 := w1 _ hm
    have h6 := h1 _ (w3 _ hm)
    have h7 := (led_mem R.dy R.gn R.n.toNat).mp h6.1
    have hn := hR.1
    exact ⟨h5.1, h5.2, ⟨h7.1.1, by omega⟩, h7.2, h6.2, (h3.2.2.2.2.2.2.2.2 _ hm).2⟩
  · exact WKr_len hR hit hv _
  · have hqu : qu (wk R item day).q = 0 := by omega
    cases hq : (wk R item day).q with
    | nil => rfl
    | cons x t =>
      rw [hq] at hqu w1
      have h8 := (w1 x List.mem_cons_self).1
      have h9 := qu_nn (q := t) (fun y hy => w1 y (List.mem_cons_of_mem _ hy))
      have : qu (x :: t) = x.1 + qu t := rfl
      omega
/-- what is available -/
theorem av_ok {R : RW} (hR : RG R) {item day : Int} (hv : RV R item) : 0 ≤ mn 1000 (spR R item day 60) ∧ mn 1000 (spR R item day 60) ≤ 1000 ∧ mn 1000 (spR R item day 60) ≤ haR R item day := by
  obtain ⟨a, b, hab, ha, hb⟩ := srt_split day (LdR R) (led_srt _ _ _)
  have hm : ∀ x ∈ LdR R, x < 60 := fun x hx => by have := ((led_mem R.dy R.gn R.n.toNat).mp hx).1; have := hR.1; omega
  have hmm : ∀ x ∈ LdR R, 0 ≤ x ∧ x < R.n := fun x hx => by have := ((led_mem R.dy R.gn R.n.toNat).mp hx).1; have := hR.1; omega
  rw [RV_ab hab] at hv
  have hnn := vld_nn a 0 (Int.le_refl _) (fun x hx => by
    have := hmm x (by rw [hab]; exact List.mem_append_left _ hx)
    exact (hR.2 x this.1 this.2).1.2.2.2.1.1) hv.1
  have e : ∀ q9 : Int, q9 ≤ spR R item day 60 ↔ q9 ≤ hs (chg R.kd R.it R.qt item) a ∧ vld (chg R.kd R.it R.qt item) R.qt (tks R.kd R.it item) (hs (chg R.kd R.it R.qt item) a - q9) b := fun q9 => by
    unfold spR
    rw [hab, spf_a a b 0 (fun x hx => by have := ha x hx; have := hm x (by rw [hab]; exact List.mem_append_left _ hx); omega), spf_le b _ _ (fun x hx => Or.inl (hb x hx)), Int.zero_add]
  have h0 : 0 ≤ spR R item day 60 := (e 0).mpr ⟨by omega, by rw [Int.sub_zero]; exact hv.2⟩
  have h1 := ((e (spR R item day 60)).mp (Int.le_refl _)).1
  have h2 : haR R item day = hs (chg R.kd R.it R.qt item) a := by unfold haR; rw [hab, hAt_ab ha hb]
  unfold mn
  split <;> omega
