/-! one movement more: what other items and earlier days show is as it was -/
/-- an answer on an item at the end of a day, by its number -/
noncomputable def akv (R : RW) (i d w : Int) : Int := if w = 0 then haR R i d else if w = 1 then mn 1000 (spR R i d 60) else if w = 2 then (wk R i d).rcv else if w = 3 then ((wk R i d).q.length : Int) else if w = 4 then qc (wk R i d).q else if w = 5 then (wk R i d).avg else if w = 6 then (wk R i d).i0 else if w = 7 then (wk R i d).i1 else if w = 8 then (wk R i d).v0 else if w = 9 then (wk R i d).v1 else if w = 10 then (wk R i d).e0 else (wk R i d).e1
theorem akv_c {R R' : RW} {i d w : Int} (h1 : haR R' i d = haR R i d) (h2 : w = 1 → spR R' i d 60 = spR R i d 60) (h3 : wk R' i d = wk R i d) : akv R' i d w = akv R i d w := by
  unfold akv
  rw [h1, h3]
  by_cases w1 : w = 1
  · rw [h2 w1]
  · by_cases w0 : w = 0
    · rw [if_pos w0, if_pos w0]
    · rw [if_neg w0, if_neg w0, if_neg w1, if_neg w1]
/-- rows alike below n -/
def RB (R R' : RW) : Prop := R'.n = R.n + 1 ∧ ∀ m, 0 ≤ m → m < R.n → (R'.kd m = R.kd m ∧ R'.dy m = R.dy m ∧ R'.it m = R.it m ∧ R'.qt m = R.qt m ∧ R'.co m = R.co m ∧ R'.gn m = R.gn m) ∧ R'.sp m = R.sp m ∧ ∀ r, 0 ≤ r → r < 60 → R'.pt (60 * m + r) = R.pt (60 * m + r)
theorem rwP_rb {R : RW} {kd d it q co sp : Int} {pt : Int → Int} (hpt : ∀ m, 0 ≤ m → m < R.n → ∀ r, 0 ≤ r → r < 60 → pt (60 * m + r) = R.pt (60 * m + r)) : RB R (rwP R kd d it q co sp pt) := by
  refine ⟨rfl, fun m m0 m1 => ?_⟩
  have e : m ≠ R.n := by omega
  exact ⟨⟨fu_ne _ _ e, fu_ne _ _ e, fu_ne _ _ e, fu_ne _ _ e, fu_ne _ _ e, fu_ne _ _ e⟩, fu_ne _ _ e, fun r r0 r1 => hpt m m0 m1 r r0 r1⟩
theorem lands_c {R R' : RW} (hB : RB R R') (hn : R.n ≤ 60) {item m : Int} (m0 : 0 ≤ m) (m1 : m < R.n) (w : WS) : ∀ k : Nat, (k : Int) ≤ R.n → landsW R' item m k w = landsW R item m k w
  | 0, _ => rfl
  | k + 1, h => by
    have ih := lands_c hB hn (item := item) m0 m1 w k (by omega)
    obtain ⟨_, h2, h3⟩ := hB.2 m m0 m1
    obtain ⟨⟨_, _, k3, k4, _, _⟩, _⟩ := hB.2 k (by omega) (by omega)
    show wI (hasB (R'.sp m) k ∧ R'.it k = item) (landW (landsW R' item m k w) k (R'.pt (60 * m + k)) (R'.qt k)) (landsW R' item m k w) = wI (hasB (R.sp m) k ∧ R.it k = item) (landW (landsW R item m k w) k (R.pt (60 * m + k)) (R.qt k)) (landsW R item m k w)
    rw [h2, k3, k4, h3 k (by omega) (by omega), ih]
theorem step_c {R R' : RW} (hR : RG R) (hR2 : RG2 R) (hB : RB R R') (hn9 : R.n < 60) {item m : Int} (m0 : 0 ≤ m) (m1 : m < R.n) (w : WS) : stepW R' item w m = stepW R item w m := by
  have hn := hR.1
  obtain ⟨⟨h1, h2, h3, h4, h5, h6⟩, h7, h8⟩ := hB.2 m m0 m1
  have em : ∀ w, moveW R' w m = moveW R w m := fun w => by
    unfold moveW
    rw [h1, h4, h5]
  unfold stepW
  rw [h1, h3, em]
  by_cases k3 : R.kd m = 3
  · rw [if_pos k3, if_pos k3, hB.1, toN_s hn.1]
    show wI (hasB (R'.sp m) (R.n.toNat : Int) ∧ R'.it (R.n.toNat : Int) = item) (landW (landsW R' item m R.n.toNat w) (R.n.toNat : Int) (R'.pt (60 * m + (R.n.toNat : Int))) (R'.qt (R.n.toNat : Int))) (landsW R' item m R.n.toNat w) = _
    rw [wI_f (fun q => hR2.2.1 m m0 m1 k3 (R.n.toNat : Int) (by omega) (by omega) (h7 ▸ q.1)), lands_c hB hn.2 m0 m1 w R.n.toNat (by omega)]
  · rw [if_neg k3, if_neg k3]
theorem walk_c {R R' : RW} (hR : RG R) (hR2 : RG2 R) (hB : RB R R') (hn9 : R.n < 60) {item day : Int} : ∀ (l : List Int) (w : WS), (∀ x ∈ l, 0 ≤ x ∧ x < R.n) → walkW R' item day l w = walkW R item day l w
  | [], _, _ => rfl
  | m :: t, w, h => by
    have hm := h m List.mem_cons_self
    show (if R'.dy m ≤ day then walkW R' item day t (stepW R' item w m) else w) = (if R.dy m ≤ day then walkW R item day t (stepW R item w m) else w)
    rw [(hB.2 m hm.1 hm.2).1.2.1, step_c hR hR2 hB hn9 hm.1 hm.2, walk_c hR hR2 hB hn9 t _ (fun x hx => h x (List.mem_cons_of_mem _ hx))]
theorem walk_skip {R : RW} {item day m : Int} {b : List Int} (hb : ∀ y ∈ b, R.dy m < R.dy y) (hs : R.dy m ≤ day → ∀ w, stepW R item w m = w) : ∀ (a : List Int) (w : WS), walkW R item day (a ++ m :: b) w = walkW R item day (a ++ b) w
  | [], w => by
    show (if R.dy m ≤ day then walkW R item day b (stepW R item w m) else w) = walkW R item day b w
    by_cases h : R.dy m ≤ day
    · rw [if_pos h, hs h]
    · rw [if_neg h, walk_stop R item day b w (fun y hy => by have := hb y hy; omega)]
  | x :: t, w => by
    show (if R.dy x ≤ day then walkW R item day (t ++ m :: b) (stepW R item w x) else w) = (if R.dy x ≤ day then walkW R item day (t ++ b) (stepW R item w x) else w)
    rw [walk_skip hb hs t]
theorem hAt_skip {dy f : Int → Int} {day m : Int} {b : List Int} (hb : ∀ y ∈ b, dy m < dy y) (hs : dy m ≤ day → f m = 0) : ∀ (a : List Int) (u : Int), hAt dy f day (a ++ m :: b) u = hAt dy f day (a ++ b) u
  | [], u => by
    show (if dy m ≤ day then hAt dy f day b (u + f m) else u) = hAt dy f day b u
    by_cases h : dy m ≤ day
    · rw [if_pos h, hs h, Int.add_zero]
    · rw [if_neg h, hAt_b b u (fun y hy => by have := hb y hy; omega)]
  | x :: t, u => by
    show (if dy x ≤ day then hAt dy f day (t ++ m :: b) (u + f x) else u) = (if dy x ≤ day then hAt dy f day (t ++ b) (u + f x) else u)
    rw [hAt_skip hb hs t]
theorem hAt_add {dy f : Int → Int} {day c : Int} : ∀ (b : List Int) (u : Int), hAt dy f day b (u + c) = hAt dy f day b u + c
  | [], _ => rfl
  | x :: t, u => by
    show (if dy x ≤ day then hAt dy f day t (u + c + f x) else u + c) = (if dy x ≤ day then hAt dy f day t (u + f x) else u) + c
    by_cases h : dy x ≤ day
    · rw [if_pos h, if_pos h, show u + c + f x = u + f x + c by omega]; exact hAt_add t _
    · rw [if_neg h, if_neg h]
theorem spf_skip {dy nm it dl q : Int → Int} {nd : Int → Prop} {item d n m : Int} {b : List Int} (hi : ¬ it m = item) : ∀ (a : List Int) (u s : Int), spf dy nm it dl q nd item d n (a ++ m :: b) u s = spf dy nm it dl q nd item d n (a ++ b) u s
  | [], u, s => by
    show cI (it m = item) _ (spf dy nm it dl q nd item d n b u s) = _
    rw [cI_f hi]; rfl
  | x :: t, u, s => by
    show cI (it x = item) (spf dy nm it dl q nd item d n (t ++ m :: b) (u + dl x) (cI (d < dy x ∨ (d = dy x ∧ n < nm x)) (cI (nd x) (mn (u - q x) s) s) (u + dl x))) (spf dy nm it dl q nd item d n (t ++ m :: b) u s) = cI (it x = item) (spf dy nm it dl q nd item d n (t ++ b) (u + dl x) (cI (d < dy x ∨ (d = dy x ∧ n < nm x)) (cI (nd x) (mn (u - q x) s) s) (u + dl x))) (spf dy nm it dl q nd item d n (t ++ b) u s)
    rw [spf_skip hi t, spf_skip hi t]
/-- the order with one more -/
theorem led_P {R : RW} (hR : RG R) {kd d it q co sp : Int} {pt : Int → Int} : ∃ a b, LdR R = a ++ b ∧ LdR (rwP R kd d it q co sp pt) = a ++ R.n :: b ∧ (∀ x ∈ a, R.dy x ≤ d) ∧ (∀ x ∈ b, d < R.dy x) ∧ (∀ x ∈ a ++ b, 0 ≤ x ∧ x < R.n) := by
  have hn := hR.1
  obtain ⟨a, b, hab, ha, hb⟩ := srt_split d (LdR R) (led_srt _ _ _)
  have hl : ∀ x ∈ a ++ b, 0 ≤ x ∧ x < R.n := fun x hx => by
    rw [← hab] at hx
    have h9 := (led_mem R.dy R.gn R.n.toNat).mp hx
    exact ⟨h9.1.1, by omega⟩
  refine ⟨a, b, hab, ?_, ha, hb, hl⟩
  rw [LdR_P hn.1, hab]
  refine ins_split a b (fun x hx => ?_) (fun x hx => ?_)
  · rw [fu_ne _ _ (by have := hl x (List.mem_append_left _ hx); omega), fu_self]; exact ha x hx
  · rw [fu_self, fu_ne _ _ (by have := hl x (List.mem_append_right _ hx); omega)]; exact hb x hx
theorem ak_same {R : RW} (hR : RG R) (hR2 : RG2 R) (hn9 : R.n < 60) {kd d it q co sp : Int} {pt : Int → Int} (hk : ¬ kd = 3) (hpt : ∀ m, 0 ≤ m → m < R.n → ∀ r, 0 ≤ r → r < 60 → pt (60 * m + r) = R.pt (60 * m + r)) {i dd w : Int} (h : ¬ it = i ∨ (dd < d ∧ ¬ w = 1)) : akv (rwP R kd d it q co sp pt) i dd w = akv R i dd w := by
  obtain ⟨a, b, hab, hP, ha, hb, hl⟩ := led_P hR (kd := kd) (d := d) (it := it) (q := q) (co := co) (sp := sp) (pt := pt)
  have hB := rwP_rb (R := R) (kd := kd) (d := d) (it := it) (q := q) (co := co) (sp := sp) (pt := pt) hpt
  obtain ⟨R', hR'⟩ : ∃ R', R' = rwP R kd d it q co sp pt := ⟨_, rfl⟩
  have ekd : R'.kd R.n = kd := by rw [hR']; exact fu_self _ _ _
  have edy : R'.dy R.n = d := by rw [hR']; exact fu_self _ _ _
  have eit : R'.it R.n = it := by rw [hR']; exact fu_self _ _ _
  rw [← hR'] at hP hB ⊢
  have hb' : ∀ y ∈ b, R'.dy R.n < R'.dy y := fun y hy => by
    have hy' := hl y (List.mem_append_right _ hy)
    rw [edy, (hB.2 y hy'.1 hy'.2).1.2.1]; exact hb y hy
  have hchg : ∀ x ∈ a ++ b, R'.dy x = R.dy x ∧ chg R'.kd R'.it R'.qt i x = chg R.kd R.it R.qt i x := fun x hx => by
    have hx' := hl x hx
    obtain ⟨⟨h1, h2, h3, h4, _, _⟩, _⟩ := hB.2 x hx'.1 hx'.2
    exact ⟨h2, by unfold chg dlt; rw [h1, h3, h4]⟩
  refine akv_c ?_ (fun w1 => ?_) ?_
  · unfold haR
    rw [hP, hab, hAt_skip hb' (fun hd => ?_), hAt_c _ _ hchg]
    rcases h with h | h
    · unfold chg; rw [eit, if_neg h]
    · rw [edy] at hd; omega
  · have hi : ¬ it = i := by
      rcases h with h | h
      · exact h
      · exact absurd w1 h.2
    unfold spR
    rw [hP, hab, spf_skip (by rw [eit]; exact hi)]
    refine spf_c _ _ _ (fun x hx => ?_)
    have hx' := hl x hx
    obtain ⟨⟨h1, h2, h3, h4, _, _⟩, _⟩ := hB.2 x hx'.1 hx'.2
    exact ⟨h2, rfl, h3, by unfold dlt; rw [h1, h4], h4, by rw [h1]⟩
  · unfold wk WKr
    rw [hP, hab, walk_skip hb' (fun hd w => ?_), walk_c hR hR2 hB hn9 _ _ hl]
    rcases h with h | h
    · unfold stepW; rw [ekd, if_neg hk, eit, if_neg h]
    · rw [edy] at hd; omega
theorem ha_more {R : RW} (hR : RG R) {kd d it q co sp : Int} {pt : Int → Int} {dd : Int} (hd : d ≤ dd) : haR (rwP R kd d it q co sp pt) it dd = haR R it dd + (if kd = 0 then q else if kd = 1 then -q else 0) := by
  obtain ⟨a, b, hab, hP, ha, hb, hl⟩ := led_P hR (kd := kd) (d := d) (it := it) (q := q) (co := co) (sp := sp) (pt := pt)
  have hne : ∀ x ∈ a ++ b, x ≠ R.n := fun x hx => by have := hl x hx; omega
  have hchg : ∀ x ∈ a ++ b, fu R.dy R.n d x = R.dy x ∧ chg (fu R.kd R.n kd) (fu R.it R.n it) (fu R.qt R.n q) it x = chg R.kd R.it R.qt it x := fun x hx => by
    have e := hne x hx
    exact ⟨fu_ne _ _ e, by unfold chg dlt; rw [fu_ne _ _ e, fu_ne _ _ e, fu_ne _ _ e]⟩
  have en : chg (fu R.kd R.n kd) (fu R.it R.n it) (fu R.qt R.n q) it R.n = (if kd = 0 then q else if kd = 1 then -q else 0) := by
    unfold chg dlt
    rw [fu_self, fu_self, fu_self, if_pos rfl]
  unfold haR
  rw [hP, hab]
  show hAt (fu R.dy R.n d) (chg (fu R.kd R.n kd) (fu R.it R.n it) (fu R.qt R.n q) it) dd (a ++ R.n :: b) 0 = hAt R.dy (chg R.kd R.it R.qt it) dd (a ++ b) 0 + _
  rw [hAt_a a _ 0 (fun x hx => by rw [(hchg x (List.mem_append_left _ hx)).1]; have := ha x hx; omega), hAt_a a b 0 (fun x hx => by have := ha x hx; omega)]
  show (if fu R.dy R.n d R.n ≤ dd then hAt (fu R.dy R.n d) (chg (fu R.kd R.n kd) (fu R.it R.n it) (fu R.qt R.n q) it) dd b (0 + hs (chg (fu R.kd R.n kd) (fu R.it R.n it) (fu R.qt R.n q) it) a + chg (fu R.kd R.n kd) (fu R.it R.n it) (fu R.qt R.n q) it R.n) else _) = _
  rw [fu_self, if_pos hd, en, hAt_add, hs_c2 a (fun x hx => (hchg x (List.mem_append_left _ hx)).2), hAt_c b _ (fun x hx => hchg x (List.mem_append_right _ hx))]
/-! the rows that are added or taken away -/
theorem rg_P {R : RW} (hR : RG R) (hR2 : RG2 R) (hn9 : R.n < 60) {kd d it q co sp : Int} {pt : Int → Int} (hpt : ∀ m, 0 ≤ m → m < R.n → ∀ r, 0 ≤ r → r < 60 → pt (60 * m + r) = R.pt (60 * m + r))
    (new : (0 ≤ kd ∧ kd ≤ 3) ∧ (0 ≤ d ∧ d ≤ 364) ∧ (¬ kd = 3 → (0 ≤ it ∧ it ≤ 5) ∧ 1 ≤ q) ∧ (0 ≤ q ∧ q ≤ 1000) ∧ (0 ≤ co ∧ co ≤ 1000000)) (n1 : kd = 1 → co = 0)
    (n3 : kd = 3 → it = -1 ∧ q = 0 ∧ ∀ r, 0 ≤ r → r < 60 → (0 ≤ pt (60 * R.n + r) ∧ pt (60 * R.n + r) ≤ 2000000) ∧ (hasB sp r → r < R.n ∧ R.kd r = 0 ∧ R.gn r = 0 ∧ R.dy r ≤ d)) : RG (rwP R kd d it q co sp pt) ∧ RG2 (rwP R kd d it q co sp pt) := by
  have hB := rwP_rb (R := R) (kd := kd) (d := d) (it := it) (q := q) (co := co) (sp := sp) (pt := pt) hpt
  have hn := hR.1
  obtain ⟨R', hR'⟩ : ∃ R', R' = rwP R kd d it q co sp pt := ⟨_, rfl⟩
  have ekd : R'.kd R.n = kd := by rw [hR']; exact fu_self _ _ _
  have edy : R'.dy R.n = d := by rw [hR']; exact fu_self _ _ _
  have eit : R'.it R.n = it := by rw [hR']; exact fu_self _ _ _
  have eqt : R'.qt R.n = q := by rw [hR']; exact fu_self _ _ _
  have eco : R'.co R.n = co := by rw [hR']; exact fu_self _ _ _
  have esp : R'.sp R.n = sp := by rw [hR']; exact fu_self _ _ _
  have ept : R'.pt = pt := by rw [hR']; rfl
  rw [← hR'] at hB ⊢
  have hn' := hB.1
  have cs : ∀ m, 0 ≤ m → m < R'.n → m < R.n ∨ m = R.n := fun m m0 m1 => by omega
  obtain ⟨g1, g2, g3⟩ := hR2
  refine ⟨⟨by omega, fun m m0 m1 => ?_⟩, fun m m0 m1 k => ?_, fun m m0 m1 k r r0 r1 => ?_, fun m m0 m1 k hg r r0 r1 hb => ?_⟩
  · rcases cs m m0 m1 with c | rfl
    · obtain ⟨⟨a1, a2, a3, a4, a5, a6⟩, b1, b2⟩ := hB.2 m m0 c
      obtain ⟨h1, h2⟩ := hR.2 m m0 c
      rw [a1, a2, a3, a4, a5, b1]
      refine ⟨h1, fun k => ⟨(h2 k).1, (h2 k).2.1, fun r r0 r1 => ?_⟩⟩
      have h3 := (h2 k).2.2 r r0 r1
      rw [b2 r r0 r1]
      refine ⟨h3.1, fun hb => ?_⟩
      have h4 := h3.2 hb
      exact ⟨h4.1, by rw [(hB.2 r r0 (by omega)).1.1]; exact h4.2⟩
    · rw [ekd, edy, eit, eqt, eco, esp, ept]
      refine ⟨new, fun k => ⟨(n3 k).1, (n3 k).2.1, fun r r0 r1 => ⟨((n3 k).2.2 r r0 r1).1, fun hb => ?_⟩⟩⟩
      have h4 := ((n3 k).2.2 r r0 r1).2 hb
      exact ⟨h4.1, by rw [(hB.2 r r0 h4.1).1.1]; exact h4.2.1⟩
  · rcases cs m m0 m1 with c | rfl
    · have e := hB.2 m m0 c
      rw [e.1.2.2.2.2.1]; exact g1 m m0 c (by rw [← e.1.1]; exact k)
    · rw [eco]; exact n1 (by rw [← ekd]; exact k)
  · rcases cs m m0 m1 with c | rfl
    · have e := hB.2 m m0 c
      rw [e.2.1]; exact g2 m m0 c (by rw [← e.1.1]; exact k) r (by omega) r1
    · rw [esp]
      intro hb
      have := (((n3 (by rw [← ekd]; exact k)).2.2 r (by omega) r1).2 hb).1
      omega
  · rcases cs m m0 m1 with c | rfl
    · have e := hB.2 m m0 c
      rw [e.2.1] at hb
      have hk := e.1.1.symm.trans k
      have h4 := ((hR.2 m m0 c).2 hk).2.2 r r0 r1
      have h5 := (h4.2 hb).1
      have e2 := hB.2 r r0 (by omega)
      rw [e2.1.2.2.2.2.2, e2.1.2.1, e.1.2.1]
      exact g3 m m0 c hk (e.1.2.2.2.2.2.symm.trans hg) r r0 r1 hb
    · rw [esp] at hb
      have h4 := ((n3 (by rw [← ekd]; exact k)).2.2 r r0 r1).2 hb
      have e2 := hB.2 r r0 h4.1
      rw [e2.1.2.2.2.2.2, e2.1.2.1, edy]
      exact ⟨h4.2.2.1, h4.2.2.2⟩
theorem rx_P {R : RW} (hR : RG R) (hX : RX R) {kd d it q co sp : Int} {pt : Int → Int} (hpt : ∀ m, 0 ≤ m → m < R.n → ∀ r, 0 ≤ r → r < 60 → pt (60 * m + r) = R.pt (60 * m + r))
    (new : kd = 3 → (∀ r, 0 ≤ r → r < 60 → (¬ hasB sp r → pt (60 * R.n + r) = 0) ∧ (hasB sp r → r < R.n ∧ R.dy r ≤ d)) ∧ sumI (fun r => pt (60 * R.n + r)) 60 = co) : RX (rwP R kd d it q co sp pt) := by
  have hB := rwP_rb (R := R) (kd := kd) (d := d) (it := it) (q := q) (co := co) (sp := sp) (pt := pt) hpt
  obtain ⟨R', hR'⟩ : ∃ R', R' = rwP R kd d it q co sp pt := ⟨_, rfl⟩
  have ekd : R'.kd R.n = kd := by rw [hR']; exact fu_self _ _ _
  have edy : R'.dy R.n = d := by rw [hR']; exact fu_self _ _ _
  have eco : R'.co R.n = co := by rw [hR']; exact fu_self _ _ _
  have esp : R'.sp R.n = sp := by rw [hR']; exact fu_self _ _ _
  have ept : R'.pt = pt := by rw [hR']; rfl
  rw [← hR'] at hB ⊢
  have hn' := hB.1
  intro m m0 m1 k
  by_cases c : m < R.n
  · obtain ⟨⟨a1, a2, a3, a4, a5, a6⟩, b1, b2⟩ := hB.2 m m0 c
    rw [a1] at k
    obtain ⟨x1, x2⟩ := hX m m0 c k
    have h2 := (hR.2 m m0 c).2 k
    rw [b1, a2, a5]
    refine ⟨fun r r0 r1 => ⟨fun hb => ?_, fun hb => ?_⟩, ?_⟩
    · rw [b2 r r0 r1]; exact (x1 r r0 r1).1 hb
    · have h4 := ((h2.2.2 r r0 r1).2 hb).1
      rw [(hB.2 r r0 (by omega)).1.2.1]
      exact (x1 r r0 r1).2 hb
    · rw [← x2]
      exact sumN_c 60 (fun r r0 r1 => b2 r r0 (by omega))
  · have e : m = R.n := by omega
    subst e
    rw [ekd] at k
    obtain ⟨x1, x2⟩ := new k
    rw [esp, edy, eco, ept]
    refine ⟨fun r r0 r1 => ⟨(x1 r r0 r1).1, fun hb => ?_⟩, x2⟩
    have h4 := (x1 r r0 r1).2 hb
    rw [(hB.2 r r0 h4.1).1.2.1]
    exact h4.2
theorem tot_P {R : RW} (hR : RG R) {kd d it q co sp : Int} {pt : Int → Int} (hpt : ∀ m, 0 ≤ m → m < R.n → ∀ r, 0 ≤ r → r < 60 → pt (60 * m + r) = R.pt (60 * m + r)) : hs (totR (rwP R kd d it q co sp pt)) (LdR (rwP R kd d it q co sp pt)) = (if kd = 3 ∨ kd = 0 then co else 0) + hs (totR R) (LdR R) := by
  have hB := rwP_rb (R := R) (kd := kd) (d := d) (it := it) (q := q) (co := co) (sp := sp) (pt := pt) hpt
  have hn := hR.1
  rw [LdR_P hn.1, hs_ins]
  have e1 : totR (rwP R kd d it q co sp pt) R.n = (if kd = 3 ∨ kd = 0 then co else 0) := by
    unfold totR
    show (if fu R.kd R.n kd R.n = 3 ∨ fu R.kd R.n kd R.n = 0 then fu R.co R.n co R.n else 0) = _
    rw [fu_self, fu_self]
  have e2 : hs (totR (rwP R kd d it q co sp pt)) (LdR R) = hs (totR R) (LdR R) := hs_c _ (fun x hx => by
    have h9 := (led_mem R.dy R.gn R.n.toNat).mp hx
    obtain ⟨⟨a1, _, _, _, a5, _⟩, _⟩ := hB.2 x h9.1.1 (by omega)
    unfold totR
    rw [a1, a5])
  rw [e1, e2]
/-- one taken away -/
theorem shR_mem {R : RW} {x m : Int} (h0 : 0 ≤ m) (h1 : m < 60) : m ∈ (shR R x).map Prod.fst ↔ R.kd x = 3 ∧ hasB (R.sp x) m := by
  unfold shR
  by_cases k3 : R.kd x = 3
  · rw [if_pos k3]
    constructor
    · intro h
      obtain ⟨y, hy, e⟩ := List.mem_map.mp h
      have h9 := mem_shl hy
      rw [← e]
      exact ⟨k3, h9.1.2⟩
    · rintro ⟨_, hb⟩
      refine List.mem_map.mpr ⟨(m, R.pt (60 * x + m)), ?_, rfl⟩
      unfold shl
      rw [b60_e]
      exact List.mem_map.mpr ⟨m, (bl_mem 60).mpr ⟨by omega, hb⟩, rfl⟩
  · rw [if_neg k3]
    exact ⟨fun h => (by cases h), fun q => absurd q.1 k3⟩
theorem rg_C {R : RW} (hR : RG R) (hR2 : RG2 R) {m : Int} (hm : 0 ≤ m ∧ m < R.n) (hx : R.kd m = 0 → ¬ ∃ x ∈ LdR R, m ∈ (shR R x).map Prod.fst) : RG (rwC R m) ∧ RG2 (rwC R m) := by
  have hn := hR.1
  refine ⟨⟨hR.1, hR.2⟩, hR2.1, hR2.2.1, fun x x0 x1 xk xg r r0 r1 hb => ?_⟩
  have x1' : x < R.n := x1
  have xk' : R.kd x = 3 := xk
  have xg' : fu R.gn m 1 x = 0 := xg
  have hb' : hasB (R.sp x) r := hb
  have hxm : x ≠ m := fun e => by rw [e, fu_self] at xg'; omega
  rw [fu_ne _ _ hxm] at xg'
  have h9 := hR2.2.2 x x0 x1 xk xg' r r0 r1 hb
  have hrm : r ≠ m := fun e => by
    have hk := ((hR.2 x x0 x1').2 xk').2.2 r r0 r1
    have hk0 := (hk.2 hb').2
    rw [e] at hk0
    exact hx hk0 ⟨x, (led_mem R.dy R.gn R.n.toNat).mpr ⟨by omega, xg'⟩, (shR_mem hm.1 (by omega)).mpr ⟨xk', e ▸ hb'⟩⟩
  refine ⟨?_, h9.2⟩
  show fu R.gn m 1 r = 0
  rw [fu_ne _ _ hrm]; exact h9.1
theorem rv_C {R : RW} (hR : RG R) (hV : ∀ i, 0 ≤ i → i ≤ 5 → RV R i) {m : Int} (hm : 0 ≤ m ∧ m < R.n) (hg : R.gn m = 0) (hs : R.kd m = 0 → R.qt m ≤ spR R (R.it m) (R.dy m) m) : ∀ i, 0 ≤ i → i ≤ 5 → RV (rwC R m) i := by
  intro i i0 i1
  have hn := hR.1
  have hl : m ∈ LdR R := (led_mem R.dy R.gn R.n.toNat).mpr ⟨by omega, hg⟩
  have hq := (hR.2 m hm.1 hm.2).1.2.2.2.1.1
  by_cases k0 : R.kd m = 0
  · by_cases e : R.it m = i
    · rw [← e]
      exact (C_rec hR hl k0 (by rw [e]; exact hV i i0 i1)).mpr (hs k0)
    · exact C_oth hl (Or.inr e) hq (hV i i0 i1)
  · exact C_oth hl (Or.inl k0) hq (hV i i0 i1)
theorem len_C {R : RW} (hR : RG R) {m : Int} (hm : 0 ≤ m ∧ m < R.n) (hg : R.gn m = 0) : ((LdR (rwC R m)).length : Int) = ((LdR R).length : Int) - 1 := by
  have hn := hR.1
  obtain ⟨a, b, hab⟩ := led_sp (dy := R.dy) (gn := R.gn) (n := R.n.toNat) hm.1 (by omega) hg
  have h2 : LdR (rwC R m) = a ++ b := led_rm hab
  have h1 : LdR R = a ++ m :: b := hab
  rw [h1, h2, List.length_append, List.length_append, List.length_cons]
  omega
theorem rx_C {R : RW} (hX : RX R) (m : Int) : RX (rwC R m) := hX
/-! the parts of a landed cost add up to its amount -/
theorem hs_fu {p : Int → Int} {g v : Int} : ∀ l : List Int, l.Nodup → g ∈ l → hs (fu p g v) l = hs p l - p g + v
  | [], _, h => by cases h
  | x :: t, hn, h => by
    obtain ⟨n1, n2⟩ := List.nodup_cons.mp hn
    show fu p g v x + hs (fu p g v) t = p x + hs p t - p g + v
    by_cases e : x = g
    · have e2 : hs (fu p g v) t = hs p t := hs_c _ (fun y hy => fu_ne _ _ (fun q => n1 (by rw [e, ← q]; exact hy)))
      rw [e2, e, fu_self]; omega
    · rcases List.mem_cons.mp h with q | q
      · exact absurd q.symm e
      · rw [hs_fu t n2 q, fu_ne _ _ e]; omega
theorem gvC_sum {r0 : Int} {t0 : List Int} (hn : (r0 :: t0).Nodup) : ∀ (k : Nat) (f p : Int → Int), hs (gvC r0 t0 k f p) (r0 :: t0) = hs p (r0 :: t0) + k
  | 0, f, p => by show hs p _ = hs p _ + ((0 : Nat) : Int); omega
  | k + 1, f, p => by
    have hm : gml f r0 t0 ∈ r0 :: t0 := by
      rcases gml_mem (f := f) t0 r0 with h | h
      · rw [h]; exact List.mem_cons_self
      · exact List.mem_cons_of_mem _ h
    show hs (gvC r0 t0 k (fu f (gml f r0 t0) (-1)) (fu p (gml f r0 t0) (p (gml f r0 t0) + 1))) (r0 :: t0) = _
    rw [gvC_sum hn k, hs_fu _ hn hm]
    omega
theorem spC_sum {S : ST} {a b s sm : Int} (hsm : 0 < sm) (hs9 : hs (bsC S b) (b60.1 s) = sm) (hne : b60.1 s ≠ []) : hs (spC S a b s sm) (b60.1 s) = a := by
  obtain ⟨r0, t0, hrt⟩ : ∃ r0 t0, b60.1 s = r0 :: t0 := by
    cases hq : b60.1 s with
    | nil => exact absurd hq hne
    | cons r0 t0 => exact ⟨r0, t0, rfl⟩
  have hnd : (b60.1 s).Nodup := by rw [b60_e]; exact (bl_pw s 60).imp (fun h => by omega)
  have hl := lft_b (a := a) (g := bsC S b) (l := b60.1 s) hsm hs9 (by rw [hrt, List.length_cons]; omega)
  unfold spC
  have e : a - hs (shC S a b sm) (b60.1 s) = a - hs (fun r => a * bsC S b r / sm) (b60.1 s) := rfl
  rw [hrt] at hnd hl e ⊢
  show hs (gvC r0 t0 (a - hs (shC S a b sm) (r0 :: t0)).toNat (rmC S a b sm) (shC S a b sm)) (r0 :: t0) = a
  rw [gvC_sum hnd]
  omega
