/-! walks: what does not depend on the costs kept; hand; an issue's cost -/
def sic (w : WS) (f : Int → Int) : WS := (w.hand, w.avg, w.rcv, w.i0, w.i1, w.v0, w.v1, w.e0, w.e1, w.q, f)
theorem sic_land (w : WS) (f : Int → Int) (r p d : Int) : landW (sic w f) r p d = sic (landW w r p d) f := rfl
theorem sic_wI (p : Prop) (a b : WS) (f : Int → Int) : wI p (sic a f) (sic b f) = sic (wI p a b) f := by
  by_cases h : p
  · rw [wI_t h, wI_t h]
  · rw [wI_f h, wI_f h]
theorem sic_lands (R : RW) (item m : Int) (w : WS) (f : Int → Int) : ∀ k : Nat, landsW R item m k (sic w f) = sic (landsW R item m k w) f
  | 0 => rfl
  | k + 1 => by
    show wI _ (landW (landsW R item m k (sic w f)) k (R.pt (60 * m + k)) (R.qt k)) (landsW R item m k (sic w f)) = _
    rw [sic_lands R item m w f k, sic_land, sic_wI]
    rfl
theorem sic_move (R : RW) (w : WS) (f : Int → Int) (m : Int) : ∃ g, moveW R (sic w f) m = sic (moveW R w m) g := by
  unfold moveW
  by_cases h0 : R.kd m = 0
  · rw [if_pos h0, if_pos h0]; exact ⟨_, rfl⟩
  · rw [if_neg h0, if_neg h0]
    by_cases h1 : R.kd m = 1
    · rw [if_pos h1, if_pos h1]; exact ⟨_, rfl⟩
    · rw [if_neg h1, if_neg h1]; exact ⟨_, rfl⟩
theorem sic_step (R : RW) (item : Int) (w : WS) (f : Int → Int) (m : Int) : ∃ g, stepW R item (sic w f) m = sic (stepW R item w m) g := by
  unfold stepW
  by_cases h0 : R.kd m = 3
  · rw [if_pos h0, if_pos h0, sic_lands]; exact ⟨_, rfl⟩
  · rw [if_neg h0, if_neg h0]
    by_cases h1 : R.it m = item
    · rw [if_pos h1, if_pos h1]; exact sic_move R w f m
    · rw [if_neg h1, if_neg h1]; exact ⟨_, rfl⟩
theorem sic_walk (R : RW) (item day : Int) : ∀ (l : List Int) (w : WS) (f : Int → Int), ∃ g, walkW R item day l (sic w f) = sic (walkW R item day l w) g
  | [], w, f => ⟨f, rfl⟩
  | m :: t, w, f => by
    show ∃ g, (if R.dy m ≤ day then walkW R item day t (stepW R item (sic w f) m) else sic w f) = sic (if R.dy m ≤ day then walkW R item day t (stepW R item w m) else w) g
    by_cases h : R.dy m ≤ day
    · rw [if_pos h, if_pos h]
      obtain ⟨g, e⟩ := sic_step R item w f m
      rw [e]
      exact sic_walk R item day t _ g
    · rw [if_neg h, if_neg h]; exact ⟨f, rfl⟩
theorem wk_ic (R : RW) (item day : Int) (ic ic' : Int → Int) : ∃ g, WKr R item day ic = sic (WKr R item day ic') g := sic_walk R item day (LdR R) (w00 ic') ic
theorem lands_hand (R : RW) (item m : Int) (w : WS) : ∀ k : Nat, (landsW R item m k w).hand = w.hand
  | 0 => rfl
  | k + 1 => by
    show (wI (hasB (R.sp m) k ∧ R.it k = item) (landW (landsW R item m k w) k (R.pt (60 * m + k)) (R.qt k)) (landsW R item m k w)).hand = _
    by_cases h : hasB (R.sp m) k ∧ R.it k = item
    · rw [wI_t h]; exact lands_hand R item m w k
    · rw [wI_f h]; exact lands_hand R item m w k
theorem step_hand (R : RW) (item : Int) (w : WS) (m : Int) : (stepW R item w m).hand = w.hand + chg R.kd R.it R.qt item m := by
  unfold stepW chg dlt
  by_cases h0 : R.kd m = 3
  · rw [if_pos h0, lands_hand]
    rw [if_neg (show ¬ R.kd m = 0 by omega), if_neg (show ¬ R.kd m = 1 by omega)]
    split <;> omega
  · rw [if_neg h0]
    by_cases h1 : R.it m = item
    · rw [if_pos h1, if_pos h1]
      unfold moveW
      by_cases k0 : R.kd m = 0
      · rw [if_pos k0, if_pos k0]; rfl
      · rw [if_neg k0, if_neg k0]
        by_cases k1 : R.kd m = 1
        · rw [if_pos k1, if_pos k1]
          show w.hand - R.qt m = _
          omega
        · rw [if_neg k1, if_neg k1]
          show w.hand = _
          omega
    · rw [if_neg h1, if_neg h1]; omega
theorem walk_hand (R : RW) (item day : Int) : ∀ (l : List Int) (w : WS), (walkW R item day l w).hand = hAt R.dy (chg R.kd R.it R.qt item) day l w.hand
  | [], _ => rfl
  | m :: t, w => by
    show (if R.dy m ≤ day then walkW R item day t (stepW R item w m) else w).hand = (if R.dy m ≤ day then hAt R.dy (chg R.kd R.it R.qt item) day t (w.hand + chg R.kd R.it R.qt item m) else w.hand)
    by_cases h : R.dy m ≤ day
    · rw [if_pos h, if_pos h, walk_hand R item day t, step_hand]
    · rw [if_neg h, if_neg h]
theorem wk_hand (R : RW) (item day : Int) (ic : Int → Int) : (WKr R item day ic).hand = haR R item day := walk_hand R item day (LdR R) (w00 ic)
theorem walk_app (R : RW) (item day : Int) (l : List Int) : ∀ (a : List Int) (w : WS), (∀ x ∈ a, R.dy x ≤ day) → walkW R item day (a ++ l) w = walkW R item day l (walkW R item day a w)
  | [], _, _ => rfl
  | m :: t, w, h => by
    have hm := h m List.mem_cons_self
    show (if R.dy m ≤ day then walkW R item day (t ++ l) (stepW R item w m) else w) = walkW R item day l (if R.dy m ≤ day then walkW R item day t (stepW R item w m) else w)
    rw [if_pos hm, if_pos hm]
    exact walk_app R item day l t _ (fun y hy => h y (List.mem_cons_of_mem _ hy))
theorem walk_day (R : RW) (item day day' : Int) : ∀ (a : List Int) (w : WS), (∀ x ∈ a, R.dy x ≤ day ∧ R.dy x ≤ day') → walkW R item day a w = walkW R item day' a w
  | [], _, _ => rfl
  | m :: t, w, h => by
    have hm := h m List.mem_cons_self
    show (if R.dy m ≤ day then walkW R item day t (stepW R item w m) else w) = (if R.dy m ≤ day' then walkW R item day' t (stepW R item w m) else w)
    rw [if_pos hm.1, if_pos hm.2]
    exact walk_day R item day day' t _ (fun y hy => h y (List.mem_cons_of_mem _ hy))
theorem lands_ic (R : RW) (item m : Int) (w : WS) : ∀ k : Nat, (landsW R item m k w).ic = w.ic
  | 0 => rfl
  | k + 1 => by
    show (wI (hasB (R.sp m) k ∧ R.it k = item) (landW (landsW R item m k w) k (R.pt (60 * m + k)) (R.qt k)) (landsW R item m k w)).ic = _
    by_cases h : hasB (R.sp m) k ∧ R.it k = item
    · rw [wI_t h]; exact lands_ic R item m w k
    · rw [wI_f h]; exact lands_ic R item m w k
theorem step_ic (R : RW) (item : Int) (w : WS) (m j : Int) (h2 : j ≠ 2 * m) (h3 : j ≠ 2 * m + 1) : (stepW R item w m).ic j = w.ic j := by
  unfold stepW
  by_cases h0 : R.kd m = 3
  · rw [if_pos h0, lands_ic]
  · rw [if_neg h0]
    by_cases h1 : R.it m = item
    · rw [if_pos h1]
      unfold moveW
      by_cases k0 : R.kd m = 0
      · rw [if_pos k0]; rfl
      · rw [if_neg k0]
        by_cases k1 : R.kd m = 1
        · rw [if_pos k1]
          show fu (fu w.ic (2 * m) _) (2 * m + 1) _ j = _
          rw [fu_ne _ _ h3, fu_ne _ _ h2]
        · rw [if_neg k1]; rfl
    · rw [if_neg h1]
theorem walk_icj (R : RW) (item day j : Int) : ∀ (l : List Int) (w : WS), (∀ x ∈ l, j ≠ 2 * x ∧ j ≠ 2 * x + 1) → (walkW R item day l w).ic j = w.ic j
  | [], _, _ => rfl
  | m :: t, w, h => by
    have hm := h m List.mem_cons_self
    show (if R.dy m ≤ day then walkW R item day t (stepW R item w m) else w).ic j = _
    by_cases hd : R.dy m ≤ day
    · rw [if_pos hd, walk_icj R item day j t _ (fun y hy => h y (List.mem_cons_of_mem _ hy)), step_ic R item w m j hm.1 hm.2]
    · rw [if_neg hd]
theorem cost_1 {R : RW} {m day : Int} {ic : Int → Int} {a b : List Int} (hab : LdR R = a ++ m :: b) (ha : ∀ x ∈ a, R.dy x ≤ day) (hm : R.dy m ≤ day) (hb : m ∉ b) (k1 : R.kd m = 1) : (WKr R (R.it m) day ic).ic (2 * m) = (tk (walkW R (R.it m) day a (w00 ic)).q (R.qt m)).1 ∧ (WKr R (R.it m) day ic).ic (2 * m + 1) = (walkW R (R.it m) day a (w00 ic)).avg * R.qt m / (walkW R (R.it m) day a (w00 ic)).hand := by
  have e : WKr R (R.it m) day ic = walkW R (R.it m) day b (stepW R (R.it m) (walkW R (R.it m) day a (w00 ic)) m) := by
    unfold WKr
    rw [hab, walk_app R (R.it m) day (m :: b) a _ ha]
    show (if R.dy m ≤ day then _ else _) = _
    rw [if_pos hm]
  have e2 : ∀ w : WS, (stepW R (R.it m) w m).ic = fu (fu w.ic (2 * m) (tk w.q (R.qt m)).1) (2 * m + 1) (w.avg * R.qt m / w.hand) := fun w => by
    unfold stepW moveW
    rw [if_neg (by omega), if_pos rfl, if_neg (by omega), if_pos k1]
    rfl
  have hx : ∀ x ∈ b, x ≠ m := fun x hx e => hb (e ▸ hx)
  rw [e, walk_icj R (R.it m) day (2 * m) b _ (fun x q => by have := hx x q; omega), walk_icj R (R.it m) day (2 * m + 1) b _ (fun x q => by have := hx x q; omega), e2]
  exact ⟨by rw [fu_ne _ _ (by omega), fu_self], by rw [fu_self]⟩
theorem cost_eq {R : RW} (hR : RG R) {m : Int} (hm0 : 0 ≤ m) (hm1 : m < R.n) (k1 : R.kd m = 1) (hg : R.gn m = 0) (ic ic' : Int → Int) : (WKr R (R.it m) 365 ic).ic (2 * m) = (WKr R (R.it m) (R.dy m) ic').ic (2 * m) ∧ (WKr R (R.it m) 365 ic).ic (2 * m + 1) = (WKr R (R.it m) (R.dy m) ic').ic (2 * m + 1) := by
  have hl : m ∈ LdR R := (led_mem R.dy R.gn R.n.toNat).mpr ⟨by omega, hg⟩
  obtain ⟨a, b, hab⟩ := List.append_of_mem hl
  have hpw : (LdR R).Pairwise (lex R.dy) := led_pw R.dy R.gn R.n.toNat
  have hnd : (LdR R).Nodup := led_nd R.dy R.gn R.n.toNat
  rw [hab] at hpw hnd
  have hb : m ∉ b := (List.nodup_cons.mp (List.nodup_append.mp hnd).2.1).1
  have ha : ∀ x ∈ a, R.dy x ≤ R.dy m := fun x hx => by
    have := (List.pairwise_append.mp hpw).2.2 x hx m List.mem_cons_self
    unfold lex at this
    omega
  have hdm := (hR.2 m hm0 hm1).1.2.1
  have ha2 : ∀ x ∈ a, R.dy x ≤ 365 := fun x hx => by have := ha x hx; omega
  obtain ⟨c1, c2⟩ := cost_1 (ic := ic) hab ha2 (by omega) hb k1
  obtain ⟨c3, c4⟩ := cost_1 (ic := ic') hab ha (Int.le_refl _) hb k1
  have ew : walkW R (R.it m) 365 a (w00 ic) = walkW R (R.it m) (R.dy m) a (w00 ic) := walk_day R (R.it m) 365 (R.dy m) a _ (fun x hx => ⟨ha2 x hx, ha x hx⟩)
  obtain ⟨g, eg⟩ : ∃ g, walkW R (R.it m) (R.dy m) a (w00 ic) = sic (walkW R (R.it m) (R.dy m) a (w00 ic')) g := sic_walk R (R.it m) (R.dy m) a (w00 ic') ic
  rw [c1, c2, c3, c4, ew, eg]
  exact ⟨rfl, rfl⟩
