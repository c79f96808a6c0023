/-! the class: the replay -/
noncomputable def cL (p : Prop) (x : Int) : List Int := @ite (List Int) p (Classical.propDecidable p) [x] []
theorem cL_t {p : Prop} {x : Int} (h : p) : cL p x = [x] := by unfold cL; rw [if_pos h]
theorem cL_f {p : Prop} {x : Int} (h : ¬ p) : cL p x = [] := by unfold cL; rw [if_neg h]
/-- the bits below k -/
noncomputable def bl (s : Int) : Nat → List Int
  | 0 => []
  | k + 1 => bl s k ++ cL (hasB s k) k
theorem bl_mem {s r : Int} : ∀ k : Nat, r ∈ bl s k ↔ (0 ≤ r ∧ r < k) ∧ hasB s r
  | 0 => by
    show r ∈ ([] : List Int) ↔ _
    constructor
    · intro h; cases h
    · rintro ⟨⟨h1, h2⟩, _⟩; exfalso; omega
  | k + 1 => by
    show r ∈ bl s k ++ cL (hasB s k) k ↔ _
    rw [List.mem_append, bl_mem k]
    by_cases hk : hasB s k
    · rw [cL_t hk, List.mem_singleton]
      constructor
      · rintro (⟨h1, h2⟩ | rfl)
        · exact ⟨by omega, h2⟩
        · exact ⟨by omega, hk⟩
      · rintro ⟨h1, h2⟩
        by_cases e : r = k
        · exact Or.inr e
        · exact Or.inl ⟨by omega, h2⟩
    · rw [cL_f hk]
      constructor
      · rintro (⟨h1, h2⟩ | h)
        · exact ⟨by omega, h2⟩
        · cases h
      · rintro ⟨h1, h2⟩
        refine Or.inl ⟨⟨h1.1, ?_⟩, h2⟩
        by_cases e : r = k
        · rw [e] at h2; exact absurd h2 hk
        · omega
theorem bl_up {s : Int} {k : Nat} : ∀ j : Nat, (∀ r : Int, k ≤ r → r < (k + j : Nat) → ¬ hasB s r) → bl s (k + j) = bl s k
  | 0, _ => rfl
  | j + 1, h => by
    show bl s (k + j) ++ cL (hasB s (k + j : Nat)) (k + j : Nat) = _
    rw [cL_f (h (k + j : Nat) (by omega) (by omega)), List.append_nil]
    exact bl_up j (fun r h1 h2 => h r h1 (by omega))
theorem bl_len (s : Int) : ∀ k : Nat, (bl s k).length ≤ k
  | 0 => Nat.le_refl _
  | k + 1 => by
    have := bl_len s k
    show (bl s k ++ cL (hasB s k) k).length ≤ _
    rw [List.length_append]
    by_cases hk : hasB s k
    · rw [cL_t hk, List.length_singleton]; omega
    · rw [cL_f hk, List.length_nil]; omega
/-- the shares of a landed cost, as the rows say -/
noncomputable def b60 : {f : Int → List Int // ∀ s, f s = bl s 60} := Classical.choice ⟨⟨fun s => bl s 60, fun _ => rfl⟩⟩
theorem b60_e (s : Int) : b60.1 s = bl s 60 := b60.2 s
noncomputable def shl (R : RW) (m : Int) : List (Int × Int) := (b60.1 (R.sp m)).map (fun r => (r, R.pt (60 * m + r)))
theorem mem_blk {s : Int} {g : Int → Int} (k : Nat) {x : Int × Int} (h : x ∈ (bl s k).map (fun r => (r, g r))) : ((0 ≤ x.1 ∧ x.1 < k) ∧ hasB s x.1) ∧ x.2 = g x.1 := by
  obtain ⟨r, hr, rfl⟩ := List.mem_map.mp h
  exact ⟨(bl_mem k).mp hr, rfl⟩
theorem mem_shl {R : RW} {m : Int} {x : Int × Int} (h : x ∈ shl R m) : ((0 ≤ x.1 ∧ x.1 < 60) ∧ hasB (R.sp m) x.1) ∧ x.2 = R.pt (60 * m + x.1) := by
  unfold shl at h
  rw [b60_e] at h
  have h9 := mem_blk (s := R.sp m) (g := fun r => R.pt (60 * m + r)) 60 h
  exact ⟨⟨⟨h9.1.1.1, by have := h9.1.1.2; omega⟩, h9.1.2⟩, h9.2⟩
theorem len_shl (R : RW) (m : Int) : (shl R m).length ≤ 60 := by
  unfold shl
  rw [b60_e, List.length_map]
  exact bl_len _ 60
theorem lfold_app (it qt : Int → Int) (item : Int) : ∀ (a b : List (Int × Int)) (w : WS), lfold it qt item (a ++ b) w = lfold it qt item b (lfold it qt item a w)
  | [], _, _ => rfl
  | x :: a, b, w => lfold_app it qt item a b _
theorem lfold_c {it qt it' qt' : Int → Int} {item : Int} : ∀ (l : List (Int × Int)) (w : WS), (∀ x ∈ l, it x.1 = it' x.1 ∧ qt x.1 = qt' x.1) → lfold it qt item l w = lfold it' qt' item l w
  | [], _, _ => rfl
  | x :: t, w, h => by
    have h1 := h x List.mem_cons_self
    show lfold it qt item t (if it x.1 = item then landW w x.1 x.2 (qt x.1) else w) = lfold it' qt' item t (if it' x.1 = item then landW w x.1 x.2 (qt' x.1) else w)
    rw [h1.1, h1.2]
    exact lfold_c t _ (fun y hy => h y (List.mem_cons_of_mem _ hy))
theorem lands_l (R : RW) (item m : Int) (w : WS) : ∀ k : Nat, landsW R item m k w = lfold R.it R.qt item ((bl (R.sp m) k).map (fun r => (r, R.pt (60 * m + r)))) w
  | 0 => rfl
  | k + 1 => by
    show wI _ _ _ = lfold R.it R.qt item ((bl (R.sp m) k ++ cL (hasB (R.sp m) k) k).map (fun r => (r, R.pt (60 * m + r)))) w
    rw [List.map_append, lfold_app, ← lands_l R item m w k]
    by_cases hk : hasB (R.sp m) k
    · rw [cL_t hk]
      show _ = (if R.it k = item then landW (landsW R item m k w) k (R.pt (60 * m + k)) (R.qt k) else landsW R item m k w)
      by_cases hi : R.it k = item
      · rw [if_pos hi, wI_t ⟨hk, hi⟩]
      · rw [if_neg hi, wI_f (fun q => hi q.2)]
    · rw [cL_f hk, wI_f (fun q => hk q.1)]
      rfl
theorem og_lf (it qt : Int → Int) (item : Int) : ∀ (l : List (Int × Int)) (w : WS), (∀ x ∈ l, (0 ≤ x.2 ∧ x.2 ≤ 2000000) ∧ 1 ≤ qt x.1) → QOK w.q → og (lfold it qt item l w).q = og w.q
  | [], _, _, _ => rfl
  | x :: t, w, h, ho => by
    have h1 := h x List.mem_cons_self
    show og (lfold it qt item t (if it x.1 = item then landW w x.1 x.2 (qt x.1) else w)).q = _
    have h2 := qadd_ok (r := x.1) h1.1 h1.2 ho
    by_cases hi : it x.1 = item
    · rw [if_pos hi, og_lf it qt item t (landW w x.1 x.2 (qt x.1)) (fun y hy => h y (List.mem_cons_of_mem _ hy)) (show QOK (landW w x.1 x.2 (qt x.1)).q from h2.1)]
      exact h2.2.2.2
    · rw [if_neg hi, og_lf it qt item t _ (fun y hy => h y (List.mem_cons_of_mem _ hy)) ho]
abbrev lex (dy : Int → Int) (x y : Int) : Prop := dy x < dy y ∨ (dy x = dy y ∧ x < y)
theorem ins_pw {dy : Int → Int} {m : Int} : ∀ l : List Int, l.Pairwise (lex dy) → (∀ x ∈ l, x < m) → (ins dy m l).Pairwise (lex dy)
  | [], _, _ => List.pairwise_singleton _ _
  | x :: t, h, hm => by
    obtain ⟨h1, h2⟩ := List.pairwise_cons.mp h
    show (if dy m < dy x then m :: x :: t else x :: ins dy m t).Pairwise (lex dy)
    split
    next hlt =>
      refine List.pairwise_cons.mpr ⟨fun y hy => Or.inl ?_, h⟩
      rcases List.mem_cons.mp hy with rfl | hy
      · exact hlt
      · rcases h1 y hy with h | h <;> omega
    next hge =>
      refine List.pairwise_cons.mpr ⟨fun y hy => ?_, ins_pw t h2 (fun y hy => hm y (List.mem_cons_of_mem _ hy))⟩
      rcases (ins_mem t).mp hy with rfl | hy
      · have := hm x List.mem_cons_self
        show dy x < dy y ∨ (dy x = dy y ∧ x < y)
        omega
      · exact h1 y hy
theorem led_pw (dy gn : Int → Int) : ∀ n : Nat, (led dy gn n).Pairwise (lex dy)
  | 0 => List.Pairwise.nil
  | n + 1 => by
    show (if gn n = 0 then ins dy n (led dy gn n) else led dy gn n).Pairwise (lex dy)
    split
    · refine ins_pw _ (led_pw dy gn n) (fun x hx => ?_)
      have := (led_mem dy gn n).mp hx
      omega
    · exact led_pw dy gn n
/-- live landed costs lie behind their live receipts; issues cost nothing of their own -/
def RG2 (R : RW) : Prop := (∀ m, 0 ≤ m → m < R.n → R.kd m = 1 → R.co m = 0) ∧ (∀ m, 0 ≤ m → m < R.n → R.kd m = 3 → ∀ r, R.n ≤ r → r < 60 → ¬ hasB (R.sp m) r) ∧ ∀ m, 0 ≤ m → m < R.n → R.kd m = 3 → R.gn m = 0 → ∀ r, 0 ≤ r → r < 60 → hasB (R.sp m) r → R.gn r = 0 ∧ R.dy r ≤ R.dy m
theorem rec_a {R : RW} (hR : RG R) (hR2 : RG2 R) {a b : List Int} {m r : Int} (hab : LdR R = a ++ m :: b) (hk : R.kd m = 3) (h0 : 0 ≤ r) (h1 : r < 60) (hb : hasB (R.sp m) r) : r ∈ a := by
  have hm := (led_mem R.dy R.gn R.n.toNat).mp (show m ∈ LdR R by rw [hab]; simp)
  have hn := hR.1
  have h9 := (((hR.2 m hm.1.1 (by omega)).2 hk).2.2 r h0 h1).2 hb
  have h8 := hR2.2.2 m hm.1.1 (by omega) hk hm.2 r h0 h1 hb
  have hr : r ∈ LdR R := (led_mem R.dy R.gn R.n.toNat).mpr ⟨by omega, h8.1⟩
  have hpw : (LdR R).Pairwise (lex R.dy) := led_pw R.dy R.gn R.n.toNat
  rw [hab] at hr hpw
  rcases List.mem_append.mp hr with h | h
  · exact h
  · exfalso
    rcases List.mem_cons.mp h with e | h
    · omega
    · have h7 := (List.pairwise_cons.mp (List.pairwise_append.mp hpw).2.1).1 r h
      rcases h7 with q | q <;> omega
theorem step_l {R : RW} (hR : RG R) (hR2 : RG2 R) {item m : Int} (w : WS) (hm0 : 0 ≤ m) (hm1 : m < R.n) (hk : R.kd m = 3) : stepW R item w m = lfold R.it R.qt item (shl R m) w := by
  unfold stepW
  rw [if_pos hk, lands_l]
  unfold shl
  have hn := hR.1
  have e : bl (R.sp m) 60 = bl (R.sp m) R.n.toNat := by
    have h9 := bl_up (s := R.sp m) (k := R.n.toNat) (60 - R.n.toNat) (fun r h1 h2 => hR2.2.1 m hm0 hm1 hk r (by omega) (by omega))
    rw [show R.n.toNat + (60 - R.n.toNat) = 60 by omega] at h9
    exact h9
  rw [b60_e, e]
/-- the class's object holds the rows R -/
def CK (R : RW) (S : ST) (A : AB) : Prop := (lv1 A 6 0 ∧ lv1 A 2 0 ∧ lv1 A 0 0 ∧ lv1 A 4 0 ∧ lv1 A 8 0 ∧ lv1 A 9 0) ∧ (S 192 0 = 0 ∧ S 193 0 = 0 ∧ S 194 0 = 0 ∧ S 195 0 = 0 ∧ S 196 0 = 0) ∧ (S 197 0 = R.n ∧ A.2 3 = R.n ∧ A.2 1 = R.n) ∧ (∀ j, 0 ≤ j → j < 60 → S 256 j = if j < R.n then j else -1) ∧ (∀ m, 0 ≤ m → m < R.n → (S 96 m = m ∧ S 97 m = R.kd m ∧ S 98 m = R.dy m ∧ S 99 m = R.it m ∧ S 100 m = R.qt m ∧ S 101 m = R.co m ∧ S 102 m = m ∧ S 103 m = R.gn m ∧ S 32 m = m) ∧ (R.kd m = 3 → SHC S (A.2 5) (S 105 m) (shl R m)) ∧ (R.kd m ≠ 3 → S 105 m = -1)) ∧ CH (S 104) (S 64 0) (LdR R) ∧ S 65 0 = (LdR R).length
def icF (S : ST) : Int → Int := fun j => S 106 (j / 2)
theorem shl_1 {R : RW} {S : ST} {A : AB} {s r p : Int} (hR : RG R) (h1 : 0 ≤ r ∧ r < 60) (hb : hasB (R.sp s) r) (he : p = R.pt (60 * s + r)) (hm0 : 0 ≤ s) (hm1 : s < R.n) (k3 : R.kd s = 3) (hA3 : A.2 3 = R.n) (hA1 : A.2 1 = R.n) (hrows : ∀ m, 0 ≤ m → m < R.n → (S 96 m = m ∧ S 97 m = R.kd m ∧ S 98 m = R.dy m ∧ S 99 m = R.it m ∧ S 100 m = R.qt m ∧ S 101 m = R.co m ∧ S 102 m = m ∧ S 103 m = R.gn m ∧ S 32 m = m) ∧ (R.kd m = 3 → SHC S (A.2 5) (S 105 m) (shl R m)) ∧ (R.kd m ≠ 3 → S 105 m = -1)) : ((0 ≤ r ∧ r < 60) ∧ hasB (R.sp s) r) ∧ (lv1 A 3 r ∧ lv1 A 1 r) ∧ (0 ≤ p ∧ p ≤ 2000000) ∧ (1 ≤ R.qt r ∧ R.qt r ≤ 1000) ∧ R.kd r = 0 ∧ (S 99 r = R.it r ∧ S 100 r = R.qt r ∧ S 102 r = r) := by
  have h4 := ((hR.2 s hm0 hm1).2 k3).2.2 r h1.1 h1.2
  have h5 := h4.2 hb
  have hrn : r < R.n := by have := h5.1; omega
  have h6 := (hR.2 r h1.1 hrn).1
  have h7 := (hrows r h1.1 hrn).1
  have h8 : 1 ≤ R.qt r := (h6.2.2.1 (by have := h5.2; omega)).2
  exact ⟨⟨h1, hb⟩, ⟨⟨h1.1, by rw [hA3]; exact hrn⟩, ⟨h1.1, by rw [hA1]; exact hrn⟩⟩, by rw [he]; exact h4.1, ⟨h8, h6.2.2.2.1.2⟩, h5.2, h7.2.2.2.1, h7.2.2.2.2.1, h7.2.2.2.2.2.2.1⟩
theorem shl_ok {R : RW} {S : ST} {A : AB} (hR : RG R) (hCK : CK R S A) {s : Int} (hm0 : 0 ≤ s) (hm1 : s < R.n) (k3 : R.kd s = 3) : (∀ x ∈ shl R s, ((0 ≤ x.1 ∧ x.1 < 60) ∧ hasB (R.sp s) x.1) ∧ (lv1 A 3 x.1 ∧ lv1 A 1 x.1) ∧ (0 ≤ x.2 ∧ x.2 ≤ 2000000) ∧ (1 ≤ R.qt x.1 ∧ R.qt x.1 ≤ 1000) ∧ R.kd x.1 = 0 ∧ (S 99 x.1 = R.it x.1 ∧ S 100 x.1 = R.qt x.1 ∧ S 102 x.1 = x.1)) ∧ SHC S (A.2 5) (S 105 s) (shl R s) ∧ (shl R s).length ≤ 60 := by
  obtain ⟨_, _, ⟨hcn, hA3, hA1⟩, _, hrows, _, _⟩ := hCK
  refine ⟨fun x hx => ?_, (hrows s hm0 hm1).2.1 k3, len_shl R s⟩
  have h9 := mem_shl hx
  exact shl_1 hR h9.1.1 h9.1.2 h9.2 hm0 hm1 k3 hA3 hA1 hrows
theorem row_ok {R : RW} {S : ST} {A : AB} (hR : RG R) (hCK : CK R S A) {s : Int} (hm0 : 0 ≤ s) (hm1 : s < R.n) : RA S R s ∧ S 98 s = R.dy s ∧ S 102 s = s ∧ (¬ R.kd s = 3 → (R.kd s = 0 ∨ R.kd s = 1 ∨ R.kd s = 2) ∧ (1 ≤ R.qt s ∧ R.qt s ≤ 1000)) ∧ (0 ≤ R.co s ∧ R.co s ≤ 1000000) ∧ (0 ≤ R.kd s ∧ R.kd s ≤ 3) ∧ rI (R.it s) ∧ rI (R.dy s) := by
  obtain ⟨_, _, ⟨hcn, hA3, hA1⟩, _, hrows, _, _⟩ := hCK
  have h7 := (hrows s hm0 hm1).1
  have h6 := (hR.2 s hm0 hm1).1
  have h5 := (hR.2 s hm0 hm1).2
  refine ⟨⟨h7.2.1, h7.2.2.2.1, h7.2.2.2.2.1, h7.2.2.2.2.2.1⟩, h7.2.2.1, h7.2.2.2.2.2.2.1, fun k => ⟨by have := h6.1; omega, ⟨(h6.2.2.1 k).2, h6.2.2.2.1.2⟩⟩, h6.2.2.2.2, h6.1, ?_, ?_⟩
  · by_cases k : R.kd s = 3
    · have := (h5 k).1; omega
    · have := (h6.2.2.1 k).1; omega
  · have := h6.2.1; omega
set_option maxRecDepth 20000 in
theorem cV0_replay {G : GT} {l : Launch} (hfl : l.stackTraces = false) {S : ST} {A : AB} {item day : Int} {R : RW} (hl0 : lv1 A 0 0) (hCK : CK R S A) (hR : RG R) (hR2 : RG2 R) (hit : 0 ≤ item ∧ item ≤ 5) (hd : rI day) (hval : RV R item) : CT G l yX6_replay cX6_replay 5 none (rmk 3 0 0 77) S A [vR A 0 0, vR A 3 (S 64 0), vI item, vI day] (oV fun S' A' => A = A' ∧ Fr [33, 34, 35, 5, 6, 0, 1, 2, 3, 4, 106] S S' ∧ FV S' (WKr R item day (icF S))) (noX) := by
  refine ct_ofN (own := RX6) (mn := "replay") rfl rfl (by decide) hfl (lv0 := [some (vR A 0 0), some (vR A 3 (S 64 0)), some (vI item), some (vI day), none]) (ent_1 (cat_R _ _ _) (ent_1 (cat_R _ _ _) (ent_1 rfl (ent_1 rfl (ent_n ent_0))))) rfl ?_
  intro J X C F FX FT FU hW hA
  have shF3 : ∀ (S1 : ST), Fr [33, 34, 35, 5, 6, 0, 1, 2, 3, 4, 106] S S1 → ∀ (c : Nat) (z : Int), (c = 160 ∨ c = 161 ∨ c = 162) → S1 c z = S c z := fun S1 hF c z hc => by
    rcases hc with h | h | h <;> rw [h] <;> exact hF _ z (by decide)
  have hCK0 := hCK
  obtain ⟨⟨l6, l2, l0, l4, l8, l9'⟩, _, ⟨hcn, hA3, hA1⟩, _, hrows, hch, _⟩ := hCK
  have hn := hR.1
  have lp : ∀ (b a : List Int) (s : Int) (w : WS) (S1 : ST) (hs : CH (S 104) s b) (hF : Fr [33, 34, 35, 5, 6, 0, 1, 2, 3, 4, 106] S S1) (hV : FV S1 w) (hWI : WI R item a (61 * a.length) w) (hab : LdR R = a ++ b) (hv : vld (chg R.kd R.it R.qt item) R.qt (tks R.kd R.it item) w.hand b) (hzq : ∀ r ∈ a, R.kd r = 0 → R.it r = item → r ∉ og w.q → S1 33 r = 0) (hG : walkW R item day b w = WKr R item day (icF S)), J 32 [some (vR A 0 0), some (vR A 3 (S 64 0)), some (vI item), some (vI day), some (vR A 3 s)] [] S1 A 0 0 := by
    intro b
    have hlen := led_len R.dy R.gn R.n.toNat
    induction b with
    | nil =>
      intro a s w S1 hs hF hV hWI hab hv hzq hG
      have hs : s = -1 := hs
      refine r_aload C dX6_replay_32 lg_4 ?_
      refine r_ifnull C (tgt := 90) dX6_replay_34 (by decide) (fun c34 => ?_) (fun c34 => ?_)
      · exact f_V F dX6_replay_90 ⟨rfl, hF, by rw [← hG]; exact hV⟩ (Nat.le_of_ble_eq_true rfl) (Nat.le_of_ble_eq_true rfl)
      · exfalso; omega
    | cons m t ih =>
      intro a s w S1 hs hF hV hWI hab hv hzq hG
      obtain ⟨rfl, hs⟩ := hs
      have hlab : a.length + (t.length + 1) ≤ R.n.toNat := by have h9 : (LdR R).length ≤ R.n.toNat := hlen; rw [hab, List.length_append, List.length_cons] at h9; exact h9
      have hm := (led_mem R.dy R.gn R.n.toNat).mp (show s ∈ LdR R by rw [hab]; simp)
      have hm0 := hm.1.1
      have hm1 : s < R.n := by omega
      have hz : lv1 A 3 s := ⟨hm0, by omega⟩
      have hz1 : lv1 A 1 s := ⟨hm0, by omega⟩
      have hnd : (LdR R).Nodup := led_nd R.dy R.gn R.n.toNat
      rw [hab, List.nodup_append] at hnd
      have hma : s ∉ a := fun q => hnd.2.2 s q s List.mem_cons_self rfl
      have hst := WI_step hR hWI (by omega) hit.1 hm0 hm1 hma hv.1
      have hh : (stepW R item w s).hand = w.hand + chg R.kd R.it R.qt item s := by
        rw [hst.2.2.2.2.2.1, hs_one, ← hWI.2.2.2.2.2.1]
      obtain ⟨hra, c98, c102, hk012, hco, hk03, hitr, hdyr⟩ := row_ok hR hCK0 hm0 hm1
      obtain ⟨c97, c99, c100, c101⟩ := hra
      have g97 := hF 97 s (by decide)
      have g98 := hF 98 s (by decide)
      have g99 := hF 99 s (by decide)
      have g100 := hF 100 s (by decide)
      have g101 := hF 101 s (by decide)
      have g102 := hF 102 s (by decide)
      have g105 := hF 105 s (by decide)
      have hog : ∀ x ∈ og w.q, lv1 A 1 x := fun x hx => by
        obtain ⟨y, hy, e⟩ := List.mem_map.mp hx
        have h9 := (led_mem R.dy R.gn R.n.toNat).mp (show x ∈ LdR R by rw [hab, ← e]; exact List.mem_append_left _ (hWI.2.2.1 y hy))
        exact ⟨h9.1.1, by omega⟩
      have hG' : (if R.dy s ≤ day then walkW R item day t (stepW R item w s) else w) = WKr R item day (icF S) := hG
      have next : ∀ (S2 : ST), R.dy s ≤ day → Fr [33, 34, 35, 5, 6, 0, 1, 2, 3, 4, 106] S S2 → FV S2 (stepW R item w s) → (∀ r ∈ a ++ [s], R.kd r = 0 → R.it r = item → r ∉ og (stepW R item w s).q → S2 33 r = 0) → J 80 [some (vR A 0 0), some (vR A 3 (S 64 0)), some (vI item), some (vI day), some (vR A 3 s)] [] S2 A 0 0 := by
        intro S2 hdy hF2 hV2 hzq2
        refine r_aload C dX6_replay_80 lg_4 ?_
        refine r_getA C 104 3 dX6_replay_82 fg_X6_50_3 rfl rfl hz (fun g82 => ?_)
        rw [hF2 104 s (by decide)]
        refine r_astore C dX6_replay_85 (ls1_4 (cat_R _ _ _) rfl) ?_
        refine r_goto C (tgt := 32) dX6_replay_87 (by decide) ?_
        exact ih (a ++ [s]) (S 104 s) (stepW R item w s) S2 hs hF2 hV2 (WI_more hst (by rw [List.length_append, List.length_singleton]; omega)) (by rw [hab]; simp) (by rw [hh]; exact hv.2) hzq2 (by rw [← hG', if_pos hdy])
      refine r_aload C dX6_replay_32 lg_4 ?_
      refine r_ifnull C (tgt := 90) dX6_replay_34 (by decide) (fun c34 => ?_) (fun c34 => ?_)
      · exfalso; omega
      · refine r_aload C dX6_replay_37 lg_4 ?_
        refine r_getI C 98 dX6_replay_39 fg_X6_31_3 rfl rfl hz (fun g39 => ?_)
        rw [g98, c98]
        refine r_iload_n C dX6_replay_42 lg_3 ?_
        refine r_icgt C (tgt := 90) dX6_replay_43 (by decide) (by omega) (by omega) (fun c43 => ?_) (fun c43 => ?_)
        · exact f_V F dX6_replay_90 ⟨rfl, hF, by rw [← hG', if_neg (by omega)]; exact hV⟩ (Nat.le_of_ble_eq_true rfl) (Nat.le_of_ble_eq_true rfl)
        · refine r_aload C dX6_replay_46 lg_4 ?_
          refine r_getI C 97 dX6_replay_48 fg_X6_36_3 rfl rfl hz (fun g48 => ?_)
          rw [g97, c97]
          refine r_iconst C dX6_replay_51 ?_
          refine r_icne C (tgt := 65) dX6_replay_52 (by decide) (by omega) (by omega) (fun c52 => ?_) (fun c52 => ?_)
          · refine r_aload C dX6_replay_65 lg_4 ?_
            refine r_getI C 99 dX6_replay_67 fg_X6_43_3 rfl rfl hz (fun g67 => ?_)
            rw [g99, c99]
            refine r_iload_n C dX6_replay_70 lg_2 ?_
            refine r_icne C (tgt := 80) dX6_replay_71 (by decide) (by omega) (by omega) (fun c71 => ?_) (fun c71 => ?_)
            · first
              | exact next S59 (by omega) (hF.tr (hF59.sub (by decide))) hv59 (fun r hr kr ir nr => by
                   have e33 := hF59 33 r (by decide)
                   rw [e33]
                   rcases List.mem_append.mp hr with hr | hr
                   · exact hzq r hr kr ir (fun q => nr (by rw [hsl, og_lf _ _ _ _ _ (fun x hx => ⟨(hshl x hx).2.2.1, (hshl x hx).2.2.2.1.1⟩) hWI.1]; exact q))
                   · rw [List.mem_singleton.mp hr] at kr; omega)
              | exact next S77 (by omega) (hF.tr hF77) hv77 (fun r hr kr ir nr => by
                   by_cases e : r = s
                   · exfalso
                     refine nr ?_
                     rw [esw, e]
                     unfold moveW
                     rw [if_pos (by rw [← e]; exact kr)]
                     show s ∈ og (w.q ++ [(R.qt s, R.co s, s)])
                     simp [og]
                   · have h9 := hu77 r e nr
                     rcases List.mem_append.mp hr with hr | hr
                     · by_cases q : r ∈ og w.q
                       · exact h9.2 q
                       · rw [h9.1 q]; exact hzq r hr kr ir q
                     · exact absurd (List.mem_singleton.mp hr) e)
              | exact next S1 (by omega) hF (by
                  have h9 : stepW R item w s = w := by unfold stepW; rw [if_neg (by omega), if_neg (by omega)]
                  rw [h9]; exact hV) (fun r hr kr ir nr => by
                   have h9 : stepW R item w s = w := by unfold stepW; rw [if_neg (by omega), if_neg (by omega)]
                   rw [h9] at nr
                   rcases List.mem_append.mp hr with hr | hr
                   · exact hzq r hr kr ir nr
                   · rw [List.mem_singleton.mp hr] at ir; omega)
            · refine r_aload_n C dX6_replay_74 lg_0 ?_
              refine r_aload C dX6_replay_75 lg_4 ?_
              refine q_U1V C (cV0_apply hfl hl0 hV hWI ⟨by omega, by omega⟩ hz hma ⟨g97.trans c97, g99.trans c99, g100.trans c100, g101.trans c101⟩ (hk012 c52).1 (hk012 c52).2 hco (fun k0 => hv.1 ⟨by omega, by have := (hk012 c52).1; omega⟩) hz1 (g102.trans c102) hog (by omega)) dX6_replay_77 lk_X6_46_0 hl0 ⟨Nat.le_of_ble_eq_true rfl, Nat.le_of_ble_eq_true rfl⟩ (catLe (Nat.le_of_ble_eq_true rfl)) ⟨rfl, rfl⟩ rfl (Nat.le_of_ble_eq_true rfl) (Nat.le_of_ble_eq_true rfl) (fun S77 A77 p77 => ?_)
              obtain ⟨rfl, hF77, hv77, hu77⟩ := p77
              have esw : stepW R item w s = moveW R w s := by
                unfold stepW
                rw [if_neg (by omega), if_pos (by omega)]
              rw [← esw] at hv77
              rw [← esw] at hu77
              first
              | exact next S59 (by omega) (hF.tr (hF59.sub (by decide))) hv59 (fun r hr kr ir nr => by
                   have e33 := hF59 33 r (by decide)
                   rw [e33]
                   rcases List.mem_append.mp hr with hr | hr
                   · exact hzq r hr kr ir (fun q => nr (by rw [hsl, og_lf _ _ _ _ _ (fun x hx => ⟨(hshl x hx).2.2.1, (hshl x hx).2.2.2.1.1⟩) hWI.1]; exact q))
                   · rw [List.mem_singleton.mp hr] at kr; omega)
              | exact next S77 (by omega) (hF.tr hF77) hv77 (fun r hr kr ir nr => by
                   by_cases e : r = s
                   · exfalso
                     refine nr ?_
                     rw [esw, e]
                     unfold moveW
                     rw [if_pos (by rw [← e]; exact kr)]
                     show s ∈ og (w.q ++ [(R.qt s, R.co s, s)])
                     simp [og]
                   · have h9 := hu77 r e nr
                     rcases List.mem_append.mp hr with hr | hr
                     · by_cases q : r ∈ og w.q
                       · exact h9.2 q
                       · rw [h9.1 q]; exact hzq r hr kr ir q
                     · exact absurd (List.mem_singleton.mp hr) e)
              | exact next S1 (by omega) hF (by
                  have h9 : stepW R item w s = w := by unfold stepW; rw [if_neg (by omega), if_neg (by omega)]
                  rw [h9]; exact hV) (fun r hr kr ir nr => by
                   have h9 : stepW R item w s = w := by unfold stepW; rw [if_neg (by omega), if_neg (by omega)]
                   rw [h9] at nr
                   rcases List.mem_append.mp hr with hr | hr
                   · exact hzq r hr kr ir nr
                   · rw [List.mem_singleton.mp hr] at ir; omega)
          · have k3 : R.kd s = 3 := by omega
            have hsl := step_l hR hR2 (item := item) w hm0 hm1 k3
            obtain ⟨hshl, hSHC0, hll⟩ := shl_ok hR hCK0 hm0 hm1 k3
            have hSHC : SHC S1 (A.2 5) (S1 105 s) (shl R s) := by
              rw [g105]
              exact hSHC0.fr (Int.le_refl _) (fun c z hc _ _ => shF3 S1 hF c z hc)
            have s99 := hF.fn (c := 99) (by decide)
            have s100 := hF.fn (c := 100) (by decide)
            have s102 := hF.fn (c := 102) (by decide)
            have elf : lfold (S1 99) (S1 100) item (shl R s) w = stepW R item w s := by
              rw [hsl, s99, s100]
              exact lfold_c _ _ (fun x hx => ⟨(hshl x hx).2.2.2.2.2.1, (hshl x hx).2.2.2.2.2.2.1⟩)
            refine r_aload_n C dX6_replay_55 lg_0 ?_
            refine r_aload C dX6_replay_56 lg_4 ?_
            refine r_iload_n C dX6_replay_58 lg_2 ?_
            refine q_U2V C (cV0_shares hfl hl0 hz hV hWI ⟨by omega, by omega⟩ (by omega) hSHC (fun x hx => ⟨(hshl x hx).2.1.1, (hshl x hx).2.2.1, by rw [s100, (hshl x hx).2.2.2.2.2.2.1]; exact (hshl x hx).2.2.2.1, (hshl x hx).2.1.2, by rw [s102]; exact (hshl x hx).2.2.2.2.2.2.2⟩) (fun x hx e1 e2 => hzq x.1 (rec_a hR hR2 hab k3 (hshl x hx).1.1.1 (hshl x hx).1.1.2 (hshl x hx).1.2) (hshl x hx).2.2.2.2.1 (by rw [← (hshl x hx).2.2.2.2.2.1, ← s99]; exact e1) e2)) dX6_replay_59 lk_X6_39_0 hl0 ⟨Nat.le_of_ble_eq_true rfl, Nat.le_of_ble_eq_true rfl⟩ (catLe (Nat.le_of_ble_eq_true rfl)) ⟨rfl, rfl⟩ rfl (Nat.le_of_ble_eq_true rfl) (Nat.le_of_ble_eq_true rfl) (fun S59 A59 p59 => ?_)
            obtain ⟨rfl, hF59, hv59⟩ := p59
            rw [elf] at hv59
            refine r_goto C (tgt := 80) dX6_replay_62 (by decide) ?_
            first
            | exact next S59 (by omega) (hF.tr (hF59.sub (by decide))) hv59 (fun r hr kr ir nr => by
                 have e33 := hF59 33 r (by decide)
                 rw [e33]
                 rcases List.mem_append.mp hr with hr | hr
                 · exact hzq r hr kr ir (fun q => nr (by rw [hsl, og_lf _ _ _ _ _ (fun x hx => ⟨(hshl x hx).2.2.1, (hshl x hx).2.2.2.1.1⟩) hWI.1]; exact q))
                 · rw [List.mem_singleton.mp hr] at kr; omega)
            | exact next S77 (by omega) (hF.tr hF77) hv77 (fun r hr kr ir nr => by
                 by_cases e : r = s
                 · exfalso
                   refine nr ?_
                   rw [esw, e]
                   unfold moveW
                   rw [if_pos (by rw [← e]; exact kr)]
                   show s ∈ og (w.q ++ [(R.qt s, R.co s, s)])
                   simp [og]
                 · have h9 := hu77 r e nr
                   rcases List.mem_append.mp hr with hr | hr
                   · by_cases q : r ∈ og w.q
                     · exact h9.2 q
                     · rw [h9.1 q]; exact hzq r hr kr ir q
                   · exact absurd (List.mem_singleton.mp hr) e)
            | exact next S1 (by omega) hF (by
                have h9 : stepW R item w s = w := by unfold stepW; rw [if_neg (by omega), if_neg (by omega)]
                rw [h9]; exact hV) (fun r hr kr ir nr => by
                 have h9 : stepW R item w s = w := by unfold stepW; rw [if_neg (by omega), if_neg (by omega)]
                 rw [h9] at nr
                 rcases List.mem_append.mp hr with hr | hr
                 · exact hzq r hr kr ir nr
                 · rw [List.mem_singleton.mp hr] at ir; omega)
  refine r_aload_n C dX6_replay_0 lg_0 ?_
  refine r_iconst C dX6_replay_1 ?_
  refine r_putI C 0 dX6_replay_2 fg_X6_9_0 rfl rfl hl0 (fun q h => by cases h; exact Or.inl rfl) (by omega) ?_
  refine r_gS (fun S2 h2 => ?_)
  have f2 : Fr [33, 34, 35, 5, 6, 0, 1, 2, 3, 4, 106] S S2 := by rw [h2]; exact Fr.up (by decide)
  have x0 := (congrFun (congrFun h2 0) 0).trans (upS_self _ _ _ _)
  refine r_aload_n C dX6_replay_5 lg_0 ?_
  refine r_lconst C dX6_replay_6 0 rfl ?_
  refine r_putJ C 1 dX6_replay_7 fg_X6_15_0 rfl rfl hl0 (fun q h => by cases h; exact Or.inl rfl) (by omega) ?_
  refine r_gS (fun S7 h7 => ?_)
  have f7 : Fr [33, 34, 35, 5, 6, 0, 1, 2, 3, 4, 106] S2 S7 := by rw [h7]; exact Fr.up (by decide)
  have x0 := (congrFun (congrFun h7 0) 0).trans ((upS_c _ _ (by decide)).trans x0)
  have x1 := (congrFun (congrFun h7 1) 0).trans (upS_self _ _ _ _)
  refine r_aload_n C dX6_replay_10 lg_0 ?_
  refine r_lconst C dX6_replay_11 0 rfl ?_
  refine r_putJ C 2 dX6_replay_12 fg_X6_19_0 rfl rfl hl0 (fun q h => by cases h; exact Or.inl rfl) (by omega) ?_
  refine r_gS (fun S12 h12 => ?_)
  have f12 : Fr [33, 34, 35, 5, 6, 0, 1, 2, 3, 4, 106] S7 S12 := by rw [h12]; exact Fr.up (by decide)
  have x0 := (congrFun (congrFun h12 0) 0).trans ((upS_c _ _ (by decide)).trans x0)
  have x1 := (congrFun (congrFun h12 1) 0).trans ((upS_c _ _ (by decide)).trans x1)
  have x2 := (congrFun (congrFun h12 2) 0).trans (upS_self _ _ _ _)
  refine r_aload_n C dX6_replay_15 lg_0 ?_
  refine r_lconst C dX6_replay_16 0 rfl ?_
  refine r_putJ C 3 dX6_replay_17 fg_X6_22_0 rfl rfl hl0 (fun q h => by cases h; exact Or.inl rfl) (by omega) ?_
  refine r_gS (fun S17 h17 => ?_)
  have f17 : Fr [33, 34, 35, 5, 6, 0, 1, 2, 3, 4, 106] S12 S17 := by rw [h17]; exact Fr.up (by decide)
  have x0 := (congrFun (congrFun h17 0) 0).trans ((upS_c _ _ (by decide)).trans x0)
  have x1 := (congrFun (congrFun h17 1) 0).trans ((upS_c _ _ (by decide)).trans x1)
  have x2 := (congrFun (congrFun h17 2) 0).trans ((upS_c _ _ (by decide)).trans x2)
  have x3 := (congrFun (congrFun h17 3) 0).trans (upS_self _ _ _ _)
  refine r_aload_n C dX6_replay_20 lg_0 ?_
  refine r_lconst C dX6_replay_21 0 rfl ?_
  refine r_putJ C 4 dX6_replay_22 fg_X6_25_0 rfl rfl hl0 (fun q h => by cases h; exact Or.inl rfl) (by omega) ?_
  refine r_gS (fun S22 h22 => ?_)
  have f22 : Fr [33, 34, 35, 5, 6, 0, 1, 2, 3, 4, 106] S17 S22 := by rw [h22]; exact Fr.up (by decide)
  have x0 := (congrFun (congrFun h22 0) 0).trans ((upS_c _ _ (by decide)).trans x0)
  have x1 := (congrFun (congrFun h22 1) 0).trans ((upS_c _ _ (by decide)).trans x1)
  have x2 := (congrFun (congrFun h22 2) 0).trans ((upS_c _ _ (by decide)).trans x2)
  have x3 := (congrFun (congrFun h22 3) 0).trans ((upS_c _ _ (by decide)).trans x3)
  have x4 := (congrFun (congrFun h22 4) 0).trans (upS_self _ _ _ _)
  refine r_aload_n C dX6_replay_25 lg_0 ?_
  refine q_U0V C (cF_empty hfl (by assumption)) dX6_replay_26 lk_X6_28_0 hl0 ⟨Nat.le_of_ble_eq_true rfl, Nat.le_of_ble_eq_true rfl⟩ (catLe (Nat.le_of_ble_eq_true rfl)) ⟨rfl, rfl⟩ rfl (Nat.le_of_ble_eq_true rfl) (Nat.le_of_ble_eq_true rfl) (fun S26 A26 p26 => ?_)
  obtain ⟨rfl, rfl⟩ := p26
  refine r_aload_n C dX6_replay_29 lg_1 ?_
  refine r_astore C dX6_replay_30 (ls1_4 (cat_R _ _ _) rfl) ?_
  refine r_gS (fun S9 h9 => ?_)
  have hF9 : Fr [33, 34, 35, 5, 6, 0, 1, 2, 3, 4, 106] S S9 := (((((f2.tr f7).tr f12).tr f17).tr f22).tr (by rw [h9]; exact (Fr.up (by decide)).tr (Fr.up (by decide))))
  have hc9 := fun (c : Nat) (z : Int) (h5 : c ≠ 5) (h6 : c ≠ 6) => (congrFun (congrFun h9 c) z).trans ((upS_c _ _ h6).trans (upS_c _ _ h5))
  refine lp (LdR R) [] (S 64 0) (w00 (icF S)) S9 hch hF9 ⟨(hc9 0 0 (by decide) (by decide)).trans x0, (hc9 1 0 (by decide) (by decide)).trans x1, (hc9 2 0 (by decide) (by decide)).trans x2, (hc9 3 0 (by decide) (by decide)).trans x3, (hc9 4 0 (by decide) (by decide)).trans x4, ⟨?_, ?_⟩, fun r => ?_⟩ (WI_00 _ _ _) rfl hval (fun r hr => by cases hr) rfl
  · rw [h9, upS_c _ _ (by decide), upS_self]; rfl
  · rw [h9, upS_self]; rfl
  · show S9 106 r = S 106 (2 * r / 2)
    rw [show 2 * r / 2 = r by omega, hc9 106 r (by decide) (by decide), h22, upS_c _ _ (by decide), h17, upS_c _ _ (by decide), h12, upS_c _ _ (by decide), h7, upS_c _ _ (by decide), h2, upS_c _ _ (by decide)]
set_option maxRecDepth 20000 in
theorem cV4_replay {G : GT} {l : Launch} (hfl : l.stackTraces = false) {S : ST} {A : AB} {item day : Int} {R : RW} (hl4 : lv1 A 4 0) (hCK : CK R S A) (hR : RG R) (hR2 : RG2 R) (hit : 0 ≤ item ∧ item ≤ 5) (hd : rI day) (hval : RV R item) : CT G l yX6_replay cX6_replay 5 none (rmk 3 0 0 77) S A [vR A 4 0, vR A 3 (S 64 0), vI item, vI day] (oV fun S' A' => A = A' ∧ Fr [128, 129, 130, 131, 132, 133, 106] S S' ∧ AV S' (WKr R item day (icF S))) (noX) := by
  refine ct_ofN (own := RX6) (mn := "replay") rfl rfl (by decide) hfl (lv0 := [some (vR A 4 0), some (vR A 3 (S 64 0)), some (vI item), some (vI day), none]) (ent_1 (cat_R _ _ _) (ent_1 (cat_R _ _ _) (ent_1 rfl (ent_1 rfl (ent_n ent_0))))) rfl ?_
  intro J X C F FX FT FU hW hA
  have shF3 : ∀ (S1 : ST), Fr [128, 129, 130, 131, 132, 133, 106] S S1 → ∀ (c : Nat) (z : Int), (c = 160 ∨ c = 161 ∨ c = 162) → S1 c z = S c z := fun S1 hF c z hc => by
    rcases hc with h | h | h <;> rw [h] <;> exact hF _ z (by decide)
  have hCK0 := hCK
  obtain ⟨⟨l6, l2, l0, l4, l8, l9'⟩, _, ⟨hcn, hA3, hA1⟩, _, hrows, hch, _⟩ := hCK
  have hn := hR.1
  have lp : ∀ (b a : List Int) (s : Int) (w : WS) (S1 : ST) (hs : CH (S 104) s b) (hF : Fr [128, 129, 130, 131, 132, 133, 106] S S1) (hV : AV S1 w) (hWI : WI R item a (61 * a.length) w) (hab : LdR R = a ++ b) (hv : vld (chg R.kd R.it R.qt item) R.qt (tks R.kd R.it item) w.hand b) (hG : walkW R item day b w = WKr R item day (icF S)), J 32 [some (vR A 4 0), some (vR A 3 (S 64 0)), some (vI item), some (vI day), some (vR A 3 s)] [] S1 A 0 0 := by
    intro b
    have hlen := led_len R.dy R.gn R.n.toNat
    induction b with
    | nil =>
      intro a s w S1 hs hF hV hWI hab hv hG
      have hs : s = -1 := hs
      refine r_aload C dX6_replay_32 lg_4 ?_
      refine r_ifnull C (tgt := 90) dX6_replay_34 (by decide) (fun c34 => ?_) (fun c34 => ?_)
      · exact f_V F dX6_replay_90 ⟨rfl, hF, by rw [← hG]; exact hV⟩ (Nat.le_of_ble_eq_true rfl) (Nat.le_of_ble_eq_true rfl)
      · exfalso; omega
    | cons m t ih =>
      intro a s w S1 hs hF hV hWI hab hv hG
      obtain ⟨rfl, hs⟩ := hs
      have hlab : a.length + (t.length + 1) ≤ R.n.toNat := by have h9 : (LdR R).length ≤ R.n.toNat := hlen; rw [hab, List.length_append, List.length_cons] at h9; exact h9
      have hm := (led_mem R.dy R.gn R.n.toNat).mp (show s ∈ LdR R by rw [hab]; simp)
      have hm0 := hm.1.1
      have hm1 : s < R.n := by omega
      have hz : lv1 A 3 s := ⟨hm0, by omega⟩
      have hz1 : lv1 A 1 s := ⟨hm0, by omega⟩
      have hnd : (LdR R).Nodup := led_nd R.dy R.gn R.n.toNat
      rw [hab, List.nodup_append] at hnd
      have hma : s ∉ a := fun q => hnd.2.2 s q s List.mem_cons_self rfl
      have hst := WI_step hR hWI (by omega) hit.1 hm0 hm1 hma hv.1
      have hh : (stepW R item w s).hand = w.hand + chg R.kd R.it R.qt item s := by
        rw [hst.2.2.2.2.2.1, hs_one, ← hWI.2.2.2.2.2.1]
      obtain ⟨hra, c98, c102, hk012, hco, hk03, hitr, hdyr⟩ := row_ok hR hCK0 hm0 hm1
      obtain ⟨c97, c99, c100, c101⟩ := hra
      have g97 := hF 97 s (by decide)
      have g98 := hF 98 s (by decide)
      have g99 := hF 99 s (by decide)
      have g100 := hF 100 s (by decide)
      have g101 := hF 101 s (by decide)
      have g102 := hF 102 s (by decide)
      have g105 := hF 105 s (by decide)
      have hog : ∀ x ∈ og w.q, lv1 A 1 x := fun x hx => by
        obtain ⟨y, hy, e⟩ := List.mem_map.mp hx
        have h9 := (led_mem R.dy R.gn R.n.toNat).mp (show x ∈ LdR R by rw [hab, ← e]; exact List.mem_append_left _ (hWI.2.2.1 y hy))
        exact ⟨h9.1.1, by omega⟩
      have hG' : (if R.dy s ≤ day then walkW R item day t (stepW R item w s) else w) = WKr R item day (icF S) := hG
      have next : ∀ (S2 : ST), R.dy s ≤ day → Fr [128, 129, 130, 131, 132, 133, 106] S S2 → AV S2 (stepW R item w s) → J 80 [some (vR A 4 0), some (vR A 3 (S 64 0)), some (vI item), some (vI day), some (vR A 3 s)] [] S2 A 0 0 := by
        intro S2 hdy hF2 hV2
        refine r_aload C dX6_replay_80 lg_4 ?_
        refine r_getA C 104 3 dX6_replay_82 fg_X6_50_3 rfl rfl hz (fun g82 => ?_)
        rw [hF2 104 s (by decide)]
        refine r_astore C dX6_replay_85 (ls1_4 (cat_R _ _ _) rfl) ?_
        refine r_goto C (tgt := 32) dX6_replay_87 (by decide) ?_
        exact ih (a ++ [s]) (S 104 s) (stepW R item w s) S2 hs hF2 hV2 (WI_more hst (by rw [List.length_append, List.length_singleton]; omega)) (by rw [hab]; simp) (by rw [hh]; exact hv.2) (by rw [← hG', if_pos hdy])
      refine r_aload C dX6_replay_32 lg_4 ?_
      refine r_ifnull C (tgt := 90) dX6_replay_34 (by decide) (fun c34 => ?_) (fun c34 => ?_)
      · exfalso; omega
      · refine r_aload C dX6_replay_37 lg_4 ?_
        refine r_getI C 98 dX6_replay_39 fg_X6_31_3 rfl rfl hz (fun g39 => ?_)
        rw [g98, c98]
        refine r_iload_n C dX6_replay_42 lg_3 ?_
        refine r_icgt C (tgt := 90) dX6_replay_43 (by decide) (by omega) (by omega) (fun c43 => ?_) (fun c43 => ?_)
        · exact f_V F dX6_replay_90 ⟨rfl, hF, by rw [← hG', if_neg (by omega)]; exact hV⟩ (Nat.le_of_ble_eq_true rfl) (Nat.le_of_ble_eq_true rfl)
        · refine r_aload C dX6_replay_46 lg_4 ?_
          refine r_getI C 97 dX6_replay_48 fg_X6_36_3 rfl rfl hz (fun g48 => ?_)
          rw [g97, c97]
          refine r_iconst C dX6_replay_51 ?_
          refine r_icne C (tgt := 65) dX6_replay_52 (by decide) (by omega) (by omega) (fun c52 => ?_) (fun c52 => ?_)
          · refine r_aload C dX6_replay_65 lg_4 ?_
            refine r_getI C 99 dX6_replay_67 fg_X6_43_3 rfl rfl hz (fun g67 => ?_)
            rw [g99, c99]
            refine r_iload_n C dX6_replay_70 lg_2 ?_
            refine r_icne C (tgt := 80) dX6_replay_71 (by decide) (by omega) (by omega) (fun c71 => ?_) (fun c71 => ?_)
            · first
              | exact next S59 (by omega) (hF.tr (hF59.sub (by decide))) hv59
              | exact next S77 (by omega) (hF.tr hF77) hv77
              | exact next S1 (by omega) hF (by
                  have h9 : stepW R item w s = w := by unfold stepW; rw [if_neg (by omega), if_neg (by omega)]
                  rw [h9]; exact hV)
            · refine r_aload_n C dX6_replay_74 lg_0 ?_
              refine r_aload C dX6_replay_75 lg_4 ?_
              refine q_U1V C (cV4_apply hfl hl4 hV hWI ⟨by omega, by omega⟩ hz hma ⟨g97.trans c97, g99.trans c99, g100.trans c100, g101.trans c101⟩ (hk012 c52).1 (hk012 c52).2 hco (fun k0 => hv.1 ⟨by omega, by have := (hk012 c52).1; omega⟩) (hR2.1 s hm0 hm1)) dX6_replay_77 lk_X6_46_4 hl4 ⟨Nat.le_of_ble_eq_true rfl, Nat.le_of_ble_eq_true rfl⟩ (catLe (Nat.le_of_ble_eq_true rfl)) ⟨rfl, rfl⟩ rfl (Nat.le_of_ble_eq_true rfl) (Nat.le_of_ble_eq_true rfl) (fun S77 A77 p77 => ?_)
              obtain ⟨rfl, hF77, hv77⟩ := p77
              have esw : stepW R item w s = moveW R w s := by
                unfold stepW
                rw [if_neg (by omega), if_pos (by omega)]
              rw [← esw] at hv77
              first
              | exact next S59 (by omega) (hF.tr (hF59.sub (by decide))) hv59
              | exact next S77 (by omega) (hF.tr hF77) hv77
              | exact next S1 (by omega) hF (by
                  have h9 : stepW R item w s = w := by unfold stepW; rw [if_neg (by omega), if_neg (by omega)]
                  rw [h9]; exact hV)
          · have k3 : R.kd s = 3 := by omega
            have hsl := step_l hR hR2 (item := item) w hm0 hm1 k3
            obtain ⟨hshl, hSHC0, hll⟩ := shl_ok hR hCK0 hm0 hm1 k3
            have hSHC : SHC S1 (A.2 5) (S1 105 s) (shl R s) := by
              rw [g105]
              exact hSHC0.fr (Int.le_refl _) (fun c z hc _ _ => shF3 S1 hF c z hc)
            have s99 := hF.fn (c := 99) (by decide)
            have s100 := hF.fn (c := 100) (by decide)
            have s102 := hF.fn (c := 102) (by decide)
            have elf : lfold (S1 99) (S1 100) item (shl R s) w = stepW R item w s := by
              rw [hsl, s99, s100]
              exact lfold_c _ _ (fun x hx => ⟨(hshl x hx).2.2.2.2.2.1, (hshl x hx).2.2.2.2.2.2.1⟩)
            refine r_aload_n C dX6_replay_55 lg_0 ?_
            refine r_aload C dX6_replay_56 lg_4 ?_
            refine r_iload_n C dX6_replay_58 lg_2 ?_
            refine q_U2V C (cV4_shares hfl hl4 hz hV hWI ⟨by omega, by omega⟩ (by omega) hSHC (fun x hx => ⟨(hshl x hx).2.1.1, (hshl x hx).2.2.1, by rw [s100, (hshl x hx).2.2.2.2.2.2.1]; exact (hshl x hx).2.2.2.1⟩)) dX6_replay_59 lk_X6_39_4 hl4 ⟨Nat.le_of_ble_eq_true rfl, Nat.le_of_ble_eq_true rfl⟩ (catLe (Nat.le_of_ble_eq_true rfl)) ⟨rfl, rfl⟩ rfl (Nat.le_of_ble_eq_true rfl) (Nat.le_of_ble_eq_true rfl) (fun S59 A59 p59 => ?_)
            obtain ⟨rfl, hF59, hv59⟩ := p59
            rw [elf] at hv59
            refine r_goto C (tgt := 80) dX6_replay_62 (by decide) ?_
            first
            | exact next S59 (by omega) (hF.tr (hF59.sub (by decide))) hv59
            | exact next S77 (by omega) (hF.tr hF77) hv77
            | exact next S1 (by omega) hF (by
                have h9 : stepW R item w s = w := by unfold stepW; rw [if_neg (by omega), if_neg (by omega)]
                rw [h9]; exact hV)
  refine r_aload_n C dX6_replay_0 lg_0 ?_
  refine r_iconst C dX6_replay_1 ?_
  refine r_putI C 128 dX6_replay_2 fg_X6_9_4 rfl rfl hl4 (fun q h => by cases h; exact Or.inl rfl) (by omega) ?_
  refine r_gS (fun S2 h2 => ?_)
  have f2 : Fr [128, 129, 130, 131, 132, 133, 106] S S2 := by rw [h2]; exact Fr.up (by decide)
  have x128 := (congrFun (congrFun h2 128) 0).trans (upS_self _ _ _ _)
  refine r_aload_n C dX6_replay_5 lg_0 ?_
  refine r_lconst C dX6_replay_6 0 rfl ?_
  refine r_putJ C 129 dX6_replay_7 fg_X6_15_4 rfl rfl hl4 (fun q h => by cases h; exact Or.inl rfl) (by omega) ?_
  refine r_gS (fun S7 h7 => ?_)
  have f7 : Fr [128, 129, 130, 131, 132, 133, 106] S2 S7 := by rw [h7]; exact Fr.up (by decide)
  have x128 := (congrFun (congrFun h7 128) 0).trans ((upS_c _ _ (by decide)).trans x128)
  have x129 := (congrFun (congrFun h7 129) 0).trans (upS_self _ _ _ _)
  refine r_aload_n C dX6_replay_10 lg_0 ?_
  refine r_lconst C dX6_replay_11 0 rfl ?_
  refine r_putJ C 130 dX6_replay_12 fg_X6_19_4 rfl rfl hl4 (fun q h => by cases h; exact Or.inl rfl) (by omega) ?_
  refine r_gS (fun S12 h12 => ?_)
  have f12 : Fr [128, 129, 130, 131, 132, 133, 106] S7 S12 := by rw [h12]; exact Fr.up (by decide)
  have x128 := (congrFun (congrFun h12 128) 0).trans ((upS_c _ _ (by decide)).trans x128)
  have x129 := (congrFun (congrFun h12 129) 0).trans ((upS_c _ _ (by decide)).trans x129)
  have x130 := (congrFun (congrFun h12 130) 0).trans (upS_self _ _ _ _)
  refine r_aload_n C dX6_replay_15 lg_0 ?_
  refine r_lconst C dX6_replay_16 0 rfl ?_
  refine r_putJ C 131 dX6_replay_17 fg_X6_22_4 rfl rfl hl4 (fun q h => by cases h; exact Or.inl rfl) (by omega) ?_
  refine r_gS (fun S17 h17 => ?_)
  have f17 : Fr [128, 129, 130, 131, 132, 133, 106] S12 S17 := by rw [h17]; exact Fr.up (by decide)
  have x128 := (congrFun (congrFun h17 128) 0).trans ((upS_c _ _ (by decide)).trans x128)
  have x129 := (congrFun (congrFun h17 129) 0).trans ((upS_c _ _ (by decide)).trans x129)
  have x130 := (congrFun (congrFun h17 130) 0).trans ((upS_c _ _ (by decide)).trans x130)
  have x131 := (congrFun (congrFun h17 131) 0).trans (upS_self _ _ _ _)
  refine r_aload_n C dX6_replay_20 lg_0 ?_
  refine r_lconst C dX6_replay_21 0 rfl ?_
  refine r_putJ C 132 dX6_replay_22 fg_X6_25_4 rfl rfl hl4 (fun q h => by cases h; exact Or.inl rfl) (by omega) ?_
  refine r_gS (fun S22 h22 => ?_)
  have f22 : Fr [128, 129, 130, 131, 132, 133, 106] S17 S22 := by rw [h22]; exact Fr.up (by decide)
  have x128 := (congrFun (congrFun h22 128) 0).trans ((upS_c _ _ (by decide)).trans x128)
  have x129 := (congrFun (congrFun h22 129) 0).trans ((upS_c _ _ (by decide)).trans x129)
  have x130 := (congrFun (congrFun h22 130) 0).trans ((upS_c _ _ (by decide)).trans x130)
  have x131 := (congrFun (congrFun h22 131) 0).trans ((upS_c _ _ (by decide)).trans x131)
  have x132 := (congrFun (congrFun h22 132) 0).trans (upS_self _ _ _ _)
  refine r_aload_n C dX6_replay_25 lg_0 ?_
  refine q_U0V C (cA_empty hfl hl4) dX6_replay_26 lk_X6_28_4 hl4 ⟨Nat.le_of_ble_eq_true rfl, Nat.le_of_ble_eq_true rfl⟩ (catLe (Nat.le_of_ble_eq_true rfl)) ⟨rfl, rfl⟩ rfl (Nat.le_of_ble_eq_true rfl) (Nat.le_of_ble_eq_true rfl) (fun S26 A26 p26 => ?_)
  obtain ⟨rfl, rfl⟩ := p26
  refine r_aload_n C dX6_replay_29 lg_1 ?_
  refine r_astore C dX6_replay_30 (ls1_4 (cat_R _ _ _) rfl) ?_
  refine r_gS (fun S9 h9 => ?_)
  have hF9 : Fr [128, 129, 130, 131, 132, 133, 106] S S9 := (((((f2.tr f7).tr f12).tr f17).tr f22).tr (by rw [h9]; exact Fr.up (by decide)))
  have hc9 := fun (c : Nat) (z : Int) (h5 : c ≠ 133) => (congrFun (congrFun h9 c) z).trans (upS_c _ _ h5)
  refine lp (LdR R) [] (S 64 0) (w00 (icF S)) S9 hch hF9 ⟨(hc9 128 0 (by decide)).trans x128, (hc9 129 0 (by decide)).trans x129, (hc9 130 0 (by decide)).trans x130, (hc9 131 0 (by decide)).trans x131, (hc9 132 0 (by decide)).trans x132, (congrFun (congrFun h9 133) 0).trans (upS_self _ _ _ _), fun r => ?_⟩ (WI_00 _ _ _) rfl hval rfl
  show S9 106 r = S 106 ((2 * r + 1) / 2)
  rw [show (2 * r + 1) / 2 = r by omega, hc9 106 r (by decide), h22, upS_c _ _ (by decide), h17, upS_c _ _ (by decide), h12, upS_c _ _ (by decide), h7, upS_c _ _ (by decide), h2, upS_c _ _ (by decide)]
