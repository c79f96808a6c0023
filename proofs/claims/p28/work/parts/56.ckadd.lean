/-! the class's object after a change of the rows -/
theorem ins_c {dy dy' : Int → Int} {m : Int} (hm : dy' m = dy m) : ∀ l : List Int, (∀ x ∈ l, dy' x = dy x) → ins dy' m l = ins dy m l
  | [], _ => rfl
  | x :: t, h => by
    show (if dy' m < dy' x then m :: x :: t else x :: ins dy' m t) = (if dy m < dy x then m :: x :: t else x :: ins dy m t)
    rw [hm, h x List.mem_cons_self, ins_c hm t (fun y hy => h y (List.mem_cons_of_mem _ hy))]
theorem led_c {dy gn dy' gn' : Int → Int} : ∀ n : Nat, (∀ m : Int, 0 ≤ m → m < n → dy' m = dy m ∧ gn' m = gn m) → led dy' gn' n = led dy gn n
  | 0, _ => rfl
  | n + 1, h => by
    have h1 := led_c n (fun m m0 m1 => h m m0 (by omega))
    have h2 := h n (by omega) (by omega)
    show (if gn' n = 0 then ins dy' n (led dy' gn' n) else led dy' gn' n) = (if gn n = 0 then ins dy n (led dy gn n) else led dy gn n)
    rw [h1, h2.2, ins_c h2.1 _ (fun x hx => (h x ((led_mem dy gn n).mp hx).1.1 (by have := ((led_mem dy gn n).mp hx).1.2; omega)).1)]
/-- the rows with one more -/
def rwP (R : RW) (kd d it q co sp : Int) (pt : Int → Int) : RW := ⟨fu R.kd R.n kd, fu R.dy R.n d, fu R.it R.n it, fu R.qt R.n q, fu R.co R.n co, fu R.gn R.n 0, fu R.sp R.n sp, pt, R.n + 1⟩
theorem LdR_P {R : RW} {kd d it q co sp : Int} {pt : Int → Int} (h : 0 ≤ R.n) : LdR (rwP R kd d it q co sp pt) = ins (fu R.dy R.n d) R.n (LdR R) := by
  show led (fu R.dy R.n d) (fu R.gn R.n 0) (R.n + 1).toNat = _
  rw [toN_s h]
  show (if fu R.gn R.n 0 (R.n.toNat : Int) = 0 then ins (fu R.dy R.n d) (R.n.toNat : Int) (led (fu R.dy R.n d) (fu R.gn R.n 0) R.n.toNat) else led (fu R.dy R.n d) (fu R.gn R.n 0) R.n.toNat) = _
  rw [Int.toNat_of_nonneg h, fu_self, if_pos rfl, led_c (dy := R.dy) (gn := R.gn) R.n.toNat (fun m m0 m1 => ⟨fu_ne _ _ (by omega), fu_ne _ _ (by omega)⟩)]
theorem shl_P {R : RW} {kd d it q co sp x : Int} {pt : Int → Int} (h : x ≠ R.n) (hpt : ∀ r, 0 ≤ r → r < 60 → pt (60 * x + r) = R.pt (60 * x + r)) : shl (rwP R kd d it q co sp pt) x = shl R x := by
  unfold shl
  show (b60.1 (fu R.sp R.n sp x)).map (fun r => (r, pt (60 * x + r))) = _
  rw [fu_ne _ _ h]
  refine List.map_congr_left (fun r hr => ?_)
  rw [b60_e] at hr
  have h9 := (bl_mem 60).mp hr
  rw [hpt r h9.1.1 (by have := h9.1.2; omega)]
theorem ck_add {R : RW} {S S' : ST} {A A' : AB} {kd d it q co sp : Int} {pt : Int → Int} (hCK : CK R S A) (hn : 0 ≤ R.n ∧ R.n < 60)
    (hE : AE A A') (h3 : A'.2 3 = A.2 3 + 1) (h1 : A'.2 1 = A.2 1 + 1) (h5 : A.2 5 ≤ A'.2 5)
    (hold : ∀ (c : Nat) (z : Int), 0 ≤ z → z < R.n → (c = 32 ∨ (96 ≤ c ∧ c ≤ 103) ∨ c = 105) → S' c z = S c z)
    (hsh : ∀ (c : Nat) (z : Int), (c = 160 ∨ c = 161 ∨ c = 162) → 0 ≤ z → z < A.2 5 → S' c z = S c z)
    (hlb : ∀ c : Nat, 192 ≤ c → c ≤ 196 → S' c 0 = S c 0)
    (hnew : S' 96 R.n = R.n ∧ S' 97 R.n = kd ∧ S' 98 R.n = d ∧ S' 99 R.n = it ∧ S' 100 R.n = q ∧ S' 101 R.n = co ∧ S' 102 R.n = R.n ∧ S' 103 R.n = 0 ∧ S' 32 R.n = R.n)
    (hs3 : kd = 3 → SHC S' (A'.2 5) (S' 105 R.n) (shl (rwP R kd d it q co sp pt) R.n)) (hs9 : kd ≠ 3 → S' 105 R.n = -1)
    (hpt : ∀ x r, 0 ≤ x → x < R.n → 0 ≤ r → r < 60 → pt (60 * x + r) = R.pt (60 * x + r))
    (hcn : S' 197 0 = R.n + 1) (hpo : ∀ j, S' 256 j = if j = R.n then R.n else S 256 j)
    (hch : CH (S' 104) (S' 64 0) (ins (fu R.dy R.n d) R.n (LdR R))) (hsz : S' 65 0 = S 65 0 + 1) : CK (rwP R kd d it q co sp pt) S' A' := by
  obtain ⟨⟨l6, l2, l0, l4, l8, l9⟩, ⟨g1, g2, g3, g4, g5⟩, ⟨e1, e2, e3⟩, gpo, grw, gch, gsz⟩ := hCK
  have up : ∀ (k : Nat) (z : Int), lv1 A k z → lv1 A' k z := fun k z h => ⟨h.1, (hE k z h.2).2⟩
  refine ⟨⟨up _ _ l6, up _ _ l2, up _ _ l0, up _ _ l4, up _ _ l8, up _ _ l9⟩, ⟨?_, ?_, ?_, ?_, ?_⟩, ⟨hcn, ?_, ?_⟩, fun j j0 j1 => ?_, fun m m0 m1 => ?_, ?_, ?_⟩
  · rw [hlb 192 (by omega) (by omega)]; exact g1
  · rw [hlb 193 (by omega) (by omega)]; exact g2
  · rw [hlb 194 (by omega) (by omega)]; exact g3
  · rw [hlb 195 (by omega) (by omega)]; exact g4
  · rw [hlb 196 (by omega) (by omega)]; exact g5
  · show A'.2 3 = R.n + 1; omega
  · show A'.2 1 = R.n + 1; omega
  · rw [hpo j]
    show _ = if j < R.n + 1 then j else -1
    by_cases e : j = R.n
    · rw [if_pos e, if_pos (by omega), e]
    · rw [if_neg e, gpo j j0 j1]
      by_cases e2 : j < R.n
      · rw [if_pos e2, if_pos (by omega)]
      · rw [if_neg e2, if_neg (by omega)]
  · have m1' : m < R.n + 1 := m1
    by_cases e : m = R.n
    · subst e
      refine ⟨?_, ?_, ?_⟩
      · show S' 96 R.n = R.n ∧ S' 97 R.n = fu R.kd R.n kd R.n ∧ S' 98 R.n = fu R.dy R.n d R.n ∧ S' 99 R.n = fu R.it R.n it R.n ∧ S' 100 R.n = fu R.qt R.n q R.n ∧ S' 101 R.n = fu R.co R.n co R.n ∧ S' 102 R.n = R.n ∧ S' 103 R.n = fu R.gn R.n 0 R.n ∧ S' 32 R.n = R.n
        rw [fu_self, fu_self, fu_self, fu_self, fu_self, fu_self]
        exact hnew
      · show fu R.kd R.n kd R.n = 3 → _
        rw [fu_self]; exact hs3
      · show fu R.kd R.n kd R.n ≠ 3 → _
        rw [fu_self]; exact hs9
    · obtain ⟨⟨a1, a2, a3, a4, a5, a6, a7, a8, a9⟩, b1, b2⟩ := grw m m0 (by omega)
      have hm : m < R.n := by omega
      refine ⟨?_, ?_, ?_⟩
      · show S' 96 m = m ∧ S' 97 m = fu R.kd R.n kd m ∧ S' 98 m = fu R.dy R.n d m ∧ S' 99 m = fu R.it R.n it m ∧ S' 100 m = fu R.qt R.n q m ∧ S' 101 m = fu R.co R.n co m ∧ S' 102 m = m ∧ S' 103 m = fu R.gn R.n 0 m ∧ S' 32 m = m
        rw [fu_ne _ _ e, fu_ne _ _ e, fu_ne _ _ e, fu_ne _ _ e, fu_ne _ _ e, fu_ne _ _ e]
        rw [hold 96 m m0 hm (by omega), hold 97 m m0 hm (by omega), hold 98 m m0 hm (by omega), hold 99 m m0 hm (by omega), hold 100 m m0 hm (by omega), hold 101 m m0 hm (by omega), hold 102 m m0 hm (by omega), hold 103 m m0 hm (by omega), hold 32 m m0 hm (by omega)]
        exact ⟨a1, a2, a3, a4, a5, a6, a7, a8, a9⟩
      · show fu R.kd R.n kd m = 3 → _
        rw [fu_ne _ _ e, shl_P e (fun r r0 r1 => hpt m r m0 hm r0 r1), hold 105 m m0 hm (by omega)]
        intro k
        exact (b1 k).fr h5 hsh
      · show fu R.kd R.n kd m ≠ 3 → _
        rw [fu_ne _ _ e, hold 105 m m0 hm (by omega)]
        exact b2
  · rw [LdR_P hn.1]; exact hch
  · rw [LdR_P hn.1, ins_len, hsz, gsz]; rfl
/-- the same rows as far as they count -/
def REq (R R' : RW) : Prop := R'.n = R.n ∧ ∀ m, 0 ≤ m → m < R.n → (R'.kd m = R.kd m ∧ R'.dy m = R.dy m ∧ R'.it m = R.it m ∧ R'.qt m = R.qt m ∧ R'.co m = R.co m ∧ R'.gn m = R.gn m) ∧ (R.kd m = 3 → R'.sp m = R.sp m ∧ ∀ r, 0 ≤ r → r < 60 → hasB (R.sp m) r → R'.pt (60 * m + r) = R.pt (60 * m + r))
theorem req_led {R R' : RW} (h : REq R R') (hn : 0 ≤ R.n) : LdR R' = LdR R := by
  show led R'.dy R'.gn R'.n.toNat = led R.dy R.gn R.n.toNat
  rw [h.1]
  exact led_c _ (fun m m0 m1 => ⟨(h.2 m m0 (by omega)).1.2.1, (h.2 m m0 (by omega)).1.2.2.2.2.2⟩)
theorem req_shl {R R' : RW} (h : REq R R') {m : Int} (m0 : 0 ≤ m) (m1 : m < R.n) (k : R.kd m = 3) : shl R' m = shl R m := by
  obtain ⟨h1, h2⟩ := (h.2 m m0 m1).2 k
  show (b60.1 (R'.sp m)).map (fun r => (r, R'.pt (60 * m + r))) = (b60.1 (R.sp m)).map (fun r => (r, R.pt (60 * m + r)))
  rw [h1]
  refine List.map_congr_left (fun r hr => ?_)
  rw [b60_e] at hr
  have h9 := (bl_mem 60).mp hr
  rw [h2 r h9.1.1 (by have := h9.1.2; omega) h9.2]
theorem ck_eq {R R' : RW} {S : ST} {A : AB} (h : REq R R') (hn : 0 ≤ R.n) (hCK : CK R S A) : CK R' S A := by
  obtain ⟨l, g, ⟨e1, e2, e3⟩, gpo, grw, gch, gsz⟩ := hCK
  refine ⟨l, g, ⟨by rw [h.1]; exact e1, by rw [h.1]; exact e2, by rw [h.1]; exact e3⟩, fun j j0 j1 => by rw [h.1]; exact gpo j j0 j1, fun m m0 m1 => ?_, by rw [req_led h hn]; exact gch, by rw [req_led h hn]; exact gsz⟩
  rw [h.1] at m1
  obtain ⟨⟨a1, a2, a3, a4, a5, a6, a7, a8, a9⟩, b1, b2⟩ := grw m m0 m1
  obtain ⟨⟨q1, q2, q3, q4, q5, q6⟩, _⟩ := h.2 m m0 m1
  refine ⟨⟨a1, by rw [q1]; exact a2, by rw [q2]; exact a3, by rw [q3]; exact a4, by rw [q4]; exact a5, by rw [q5]; exact a6, a7, by rw [q6]; exact a8, a9⟩, ?_, ?_⟩
  · rw [q1]
    intro k
    rw [req_shl h m0 m1 k]
    exact b1 k
  · rw [q1]; exact b2
/-- nothing of the class's rows has changed -/
theorem ck_fr {R : RW} {S S' : ST} {A : AB} {cs : List Nat} (hCK : CK R S A) (hF : Fr cs S S') (hc : ∀ c ∈ [32, 64, 65, 96, 97, 98, 99, 100, 101, 102, 103, 104, 105, 160, 161, 162, 192, 193, 194, 195, 196, 197, 256], c ∉ cs) : CK R S' A := by
  have f : ∀ c ∈ [32, 64, 65, 96, 97, 98, 99, 100, 101, 102, 103, 104, 105, 160, 161, 162, 192, 193, 194, 195, 196, 197, 256], S' c = S c := fun c h => hF.fn (hc c h)
  obtain ⟨l, g, e, gpo, grw, gch, gsz⟩ := hCK
  refine ⟨l, ?_, ?_, ?_, fun m m0 m1 => ?_, ?_, ?_⟩
  · rw [f 192 (by decide), f 193 (by decide), f 194 (by decide), f 195 (by decide), f 196 (by decide)]; exact g
  · rw [f 197 (by decide)]; exact e
  · rw [f 256 (by decide)]; exact gpo
  · rw [f 96 (by decide), f 97 (by decide), f 98 (by decide), f 99 (by decide), f 100 (by decide), f 101 (by decide), f 102 (by decide), f 103 (by decide), f 32 (by decide), f 105 (by decide)]
    refine ⟨(grw m m0 m1).1, fun k => ((grw m m0 m1).2.1 k).fr (Int.le_refl _) (fun c z h _ _ => ?_), (grw m m0 m1).2.2⟩
    rcases h with rfl | rfl | rfl
    · rw [f 160 (by decide)]
    · rw [f 161 (by decide)]
    · rw [f 162 (by decide)]
  · rw [f 104 (by decide), f 64 (by decide)]; exact gch
  · rw [f 65 (by decide)]; exact gsz
/-- the order without one -/
theorem lex_ne {dy : Int → Int} {x y : Int} (h : lex dy x y) : ¬ lex dy y x ∧ x ≠ y := by
  unfold lex at *
  exact ⟨by omega, by rintro rfl; omega⟩
theorem pw_ext {dy : Int → Int} : ∀ (l l' : List Int), l.Pairwise (lex dy) → l'.Pairwise (lex dy) → (∀ x, x ∈ l ↔ x ∈ l') → l = l'
  | [], [], _, _, _ => rfl
  | [], y :: t', _, _, h => by cases (h y).mpr List.mem_cons_self
  | x :: t, [], _, _, h => by cases (h x).mp List.mem_cons_self
  | x :: t, y :: t', h1, h2, h => by
    obtain ⟨a1, a2⟩ := List.pairwise_cons.mp h1
    obtain ⟨b1, b2⟩ := List.pairwise_cons.mp h2
    have e : x = y := by
      rcases List.mem_cons.mp ((h x).mp List.mem_cons_self) with e | hx
      · exact e
      · rcases List.mem_cons.mp ((h y).mpr List.mem_cons_self) with e | hy
        · exact e.symm
        · exact absurd (a1 y hy) (lex_ne (b1 x hx)).1
    subst e
    rw [pw_ext t t' a2 b2 (fun z => ?_)]
    constructor
    · intro hz
      rcases List.mem_cons.mp ((h z).mp (List.mem_cons_of_mem _ hz)) with e | q
      · exact absurd e.symm (lex_ne (a1 z hz)).2
      · exact q
    · intro hz
      rcases List.mem_cons.mp ((h z).mpr (List.mem_cons_of_mem _ hz)) with e | q
      · exact absurd e.symm (lex_ne (b1 z hz)).2
      · exact q
theorem led_rm {dy gn : Int → Int} {n : Nat} {m : Int} {a b : List Int} (h : led dy gn n = a ++ m :: b) : led dy (fu gn m 1) n = a ++ b := by
  have hp := led_pw dy gn n
  have hnd := led_nd dy gn n
  rw [h] at hp hnd
  refine pw_ext (dy := dy) _ _ (led_pw _ _ _) (hp.sublist (by simp)) (fun x => ?_)
  rw [led_mem]
  have hx := led_mem dy gn (y := x) n
  rw [h] at hx
  have hma : m ∉ a ++ b := by
    have := hnd.perm List.perm_middle
    exact (List.nodup_cons.mp this).1
  by_cases e : x = m
  · subst e
    rw [fu_self]
    exact ⟨fun q => absurd q.2 (by omega), fun q => absurd q hma⟩
  · rw [fu_ne _ _ e, ← hx]
    simp [e]
theorem led_sp {dy gn : Int → Int} {n : Nat} {m : Int} (h0 : 0 ≤ m) (h1 : m < n) (hg : gn m = 0) : ∃ a b, led dy gn n = a ++ m :: b := List.append_of_mem ((led_mem dy gn n).mpr ⟨⟨h0, h1⟩, hg⟩)
def rwC (R : RW) (m : Int) : RW := ⟨R.kd, R.dy, R.it, R.qt, R.co, fu R.gn m 1, R.sp, R.pt, R.n⟩
theorem ck_cancel {R : RW} {S S' : ST} {A : AB} {m : Int} {a b : List Int} (hCK : CK R S A) (hl : LdR R = a ++ m :: b) (hF : Fr [103, 104, 64, 65] S S') (hg : S' 103 = fu (S 103) m 1) (hch : CH (S' 104) (S' 64 0) (a ++ b)) (hsz : S' 65 0 = S 65 0 - 1) : CK (rwC R m) S' A := by
  obtain ⟨l, g, e, gpo, grw, gch, gsz⟩ := hCK
  have hL : LdR (rwC R m) = a ++ b := led_rm hl
  have f : ∀ c, c ∉ [103, 104, 64, 65] → S' c = S c := fun c h => hF.fn h
  refine ⟨l, ?_, ?_, ?_, fun x m0 m1 => ?_, ?_, ?_⟩
  · rw [f 192 (by decide), f 193 (by decide), f 194 (by decide), f 195 (by decide), f 196 (by decide)]; exact g
  · rw [f 197 (by decide)]; exact e
  · rw [f 256 (by decide)]; exact gpo
  · rw [f 96 (by decide), f 97 (by decide), f 98 (by decide), f 99 (by decide), f 100 (by decide), f 101 (by decide), f 102 (by decide), f 32 (by decide), f 105 (by decide), hg]
    obtain ⟨⟨a1, a2, a3, a4, a5, a6, a7, a8, a9⟩, b1, b2⟩ := grw x m0 m1
    refine ⟨⟨a1, a2, a3, a4, a5, a6, a7, ?_, a9⟩, fun k => (b1 k).fr (Int.le_refl _) (fun c z h _ _ => ?_), b2⟩
    · show fu (S 103) m 1 x = fu R.gn m 1 x
      unfold fu
      rw [a8]
    · rcases h with rfl | rfl | rfl
      · rw [f 160 (by decide)]
      · rw [f 161 (by decide)]
      · rw [f 162 (by decide)]
  · rw [hL]; exact hch
  · rw [hL, hsz, gsz, hl]; simp; omega
