/-! the law: what holds between two of its rounds; a posting -/
theorem ls1_19 {a0 a1 a2 a3 a4 a5 a6 a7 a8 a9 a10 a11 a12 a13 a14 a15 a16 a17 a18 x : Option Value} {t : List (Option Value)} {v : Value} (hc : v.category = 1) (hp : noL a18) : LSt (a0 :: a1 :: a2 :: a3 :: a4 :: a5 :: a6 :: a7 :: a8 :: a9 :: a10 :: a11 :: a12 :: a13 :: a14 :: a15 :: a16 :: a17 :: a18 :: x :: t) 19 v (a0 :: a1 :: a2 :: a3 :: a4 :: a5 :: a6 :: a7 :: a8 :: a9 :: a10 :: a11 :: a12 :: a13 :: a14 :: a15 :: a16 :: a17 :: a18 :: some v :: t) := LSt.one (pre := [a0, a1, a2, a3, a4, a5, a6, a7, a8, a9, a10, a11, a12, a13, a14, a15, a16, a17, a18]) hc (fun o h => by cases h; exact hp)
theorem lg_19 {a0 a1 a2 a3 a4 a5 a6 a7 a8 a9 a10 a11 a12 a13 a14 a15 a16 a17 a18 : Option Value} {t : List (Option Value)} {v : Value} : (a0 :: a1 :: a2 :: a3 :: a4 :: a5 :: a6 :: a7 :: a8 :: a9 :: a10 :: a11 :: a12 :: a13 :: a14 :: a15 :: a16 :: a17 :: a18 :: some v :: t)[19]? = some (some v) := rfl
theorem ls1_20 {a0 a1 a2 a3 a4 a5 a6 a7 a8 a9 a10 a11 a12 a13 a14 a15 a16 a17 a18 a19 x : Option Value} {t : List (Option Value)} {v : Value} (hc : v.category = 1) (hp : noL a19) : LSt (a0 :: a1 :: a2 :: a3 :: a4 :: a5 :: a6 :: a7 :: a8 :: a9 :: a10 :: a11 :: a12 :: a13 :: a14 :: a15 :: a16 :: a17 :: a18 :: a19 :: x :: t) 20 v (a0 :: a1 :: a2 :: a3 :: a4 :: a5 :: a6 :: a7 :: a8 :: a9 :: a10 :: a11 :: a12 :: a13 :: a14 :: a15 :: a16 :: a17 :: a18 :: a19 :: some v :: t) := LSt.one (pre := [a0, a1, a2, a3, a4, a5, a6, a7, a8, a9, a10, a11, a12, a13, a14, a15, a16, a17, a18, a19]) hc (fun o h => by cases h; exact hp)
theorem lg_20 {a0 a1 a2 a3 a4 a5 a6 a7 a8 a9 a10 a11 a12 a13 a14 a15 a16 a17 a18 a19 : Option Value} {t : List (Option Value)} {v : Value} : (a0 :: a1 :: a2 :: a3 :: a4 :: a5 :: a6 :: a7 :: a8 :: a9 :: a10 :: a11 :: a12 :: a13 :: a14 :: a15 :: a16 :: a17 :: a18 :: a19 :: some v :: t)[20]? = some (some v) := rfl
def PL (R : RW) (S : ST) (A : AB) : Prop := PI R S A ∧ RX R ∧ (∀ i, 0 ≤ i → i ≤ 5 → 1 ≤ S 288 i ∧ S 288 i ≤ 100) ∧ A.2 5 ≤ 60 * R.n ∧ (lv1 A 40 0 ∧ lv1 A 41 0 ∧ lv1 A 42 0) ∧ (S 1280 0 = S 198 0 ∧ -1 ≤ S 198 0 ∧ S 198 0 ≤ 364) ∧ (∀ m, 0 ≤ m → m < 60 → S 1312 m = if m < R.n then amR R m else 0) ∧ ∀ i, 0 ≤ i → i ≤ 5 → S 1344 i = S 288 i
theorem pl_fr {R : RW} {S S' : ST} {A : AB} (h : PL R S A) (hF : Fr QF S S') : PL R S' A := by
  obtain ⟨h1, h2, h3, h4, h5, h6, h7, h8⟩ := h
  refine ⟨pi_fr h1 hF, h2, ?_, h4, h5, ?_, ?_, ?_⟩
  · rw [hF.fn (c := 288) (by decide)]; exact h3
  · rw [hF 1280 0 (by decide), hF 198 0 (by decide)]; exact h6
  · rw [hF.fn (c := 1312) (by decide)]; exact h7
  · rw [hF.fn (c := 1344) (by decide), hF.fn (c := 288) (by decide)]; exact h8
theorem pl_w {R : RW} {S : ST} {A : AB} (h : PL R S A) : ∀ i, 0 ≤ i → i ≤ 5 → 0 ≤ S 288 i ∧ S 288 i ≤ 100 := fun i i0 i1 => by
  have := h.2.2.1 i i0 i1
  omega
theorem pl_5 {R : RW} {S : ST} {A : AB} (h : PL R S A) : A.2 5 ≤ 100000 := by
  have h1 := h.2.2.2.1
  have h2 := h.1.2.1.1
  omega
theorem pl_am {R : RW} {S : ST} {A : AB} (h : PL R S A) : ∀ m, 0 ≤ m → m < R.n → S 1312 m = amR R m := fun m m0 m1 => by
  have h2 := h.1.2.1.1
  have := h.2.2.2.2.2.2.1 m m0 (by omega)
  rw [if_pos m1] at this
  exact this
theorem acc7 {z a : Int} {GA B D : Prop} {C : Prop} {X Y : Prop} (h : (z = a ∧ (GA ∧ B) ∧ C) ∨ (z = -6 ∧ ¬ GA ∧ X) ∨ (z = -7 ∧ (GA ∧ ¬ D) ∧ Y)) (hg : GA) (hd : D) : z = a ∧ C := by
  rcases h with h | h | h
  · exact ⟨h.1, h.2.2⟩
  · exact absurd hg h.2.1
  · exact absurd hd h.2.1.2
theorem ref7 {z a : Int} {GA B D C X : Prop} {S S' : ST} {A A' : AB} (h : (z = a ∧ (GA ∧ B) ∧ C) ∨ (z = -6 ∧ ¬ GA ∧ X) ∨ (z = -7 ∧ (GA ∧ D) ∧ S = S' ∧ A = A')) (hg : GA) (hn : ¬ B) : -7 = z ∧ S = S' ∧ A = A' := by
  rcases h with h | h | h
  · exact absurd h.2.1.2 hn
  · exact absurd hg h.2.1
  · exact ⟨h.1.symm, h.2.2⟩
theorem amR_P {R : RW} {kd d it q co sp : Int} {pt : Int → Int} {m : Int} : (m < R.n → amR (rwP R kd d it q co sp pt) m = amR R m) ∧ amR (rwP R kd d it q co sp pt) R.n = (if kd = 3 then co else 0) := by
  unfold amR
  refine ⟨fun h => ?_, ?_⟩
  · show (if fu R.kd R.n kd m = 3 then fu R.co R.n co m else 0) = _
    rw [fu_ne _ _ (by omega), fu_ne _ _ (by omega)]
  · show (if fu R.kd R.n kd R.n = 3 then fu R.co R.n co R.n else 0) = _
    rw [fu_self, fu_self]
/-- what is left of PL when one is added, but for the amounts -/
theorem pl_add {R : RW} {S S' : ST} {A A' : AB} {kd d it q co sp : Int} {pt : Int → Int} (hL : PL R S A) (hC : CN S A S' A') (hP : PI (rwP R kd d it q co sp pt) S' A') (hX : RX (rwP R kd d it q co sp pt)) : (∀ i, 0 ≤ i → i ≤ 5 → 1 ≤ S' 288 i ∧ S' 288 i ≤ 100) ∧ A'.2 5 ≤ 60 * (R.n + 1) ∧ (lv1 A' 40 0 ∧ lv1 A' 41 0 ∧ lv1 A' 42 0) ∧ (S' 1280 0 = S' 198 0 ∧ -1 ≤ S' 198 0 ∧ S' 198 0 ≤ 364) ∧ (∀ m, S' 1312 m = S 1312 m) ∧ ∀ i, 0 ≤ i → i ≤ 5 → S' 1344 i = S' 288 i := by
  obtain ⟨h1, h2, h3, h4, h5, h6, h7, h8⟩ := hL
  obtain ⟨q1, q2, q3, q4, q5⟩ := hC
  have e288 : S' 288 = S 288 := funext fun z => q2 288 z (by decide) (by decide)
  refine ⟨by rw [e288]; exact h3, by omega, ⟨⟨h5.1.1, (q1 40 0 h5.1.2).2⟩, ⟨h5.2.1.1, (q1 41 0 h5.2.1.2).2⟩, ⟨h5.2.2.1, (q1 42 0 h5.2.2.2).2⟩⟩, ?_, fun m => q2 1312 m (by decide) (by decide), ?_⟩
  · rw [q2 1280 0 (by decide) (by decide), q3]; exact h6
  · rw [e288]
    intro i i0 i1
    rw [q2 1344 i (by decide) (by decide)]; exact h8 i i0 i1
theorem post_ok {R : RW} {S S' : ST} {A A' : AB} {kd d it q co : Int} (hL : PL R S A) (hkd : kd = 0 ∨ kd = 1 ∨ kd = 2) (hco : kd = 1 → co = 0) (hak : akOk it d) (hq : 1 ≤ q ∧ q ≤ 1000) (hc : 0 ≤ co ∧ co ≤ 1000000) (hn9 : R.n < 60) (hex : RV (rwP R kd d it q co 0 R.pt) it) (hK : CK (rwP R kd d it q co 0 R.pt) S' A') (hC : CN S A S' A') : ∃ R1 : RW, PL R1 S' A' ∧ R1.n = R.n + 1 ∧ R1.kd R.n = kd ∧ R1.dy R.n = d ∧ R1.gn R.n = 0 ∧ (∀ dd, d ≤ dd → haR R1 it dd = haR R it dd + (if kd = 0 then q else if kd = 1 then -q else 0)) ∧ (∀ i, ¬ it = i → ∀ u, 0 ≤ u → sgh (akv R1 i) u = sgh (akv R i) u) ∧ ∀ i u, 0 ≤ u → u < d → sgh (psA R1 i) u = sgh (psA R i) u := by
  have hLL := hL
  obtain ⟨⟨hCK, hR, hR2, hV⟩, hX, h3, h4, h5, h6, h7, h8⟩ := hL
  have hn := hR.1
  have hpt : ∀ m, 0 ≤ m → m < R.n → ∀ r, 0 ≤ r → r < 60 → R.pt (60 * m + r) = R.pt (60 * m + r) := fun _ _ _ _ _ _ => rfl
  have hk3 : ¬ kd = 3 := by omega
  have hg := rg_P (sp := 0) hR hR2 hn9 hpt (kd := kd) (d := d) (it := it) (q := q) (co := co) ⟨by omega, hak.2, fun _ => ⟨hak.1, hq.1⟩, by omega, hc⟩ hco (fun k => absurd k hk3)
  have hX' : RX (rwP R kd d it q co 0 R.pt) := rx_P hR hX hpt (fun k => absurd k hk3)
  have hPI : PI (rwP R kd d it q co 0 R.pt) S' A' := ⟨hK, hg.1, hg.2, fun i i0 i1 => by
    by_cases e : it = i
    · rw [← e]; exact hex
    · exact V_oth hn.1 e (hV i i0 i1)⟩
  obtain ⟨a1, a2, a3, a4, a5, a6⟩ := pl_add hLL hC hPI hX'
  have esame : ∀ {i dd w : Int}, (¬ it = i ∨ (dd < d ∧ ¬ w = 1)) → akv (rwP R kd d it q co 0 R.pt) i dd w = akv R i dd w := fun h => ak_same hR hR2 hn9 hk3 hpt h
  refine ⟨rwP R kd d it q co 0 R.pt, ⟨hPI, hX', a1, a2, a3, a4, fun m m0 m1 => ?_, a6⟩, rfl, fu_self _ _ _, fu_self _ _ _, fu_self _ _ _, fun dd hd => ha_more hR hd, fun i hi u hu => sgh_c hu (fun dd w _ _ _ _ => esame (Or.inl hi)), fun i u hu hud => sgh_c hu (fun dd w d0 d1 w0 w1 => ?_)⟩
  · rw [a5 m, h7 m m0 m1]
    show _ = if m < R.n + 1 then _ else 0
    by_cases e : m < R.n
    · rw [if_pos e, if_pos (by omega), amR_P.1 e]
    · rw [if_neg e]
      by_cases e2 : m = R.n
      · rw [e2, if_pos (by omega), (amR_P (m := 0)).2, if_neg hk3]
      · rw [if_neg (by omega)]
  · unfold psA
    by_cases w1' : w = 1
    · rw [if_pos w1', if_pos w1']
    · rw [if_neg w1', if_neg w1']
      exact esame (Or.inr ⟨by omega, w1'⟩)
