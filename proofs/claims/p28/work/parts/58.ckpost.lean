/-! the class's object while a movement is being made -/
def NW (R : RW) (S : ST) (A : AB) (kd d it q co y : Int) (S2 : ST) (A2 : AB) : Prop := AE A A2 ∧ (A2.2 3 = R.n + 1 ∧ A2.2 1 = R.n + 1 ∧ A.2 5 ≤ A2.2 5 ∧ A2.2 5 ≤ A.2 5 + 60) ∧ (∀ k', k' ≠ 1 → k' ≠ 3 → k' ≠ 5 → A2.2 k' = A.2 k') ∧ (S2 96 R.n = R.n ∧ S2 97 R.n = kd ∧ S2 98 R.n = d ∧ S2 99 R.n = it ∧ S2 100 R.n = q ∧ S2 101 R.n = co ∧ S2 102 R.n = R.n ∧ S2 103 R.n = 0 ∧ S2 32 R.n = R.n ∧ S2 105 R.n = y) ∧ (∀ (c : Nat) (z : Int), ((c / 32 ≠ 3 ∧ c / 32 ≠ 1) ∨ z ≠ R.n) → (c / 32 ≠ 5 ∨ z < A.2 5) → S2 c z = S c z)
theorem nw_mk {R : RW} {S S1 S2 : ST} {A A1 A2 : AB} {kd d it q co : Int} (hCK : CK R S A) (hE1 : AE A A1) (hc1 : A1.2 3 = R.n + 1) (ho1 : ∀ k', k' ≠ 3 → A1.2 k' = A.2 k') (hs1 : ∀ (c : Nat) (z : Int), (c / 32 ≠ 3 ∨ (3 < 8 ∧ z ≠ R.n)) → S1 c z = S c z) (hd1 : ∀ (c : Nat) (z : Int), c / 32 = 3 → (8 ≤ 3 ∨ z = R.n) → S1 c z = dfl (tyC c))
    (hE2 : AE A1 A2) (ha2 : A2.2 1 = A1.2 1 + 1) (hb2 : ∀ k', k' ≠ 1 → A2.2 k' = A1.2 k') (hf2 : S2 96 R.n = R.n ∧ S2 97 R.n = kd ∧ S2 98 R.n = d ∧ S2 99 R.n = it ∧ S2 100 R.n = q ∧ S2 101 R.n = co ∧ S2 102 R.n = A1.2 1) (hg2 : S2 32 (A1.2 1) = R.n) (hF2 : ∀ (c : Nat) (w : Int), (c ∉ [96, 97, 98, 99, 100, 101, 102] ∨ w ≠ R.n) → (c / 32 ≠ 1 ∨ w ≠ A1.2 1) → S2 c w = S1 c w) : NW R S A kd d it q co (-1) S2 A2 := by
  have hA1 : A1.2 1 = R.n := by rw [ho1 1 (by omega)]; exact hCK.2.2.1.2.2
  rw [hA1] at ha2 hf2 hg2 hF2
  have x5 : A2.2 5 = A.2 5 := (hb2 5 (by omega)).trans (ho1 5 (by omega))
  refine ⟨hE1.tr hE2, ⟨by rw [hb2 3 (by omega)]; exact hc1, ha2, by omega, by omega⟩, fun k' h1 h3 _ => (hb2 k' h1).trans (ho1 k' h3), ⟨hf2.1, hf2.2.1, hf2.2.2.1, hf2.2.2.2.1, hf2.2.2.2.2.1, hf2.2.2.2.2.2.1, hf2.2.2.2.2.2.2, ?_, hg2, ?_⟩, fun c z hc _ => ?_⟩
  · rw [hF2 103 R.n (Or.inl (by decide)) (Or.inl (by decide)), hd1 103 R.n (by decide) (Or.inr rfl)]; rfl
  · rw [hF2 105 R.n (Or.inl (by decide)) (Or.inl (by decide)), hd1 105 R.n (by decide) (Or.inr rfl)]; rfl
  · have h7 : c ∉ [96, 97, 98, 99, 100, 101, 102] ∨ z ≠ R.n := by
      rcases hc with h | h
      · refine Or.inl (fun q => ?_)
        have : c / 32 = 3 := by
          simp only [List.mem_cons, List.not_mem_nil, or_false] at q
          omega
        exact h.1 this
      · exact Or.inr h
    rw [hF2 c z h7 (hc.imp (fun h => h.2) id), hs1 c z (hc.imp (fun h => h.1) (fun h => ⟨by omega, h⟩))]
theorem nw_put {R : RW} {S S2 S3 : ST} {A A2 A3 : AB} {kd d it q co y z : Int} (h : NW R S A kd d it q co y S2 A2) (hE : AE A2 A3) (ho : ∀ k', k' ≠ 5 → A3.2 k' = A2.2 k') (h5 : A2.2 5 ≤ A3.2 5) (h6 : A3.2 5 ≤ A.2 5 + 60) (hS : ∀ (c : Nat) (w : Int), (c / 32 ≠ 5 ∨ w < A2.2 5) → S3 c w = S2 c w) : NW R S A kd d it q co z (upS S3 105 R.n z) A3 := by
  obtain ⟨g1, ⟨g2, g3, g4⟩, g5, ⟨f1, f2, f3, f4, f5, f6, f7, f8, f9, f10⟩, g6⟩ := h
  have f : ∀ (c : Nat) (w : Int), c ≠ 105 → c / 32 ≠ 5 → upS S3 105 R.n z c w = S2 c w := fun c w hc h9 => by rw [upS_c _ _ hc]; exact hS c w (Or.inl h9)
  refine ⟨g1.tr hE, ⟨by rw [ho 3 (by omega)]; exact g2, by rw [ho 1 (by omega)]; exact g3, by omega, h6⟩, fun k' a b c => (ho k' c).trans (g5 k' a b c), ⟨?_, ?_, ?_, ?_, ?_, ?_, ?_, ?_, ?_, upS_self _ _ _ _⟩, fun c w hc hc5 => ?_⟩
  · rw [f 96 R.n (by omega) (by omega)]; exact f1
  · rw [f 97 R.n (by omega) (by omega)]; exact f2
  · rw [f 98 R.n (by omega) (by omega)]; exact f3
  · rw [f 99 R.n (by omega) (by omega)]; exact f4
  · rw [f 100 R.n (by omega) (by omega)]; exact f5
  · rw [f 101 R.n (by omega) (by omega)]; exact f6
  · rw [f 102 R.n (by omega) (by omega)]; exact f7
  · rw [f 103 R.n (by omega) (by omega)]; exact f8
  · rw [f 32 R.n (by omega) (by omega)]; exact f9
  · have e : upS S3 105 R.n z c w = S3 c w := by
      rcases hc with hc | hc
      · exact upS_c _ _ (fun e => hc.1 (by rw [e]))
      · exact upS_z _ _ hc
    rw [e, hS c w (hc5.imp id (fun h => by omega)), g6 c w hc hc5]
theorem nw_args {R : RW} {S S2 : ST} {A A2 : AB} {kd d it q co y : Int} (hCK : CK R S A) (hR : RG R) (hn : R.n < 60) (h : NW R S A kd d it q co y S2 A2) :
    (lv1 A2 6 0 ∧ lv1 A2 8 0 ∧ lv1 A2 2 0) ∧ (S2 192 0 = 0 ∧ S2 193 0 = 0) ∧ S2 197 0 = R.n ∧ (LdR R).length ≤ 60 ∧ CH (S2 104) (S2 64 0) (LdR R) ∧ (∀ x ∈ LdR R, 0 ≤ x ∧ x < A2.2 3) ∧ lv1 A2 3 R.n ∧ R.n ∉ LdR R ∧ (LdR R).Nodup ∧ srt (S2 98) (LdR R) ∧ S2 65 0 = (LdR R).length ∧ A2.2 3 ≤ 60 := by
  have hmm := ck_mem hCK hR
  obtain ⟨⟨l6, l2, l0, l4, l8, l9⟩, ⟨c1, c2, c3, c4, c5⟩, ⟨e1, e2, e3⟩, gpo, grw, gch, gsz⟩ := hCK
  obtain ⟨g1, ⟨g2, g3, g4⟩, g5, gf, g6⟩ := h
  have hn0 := hR.1
  have up : ∀ (k : Nat) (z : Int), lv1 A k z → lv1 A2 k z := fun k z h => ⟨h.1, (g1 k z h.2).2⟩
  have hlm : ∀ x ∈ LdR R, 0 ≤ x ∧ x < R.n := fun x hx => by have := (hmm.1 x hx).1; omega
  have ch : ∀ {l : List Int} {s : Int}, CH (S 104) s l → (∀ x ∈ l, x < R.n) → CH (S2 104) s l := by
    intro l
    induction l with
    | nil => intro s h _; exact h
    | cons x t ih =>
      rintro s ⟨h1, h2⟩ hl
      refine ⟨h1, ?_⟩
      rw [g6 104 x (Or.inr (by have := hl x List.mem_cons_self; omega)) (Or.inl (by decide))]
      exact ih h2 (fun y hy => hl y (List.mem_cons_of_mem _ hy))
  have sr : ∀ {l : List Int}, srt R.dy l → (∀ x ∈ l, 0 ≤ x ∧ x < R.n) → srt (S2 98) l := by
    intro l
    induction l with
    | nil => intro _ _; exact trivial
    | cons x t ih =>
      rintro ⟨h1, h2⟩ hl
      have hd : ∀ y, 0 ≤ y → y < R.n → S2 98 y = R.dy y := fun y y0 y1 => by
        rw [g6 98 y (Or.inr (by omega)) (Or.inl (by decide))]
        exact (grw y y0 y1).1.2.2.1
      refine ⟨fun y hy => ?_, ih h2 (fun y hy => hl y (List.mem_cons_of_mem _ hy))⟩
      have a := hl x List.mem_cons_self
      have b := hl y (List.mem_cons_of_mem _ hy)
      rw [hd x a.1 a.2, hd y b.1 b.2]
      exact h1 y hy
  refine ⟨⟨up _ _ l6, up _ _ l8, up _ _ l2⟩, ⟨?_, ?_⟩, ?_, hmm.2, ?_, fun x hx => ?_, ⟨hn0.1, by omega⟩, fun q => ?_, led_nd _ _ _, sr (led_srt _ _ _) hlm, ?_, by omega⟩
  · rw [g6 192 0 (Or.inl (by decide)) (Or.inl (by decide))]; exact c1
  · rw [g6 193 0 (Or.inl (by decide)) (Or.inl (by decide))]; exact c2
  · rw [g6 197 0 (Or.inl (by decide)) (Or.inl (by decide))]; exact e1
  · rw [g6 64 0 (Or.inl (by decide)) (Or.inl (by decide))]
    exact ch gch (fun x hx => (hlm x hx).2)
  · have := hlm x hx; omega
  · have := (hlm _ q).2; omega
  · rw [g6 65 0 (Or.inl (by decide)) (Or.inl (by decide))]; exact gsz
/-- what a posting leaves as it is -/
def CN (S : ST) (A : AB) (S' : ST) (A' : AB) : Prop := AE A A' ∧ (∀ (c : Nat) (z : Int), 224 ≤ c → c ≠ 256 → S' c z = S c z) ∧ S' 198 0 = S 198 0 ∧ (A'.2 5 ≤ A.2 5 + 60) ∧ (∀ k, k ≠ 1 → k ≠ 3 → k ≠ 5 → A'.2 k = A.2 k)
theorem nw_done {R : RW} {S S2 S' : ST} {A A2 : AB} {kd d it q co y sp : Int} {pt : Int → Int} (hCK : CK R S A) (hR : RG R) (hn : R.n < 60) (h : NW R S A kd d it q co y S2 A2) (hF : Fr [256, 197, 104, 64, 65] S2 S') (hcn : S' 197 0 = S2 197 0 + 1) (hpo : ∀ j, S' 256 j = if j = S2 197 0 then R.n else S2 256 j) (hch : CH (S' 104) (S' 64 0) (ins (S2 98) R.n (LdR R))) (hsz : S' 65 0 = S2 65 0 + 1)
    (hs3 : kd = 3 → SHC S2 (A2.2 5) y (shl (rwP R kd d it q co sp pt) R.n)) (hs9 : kd ≠ 3 → y = -1) (hpt : ∀ x r, 0 ≤ x → x < R.n → 0 ≤ r → r < 60 → pt (60 * x + r) = R.pt (60 * x + r)) : CK (rwP R kd d it q co sp pt) S' A2 ∧ CN S A S' A2 := by
  obtain ⟨a1, a2, a3, a4, a5, a6, a7, a8, a9, a10, a11, a12⟩ := nw_args hCK hR hn h
  have hmm := ck_mem hCK hR
  have hCK0 := hCK
  obtain ⟨_, _, ⟨e1, e2, e3⟩, gpo, grw, gch, gsz⟩ := hCK
  obtain ⟨g1, ⟨g2, g3, g4⟩, g5, ⟨f1, f2, f3, f4, f5, f6, f7, f8, f9, f10⟩, g6⟩ := h
  have hn0 := hR.1
  rw [a3] at hcn hpo
  have fr : ∀ (c : Nat) (z : Int), c ∉ [256, 197, 104, 64, 65] → ((c / 32 ≠ 3 ∧ c / 32 ≠ 1) ∨ z ≠ R.n) → (c / 32 ≠ 5 ∨ z < A.2 5) → S' c z = S c z := fun c z h1 h2 h3 => (hF c z h1).trans (g6 c z h2 h3)
  refine ⟨ck_add hCK0 ⟨hn0.1, hn⟩ g1 (by omega) (by omega) g4.1 (fun c z z0 z1 hc => ?_) (fun c z hc z0 z1 => ?_) (fun c c0 c1 => ?_) ⟨?_, ?_, ?_, ?_, ?_, ?_, ?_, ?_, ?_⟩ (fun k => ?_) (fun k => ?_) hpt hcn (fun j => ?_) ?_ ?_, g1, fun c z hc hc2 => ?_, ?_, g4.2, g5⟩
  · refine fr c z ?_ (Or.inr (by omega)) (Or.inl (by omega))
    simp only [List.mem_cons, List.not_mem_nil, or_false]; omega
  · refine fr c z ?_ (Or.inl (by omega)) (Or.inr z1)
    simp only [List.mem_cons, List.not_mem_nil, or_false]; omega
  · refine fr c 0 ?_ (Or.inl (by omega)) (Or.inl (by omega))
    simp only [List.mem_cons, List.not_mem_nil, or_false]; omega
  · rw [hF 96 R.n (by decide)]; exact f1
  · rw [hF 97 R.n (by decide)]; exact f2
  · rw [hF 98 R.n (by decide)]; exact f3
  · rw [hF 99 R.n (by decide)]; exact f4
  · rw [hF 100 R.n (by decide)]; exact f5
  · rw [hF 101 R.n (by decide)]; exact f6
  · rw [hF 102 R.n (by decide)]; exact f7
  · rw [hF 103 R.n (by decide)]; exact f8
  · rw [hF 32 R.n (by decide)]; exact f9
  · rw [hF 105 R.n (by decide), f10]
    refine (hs3 k).fr (Int.le_refl _) (fun c z hc _ _ => hF c z ?_)
    rcases hc with rfl | rfl | rfl <;> decide
  · rw [hF 105 R.n (by decide), f10]; exact hs9 k
  · rw [hpo j]
    by_cases e : j = R.n
    · rw [if_pos e, if_pos e]
    · rw [if_neg e, if_neg e]; exact g6 256 j (Or.inl (by decide)) (Or.inl (by decide))
  · rw [ins_c (dy := fu R.dy R.n d) (dy' := S2 98) (by rw [f3, fu_self]) (LdR R) (fun x hx => ?_)] at hch
    · exact hch
    · have h9 := hmm.1 x hx
      have h8 : x < R.n := by omega
      rw [fu_ne _ _ (by omega), g6 98 x (Or.inr (by omega)) (Or.inl (by decide))]
      exact (grw x h9.1.1 h8).1.2.2.1
  · rw [hsz, g6 65 0 (Or.inl (by decide)) (Or.inl (by decide))]
  · refine fr c z ?_ (Or.inl (by omega)) (Or.inl (by omega))
    simp only [List.mem_cons, List.not_mem_nil, or_false]; omega
  · exact fr 198 0 (by decide) (Or.inl (by decide)) (Or.inl (by decide))
