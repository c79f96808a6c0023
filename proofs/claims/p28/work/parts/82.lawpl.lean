/-! the law's rounds: closing, weights, the start -/
theorem set_bits {st v k : Int} (h : ∀ r, k ≤ r → r < 64 → ¬ hasB st r) (h0 : 0 ≤ k) (h1 : k < 60) (hv : v = fLshl 1 k ∨ v = 0) : ∀ r, k + 1 ≤ r → r < 64 → ¬ hasB (fLor st v) r := by
  intro r r0 r1
  rcases hv with rfl | rfl
  · rw [bit_or h0 (by omega) (by omega) r1]
    rintro (q | q)
    · exact h r (by omega) r1 q
    · omega
  · rw [bit_or0 (by omega) r1]
    exact h r (by omega) r1
theorem accK {z a : Int} {GA : Prop} {B C X Y : Prop} (h : (z = a ∧ (GA ∧ B) ∧ C) ∨ (z = -6 ∧ ¬ GA ∧ X) ∨ (z = -7 ∧ (GA ∧ ¬ B) ∧ Y)) (hg : GA) (hb : B) : z = a ∧ C := by
  rcases h with h | h | h
  · exact ⟨h.1, h.2.2⟩
  · exact absurd hg h.2.1
  · exact absurd hb h.2.1.2
theorem ref7K {z a : Int} {GA B C D X : Prop} {S S' : ST} (h : (z = a ∧ (GA ∧ B) ∧ C) ∨ (z = -6 ∧ ¬ GA ∧ X) ∨ (z = -7 ∧ (GA ∧ D) ∧ S = S')) (hg : GA) (hb : ¬ B) : -7 = z ∧ S = S' := by
  rcases h with h | h | h
  · exact absurd h.2.1.2 hb
  · exact absurd hg h.2.1
  · exact ⟨h.1.symm, h.2.2⟩
theorem accW {z a : Int} {GA C X : Prop} (h : (z = a ∧ GA ∧ C) ∨ (z = -6 ∧ ¬ GA ∧ X)) (hg : GA) : z = a ∧ C := by
  rcases h with h | h
  · exact ⟨h.1, h.2.2⟩
  · exact absurd hg h.2.1
theorem pi_up {R : RW} {S : ST} {A : AB} (h : PI R S A) {c : Nat} {z v : Int} (hc : ∀ c' ∈ [32, 64, 65, 96, 97, 98, 99, 100, 101, 102, 103, 104, 105, 160, 161, 162, 192, 193, 194, 195, 196, 197, 256], c' ∉ [c]) : PI R (upS S c z v) A := ⟨ck_fr h.1 (Fr.up List.mem_cons_self : Fr [c] S (upS S c z v)) hc, h.2⟩
theorem pl_close {R : RW} {S1 S2 S3 S4 : ST} {A : AB} {to : Int} (hL : PL R S1 A) (hto : 0 ≤ to ∧ to ≤ 364) (hF1 : Fr QF S1 S2) (h : upS S2 198 0 to = S3) (hF2 : Fr QF S3 S4) : PL R (upS S4 1280 0 to) A := by
  subst h
  obtain ⟨h1, h2, h3, h4, h5, h6, h7, h8⟩ := pl_fr hL hF1
  have e : ∀ c, c ≠ 198 → c ≠ 1280 → c ∉ QF → upS S4 1280 0 to c = S2 c := fun c a b d => by rw [upS_fn _ _ _ b, hF2.fn d, upS_fn _ _ _ a]
  refine ⟨pi_up (pi_fr (pi_up h1 (by decide)) hF2) (by decide), h2, ?_, h4, h5, ?_, ?_, ?_⟩
  · rw [e 288 (by decide) (by decide) (by decide)]; exact h3
  · rw [upS_self, upS_c _ _ (by decide), hF2 198 0 (by decide), upS_self]
    exact ⟨rfl, by omega, by omega⟩
  · rw [e 1312 (by decide) (by decide) (by decide)]; exact h7
  · rw [e 1344 (by decide) (by decide) (by decide), e 288 (by decide) (by decide) (by decide)]; exact h8
theorem pl_same {R : RW} {S : ST} {A : AB} (hL : PL R S A) {v : Int} (hv : v = S 198 0) : PL R (upS S 1280 0 v) A := by
  obtain ⟨h1, h2, h3, h4, h5, h6, h7, h8⟩ := hL
  refine ⟨pi_up h1 (by decide), h2, ?_, h4, h5, ?_, ?_, ?_⟩
  · rw [upS_fn _ _ _ (by decide)]; exact h3
  · rw [upS_self, upS_c _ _ (by decide)]
    exact ⟨hv, h6.2⟩
  · rw [upS_fn _ _ _ (by decide)]; exact h7
  · rw [upS_fn _ _ _ (by decide), upS_fn _ _ _ (by decide)]; exact h8
theorem pl_setw {R : RW} {S1 S2 S3 S4 S5 : ST} {A : AB} {i v : Int} (hL : PL R S1 A) (hi : 0 ≤ i ∧ i ≤ 5) (hv : 1 ≤ v ∧ v ≤ 100) (hF1 : Fr QF S1 S2) (h3 : S3 = upS S2 1344 i v) (h4 : upS S3 288 i v = S4) (hF2 : Fr QF S4 S5) : PL R S5 A := by
  subst h3
  subst h4
  refine pl_fr ?_ hF2
  obtain ⟨h1, h2, h3, h4, h5, h6, h7, h8⟩ := pl_fr hL hF1
  refine ⟨pi_up (pi_up h1 (by decide)) (by decide), h2, fun j j0 j1 => ?_, h4, h5, ?_, ?_, fun j j0 j1 => ?_⟩
  · by_cases e : j = i
    · rw [e, upS_self]; exact hv
    · rw [upS_z _ _ e, upS_c _ _ (by decide)]; exact h3 j j0 j1
  · rw [upS_c _ _ (by decide), upS_c _ _ (by decide), upS_c _ _ (by decide), upS_c _ _ (by decide)]; exact h6
  · rw [upS_fn _ _ _ (by decide), upS_fn _ _ _ (by decide)]; exact h7
  · rw [upS_c (c := 288) (c' := 1344) _ _ (by decide)]
    by_cases e : j = i
    · rw [e, upS_self, upS_self]
    · rw [upS_z _ _ e, upS_z _ _ e, upS_c _ _ (by decide)]; exact h8 j j0 j1
/-- the rows at the start -/
def R00 : RW := ⟨fun _ => 0, fun _ => 0, fun _ => 0, fun _ => 0, fun _ => 0, fun _ => 0, fun _ => 0, fun _ => 0, 0⟩
theorem pl_0 {S4 S9 S14 S19 S2 : ST} {A4 A9 A14 A19 : AB} (hck : ∀ R : RW, R.n = 0 → CK R S4 A4) (h198 : S4 198 0 = -1) (h288 : ∀ j, 0 ≤ j → j < 6 → S4 288 j = 1) (hA5 : A4.2 5 = 0) (hE9 : AE A4 A9) (h19 : A9.2 40 = 1) (h29 : ∀ k', k' ≠ 40 → A9.2 k' = A4.2 k') (hs9 : ∀ (c : Nat) (z : Int), c / 32 ≠ 40 → S9 c z = S4 c z)
    (hE14 : AE A9 A14) (h114 : A14.2 41 = 1) (h214 : ∀ k', k' ≠ 41 → A14.2 k' = A9.2 k') (hs14 : ∀ (c : Nat) (z : Int), c / 32 ≠ 41 → S14 c z = S9 c z) (hd14 : ∀ (c : Nat) (z : Int), c / 32 = 41 → (8 ≤ 41 ∨ z = 0) → S14 c z = dfl (tyC c))
    (hE19 : AE A14 A19) (h119 : A19.2 42 = 1) (h219 : ∀ k', k' ≠ 42 → A19.2 k' = A14.2 k') (hs19 : ∀ (c : Nat) (z : Int), c / 32 ≠ 42 → S19 c z = S14 c z)
    (hF : Fr [1344] (upS S19 1280 0 (-1)) S2) (h1344 : ∀ j, 0 ≤ j → j < 6 → S2 1344 j = 1) : PL R00 S2 A19 := by
  have f : ∀ c, c / 32 ≠ 40 → c / 32 ≠ 41 → c / 32 ≠ 42 → S2 c = S4 c := fun c a b d => by
    funext z
    rw [hF c z (by
      intro q
      rw [List.mem_singleton.mp q] at d
      exact d (by decide)), upS_c _ _ (fun q => a (by rw [q])), hs19 c z d, hs14 c z b, hs9 c z a]
  have c1 : ∀ k, k ≠ 40 → k ≠ 41 → k ≠ 42 → A19.2 k = A4.2 k := fun k a b d => (h219 k d).trans ((h214 k b).trans (h29 k a))
  have eA : AE A4 A19 := (hE9.tr hE14).tr hE19
  have hck0 := hck R00 rfl
  have hCK : CK R00 S2 A19 := ck_fr2 hck0 eA (c1 3 (by decide) (by decide) (by decide)) (c1 1 (by decide) (by decide) (by decide)) (by rw [c1 5 (by decide) (by decide) (by decide)]; exact Int.le_refl _) (fun c hc => f c ((by decide : ∀ c ∈ [32, 64, 65, 96, 97, 98, 99, 100, 101, 102, 103, 104, 105, 160, 161, 162, 192, 193, 194, 195, 196, 197, 256], c / 32 ≠ 40) c hc) ((by decide : ∀ c ∈ [32, 64, 65, 96, 97, 98, 99, 100, 101, 102, 103, 104, 105, 160, 161, 162, 192, 193, 194, 195, 196, 197, 256], c / 32 ≠ 41) c hc) ((by decide : ∀ c ∈ [32, 64, 65, 96, 97, 98, 99, 100, 101, 102, 103, 104, 105, 160, 161, 162, 192, 193, 194, 195, 196, 197, 256], c / 32 ≠ 42) c hc))
  have n0 : R00.n = 0 := rfl
  refine ⟨⟨hCK, ⟨by omega, fun m m0 m1 => by omega⟩, ⟨fun m m0 m1 => by omega, fun m m0 m1 => by omega, fun m m0 m1 => by omega⟩, fun i _ _ => ?_⟩, fun m m0 m1 => by omega, fun i i0 i1 => ?_, ?_, ⟨⟨Int.le_refl _, ?_⟩, ⟨Int.le_refl _, ?_⟩, ⟨Int.le_refl _, ?_⟩⟩, ?_, fun m m0 m1 => ?_, fun i i0 i1 => ?_⟩
  · unfold RV
    show vld _ _ _ 0 (led R00.dy R00.gn R00.n.toNat)
    rw [n0]
    exact trivial
  · rw [f 288 (by decide) (by decide) (by decide), h288 i i0 (by omega)]; omega
  · rw [c1 5 (by decide) (by decide) (by decide), hA5, n0]; omega
  · rw [h219 40 (by decide), h214 40 (by decide), h19]; decide
  · rw [h219 41 (by decide), h114]; decide
  · rw [h119]; decide
  · rw [hF 1280 0 (by decide), upS_self, f 198 (by decide) (by decide) (by decide), h198]; omega
  · rw [hF 1312 m (by decide), upS_c _ _ (by decide), hs19 1312 m (by decide), hd14 1312 m (by decide) (Or.inl (by decide)), if_neg (by omega)]
    rfl
  · rw [h1344 i i0 (by omega), f 288 (by decide) (by decide) (by decide), h288 i i0 (by omega)]
