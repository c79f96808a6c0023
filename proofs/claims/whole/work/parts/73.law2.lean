/-! the law: its start, its rounds -/
theorem ck_fr2 {R : RW} {S S' : ST} {A A' : AB} (hCK : CK R S A) (hE : AE A A') (h3 : A'.2 3 = A.2 3) (h1 : A'.2 1 = A.2 1) (h5 : A.2 5 ≤ A'.2 5) (f : ∀ c ∈ [32, 64, 65, 96, 97, 98, 99, 100, 101, 102, 103, 104, 105, 160, 161, 162, 192, 193, 194, 195, 196, 197, 256], S' c = S c) : CK R S' A' := by
  obtain ⟨⟨l6, l2, l0, l4, l8, l9⟩, g, ⟨e1, e2, e3⟩, gpo, grw, gch, gsz⟩ := hCK
  have up : ∀ (k : Nat) (z : Int), lv1 A k z → lv1 A' k z := fun k z h => ⟨h.1, (hE k z h.2).2⟩
  refine ⟨⟨up _ _ l6, up _ _ l2, up _ _ l0, up _ _ l4, up _ _ l8, up _ _ l9⟩, ?_, ⟨?_, by rw [h3]; exact e2, by rw [h1]; exact e3⟩, ?_, fun m m0 m1 => ?_, ?_, ?_⟩
  · rw [f 192 (by decide), f 193 (by decide), f 194 (by decide), f 195 (by decide), f 196 (by decide)]; exact g
  · rw [f 197 (by decide)]; exact e1
  · rw [f 256 (by decide)]; exact gpo
  · rw [f 96 (by decide), f 97 (by decide), f 98 (by decide), f 99 (by decide), f 100 (by decide), f 101 (by decide), f 102 (by decide), f 103 (by decide), f 32 (by decide), f 105 (by decide)]
    refine ⟨(grw m m0 m1).1, fun k => ((grw m m0 m1).2.1 k).fr h5 (fun c z h _ _ => ?_), (grw m m0 m1).2.2⟩
    rcases h with rfl | rfl | rfl
    · rw [f 160 (by decide)]
    · rw [f 161 (by decide)]
    · rw [f 162 (by decide)]
  · rw [f 104 (by decide), f 64 (by decide)]; exact gch
  · rw [f 65 (by decide)]; exact gsz
theorem inv_0 {S4 S8 S9 S12 S17 : ST} {A4 A8 A12 A17 : AB} (hck : ∀ R : RW, R.n = 0 → CK R S4 A4) (h198 : S4 198 0 = -1) (h288 : ∀ j, 0 ≤ j → j < 6 → S4 288 j = 1) (hE8 : AE A4 A8) (h18 : A8.2 7 = 1) (h28 : ∀ k', k' ≠ 7 → A8.2 k' = A4.2 k') (hs8 : ∀ (c : Nat) (z : Int), c / 32 ≠ 7 → S8 c z = S4 c z) (hd8 : ∀ (c : Nat) (z : Int), c / 32 = 7 → (8 ≤ 7 ∨ z = 0) → S8 c z = dfl (tyC c)) (hMI : MI A8 S8 [24, 23, 22, 21, 19, 18, 17, 16, 11, 10, 7, 6, 5, 4, 3, 2, 1, 0] S9 A12) (h233 : S9 233 0 = -1) (hF12 : Fr [640] S9 S12) (h640 : ∀ j, 0 ≤ j → j < 6 → S12 640 j = 1) (hE17 : AE A12 A17) (h117 : A17.2 40 = 1) (h217 : ∀ k', k' ≠ 40 → A17.2 k' = A12.2 k') (hs17 : ∀ (c : Nat) (z : Int), c / 32 ≠ 40 → S17 c z = S12 c z) (hA5 : A4.2 5 = 0) : INV S17 A17 := by
  obtain ⟨a1, a2, a3, a4, a5, a6⟩ := hMI
  have f9 : ∀ (c : Nat) (z : Int), c / 32 ≠ 40 → c ≠ 640 → S17 c z = S9 c z := fun c z h1 h2 => (hs17 c z h1).trans (hF12 c z (by simp only [List.mem_cons, List.not_mem_nil, or_false]; exact h2))
  have f4 : ∀ (c : Nat) (z : Int), c / 32 ≠ 40 → c / 32 ≠ 7 → c / 32 ∉ [24, 23, 22, 21, 19, 18, 17, 16, 11, 10, 7, 6, 5, 4, 3, 2, 1, 0].map (fun j => 10 + j) → S17 c z = S4 c z := fun c z h1 h2 h3 => by
    rw [f9 c z h1 (fun e => h3 (by rw [e]; decide)), a5 c z h2 h3, hs8 c z h2]
  have f4' : ∀ c : Nat, c / 32 ≠ 40 → c / 32 ≠ 7 → c / 32 ∉ [24, 23, 22, 21, 19, 18, 17, 16, 11, 10, 7, 6, 5, 4, 3, 2, 1, 0].map (fun j => 10 + j) → S17 c = S4 c := fun c h1 h2 h3 => funext fun z => f4 c z h1 h2 h3
  have x232 : S17 232 0 = 0 := by
    rw [f9 232 0 (by decide) (by decide), a6 232 0 (by decide) (by decide) (by decide), hd8 232 0 (by decide) (Or.inr rfl)]; rfl
  have n0 : (rwM S17).n = 0 := x232
  have eA : AE A4 A17 := (hE8.tr a2).tr hE17
  have c1 : ∀ k, k ≠ 40 → k ≠ 7 → k ∉ [24, 23, 22, 21, 19, 18, 17, 16, 11, 10, 7, 6, 5, 4, 3, 2, 1, 0].map (fun j => 10 + j) → A17.2 k = A4.2 k := fun k h1 h2 h3 => (h217 k h1).trans ((a3 k h3).trans (h28 k h2))
  have hld : LdR (rwM S17) = [] := by
    show led (rwM S17).dy (rwM S17).gn (rwM S17).n.toNat = []
    rw [n0]; rfl
  refine ⟨⟨⟨⟨a1.1, (hE17 7 0 a1.2).2⟩, fun j hj => ?_⟩, ⟨⟨by omega, fun m m0 m1 => by omega⟩, ⟨fun m m0 m1 => by omega, fun m m0 m1 => by omega, fun m m0 m1 => by omega⟩, fun m m0 m1 => by omega⟩, fun i _ _ => ?_, ?_, fun i i0 i1 => ?_⟩, ?_, ?_, fun i i0 i1 => ?_, ?_, ⟨Int.le_refl _, by rw [h117]; decide⟩⟩
  · have hj2 : j ∈ [24, 23, 22, 21, 19, 18, 17, 16, 11, 10, 7, 6, 5, 4, 3, 2, 1, 0] := (by decide : ∀ j ∈ mArr, j ∈ [24, 23, 22, 21, 19, 18, 17, 16, 11, 10, 7, 6, 5, 4, 3, 2, 1, 0]) j hj
    have h9 := a4 j hj2
    have hjl : j < 26 := (by decide : ∀ j ∈ mArr, j < 26) j hj
    refine ⟨⟨Int.le_refl _, ?_⟩, ?_⟩
    · rw [h217 (10 + j) (by omega), h9.1]; decide
    · rw [f9 (224 + j) 0 (by omega) (by omega)]; exact h9.2
  · unfold RV
    rw [hld]; exact trivial
  · rw [f9 233 0 (by decide) (by decide), h233]; omega
  · rw [hs17 640 i (by decide), h640 i i0 (by omega)]; omega
  · exact ck_fr2 (hck _ n0) eA (c1 3 (by decide) (by decide) (by decide)) (c1 1 (by decide) (by decide) (by decide)) (by rw [c1 5 (by decide) (by decide) (by decide)]; exact Int.le_refl _) (fun c hc => f4' c ((by decide : ∀ c ∈ [32, 64, 65, 96, 97, 98, 99, 100, 101, 102, 103, 104, 105, 160, 161, 162, 192, 193, 194, 195, 196, 197, 256], c / 32 ≠ 40) c hc) ((by decide : ∀ c ∈ [32, 64, 65, 96, 97, 98, 99, 100, 101, 102, 103, 104, 105, 160, 161, 162, 192, 193, 194, 195, 196, 197, 256], c / 32 ≠ 7) c hc) ((by decide : ∀ c ∈ [32, 64, 65, 96, 97, 98, 99, 100, 101, 102, 103, 104, 105, 160, 161, 162, 192, 193, 194, 195, 196, 197, 256], c / 32 ∉ [24, 23, 22, 21, 19, 18, 17, 16, 11, 10, 7, 6, 5, 4, 3, 2, 1, 0].map (fun j => 10 + j)) c hc))
  · rw [f4 198 0 (by decide) (by decide) (by decide), h198, f9 233 0 (by decide) (by decide), h233]
  · rw [f4 288 i (by decide) (by decide) (by decide), h288 i i0 (by omega), hs17 640 i (by decide), h640 i i0 (by omega)]
  · rw [x232, c1 5 (by decide) (by decide) (by decide), hA5]; decide
set_option maxRecDepth 20000 in
theorem lw_loop {G : GT} {l : Launch} (hfl : l.stackTraces = false) {b0 L : Nat} {xs : Nat → Int32} {mn : String} {tb : List ExceptionTableEntry} {J : JT} {X : XT} (C : Cx G l room_1 cL_law 8 RL mn tb J X) (CL : CxL G l room_1 cL_law 8 RL mn tb b0 L xs J X) (F : FinL J) (hL : L ≤ 3072) : ∀ (N : Nat) (t : Nat) (S : ST) (A : AB) (k n : Nat), INV S A → 6 * t ≤ L → k ≤ 100 + 70 * t → n ≤ 6000 + 300 * t → L < 6 * t + N → J 23 [some (.ref b0), some (vR A 6 0), some (vR A 7 0), some (vR A 40 0), some (vI (6 * (t : Int))), none, none, none] [] S A k n := by
  intro N
  induction N with
  | zero => intro t S A k n hI ht hk hn hN; omega
  | succ N ih =>
    intro t S A k n hI ht hk hn hN
    have nx : ∀ (S' : ST) (A' : AB) (k' n' : Nat), INV S' A' → k' ≤ k + 70 → n' ≤ n + 300 → (6 * (t : Int)) + 6 ≤ (L : Int) → J 2009 [some (.ref b0), some (vR A' 6 0), some (vR A' 7 0), some (vR A' 40 0), some (vI (6 * (t : Int))), none, none, none] [] S' A' k' n' := by
      intro S' A' k' n' h1 h2 h3 t9
      refine r_iinc C dL_law_2009 lg_4 (ls1_4 rfl (cat_R _ _ _)) ?_
      refine r_goto C (tgt := 23) dL_law_2012 (by decide) ?_
      rw [show (6 * (t : Int)) + 6 = 6 * ((t + 1 : Nat) : Int) by omega]
      exact ih (t + 1) S' A' k' n' h1 (by omega) (by omega) (by omega) (by omega)
    refine r_iload C dL_law_23 lg_4 ?_
    refine r_aloadq_n C dL_law_25 lg_0 ?_
    refine r_slen CL dL_law_26 ?_
    refine r_bipush C dL_law_27 (by decide) ?_
    refine r_isub C dL_law_29 ?_
    refine r_icgt C (tgt := 2015) dL_law_30 (by decide) (by omega) (by omega) (fun c30 => ?_) (fun c30 => ?_)
    · refine r_iconst C dL_law_2015 ?_
      exact F _ _ _ _ _ _ dL_law_2016 (by omega) (by omega)
    · have hi : 0 ≤ (6 * (t : Int)) ∧ (6 * (t : Int)) + 6 ≤ L := ⟨by omega, by omega⟩
      refine r_aloadq_n C dL_law_33 lg_0 ?_
      refine r_iload C dL_law_34 lg_4 ?_
      refine r_sld CL dL_law_36 (by omega) (by omega) (by omega) ?_
      refine r_bipush C dL_law_37 (by decide) ?_
      refine r_iand C dL_law_39 (fun b39 => ?_)
      by_cases h0 : fIand (sc xs (6 * (t : Int))) 31 = 0
      · rw [h0]
        exact r_tswI C dL_law_40 (by omega) (by omega) (by omega) (off := 116) (tgt := 156) rfl (by decide) (lw_c0 hfl C CL hI hi hL (by omega) (by omega) (fun S' A' k' n' q1 q2 q3 => nx S' A' k' n' q1 q2 q3 hi.2))
      by_cases h1 : fIand (sc xs (6 * (t : Int))) 31 = 1
      · rw [h1]
        exact r_tswI C dL_law_40 (by omega) (by omega) (by omega) (off := 208) (tgt := 248) rfl (by decide) (lw_c1 hfl C CL hI hi hL (by omega) (by omega) (fun S' A' k' n' q1 q2 q3 => nx S' A' k' n' q1 q2 q3 hi.2))
      by_cases h2 : fIand (sc xs (6 * (t : Int))) 31 = 2
      · rw [h2]
        exact r_tswI C dL_law_40 (by omega) (by omega) (by omega) (off := 288) (tgt := 328) rfl (by decide) (lw_c2 hfl C CL hI hi hL (by omega) (by omega) (fun S' A' k' n' q1 q2 q3 => nx S' A' k' n' q1 q2 q3 hi.2))
      by_cases h3 : fIand (sc xs (6 * (t : Int))) 31 = 3
      · rw [h3]
        exact r_tswI C dL_law_40 (by omega) (by omega) (by omega) (off := 380) (tgt := 420) rfl (by decide) (lw_c3 hfl C CL hI hi hL (by omega) (by omega) (fun S' A' k' n' q1 q2 q3 => nx S' A' k' n' q1 q2 q3 hi.2))
      by_cases h4 : fIand (sc xs (6 * (t : Int))) 31 = 4
      · rw [h4]
        exact r_tswI C dL_law_40 (by omega) (by omega) (by omega) (off := 504) (tgt := 544) rfl (by decide) (lw_c4 hfl C CL hI hi hL (by omega) (by omega) (fun S' A' k' n' q1 q2 q3 => nx S' A' k' n' q1 q2 q3 hi.2))
      by_cases h5 : fIand (sc xs (6 * (t : Int))) 31 = 5
      · rw [h5]
        exact r_tswI C dL_law_40 (by omega) (by omega) (by omega) (off := 560) (tgt := 600) rfl (by decide) (lw_c5 hfl C CL hI hi hL (by omega) (by omega) (fun S' A' k' n' q1 q2 q3 => nx S' A' k' n' q1 q2 q3 hi.2))
      by_cases h6 : fIand (sc xs (6 * (t : Int))) 31 = 6
      · rw [h6]
        exact r_tswI C dL_law_40 (by omega) (by omega) (by omega) (off := 616) (tgt := 656) rfl (by decide) (lw_c6 hfl C CL hI hi hL (by omega) (by omega) (fun S' A' k' n' q1 q2 q3 => nx S' A' k' n' q1 q2 q3 hi.2))
      by_cases h7 : fIand (sc xs (6 * (t : Int))) 31 = 7
      · rw [h7]
        exact r_tswI C dL_law_40 (by omega) (by omega) (by omega) (off := 684) (tgt := 724) rfl (by decide) (lw_c7 hfl C CL hI hi hL (by omega) (by omega) (fun S' A' k' n' q1 q2 q3 => nx S' A' k' n' q1 q2 q3 hi.2))
      by_cases h8 : fIand (sc xs (6 * (t : Int))) 31 = 8
      · rw [h8]
        exact r_tswI C dL_law_40 (by omega) (by omega) (by omega) (off := 697) (tgt := 737) rfl (by decide) (lw_c8 hfl C CL hI hi hL (by omega) (by omega) (fun S' A' k' n' q1 q2 q3 => nx S' A' k' n' q1 q2 q3 hi.2))
      by_cases h9 : fIand (sc xs (6 * (t : Int))) 31 = 9
      · rw [h9]
        exact r_tswI C dL_law_40 (by omega) (by omega) (by omega) (off := 753) (tgt := 793) rfl (by decide) (lw_c9 hfl C CL hI hi hL (by omega) (by omega) (fun S' A' k' n' q1 q2 q3 => nx S' A' k' n' q1 q2 q3 hi.2))
      by_cases h10 : fIand (sc xs (6 * (t : Int))) 31 = 10
      · rw [h10]
        exact r_tswI C dL_law_40 (by omega) (by omega) (by omega) (off := 809) (tgt := 849) rfl (by decide) (lw_c10 hfl C CL hI hi hL (by omega) (by omega) (fun S' A' k' n' q1 q2 q3 => nx S' A' k' n' q1 q2 q3 hi.2))
      by_cases h11 : fIand (sc xs (6 * (t : Int))) 31 = 11
      · rw [h11]
        exact r_tswI C dL_law_40 (by omega) (by omega) (by omega) (off := 872) (tgt := 912) rfl (by decide) (lw_c11 hfl C CL hI hi hL (by omega) (by omega) (fun S' A' k' n' q1 q2 q3 => nx S' A' k' n' q1 q2 q3 hi.2))
      by_cases h12 : fIand (sc xs (6 * (t : Int))) 31 = 12
      · rw [h12]
        exact r_tswI C dL_law_40 (by omega) (by omega) (by omega) (off := 928) (tgt := 968) rfl (by decide) (lw_c12 hfl C CL hI hi hL (by omega) (by omega) (fun S' A' k' n' q1 q2 q3 => nx S' A' k' n' q1 q2 q3 hi.2))
      by_cases h13 : fIand (sc xs (6 * (t : Int))) 31 = 13
      · rw [h13]
        exact r_tswI C dL_law_40 (by omega) (by omega) (by omega) (off := 996) (tgt := 1036) rfl (by decide) (lw_c13 hfl C CL hI hi hL (by omega) (by omega) (fun S' A' k' n' q1 q2 q3 => nx S' A' k' n' q1 q2 q3 hi.2))
      by_cases h14 : fIand (sc xs (6 * (t : Int))) 31 = 14
      · rw [h14]
        exact r_tswI C dL_law_40 (by omega) (by omega) (by omega) (off := 1079) (tgt := 1119) rfl (by decide) (lw_c14 hfl C CL hI hi hL (by omega) (by omega) (fun S' A' k' n' q1 q2 q3 => nx S' A' k' n' q1 q2 q3 hi.2))
      by_cases h15 : fIand (sc xs (6 * (t : Int))) 31 = 15
      · rw [h15]
        exact r_tswI C dL_law_40 (by omega) (by omega) (by omega) (off := 1147) (tgt := 1187) rfl (by decide) (lw_c15 hfl C CL hI hi hL (by omega) (by omega) (fun S' A' k' n' q1 q2 q3 => nx S' A' k' n' q1 q2 q3 hi.2))
      by_cases h16 : fIand (sc xs (6 * (t : Int))) 31 = 16
      · rw [h16]
        exact r_tswI C dL_law_40 (by omega) (by omega) (by omega) (off := 1215) (tgt := 1255) rfl (by decide) (lw_c16 hfl C CL hI hi hL (by omega) (by omega) (fun S' A' k' n' q1 q2 q3 => nx S' A' k' n' q1 q2 q3 hi.2))
      by_cases h17 : fIand (sc xs (6 * (t : Int))) 31 = 17
      · rw [h17]
        exact r_tswI C dL_law_40 (by omega) (by omega) (by omega) (off := 1310) (tgt := 1350) rfl (by decide) (lw_c17 hfl C CL hI hi hL (by omega) (by omega) (fun S' A' k' n' q1 q2 q3 => nx S' A' k' n' q1 q2 q3 hi.2))
      by_cases h18 : fIand (sc xs (6 * (t : Int))) 31 = 18
      · rw [h18]
        exact r_tswI C dL_law_40 (by omega) (by omega) (by omega) (off := 1377) (tgt := 1417) rfl (by decide) (lw_c18 hfl C CL hI hi hL (by omega) (by omega) (fun S' A' k' n' q1 q2 q3 => nx S' A' k' n' q1 q2 q3 hi.2))
      by_cases h19 : fIand (sc xs (6 * (t : Int))) 31 = 19
      · rw [h19]
        exact r_tswI C dL_law_40 (by omega) (by omega) (by omega) (off := 1472) (tgt := 1512) rfl (by decide) (lw_c19 hfl C CL hI hi hL (by omega) (by omega) (fun S' A' k' n' q1 q2 q3 => nx S' A' k' n' q1 q2 q3 hi.2))
      by_cases h20 : fIand (sc xs (6 * (t : Int))) 31 = 20
      · rw [h20]
        exact r_tswI C dL_law_40 (by omega) (by omega) (by omega) (off := 1567) (tgt := 1607) rfl (by decide) (lw_c20 hfl C CL hI hi hL (by omega) (by omega) (fun S' A' k' n' q1 q2 q3 => nx S' A' k' n' q1 q2 q3 hi.2))
      by_cases h21 : fIand (sc xs (6 * (t : Int))) 31 = 21
      · rw [h21]
        exact r_tswI C dL_law_40 (by omega) (by omega) (by omega) (off := 1662) (tgt := 1702) rfl (by decide) (lw_c21 hfl C CL hI hi hL (by omega) (by omega) (fun S' A' k' n' q1 q2 q3 => nx S' A' k' n' q1 q2 q3 hi.2))
      by_cases h22 : fIand (sc xs (6 * (t : Int))) 31 = 22
      · rw [h22]
        exact r_tswI C dL_law_40 (by omega) (by omega) (by omega) (off := 1730) (tgt := 1770) rfl (by decide) (lw_c22 hfl C CL hI hi hL (by omega) (by omega) (fun S' A' k' n' q1 q2 q3 => nx S' A' k' n' q1 q2 q3 hi.2))
      by_cases h23 : fIand (sc xs (6 * (t : Int))) 31 = 23
      · rw [h23]
        exact r_tswI C dL_law_40 (by omega) (by omega) (by omega) (off := 1810) (tgt := 1850) rfl (by decide) (lw_c23 hfl C CL hI hi hL (by omega) (by omega) (fun S' A' k' n' q1 q2 q3 => nx S' A' k' n' q1 q2 q3 hi.2))
      by_cases h24 : fIand (sc xs (6 * (t : Int))) 31 = 24
      · rw [h24]
        exact r_tswI C dL_law_40 (by omega) (by omega) (by omega) (off := 1889) (tgt := 1929) rfl (by decide) (lw_c24 hfl C CL hI hi hL (by omega) (by omega) (fun S' A' k' n' q1 q2 q3 => nx S' A' k' n' q1 q2 q3 hi.2))
      exact r_tswO C dL_law_40 b39 (by omega) (tgt := 2009) (by decide) (nx S A k n hI (by omega) (by omega) hi.2)
set_option maxRecDepth 20000 in
theorem lw_body {G : GT} {l : Launch} (hfl : l.stackTraces = false) {b0 L : Nat} {xs : Nat → Int32} {mn : String} {tb : List ExceptionTableEntry} {J : JT} {X : XT} (C : Cx G l room_1 cL_law 8 RL mn tb J X) (CL : CxL G l room_1 cL_law 8 RL mn tb b0 L xs J X) (F : FinL J) (hL : L ≤ 3072) {S : ST} {A : AB} (hz : ∀ k, A.2 k = 0) : J 0 [some (.ref b0), none, none, none, none, none, none, none] [] S A 0 0 := by
  refine r_new C dL_law_0 (kd := 6) (N := 7) rfl nw_L_8.1 nw_L_8.2.1 nw_L_8.2.2 (Nat.le_of_ble_eq_true rfl) (Nat.le_of_ble_eq_true rfl) (fun q0 => ?_)
  rw [hz 6]
  refine r_gA1 (hz 6) (fun A0 S0 hE0 h10 h20 hs0 hd0 => ?_)
  have fr0 : ∀ k, k ≠ 6 → A0.2 k = 0 := fun k h => (h20 k h).trans (hz k)
  have ln0 : lv1 A0 6 0 := ⟨Int.le_refl _, by omega⟩
  refine r_dup C dL_law_3 (cat_R _ _ _) ?_
  refine r_I0V C (cB_init hfl ln0 ⟨fr0 8 (by decide), fr0 9 (by decide), fr0 2 (by decide), fr0 0 (by decide), fr0 4 (by decide), fr0 3 (by decide), fr0 1 (by decide)⟩ ((hd0 197 0 (by decide) (Or.inr rfl)).trans rfl)) dL_law_4 lk_L_97 (by omega) ⟨Nat.le_of_ble_eq_true rfl, Nat.le_of_ble_eq_true rfl⟩ (catLe (Nat.le_of_ble_eq_true rfl)) 5 81 ⟨rfl, rfl⟩ (Nat.le_of_ble_eq_true rfl) (Nat.le_of_ble_eq_true rfl) (fun _ _ _ h9 => h9.elim) (fun S4 A4 p4 => ?_)
  obtain ⟨hck, hE4, h198, h288, hS4, hA4⟩ := p4
  rw [← (hE4 6 0 ln0.2).1]
  have l64 : lv1 A4 6 0 := ⟨Int.le_refl _, (hE4 6 0 ln0.2).2⟩
  refine r_astore_n C dL_law_7 (ls1_1 (cat_R _ _ _) rfl) ?_
  refine r_new C dL_law_8 (kd := 7) (N := 26) rfl nw_L_98.1 nw_L_98.2.1 nw_L_98.2.2 (Nat.le_of_ble_eq_true rfl) (Nat.le_of_ble_eq_true rfl) (fun q8 => ?_)
  have e8 : A4.2 7 = 0 := (hA4 7 (by decide)).trans (fr0 7 (by decide))
  rw [e8]
  refine r_gA1 e8 (fun A8 S8 hE8 h18 h28 hs8 hd8 => ?_)
  rw [← (hE8 6 0 l64.2).1]
  have l68 : lv1 A8 6 0 := ⟨Int.le_refl _, (hE8 6 0 l64.2).2⟩
  have ln8 : lv1 A8 7 0 := ⟨Int.le_refl _, by omega⟩
  refine r_dup C dL_law_11 (cat_R _ _ _) ?_
  refine r_I0V C (cM_init hfl ln8 (fun j hj => (h28 (10 + j) (by omega)).trans ((hA4 (10 + j) (by simp only [List.mem_cons, List.not_mem_nil, or_false]; omega)).trans (fr0 (10 + j) (by omega))))) dL_law_12 lk_L_100 (by omega) ⟨Nat.le_of_ble_eq_true rfl, Nat.le_of_ble_eq_true rfl⟩ (catLe (Nat.le_of_ble_eq_true rfl)) 18 4452 ⟨rfl, rfl⟩ (Nat.le_of_ble_eq_true rfl) (Nat.le_of_ble_eq_true rfl) (fun _ _ _ h9 => h9.elim) (fun S12 A12 p12 => ?_)
  obtain ⟨⟨S9, hMI, h233, hF12⟩, h640⟩ := p12
  rw [← (hMI.2.1 6 0 l68.2).1, ← (hMI.2.1 7 0 ln8.2).1]
  have l612 : lv1 A12 6 0 := ⟨Int.le_refl _, (hMI.2.1 6 0 l68.2).2⟩
  have e17 : A12.2 40 = 0 := (hMI.2.2.1 40 (by decide)).trans ((h28 40 (by decide)).trans ((hA4 40 (by decide)).trans (fr0 40 (by decide))))
  refine r_astore_n C dL_law_15 (ls1_2 (cat_R _ _ _) (cat_R _ _ _)) ?_
  refine r_iconst C dL_law_16 ?_
  refine r_newarr C (kd := 40) (N := 1) dL_law_17 (by decide) e17 rfl (by decide) (by decide) wArr_long (Nat.le_of_ble_eq_true rfl) (Nat.le_of_ble_eq_true rfl) (fun q17 => ?_)
  refine r_gA1 e17 (fun A17 S17 hE17 h117 h217 hs17 hd17 => ?_)
  rw [← (hE17 6 0 l612.2).1, ← (hE17 7 0 hMI.1.2).1]
  refine r_astore_n C dL_law_19 (ls1_3 (cat_R _ _ _) (cat_R _ _ _)) ?_
  refine r_iconst C dL_law_20 ?_
  refine r_istore C dL_law_21 (ls1_4 rfl (cat_R _ _ _)) ?_
  have hI := inv_0 hck h198 h288 hE8 h18 h28 hs8 hd8 hMI h233 hF12 h640 hE17 h117 h217 hs17 ((hA4 5 (by decide)).trans (fr0 5 (by decide)))
  exact lw_loop hfl C CL F hL (L + 1) 0 S17 A17 _ _ hI (by omega) (Nat.le_of_ble_eq_true rfl) (Nat.le_of_ble_eq_true rfl) (by omega)
