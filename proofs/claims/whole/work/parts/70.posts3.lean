/-! .. a landed cost -/
theorem sumN_up {f : Int → Int} {n : Nat} : ∀ j : Nat, (∀ m : Int, (n : Int) ≤ m → m < ((n + j : Nat) : Int) → f m = 0) → sumN f (n + j) = sumN f n
  | 0, _ => rfl
  | j + 1, h => by
    show sumN f (n + j) + f ((n + j : Nat) : Int) = _
    rw [sumN_up j (fun m m0 m1 => h m m0 (by omega)), h ((n + j : Nat) : Int) (by omega) (by omega), Int.add_zero]
theorem smC_eq {S T : ST} {b s n : Int} (hn : 0 ≤ n ∧ n ≤ 60) (hT : T 232 0 = n) (hbas : ∀ m, 0 ≤ m → m < n → hasB s m → basM T b m = bsC S b m) : smB T b s = sumI (fun m => cI (hasB s m ∧ m < n) (bsC S b m) 0) 60 := by
  have e : sumI (fun m => cI (hasB s m ∧ m < n) (bsC S b m) 0) 60 = sumN (fun m => cI (hasB s m ∧ m < n) (bsC S b m) 0) n.toNat := by
    have h9 := sumN_up (f := fun m => cI (hasB s m ∧ m < n) (bsC S b m) 0) (n := n.toNat) (60 - n.toNat) (fun m m0 m1 => cI_f (fun q => by omega))
    rw [show n.toNat + (60 - n.toNat) = 60 by omega] at h9
    exact h9
  rw [e]
  unfold smB sumI
  rw [hT]
  refine sumN_c _ (fun m m0 m1 => ?_)
  show cI (hasB s m) (basM T b m) 0 = cI (hasB s m ∧ m < n) (bsC S b m) 0
  by_cases h : hasB s m
  · rw [cI_t h, cI_t ⟨h, by omega⟩, hbas m m0 (by omega) h]
  · rw [cI_f h, cI_f (fun q => h q.1)]
theorem u_land {S S1 S2 : ST} {A A1 : AB} {d a b s k z : Int} (hI : INV S A) (hW : (k = 0 ∧ (((0 ≤ d ∧ d ≤ 364) ∧ (1 ≤ a ∧ a ≤ 1000000) ∧ (0 ≤ b ∧ b ≤ 2) ∧ ¬ s = 0) ∧ allR (rwM S).n 64 (fun m => ¬ hasB s m) ∧ (S 198 0 < d ∧ S 197 0 < 60) ∧ allR 0 (rwM S).n (fun m => hasB s m → S 103 m = 0 ∧ S 97 m = 0 ∧ S 98 m ≤ d) ∧ 0 < sumI (fun m => cI (hasB s m ∧ m < (rwM S).n) (bsC S b m) 0) 60) ∧ ∃ S9, CK (rwP (rwM S) 3 d (-1) 0 a s (ptL (rwM S) S a b s (sumI (fun m => cI (hasB s m ∧ m < (rwM S).n) (bsC S b m) 0) 60))) S9 A1 ∧ CN S A S9 A1 ∧ S1 = upS S9 1280 0 (rwM S).n) ∨ (k = 1 ∧ ¬ ((0 ≤ d ∧ d ≤ 364) ∧ (1 ≤ a ∧ a ≤ 1000000) ∧ (0 ≤ b ∧ b ≤ 2) ∧ ¬ s = 0) ∧ S1 = S ∧ A1 = A) ∨ (k = 2 ∧ (((0 ≤ d ∧ d ≤ 364) ∧ (1 ≤ a ∧ a ≤ 1000000) ∧ (0 ≤ b ∧ b ≤ 2) ∧ ¬ s = 0) ∧ ¬ allR (rwM S).n 64 (fun m => ¬ hasB s m)) ∧ S1 = S ∧ A1 = A) ∨ (k = 3 ∧ (((0 ≤ d ∧ d ≤ 364) ∧ (1 ≤ a ∧ a ≤ 1000000) ∧ (0 ≤ b ∧ b ≤ 2) ∧ ¬ s = 0) ∧ allR (rwM S).n 64 (fun m => ¬ hasB s m) ∧ ¬ ((S 198 0 < d ∧ S 197 0 < 60) ∧ allR 0 (rwM S).n (fun m => hasB s m → S 103 m = 0 ∧ S 97 m = 0 ∧ S 98 m ≤ d) ∧ 0 < sumI (fun m => cI (hasB s m ∧ m < (rwM S).n) (bsC S b m) 0) 60)) ∧ S1 = S ∧ A1 = A))
    (hz : LST S1 d a b s z S2) : ANS S2 k z ∧ INV S2 A1 := by
  have hR := hI.1.2.1.1
  have hn := hR.1
  have hcl := hI.2.2.1
  have h197 : S 197 0 = (rwM S).n := hI.2.1.2.2.1.1
  have hrow : ∀ m, 0 ≤ m → m < (rwM S).n → S 97 m = S 320 m ∧ S 98 m = S 352 m ∧ S 99 m = S 384 m ∧ S 100 m = S 416 m ∧ S 101 m = S 448 m ∧ S 103 m = S 480 m := fun m m0 m1 => by
    obtain ⟨a1, a2, a3, a4, a5, a6, a7, a8, a9⟩ := (hI.2.1.2.2.2.2.1 m m0 m1).1
    exact ⟨a2, a3, a4, a5, a6, a8⟩
  have hqr : allR 0 (rwM S).n (fun m => hasB s m → S 103 m = 0 ∧ S 97 m = 0 ∧ S 98 m ≤ d) ↔ allR 0 (S 232 0) (fun m => hasB s m → S 480 m = 0 ∧ S 320 m = 0 ∧ S 352 m ≤ d) := by
    constructor
    · intro h m m0 m1 mb
      obtain ⟨r1, r2, r3, r4, r5, r6⟩ := hrow m m0 m1
      rw [← r1, ← r2, ← r6]; exact h m m0 m1 mb
    · intro h m m0 m1 mb
      obtain ⟨r1, r2, r3, r4, r5, r6⟩ := hrow m m0 m1
      rw [r1, r2, r6]; exact h m m0 m1 mb
  -- bases
  have hbas : (0 ≤ b ∧ b ≤ 2) → allR 0 (S 232 0) (fun m => hasB s m → S 480 m = 0 ∧ S 320 m = 0 ∧ S 352 m ≤ d) → ∀ m, 0 ≤ m → m < (rwM S).n → hasB s m → basM S b m = bsC S b m ∧ 0 ≤ bsC S b m ∧ bsC S b m ≤ 1000000 := fun hb h m m0 m1 mb => by
    obtain ⟨r1, r2, r3, r4, r5, r6⟩ := hrow m m0 m1
    have hk0 := (h m m0 m1 mb).2.1
    have h9 := (hR.2 m m0 m1).1
    have hit := (h9.2.2.1 (by show ¬ S 320 m = 3; omega)).1
    have hq := h9.2.2.2.1
    have hc := h9.2.2.2.2
    have hit' : 0 ≤ S 384 m ∧ S 384 m ≤ 5 := hit
    have hq' : 0 ≤ S 416 m ∧ S 416 m ≤ 1000 := hq
    have hc' : 0 ≤ S 448 m ∧ S 448 m ≤ 1000000 := hc
    have hw := hI.2.2.2.1 (S 384 m) hit'.1 hit'.2
    have hw2 := hI.1.2.2.2.2 (S 384 m) hit'.1 hit'.2
    have hmb := mul_b hq'.1 hq'.2 hw2.1 hw2.2
    unfold basM bsC
    rw [r3, r4, r5, hw]
    by_cases b0 : b = 0
    · rw [if_pos b0, if_neg (by omega), if_neg (by omega)]; exact ⟨rfl, hq'.1, by omega⟩
    · rw [if_neg b0]
      by_cases b1 : b = 1
      · rw [if_pos b1, if_pos b1]; exact ⟨rfl, hc'.1, hc'.2⟩
      · rw [if_neg b1, if_neg b1, if_pos (by omega)]; exact ⟨rfl, hmb.1, by omega⟩
  have hsm : (0 ≤ b ∧ b ≤ 2) → allR 0 (S 232 0) (fun m => hasB s m → S 480 m = 0 ∧ S 320 m = 0 ∧ S 352 m ≤ d) → smB S b s = sumI (fun m => cI (hasB s m ∧ m < (rwM S).n) (bsC S b m) 0) 60 ∧ 0 ≤ smB S b s := fun hb h => by
    have e := smC_eq (S := S) (T := S) (b := b) (s := s) (n := (rwM S).n) hn rfl (fun m m0 m1 mb => (hbas hb h m m0 m1 mb).1)
    refine ⟨e, ?_⟩
    unfold smB sumI
    refine sum_nn _ (fun m m0 m1 => ?_)
    show 0 ≤ cI (hasB s m) (basM S b m) 0
    by_cases q : hasB s m
    · rw [cI_t q]
      have m1' : m < (rwM S).n := by show m < S 232 0; omega
      have h9 := hbas hb h m m0 m1' q
      omega
    · rw [cI_f q]; omega
  rcases hW with ⟨rfl, ⟨hg, hbt, ho, hqs, hpos⟩, S9, hK, hC, hS⟩ | ⟨rfl, hg, rfl, rfl⟩ | ⟨rfl, ⟨hg, hbt⟩, rfl, rfl⟩ | ⟨rfl, ⟨hg, hbt, hno⟩, rfl, rfl⟩
  · have ec : ∀ c, 224 ≤ c → c ≠ 256 → c ≠ 1280 → S1 c = S c := fun c a b e => by
      funext y
      rw [hS, upS_c _ _ e, hC.2.1 c y a b]
    have hqr' := hqr.mp hqs
    obtain ⟨hsme, hsmn⟩ := hsm hg.2.2.1 hqr'
    have hw : lnW S1 d a b s = 0 := by
      have e1 : smB S1 b s = smB S b s := by
        unfold smB basM
        rw [ec 232 (by decide) (by decide) (by decide), ec 416 (by decide) (by decide) (by decide), ec 448 (by decide) (by decide) (by decide), ec 384 (by decide) (by decide) (by decide), ec 640 (by decide) (by decide) (by decide)]
      unfold lnW
      rw [e1, ec 232 (by decide) (by decide) (by decide), ec 233 (by decide) (by decide) (by decide), ec 480 (by decide) (by decide) (by decide), ec 320 (by decide) (by decide) (by decide), ec 352 (by decide) (by decide) (by decide)]
      have hbt' : allR (S 232 0) 64 (fun m => ¬ hasB s m) := hbt
      rw [cI_t hg, cI_t hbt', cI_f (by have : (rwM S).n = S 232 0 := rfl; omega), cI_t hqr', cI_f (by omega)]
    rcases hz with ⟨q, _⟩ | ⟨_, q1, q2, q3, ⟨r1, r2, r3, r4, r5, r6, r7⟩, q4, q5, q6⟩
    · exact absurd hw q
    · rw [ec 232 (by decide) (by decide) (by decide)] at q1 q3 r1 r2 r3 r4 r5 r6 r7 q4 q5
      rw [ec 320 (by decide) (by decide) (by decide)] at r1
      rw [ec 352 (by decide) (by decide) (by decide)] at r2
      rw [ec 384 (by decide) (by decide) (by decide)] at r3
      rw [ec 416 (by decide) (by decide) (by decide)] at r4
      rw [ec 448 (by decide) (by decide) (by decide)] at r5
      rw [ec 480 (by decide) (by decide) (by decide)] at r6
      rw [ec 512 (by decide) (by decide) (by decide)] at r7
      have q5 : ∀ j, ¬ (60 * S 232 0 ≤ j ∧ j < 60 * S 232 0 + 60) → S2 544 j = S 544 j := fun j hj => by rw [q5 j hj, ec 544 (by decide) (by decide) (by decide)]
      have hn60 : S 232 0 < 60 := by have : (rwM S).n = S 232 0 := rfl; omega
      have hnn : 0 ≤ S 232 0 := hn.1
      have hbit : ∀ r, S 232 0 ≤ r → r < 60 → ¬ hasB s r := fun r r0 r1' => hbt r r0 (by omega)
      have x640 : S2 640 = S 640 := by rw [q6.fn (by decide), ec 640 (by decide) (by decide) (by decide)]
      have hbas2 : ∀ m, 0 ≤ m → m < S 232 0 → hasB s m → basM S2 b m = bsC S b m := fun m m0 m1 mb => by
        rw [← (hbas hg.2.2.1 hqr' m m0 m1 mb).1]
        unfold basM
        rw [r3, r4, r5, x640, fu_ne _ _ (show m ≠ S 232 0 by omega), fu_ne _ _ (show m ≠ S 232 0 by omega), fu_ne _ _ (show m ≠ S 232 0 by omega)]
      have hsm2 : smB S2 b s = smB S b s := by
        unfold smB
        rw [q3, sumI_s _ hnn, cI_f (hbit _ (Int.le_refl _) hn60), Int.add_zero]
        unfold sumI
        refine sumN_c _ (fun m m0 m1 => ?_)
        show cI (hasB s m) (basM S2 b m) 0 = cI (hasB s m) (basM S b m) 0
        by_cases q : hasB s m
        · rw [cI_t q, cI_t q, hbas2 m m0 (by omega) q, (hbas hg.2.2.1 hqr' m m0 (by show m < S 232 0; omega) q).1]
        · rw [cI_f q, cI_f q]
      have hsp := sp_eq (S := S) (T := S2) (a := a) (b := b) (s := s) (n := S 232 0) ⟨hnn, hn60⟩ hbit q3 hbas2 (fun m m0 m1 mb => (hbas hg.2.2.1 hqr' m m0 m1 mb).2.1) (by rw [hsm2, hsme]; exact hpos)
      obtain ⟨s1, s2, s3⟩ := hsp
      rw [hsm2, hsme] at s2
      have hrow2 : ∀ m, 0 ≤ m → m < (rwM S).n → rowE (rwM S) (rwM S2) m := fun m m0 m1 => by
        have m1' : m < S 232 0 := m1
        have hne : m ≠ S 232 0 := by omega
        refine ⟨⟨?_, ?_, ?_, ?_, ?_, ?_⟩, ?_, fun r r0 r1' => ?_⟩
        · show S2 320 m = S 320 m; rw [r1, fu_ne _ _ hne]
        · show S2 352 m = S 352 m; rw [r2, fu_ne _ _ hne]
        · show S2 384 m = S 384 m; rw [r3, fu_ne _ _ hne]
        · show S2 416 m = S 416 m; rw [r4, fu_ne _ _ hne]
        · show S2 448 m = S 448 m; rw [r5, fu_ne _ _ hne]
        · show S2 480 m = S 480 m; rw [r6, fu_ne _ _ hne]
        · show S2 512 m = S 512 m; rw [r7, fu_ne _ _ hne]
        · show S2 544 (60 * m + r) = S 544 (60 * m + r)
          rw [q5 _ (by omega)]
      have hreq : REq (rwP (rwM S) 3 d (-1) 0 a s (ptL (rwM S) S a b s (sumI (fun m => cI (hasB s m ∧ m < (rwM S).n) (bsC S b m) 0) 60))) (rwM S2) := by
        refine ⟨q3, fun m m0 m1 => ?_⟩
        have m1' : m < S 232 0 + 1 := m1
        refine ⟨⟨?_, ?_, ?_, ?_, ?_, ?_⟩, fun k3 => ⟨?_, fun r r0 r1' hb => ?_⟩⟩
        · show S2 320 m = fu (S 320) (S 232 0) 3 m; rw [r1]
        · show S2 352 m = fu (S 352) (S 232 0) d m; rw [r2]
        · show S2 384 m = fu (S 384) (S 232 0) (-1) m; rw [r3]
        · show S2 416 m = fu (S 416) (S 232 0) 0 m; rw [r4]
        · show S2 448 m = fu (S 448) (S 232 0) a m; rw [r5]
        · show S2 480 m = fu (S 480) (S 232 0) 0 m; rw [r6]
        · show S2 512 m = fu (S 512) (S 232 0) s m; rw [r7]
        · show S2 544 (60 * m + r) = ptL (rwM S) S a b s (sumI (fun m => cI (hasB s m ∧ m < (rwM S).n) (bsC S b m) 0) 60) (60 * m + r)
          by_cases e : m = S 232 0
          · have hb' : hasB s r := by
              have hb2 : hasB (fu (S 512) (S 232 0) s m) r := hb
              rw [e, fu_self] at hb2
              exact hb2
            rw [e, q4 r r0 r1', s2 r hb' r0 r1']
            unfold ptL
            show _ = if 60 * S 232 0 ≤ 60 * S 232 0 + r ∧ 60 * S 232 0 + r < 60 * S 232 0 + 60 then spC S a b s _ (60 * S 232 0 + r - 60 * S 232 0) else _
            rw [if_pos (by omega), show 60 * S 232 0 + r - 60 * S 232 0 = r by omega]
          · rw [q5 _ (by omega), ptL_o (R := rwM S) (x := m) (r := r) (by show m < S 232 0; omega) r0 r1']
            rfl
      have hl := hreq.2 (rwM S).n hn.1 (by show (rwM S).n < (rwM S).n + 1; omega)
      have wk : (rwM S2).kd (rwM S).n = 3 := by rw [hl.1.1]; exact fu_self _ _ _
      have wd : (rwM S2).dy (rwM S).n = d := by rw [hl.1.2.1]; exact fu_self _ _ _
      have wi : (rwM S2).it (rwM S).n = -1 := by rw [hl.1.2.2.1]; exact fu_self _ _ _
      have wq : (rwM S2).qt (rwM S).n = 0 := by rw [hl.1.2.2.2.1]; exact fu_self _ _ _
      have wc : (rwM S2).co (rwM S).n = a := by rw [hl.1.2.2.2.2.1]; exact fu_self _ _ _
      have ws : (rwM S2).sp (rwM S).n = s := by show S2 512 (S 232 0) = s; rw [r7, fu_self]
      refine ⟨⟨q2, fun _ => ?_⟩, inv_add hI hn60 hK hC ((hS ▸ Fr.up (by decide) : Fr [320, 352, 384, 416, 448, 480, 544, 512, 232, 672, 236, 249, 1088, 1280] S9 S1).tr (q6.sub (by decide))) q3 hrow2 hreq ?_ (fun i i0 i1 => V_oth hn.1 (by omega) (hI.1.2.2.1 i i0 i1))⟩
      · have x9 : S1 1280 0 = (rwM S).n := by rw [hS, upS_self]
        rw [q6 1280 0 (by decide), x9, q1]; rfl
      · refine rg_add hI.1.2.1 (by show S 232 0 < 60; omega) q3 hrow2 ?_ (fun k1 => by rw [wk] at k1; omega) (fun _ => ⟨wi, wq, fun r r0 r1' => ?_⟩)
        · rw [wk, wd, wi, wq, wc]
          exact ⟨by omega, hg.1, fun q => absurd rfl q, by omega, ⟨by omega, hg.2.1.2⟩⟩
        · rw [ws, wd]
          have ep : (rwM S2).pt (60 * (rwM S).n + r) = spP S2 a b s r := q4 r r0 r1'
          rw [ep]
          obtain ⟨f1, f2, f3, f4⟩ := sp_facts (S := S2) (a := a) (b := b) (s := s) (by omega) (by omega) (fun m m0 m1 mb => by
            have m1' : m < S 232 0 := by
              by_cases e : m = S 232 0
              · exact absurd (e ▸ mb) (hbit _ (Int.le_refl _) hn60)
              · omega
            have h9 := (hbas hg.2.2.1 hqr' m m0 m1' mb).2
            rw [hbas2 m m0 m1' mb]; exact h9) hg.2.1.1 hg.2.1.2 (by rw [hsm2, hsme]; exact hpos)
          have g1 := giv_p (N := (S2 232 0 - 1).toNat) (lft S2 a b s).toNat (rmn S2 a b s) (shr S2 a b s) r
          have g2 : 0 ≤ shr S2 a b s r ∧ shr S2 a b s r ≤ 1000000 := by
            by_cases e : r < S2 232 0
            · exact f2 r r0 e
            · have : shr S2 a b s r = 0 := cI_f (hbit r (by omega) r1')
              omega
          have g3 := (f3 (S2 232 0) (by omega) (Int.le_refl _)).1
          have g4 : lft S2 a b s ≤ 1000000 := by unfold lft; omega
          have g5 : spP S2 a b s r = giv (S2 232 0 - 1).toNat (lft S2 a b s).toNat (rmn S2 a b s) (shr S2 a b s) r := rfl
          refine ⟨by rw [g5]; omega, fun hb => ?_, fun hb => s3 r r0 r1' hb⟩
          have hrn : r < S 232 0 := by
            by_cases e : r < S 232 0
            · exact e
            · exact absurd hb (hbit r (by omega) r1')
          have h9 := hqr' r r0 hrn hb
          exact ⟨hrn, h9.2.1, h9.1, h9.2.2⟩
  · have hw : lnW S1 d a b s = 1 := by unfold lnW; rw [cI_f hg]
    rw [LST, hw] at hz
    rcases hz with ⟨_, _, rfl⟩ | ⟨q, _⟩
    · exact ⟨⟨upS_self _ _ _ _, fun q => by omega⟩, inv_fr hI (Fr.up (by decide))⟩
    · omega
  · have hbt' : ¬ allR (S1 232 0) 64 (fun m => ¬ hasB s m) := hbt
    have hw : lnW S1 d a b s = 2 := by unfold lnW; rw [cI_t hg, cI_f hbt']
    rw [LST, hw] at hz
    rcases hz with ⟨_, _, rfl⟩ | ⟨q, _⟩
    · exact ⟨⟨upS_self _ _ _ _, fun q => by omega⟩, inv_fr hI (Fr.up (by decide))⟩
    · omega
  · have hbt' : allR (S1 232 0) 64 (fun m => ¬ hasB s m) := hbt
    have hw : lnW S1 d a b s = 3 := by
      unfold lnW
      rw [cI_t hg, cI_t hbt']
      by_cases g1 : d ≤ S1 233 0 ∨ S1 232 0 = 60
      · rw [cI_t g1]
      · rw [cI_f g1]
        by_cases g2 : allR 0 (S1 232 0) (fun m => hasB s m → S1 480 m = 0 ∧ S1 320 m = 0 ∧ S1 352 m ≤ d)
        · rw [cI_t g2]
          obtain ⟨hsme, hsmn⟩ := hsm hg.2.2.1 g2
          by_cases g3 : smB S1 b s = 0
          · rw [cI_t g3]
          · exfalso
            have hn60 : (rwM S1).n = S1 232 0 := rfl
            exact hno ⟨by omega, hqr.mpr g2, by omega⟩
        · rw [cI_f g2]
    rw [LST, hw] at hz
    rcases hz with ⟨_, _, rfl⟩ | ⟨q, _⟩
    · exact ⟨⟨upS_self _ _ _ _, fun q => by omega⟩, inv_fr hI (Fr.up (by decide))⟩
    · omega
