/-! the class: a landed cost posted -/
theorem gml_c {f f' : Int → Int} : ∀ (t : List Int) (g : Int), f g = f' g → (∀ r ∈ t, f r = f' r) → gml f g t = gml f' g t
  | [], _, _, _ => rfl
  | r :: t, g, h, hh => by
    have hr := hh r List.mem_cons_self
    show gml f (if f g < f r then r else g) t = gml f' (if f' g < f' r then r else g) t
    rw [h, hr]
    refine gml_c t _ ?_ (fun q hq => hh q (List.mem_cons_of_mem _ hq))
    split
    · exact hr
    · exact h
theorem gvC_c {r0 : Int} {t0 : List Int} : ∀ (k : Nat) (f p f' p' : Int → Int), (∀ r ∈ r0 :: t0, f r = f' r ∧ p r = p' r) → ∀ r ∈ r0 :: t0, gvC r0 t0 k f p r = gvC r0 t0 k f' p' r
  | 0, f, p, f', p', h, r, hr => (h r hr).2
  | k + 1, f, p, f', p', h, r, hr => by
    have e := gml_c (f := f) (f' := f') t0 r0 (h r0 List.mem_cons_self).1 (fun q hq => (h q (List.mem_cons_of_mem _ hq)).1)
    have hgm : gml f' r0 t0 ∈ r0 :: t0 := by
      rcases gml_mem (f := f') t0 r0 with h | h
      · rw [h]; exact List.mem_cons_self
      · exact List.mem_cons_of_mem _ h
    show gvC r0 t0 k (fu f (gml f r0 t0) (-1)) (fu p (gml f r0 t0) (p (gml f r0 t0) + 1)) r = gvC r0 t0 k (fu f' (gml f' r0 t0) (-1)) (fu p' (gml f' r0 t0) (p' (gml f' r0 t0) + 1)) r
    rw [e]
    refine gvC_c k _ _ _ _ (fun q hq => ?_) r hr
    by_cases e1 : q = gml f' r0 t0
    · rw [e1, fu_self, fu_self, fu_self, fu_self, (h _ hgm).2]; exact ⟨rfl, rfl⟩
    · rw [fu_ne _ _ e1, fu_ne _ _ e1, fu_ne _ _ e1, fu_ne _ _ e1]; exact h q hq
theorem hs_c {f g : Int → Int} : ∀ l : List Int, (∀ x ∈ l, f x = g x) → hs f l = hs g l
  | [], _ => rfl
  | x :: t, h => by
    show f x + hs f t = g x + hs g t
    rw [h x List.mem_cons_self, hs_c t (fun y hy => h y (List.mem_cons_of_mem _ hy))]
theorem gvL_c {l : List Int} {k : Nat} {f p f' p' : Int → Int} (h : ∀ r ∈ l, f r = f' r ∧ p r = p' r) : ∀ r ∈ l, gvL l k f p r = gvL l k f' p' r := by
  intro r hr
  cases l with
  | nil => cases hr
  | cons r0 t0 => exact gvC_c k f p f' p' h r hr
theorem spC_c {S S' : ST} {a b s sm : Int} (h : ∀ r ∈ b60.1 s, bsC S' b r = bsC S b r) : ∀ r ∈ b60.1 s, spC S' a b s sm r = spC S a b s sm r := by
  have e : ∀ r ∈ b60.1 s, shC S' a b sm r = shC S a b sm r := fun r hr => by unfold shC; rw [h r hr]
  intro r hr
  unfold spC
  rw [hs_c _ e]
  exact gvL_c (fun q hq => ⟨by unfold rmC; rw [h q hq], e q hq⟩) r hr
theorem sum_z {f : Int → Int} : ∀ n : Nat, (∀ m : Int, 0 ≤ m → m < n → f m = 0) → sumN f n = 0
  | 0, _ => rfl
  | n + 1, h => by
    show sumN f n + f n = 0
    rw [sum_z n (fun m m0 m1 => h m m0 (by omega)), h n (by omega) (by omega)]
    rfl
noncomputable def ptL (R : RW) (S : ST) (a b s sm : Int) : Int → Int := fun j => if 60 * R.n ≤ j ∧ j < 60 * R.n + 60 then spC S a b s sm (j - 60 * R.n) else R.pt j
theorem shl_L {R : RW} {S : ST} {d a b s sm : Int} : shl (rwP R 3 d (-1) 0 a s (ptL R S a b s sm)) R.n = (b60.1 s).map (fun r => (r, spC S a b s sm r)) := by
  unfold shl
  show (b60.1 (fu R.sp R.n s R.n)).map (fun r => (r, ptL R S a b s sm (60 * R.n + r))) = _
  rw [fu_self]
  refine List.map_congr_left (fun r hr => ?_)
  rw [b60_e] at hr
  have h9 := (bl_mem 60).mp hr
  have h8 : r < 60 := by have := h9.1.2; omega
  unfold ptL
  rw [if_pos (by omega), show 60 * R.n + r - 60 * R.n = r by omega]
theorem ptL_o {R : RW} {S : ST} {a b s sm x r : Int} (h : x < R.n) (h0 : 0 ≤ r) (h1 : r < 60) : ptL R S a b s sm (60 * x + r) = R.pt (60 * x + r) := by
  unfold ptL
  rw [if_neg (by omega)]
set_option maxRecDepth 20000 in
theorem cB_land {G : GT} {l : Launch} (hfl : l.stackTraces = false) {S : ST} {A : AB} {d a b s : Int} {R : RW} (hCK : CK R S A) (hR : RG R) (h1 : rI d) (h2 : rI a) (h3 : rI b) (hs : rL s) (hwt : ∀ i, 0 ≤ i → i ≤ 5 → 0 ≤ S 288 i ∧ S 288 i ≤ 100) (hA5 : A.2 5 ≤ 100000) : CT G l yX7_land cX7_land 9 (some .int) (rmk 8 68 291 132) S A [vR A 6 0, vI d, vI a, vI b, vL s] (oI fun z S' A' => R.n = z ∧ (((0 ≤ d ∧ d ≤ 364) ∧ (1 ≤ a ∧ a ≤ 1000000) ∧ (0 ≤ b ∧ b ≤ 2) ∧ ¬ s = 0) ∧ allR R.n 64 (fun m => ¬ hasB s m) ∧ (S 198 0 < d ∧ S 197 0 < 60) ∧ allR 0 R.n (fun m => hasB s m → S 103 m = 0 ∧ S 97 m = 0 ∧ S 98 m ≤ d) ∧ 0 < sumI (fun m => cI (hasB s m ∧ m < R.n) (bsC S b m) 0) 60) ∧ CK (rwP R 3 d (-1) 0 a s (ptL R S a b s (sumI (fun m => cI (hasB s m ∧ m < R.n) (bsC S b m) 0) 60))) S' A' ∧ CN S A S' A') (fun E S' A' => ((E = xIA ∧ ¬ ((0 ≤ d ∧ d ≤ 364) ∧ (1 ≤ a ∧ a ≤ 1000000) ∧ (0 ≤ b ∧ b ≤ 2) ∧ ¬ s = 0)) ∨ (E = xIO ∧ ((0 ≤ d ∧ d ≤ 364) ∧ (1 ≤ a ∧ a ≤ 1000000) ∧ (0 ≤ b ∧ b ≤ 2) ∧ ¬ s = 0) ∧ ¬ allR R.n 64 (fun m => ¬ hasB s m)) ∨ (E = xIS ∧ ((0 ≤ d ∧ d ≤ 364) ∧ (1 ≤ a ∧ a ≤ 1000000) ∧ (0 ≤ b ∧ b ≤ 2) ∧ ¬ s = 0) ∧ allR R.n 64 (fun m => ¬ hasB s m) ∧ ¬ ((S 198 0 < d ∧ S 197 0 < 60) ∧ allR 0 R.n (fun m => hasB s m → S 103 m = 0 ∧ S 97 m = 0 ∧ S 98 m ≤ d) ∧ 0 < sumI (fun m => cI (hasB s m ∧ m < R.n) (bsC S b m) 0) 60))) ∧ S = S' ∧ A = A') := by
  have hn := hR.1
  have hl6 := hCK.1.1
  have hl2 := hCK.1.2.1
  have h193 := hCK.2.1.2.1
  have hcn : S 197 0 = R.n := hCK.2.2.1.1
  have hA3 : A.2 3 = R.n := hCK.2.2.1.2.1
  have hA1 : A.2 1 = R.n := hCK.2.2.1.2.2
  have hmm := ck_mem hCK hR
  refine ct_ofN (own := RX7) (mn := "land") rfl rfl (by decide) hfl (lv0 := [some (vR A 6 0), some (vI d), some (vI a), some (vI b), some (vL s), none, none, none, none]) (ent_1 (cat_R _ _ _) (ent_1 rfl (ent_1 rfl (ent_1 rfl (ent_2 rfl (ent_n (ent_n (ent_n ent_0)))))))) rfl ?_
  intro J X C F FX FT FU hW hA
  refine r_iload_n C dX7_land_0 lg_1 ?_
  refine r_iconst C dX7_land_1 ?_
  refine r_sipush C dX7_land_2 (by decide) ?_
  refine r_S3V C (cB_range hfl (by omega) (by omega) (by omega)) dX7_land_5 lk_X7_48 ⟨Nat.le_of_ble_eq_true rfl, Nat.le_of_ble_eq_true rfl⟩ (catLe (Nat.le_of_ble_eq_true rfl)) 1 6 ⟨rfl, rfl⟩ (Nat.le_of_ble_eq_true rfl) (Nat.le_of_ble_eq_true rfl) (fun E9 S9 A9 h9 => FX _ _ _ _ _ _ _ (by obtain ⟨rfl, h8, rfl, rfl⟩ := h9; exact ⟨Or.inl ⟨rfl, fun q => h8 q.1⟩, rfl, rfl⟩) (Nat.le_of_ble_eq_true rfl) (Nat.le_of_ble_eq_true rfl)) (fun S5 A5 p5 => ?_)
  obtain ⟨hr5, rfl, rfl⟩ := p5
  refine r_iload_n C dX7_land_8 lg_2 ?_
  refine r_iconst C dX7_land_9 ?_
  refine r_ldc C dX7_land_10 cs_X7_52 1000000 (by decide) ?_
  refine r_S3V C (cB_range hfl (by omega) (by omega) (by omega)) dX7_land_12 lk_X7_48 ⟨Nat.le_of_ble_eq_true rfl, Nat.le_of_ble_eq_true rfl⟩ (catLe (Nat.le_of_ble_eq_true rfl)) 1 6 ⟨rfl, rfl⟩ (Nat.le_of_ble_eq_true rfl) (Nat.le_of_ble_eq_true rfl) (fun E9 S9 A9 h9 => FX _ _ _ _ _ _ _ (by obtain ⟨rfl, h8, rfl, rfl⟩ := h9; exact ⟨Or.inl ⟨rfl, fun q => h8 q.2.1⟩, rfl, rfl⟩) (Nat.le_of_ble_eq_true rfl) (Nat.le_of_ble_eq_true rfl)) (fun S12 A12 p12 => ?_)
  obtain ⟨hr12, rfl, rfl⟩ := p12
  refine r_iload_n C dX7_land_15 lg_3 ?_
  refine r_iconst C dX7_land_16 ?_
  refine r_iconst C dX7_land_17 ?_
  refine r_S3V C (cB_range hfl (by omega) (by omega) (by omega)) dX7_land_18 lk_X7_48 ⟨Nat.le_of_ble_eq_true rfl, Nat.le_of_ble_eq_true rfl⟩ (catLe (Nat.le_of_ble_eq_true rfl)) 1 6 ⟨rfl, rfl⟩ (Nat.le_of_ble_eq_true rfl) (Nat.le_of_ble_eq_true rfl) (fun E9 S9 A9 h9 => FX _ _ _ _ _ _ _ (by obtain ⟨rfl, h8, rfl, rfl⟩ := h9; exact ⟨Or.inl ⟨rfl, fun q => h8 q.2.2.1⟩, rfl, rfl⟩) (Nat.le_of_ble_eq_true rfl) (Nat.le_of_ble_eq_true rfl)) (fun S18 A18 p18 => ?_)
  obtain ⟨hr18, rfl, rfl⟩ := p18
  refine r_lload C dX7_land_21 lg_4 ?_
  refine r_lconst C dX7_land_23 0 rfl ?_
  refine r_lcne C (tgt := 38) dX7_land_24 dX7_land_25 (by decide) (by omega) (by omega) (fun c24 => ?_) (fun c24 => ?_)
  · have hga : ((0 ≤ d ∧ d ≤ 364) ∧ (1 ≤ a ∧ a ≤ 1000000) ∧ (0 ≤ b ∧ b ≤ 2) ∧ ¬ s = 0) := ⟨hr5, hr12, hr18, by omega⟩
    refine r_lload C dX7_land_38 lg_4 ?_
    refine r_aload_n C dX7_land_40 lg_0 ?_
    refine r_getI C 197 dX7_land_41 fg_X7_57_6 rfl rfl hl6 (fun g41 => ?_)
    rw [hcn]
    refine r_lushr C dX7_land_44 (fun b44 => ?_)
    refine r_lconst C dX7_land_45 0 rfl ?_
    refine r_lceq C (tgt := 60) dX7_land_46 dX7_land_47 (by decide) (by omega) (by omega) (fun c46 => ?_) (fun c46 => ?_)
    · have hbt : allR R.n 64 (fun m => ¬ hasB s m) := (ush_0 hn.1 (by omega)).mp (by omega)
      refine r_aload_n C dX7_land_60 lg_0 ?_
      refine r_iload_n C dX7_land_61 lg_1 ?_
      refine r_V1V C (cB_posting hfl hl6 (by omega)) dX7_land_62 lk_X7_53 hl6 ⟨Nat.le_of_ble_eq_true rfl, Nat.le_of_ble_eq_true rfl⟩ (catLe (Nat.le_of_ble_eq_true rfl)) 2 12 ⟨rfl, rfl⟩ (Nat.le_of_ble_eq_true rfl) (Nat.le_of_ble_eq_true rfl) (fun E9 S9 A9 h9 => FX _ _ _ _ _ _ _ (by obtain ⟨rfl, h8, rfl, rfl⟩ := h9; exact ⟨Or.inr (Or.inr ⟨rfl, hga, hbt, fun q => h8 q.1⟩), rfl, rfl⟩) (Nat.le_of_ble_eq_true rfl) (Nat.le_of_ble_eq_true rfl)) (fun S62 A62 p62 => ?_)
      obtain ⟨hr62, rfl, rfl⟩ := p62
      have hcl : R.n < 60 := by have h9 := hr62.2; omega
      refine r_aload_n C dX7_land_65 lg_0 ?_
      refine r_lload C dX7_land_66 lg_4 ?_
      refine r_iload_n C dX7_land_68 lg_1 ?_
      refine r_V2V C (cB_receipts hfl (R := R) hCK hR.1 hs h1) dX7_land_69 lk_X7_90 hl6 ⟨Nat.le_of_ble_eq_true rfl, Nat.le_of_ble_eq_true rfl⟩ (catLe (Nat.le_of_ble_eq_true rfl)) 1 6 ⟨rfl, rfl⟩ (Nat.le_of_ble_eq_true rfl) (Nat.le_of_ble_eq_true rfl) (fun E9 S9 A9 h9 => FX _ _ _ _ _ _ _ (by obtain ⟨rfl, h8, rfl, rfl⟩ := h9; exact ⟨Or.inr (Or.inr ⟨rfl, hga, hbt, fun q => h8 q.2.1⟩), rfl, rfl⟩) (Nat.le_of_ble_eq_true rfl) (Nat.le_of_ble_eq_true rfl)) (fun S69 A69 p69 => ?_)
      obtain ⟨hr69, rfl, rfl⟩ := p69
      have hrw : ∀ m, 0 ≤ m → m < R.n → hasB s m → (0 ≤ S 100 m ∧ S 100 m ≤ 1000) ∧ (0 ≤ S 101 m ∧ S 101 m ≤ 1000000) ∧ (0 ≤ S 99 m ∧ S 99 m ≤ 5) ∧ (0 ≤ S 288 (S 99 m) ∧ S 288 (S 99 m) ≤ 100) := fun m m0 m1 mb => by
        obtain ⟨⟨q97, q99, q100, q101⟩, q98, q102, qk, qc, qk2, qi, qd⟩ := row_ok hR hCK m0 m1
        have hk0 := (hr69 m m0 m1 mb).2.1
        have hit9 := ((hR.2 m m0 m1).1.2.2.1 (by omega)).1
        have hq9 := (hR.2 m m0 m1).1.2.2.2.1
        rw [q99, q100, q101]
        exact ⟨hq9, qc, hit9, hwt _ hit9.1 hit9.2⟩
      refine r_aload_n C dX7_land_72 lg_0 ?_
      refine r_lload C dX7_land_73 lg_4 ?_
      refine r_iload_n C dX7_land_75 lg_3 ?_
      refine q_V2J C (cB_sum hfl (R := R) hCK hR.1 hrw hs h3) dX7_land_76 lk_X7_94 hl6 ⟨Nat.le_of_ble_eq_true rfl, Nat.le_of_ble_eq_true rfl⟩ (catLe (Nat.le_of_ble_eq_true rfl)) ⟨rfl, rfl⟩ rfl (Nat.le_of_ble_eq_true rfl) (Nat.le_of_ble_eq_true rfl) (fun z76 S76 A76 i76 p76 => ?_)
      obtain ⟨rfl, rfl, rfl⟩ := p76
      obtain ⟨sm, hsm⟩ : ∃ x, x = sumI (fun m => cI (hasB s m ∧ m < R.n) (bsC S b m) 0) 60 := ⟨_, rfl⟩
      rw [← hsm] at i76 ⊢
      refine r_lstore C dX7_land_79 (ls2_6 rfl trivial) ?_
      refine r_lload C dX7_land_81 lg_6 ?_
      refine r_lconst C dX7_land_83 0 rfl ?_
      refine r_lcgt C (tgt := 98) dX7_land_84 dX7_land_85 (by decide) (by omega) (by omega) (fun c84 => ?_) (fun c84 => ?_)
      · have hsp : 0 < sm := by omega
        refine r_new C dX7_land_98 (kd := 3) (N := 11) rfl nw_X7_9.1 nw_X7_9.2.1 nw_X7_9.2.2 (Nat.le_of_ble_eq_true rfl) (Nat.le_of_ble_eq_true rfl) (fun q98 => ?_)
        refine r_gAS (fun A98 S98 hE98 hc98 ho98 hs98 hd98 => ?_)
        rw [hA3] at hc98 hs98 hd98 ⊢
        rw [← (hE98 6 0 hl6.2).1]
        have l698 : lv1 A98 6 0 := ⟨hl6.1, (hE98 6 0 hl6.2).2⟩
        have z98 : lv1 A98 3 R.n := ⟨hn.1, by omega⟩
        have k197 : S98 197 0 = R.n := (hs98 197 0 (Or.inl (by decide))).trans hcn
        have hA198 : A98.2 1 = R.n := (ho98 1 (by omega)).trans hA1
        refine r_dup C dX7_land_101 (cat_R _ _ _) ?_
        refine r_aload_n C dX7_land_102 lg_0 ?_
        refine r_getI C 197 dX7_land_103 fg_X7_57_6 rfl rfl l698 (fun g103 => ?_)
        rw [k197]
        refine r_iconst C dX7_land_106 ?_
        refine r_iload_n C dX7_land_107 lg_1 ?_
        refine r_iconst C dX7_land_108 ?_
        refine r_iconst C dX7_land_109 ?_
        refine r_iload_n C dX7_land_110 lg_2 ?_
        refine r_I6V C (cV_init hfl z98 (by omega) (by omega) (by omega) (by omega) (by omega) (by omega) (by omega)) dX7_land_111 lk_X7_60 (by omega) ⟨Nat.le_of_ble_eq_true rfl, Nat.le_of_ble_eq_true rfl⟩ (catLe (Nat.le_of_ble_eq_true rfl)) 1 4 ⟨rfl, rfl⟩ (Nat.le_of_ble_eq_true rfl) (Nat.le_of_ble_eq_true rfl) (fun _ _ _ h9 => h9.elim) (fun S111 A111 p111 => ?_)
        obtain ⟨hE111, ha111, hb111, hf111, hg111, hF111⟩ := p111
        rw [← (hE111 6 0 l698.2).1, ← (hE111 3 R.n z98.2).1]
        have hNW := nw_mk hCK hE98 hc98 ho98 hs98 hd98 hE111 ha111 hb111 hf111 hg111 hF111
        obtain ⟨⟨l6111, l8111, l2111⟩, ⟨g192, g193⟩, g197, glen, gch, gL, gm, gmL, gnd, gsr, gsz, gA3⟩ := nw_args hCK hR hcl hNW
        have l9111 : lv1 A111 9 0 := ⟨hCK.1.2.2.2.2.2.1, (hNW.1 9 0 hCK.1.2.2.2.2.2.2).2⟩
        have nfr : ∀ (c : Nat) (z : Int), ((c / 32 ≠ 3 ∧ c / 32 ≠ 1) ∨ z ≠ R.n) → (c / 32 ≠ 5 ∨ z < A.2 5) → S111 c z = S c z := hNW.2.2.2.2
        have g196 : S111 196 0 = 0 := (nfr 196 0 (Or.inl (by decide)) (Or.inl (by decide))).trans hCK.2.1.2.2.2.2
        have hpo9 : ∀ j, 0 ≤ j → j < 60 → S111 256 j = if j < R.n then j else -1 := fun j j0 j1 => (nfr 256 j (Or.inl (by decide)) (Or.inl (by decide))).trans (hCK.2.2.2.1 j j0 j1)
        have x5 : A111.2 5 = A.2 5 := (hb111 5 (by omega)).trans (ho98 5 (by omega))
        have rowf : ∀ m, m < R.n → S111 99 m = S 99 m ∧ S111 100 m = S 100 m ∧ S111 101 m = S 101 m ∧ ∀ i, S111 288 i = S 288 i := fun m m1 => ⟨nfr 99 m (Or.inr (by omega)) (Or.inl (by decide)), nfr 100 m (Or.inr (by omega)) (Or.inl (by decide)), nfr 101 m (Or.inr (by omega)) (Or.inl (by decide)), fun i => nfr 288 i (Or.inl (by decide)) (Or.inl (by decide))⟩
        have bse : ∀ m, m < R.n → bsC S111 b m = bsC S b m := fun m m1 => by
          obtain ⟨u1, u2, u3, u4⟩ := rowf m m1
          unfold bsC
          rw [u1, u2, u3, u4]
        have hbit : ∀ r, R.n ≤ r → r < 60 → ¬ hasB s r := fun r r0 r1 => hbt r r0 (by omega)
        have hrw9 : ∀ m, 0 ≤ m → m < R.n → hasB s m → (0 ≤ S111 100 m ∧ S111 100 m ≤ 1000) ∧ (0 ≤ S111 101 m ∧ S111 101 m ≤ 1000000) ∧ (0 ≤ S111 99 m ∧ S111 99 m ≤ 5) ∧ (0 ≤ S111 288 (S111 99 m) ∧ S111 288 (S111 99 m) ≤ 100) := fun m m0 m1 mb => by
          obtain ⟨u1, u2, u3, u4⟩ := rowf m m1
          rw [u1, u2, u3, u4]
          exact hrw m m0 m1 mb
        have hbn9 : ∀ m, 0 ≤ m → m < R.n → hasB s m → 0 ≤ bsC S b m := fun m m0 m1 mb => by
          obtain ⟨e1, e2, e3, e4⟩ := hrw m m0 m1 mb
          have e5 := mul_b e1.1 e1.2 e4.1 e4.2
          unfold bsC
          split
          · omega
          · split <;> omega
        have hbs9 : ∀ m, 0 ≤ m → m < R.n → hasB s m → bsC S111 b m ≤ sm := fun m m0 m1 mb => by
          rw [bse m m1, hsm]
          have h9 := sum_ge (f := (fun m => cI (hasB s m ∧ m < R.n) (bsC S b m) 0)) 60 (fun x x0 x1 => by
            by_cases q : hasB s x ∧ x < R.n
            · show 0 ≤ cI _ _ _
              rw [cI_t q]; exact hbn9 x x0 q.2 q.1
            · show 0 ≤ cI _ _ _
              rw [cI_f q]; omega) m m0 (by omega)
          have h8 : cI (hasB s m ∧ m < R.n) (bsC S b m) 0 = bsC S b m := cI_t ⟨mb, m1⟩
          rw [← h8]
          exact h9
        have hne : b60.1 s ≠ [] := fun q => by
          have h9 : sumI (fun m => cI (hasB s m ∧ m < R.n) (bsC S b m) 0) 60 = 0 := sum_z 60 (fun m m0 m1 => cI_f (fun q2 => by
            have h8 := (bl_mem (r := m) (s := s) 60).mpr ⟨⟨m0, m1⟩, q2.1⟩
            rw [← b60_e, q] at h8
            cases h8))
          omega
        have gm3 := gm
        refine r_astore C dX7_land_114 (ls1_8 (cat_R _ _ _) trivial) ?_
        refine r_aload C dX7_land_116 lg_8 ?_
        refine r_aload_n C dX7_land_118 lg_0 ?_
        refine r_iload_n C dX7_land_119 lg_2 ?_
        refine r_iload_n C dX7_land_120 lg_3 ?_
        refine r_lload C dX7_land_121 lg_4 ?_
        refine r_lload C dX7_land_123 lg_6 ?_
        refine r_V4A C (cB_spread hfl (R := R) l6111 l8111 l9111 g192 g196 hpo9 hR.1 (by omega) hbit hs ⟨hr12.1, hr12.2⟩ h3 ⟨hsp, i76⟩ hrw9 hbs9 hne (by omega)) dX7_land_125 lk_X7_103 l6111 ⟨Nat.le_of_ble_eq_true rfl, Nat.le_of_ble_eq_true rfl⟩ (catLe (Nat.le_of_ble_eq_true rfl)) 60 240 ⟨rfl, rfl⟩ (Nat.le_of_ble_eq_true rfl) (Nat.le_of_ble_eq_true rfl) (fun _ _ _ h9 => h9.elim) (fun z125 S125 A125 i125 p125 => ?_)
        obtain ⟨hE125, ho125, h5125, hzr125, hS125, hc125⟩ := p125
        rw [← (hE125 6 0 l6111.2).1, ← (hE125 3 R.n gm.2).1]
        have gm3 : lv1 A125 3 R.n := ⟨gm.1, (hE125 3 R.n gm.2).2⟩
        have hc9 : (b60.1 s).map (fun r => (r, spC S111 a b s sm r)) = (b60.1 s).map (fun r => (r, spC S a b s sm r)) := List.map_congr_left (fun r hr => by
          rw [spC_c (S := S) (S' := S111) (fun r hr => ?_) r hr]
          rw [b60_e] at hr
          have h9 := (bl_mem 60).mp hr
          refine bse r ?_
          by_cases q : r < R.n
          · exact q
          · exact absurd h9.2 (hbit r (by omega) (by have := h9.1.2; omega)))
        rw [hc9] at hc125
        refine r_putA C 105 5 dX7_land_128 fg_X7_107_3 rfl rfl gm3 (fun q h => by cases h; exact Or.inl rfl) hzr125 (by omega) ?_
        refine r_gS (fun S128 h128 => ?_)
        have hNW2 : NW R S A 3 d (-1) 0 a z125 S128 A125 := by rw [h128]; exact nw_put hNW hE125 ho125 h5125.1 (by omega) hS125
        have hc128 : SHC S128 (A125.2 5) z125 ((b60.1 s).map (fun r => (r, spC S a b s sm r))) := hc125.fr (Int.le_refl _) (fun c z hc _ _ => by
          rw [h128]
          rcases hc with rfl | rfl | rfl <;> exact upS_c _ _ (by decide))
        obtain ⟨⟨l6125, l8125, l2125⟩, ⟨g192, g193⟩, g197, glen, gch, gL, gm, gmL, gnd, gsr, gsz, gA3⟩ := nw_args hCK hR hcl hNW2
        refine r_aload_n C dX7_land_131 lg_0 ?_
        refine r_aload C dX7_land_132 lg_8 ?_
        refine q_V1I C (cB_post hfl l6125 l8125 l2125 g192 g193 ⟨by omega, by omega⟩ glen gch gL gm gmL gnd gsr gsz gA3) dX7_land_134 lk_X7_63 l6125 ⟨Nat.le_of_ble_eq_true rfl, Nat.le_of_ble_eq_true rfl⟩ (catLe (Nat.le_of_ble_eq_true rfl)) ⟨rfl, rfl⟩ rfl (Nat.le_of_ble_eq_true rfl) (Nat.le_of_ble_eq_true rfl) (fun z134 S134 A134 i134 p134 => ?_)
        obtain ⟨e134, rfl, hF134, hcn134, hpo134, hc134, hz134⟩ := p134
        exact f_I F dX7_land_137 i134 (by
          have hD := nw_done (sp := s) (pt := ptL R S a b s sm) hCK hR hcl hNW2 hF134 hcn134 hpo134 hc134 hz134 (fun _ => by rw [shl_L]; exact hc128) (fun k => absurd rfl k) (fun x r x0 x1 r0 r1 => ptL_o x1 r0 r1)
          exact ⟨hNW2.2.2.2.1.1.symm.trans e134, ⟨hga, hbt, hr62, hr69, by rw [← hsm]; exact hsp⟩, by rw [← hsm]; exact hD.1, hD.2⟩) (Nat.le_of_ble_eq_true rfl) (Nat.le_of_ble_eq_true rfl)
      · exact FT _ _ _ _ _ _ _ _ _ xIS "nothing to spread by" (by decide) rfl xw_IS nw_X7_98 dX7_land_88 dX7_land_91 dX7_land_92 dX7_land_94 dX7_land_97 ⟨Or.inr (Or.inr ⟨rfl, hga, hbt, fun q => absurd q.2.2 (by omega)⟩), rfl, rfl⟩ (Nat.le_of_ble_eq_true rfl) (Nat.le_of_ble_eq_true rfl) (Nat.le_of_ble_eq_true rfl) (Nat.le_of_ble_eq_true rfl)
    · exact FT _ _ _ _ _ _ _ _ _ xIO "a bit stands for no movement" (by decide) rfl xw_IO nw_X7_85 dX7_land_50 dX7_land_53 dX7_land_54 dX7_land_56 dX7_land_59 ⟨Or.inr (Or.inl ⟨rfl, hga, fun q => absurd ((ush_0 (s := s) hn.1 (by omega)).mpr q) (by omega)⟩), rfl, rfl⟩ (Nat.le_of_ble_eq_true rfl) (Nat.le_of_ble_eq_true rfl) (Nat.le_of_ble_eq_true rfl) (Nat.le_of_ble_eq_true rfl)
  · exact FT _ _ _ _ _ _ _ _ _ xIA "no receipts" (by decide) rfl xw_IA nw_X7_78 dX7_land_28 dX7_land_31 dX7_land_32 dX7_land_34 dX7_land_37 ⟨Or.inl ⟨rfl, fun q => q.2.2.2 (by omega)⟩, rfl, rfl⟩ (Nat.le_of_ble_eq_true rfl) (Nat.le_of_ble_eq_true rfl) (Nat.le_of_ble_eq_true rfl) (Nat.le_of_ble_eq_true rfl)
