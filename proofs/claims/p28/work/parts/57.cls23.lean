/-! the class: cents given, what a landed cost is spread over -/
/-- a chain of shares with their remainders -/
def SH3 (S : ST) (n5 : Int) (e f p : Int → Int) : Int → List Int → Prop
  | s, [] => s = -1
  | s, r :: t => (s = e r ∧ 0 ≤ s ∧ s < n5) ∧ (S 160 s = r ∧ S 162 s = p r ∧ S 163 s = f r) ∧ SH3 S n5 e f p (S 161 s) t
theorem SH3.mp {S S' : ST} {n5 n5' : Int} {e e' f f' p p' : Int → Int} (hn : n5 ≤ n5') : ∀ {l : List Int} {s : Int}, SH3 S n5 e f p s l → (∀ r ∈ l, e' r = e r ∧ S' 160 (e r) = S 160 (e r) ∧ S' 161 (e r) = S 161 (e r) ∧ (S 162 (e r) = p r → S' 162 (e r) = p' r) ∧ (S 163 (e r) = f r → S' 163 (e r) = f' r)) → SH3 S' n5' e' f' p' s l
  | [], _, h, _ => h
  | r :: t, s, ⟨⟨h1, h2, h3⟩, ⟨h4, h5, h6⟩, h7⟩, hh => by
    obtain ⟨a1, a2, a3, a4, a5⟩ := hh r List.mem_cons_self
    subst h1
    refine ⟨⟨a1.symm, h2, by omega⟩, ⟨by rw [a2]; exact h4, a4 h5, a5 h6⟩, ?_⟩
    rw [a3]
    exact h7.mp hn (fun q hq => hh q (List.mem_cons_of_mem _ hq))
theorem SH3.mem {S : ST} {n5 : Int} {e f p : Int → Int} {r : Int} : ∀ {l : List Int} {s : Int}, SH3 S n5 e f p s l → r ∈ l → (0 ≤ e r ∧ e r < n5) ∧ S 160 (e r) = r ∧ S 162 (e r) = p r ∧ S 163 (e r) = f r
  | [], _, _, h => by cases h
  | x :: t, s, ⟨⟨h1, h2, h3⟩, h4, h7⟩, h => by
    subst h1
    rcases List.mem_cons.mp h with rfl | h
    · exact ⟨⟨h2, h3⟩, h4⟩
    · exact h7.mem h
theorem SH3.give {S : ST} {n5 : Int} {e f p : Int → Int} {l : List Int} {s g x y : Int} (h : SH3 S n5 e f p s l) (hg : g ∈ l) : SH3 (upS (upS S 162 (e g) x) 163 (e g) y) n5 e (fu f g y) (fu p g x) s l := by
  refine h.mp (Int.le_refl _) (fun r hr => ⟨rfl, ?_, ?_, fun q => ?_, fun q => ?_⟩)
  · rw [upS_c _ _ (by decide), upS_c _ _ (by decide)]
  · rw [upS_c _ _ (by decide), upS_c _ _ (by decide)]
  · rw [upS_c _ _ (by decide)]
    by_cases e1 : r = g
    · rw [e1, upS_self, fu_self]
    · have e2 : e r ≠ e g := fun q2 => e1 (by rw [← (h.mem hr).2.1, q2, (h.mem hg).2.1])
      rw [upS_z _ _ e2, fu_ne _ _ e1]; exact q
  · by_cases e1 : r = g
    · rw [e1, upS_self, fu_self]
    · have e2 : e r ≠ e g := fun q2 => e1 (by rw [← (h.mem hr).2.1, q2, (h.mem hg).2.1])
      rw [upS_z _ _ e2, fu_ne _ _ e1, upS_c _ _ (by decide)]; exact q
theorem SH3.shc {S : ST} {n5 : Int} {e f p : Int → Int} : ∀ {l : List Int} {s : Int}, SH3 S n5 e f p s l → SHC S n5 s (l.map (fun r => (r, p r)))
  | [], _, h => h
  | r :: t, s, ⟨⟨h1, h2, h3⟩, ⟨h4, h5, h6⟩, h7⟩ => ⟨⟨h2, h3⟩, h4, h5, h7.shc⟩
/-- the first with the greatest remainder -/
def gml (f : Int → Int) : Int → List Int → Int
  | g, [] => g
  | g, r :: t => gml f (if f g < f r then r else g) t
theorem gml_mem {f : Int → Int} : ∀ (t : List Int) (g : Int), gml f g t = g ∨ gml f g t ∈ t
  | [], g => Or.inl rfl
  | r :: t, g => by
    show gml f (if f g < f r then r else g) t = g ∨ gml f (if f g < f r then r else g) t ∈ r :: t
    split
    · rcases gml_mem (f := f) t r with h | h
      · rw [h]; exact Or.inr List.mem_cons_self
      · exact Or.inr (List.mem_cons_of_mem _ h)
    · rcases gml_mem (f := f) t g with h | h
      · exact Or.inl h
      · exact Or.inr (List.mem_cons_of_mem _ h)
def gvC (r0 : Int) (t0 : List Int) : Nat → (Int → Int) → (Int → Int) → (Int → Int)
  | 0, _, p => p
  | k + 1, f, p => gvC r0 t0 k (fu f (gml f r0 t0) (-1)) (fu p (gml f r0 t0) (p (gml f r0 t0) + 1))
def gvL (l : List Int) (k : Nat) (f p : Int → Int) : Int → Int := match l with
  | [] => p
  | r0 :: t0 => gvC r0 t0 k f p
def shC (S : ST) (a b sm : Int) : Int → Int := fun r => a * bsC S b r / sm
def rmC (S : ST) (a b sm : Int) : Int → Int := fun r => a * bsC S b r % sm
noncomputable def spC (S : ST) (a b s sm : Int) : Int → Int := gvL (b60.1 s) (a - hs (shC S a b sm) (b60.1 s)).toNat (rmC S a b sm) (shC S a b sm)
/-- the bits from above -/
noncomputable def bls (s : Int) : Nat → List Int
  | 0 => []
  | k + 1 => cL (hasB s (59 - (k : Int))) (59 - (k : Int)) ++ bls s k
theorem bls_mem {s r : Int} : ∀ k : Nat, r ∈ bls s k → 60 - (k : Int) ≤ r ∧ r < 60 ∧ hasB s r
  | 0, h => by cases h
  | k + 1, h => by
    rcases List.mem_append.mp (show r ∈ cL (hasB s (59 - (k : Int))) (59 - (k : Int)) ++ bls s k from h) with h | h
    · by_cases q : hasB s (59 - (k : Int))
      · rw [cL_t q, List.mem_singleton] at h
        rw [h]; exact ⟨by omega, by omega, q⟩
      · rw [cL_f q] at h; cases h
    · have := bls_mem k h
      exact ⟨by omega, this.2⟩
theorem bls_nd (s : Int) : ∀ k : Nat, (bls s k).Nodup
  | 0 => List.nodup_nil
  | k + 1 => by
    show (cL (hasB s (59 - (k : Int))) (59 - (k : Int)) ++ bls s k).Nodup
    by_cases q : hasB s (59 - (k : Int))
    · rw [cL_t q]
      exact List.nodup_cons.mpr ⟨fun h => by have := (bls_mem k h).1; omega, bls_nd s k⟩
    · rw [cL_f q]; exact bls_nd s k
theorem bls_len (s : Int) : ∀ k : Nat, (bls s k).length ≤ k
  | 0 => Nat.le_refl _
  | k + 1 => by
    have := bls_len s k
    show (cL (hasB s (59 - (k : Int))) (59 - (k : Int)) ++ bls s k).length ≤ _
    rw [List.length_append]
    by_cases q : hasB s (59 - (k : Int))
    · rw [cL_t q, List.length_singleton]; omega
    · rw [cL_f q, List.length_nil]; omega
theorem bls_bl (s : Int) (N : Nat) (hN : N = 60) : ∀ j k : Nat, j + k = N → bl s k ++ bls s j = bls s N
  | j, 0, h => by
    have : j = N := by omega
    subst this; rfl
  | j, k + 1, h => by
    rw [← bls_bl s N hN (j + 1) k (by omega)]
    show (bl s k ++ cL (hasB s k) k) ++ bls s j = bl s k ++ (cL (hasB s (59 - (j : Int))) (59 - (j : Int)) ++ bls s j)
    rw [show (59 - (j : Int)) = (k : Int) by omega, List.append_assoc]
theorem bls_60 {s : Int} {j : Nat} (h : j = 60) : bls s j = b60.1 s := by
  rw [b60_e, ← h]
  exact ((bls_bl s j h 0 j (by omega)).symm.trans (List.append_nil _))
theorem bls_f {s i : Int} (h0 : 0 ≤ i) (h : i ≤ 59) (hb : ¬ hasB s i) : bls s (59 - (i + -1)).toNat = bls s (59 - i).toNat := by
  rw [show (59 - (i + -1)).toNat = (59 - i).toNat + 1 by omega]
  show cL (hasB s (59 - ((59 - i).toNat : Int))) _ ++ bls s (59 - i).toNat = _
  rw [show (59 - ((59 - i).toNat : Int)) = i by omega, cL_f hb]; rfl
theorem bls_t {s i : Int} (h0 : 0 ≤ i) (h : i ≤ 59) (hb : hasB s i) : bls s (59 - (i + -1)).toNat = i :: bls s (59 - i).toNat := by
  rw [show (59 - (i + -1)).toNat = (59 - i).toNat + 1 by omega]
  show cL (hasB s (59 - ((59 - i).toNat : Int))) (59 - ((59 - i).toNat : Int)) ++ bls s (59 - i).toNat = _
  rw [show (59 - ((59 - i).toNat : Int)) = i by omega, cL_t hb]; rfl
set_option maxRecDepth 20000 in
theorem cB_give {G : GT} {l : Launch} (hfl : l.stackTraces = false) {S : ST} {A : AB} {e f p : Int → Int} {r0 s0 : Int} {t0 : List Int} (hc : SH3 S (A.2 5) e f p s0 (r0 :: t0)) (hp : ∀ r ∈ r0 :: t0, 0 ≤ p r ∧ p r ≤ 3000000) : CT G l yX7_giveCent cX7_giveCent 3 none (rmk 0 0 0 0) S A [vR A 5 s0] (oV fun S' A' => upS (upS S 162 (e (gml f r0 t0)) (p (gml f r0 t0) + 1)) 163 (e (gml f r0 t0)) (-1) = S' ∧ A = A') (noX) := by
  refine ct_ofN (own := RX7) (mn := "giveCent") rfl rfl (by decide) hfl (lv0 := [some (vR A 5 s0), none, none]) (ent_1 (cat_R _ _ _) (ent_n (ent_n ent_0))) rfl ?_
  intro J X C F FX FT FU hW hA
  have hc0 := hc
  obtain ⟨⟨e0, q0, q1⟩, ⟨q2, q3, q4⟩, q5⟩ := hc
  have lp : ∀ (b : List Int) (x g : Int) (hb : SH3 S (A.2 5) e f p x b) (hg : (0 ≤ e g ∧ e g < A.2 5) ∧ S 162 (e g) = p g ∧ S 163 (e g) = f g ∧ (0 ≤ p g ∧ p g ≤ 3000000)) (hpb : ∀ r ∈ b, 0 ≤ p r ∧ p r ≤ 3000000) (hG : gml f g b = gml f r0 t0), J 4 [some (vR A 5 s0), some (vR A 5 (e g)), some (vR A 5 x)] [] S A 0 0 := by
    intro b
    induction b with
    | nil =>
      intro x g hb hg hpb hG
      have hb : x = -1 := hb
      have hG : g = gml f r0 t0 := hG
      refine r_aload_n C dX7_giveCent_4 lg_2 ?_
      refine r_ifnull C (tgt := 34) dX7_giveCent_5 (by decide) (fun c5 => ?_) (fun c5 => ?_)
      · refine r_aload_n C dX7_giveCent_34 lg_1 ?_
        refine r_ifnull C (tgt := 55) dX7_giveCent_35 (by decide) (fun c35 => ?_) (fun c35 => ?_)
        · exfalso; omega
        · refine r_aload_n C dX7_giveCent_38 lg_1 ?_
          refine r_dup C dX7_giveCent_39 (cat_R _ _ _) ?_
          refine r_getI C 162 dX7_giveCent_40 fg_X7_153_5 rfl rfl hg.1 (fun g40 => ?_)
          refine r_iconst C dX7_giveCent_43 ?_
          refine r_iadd C dX7_giveCent_44 ?_
          refine r_putI C 162 dX7_giveCent_45 fg_X7_153_5 rfl rfl hg.1 (fun q h => by cases h; exact Or.inl rfl) (by omega) ?_
          refine r_aload_n C dX7_giveCent_48 lg_1 ?_
          refine r_ldc2 C dX7_giveCent_49 cs_X7_277 (-1) (by decide) ?_
          refine r_putJ C 163 dX7_giveCent_52 fg_X7_271_5 rfl rfl hg.1 (fun q h => by cases h; exact Or.inl rfl) (by omega) ?_
          exact f_V F dX7_giveCent_55 ⟨by rw [← hG, hg.2.1], rfl⟩ (Nat.le_of_ble_eq_true rfl) (Nat.le_of_ble_eq_true rfl)
      · exfalso; omega
    | cons r t ih =>
      intro x g hb hg hpb hG
      obtain ⟨⟨rfl, h0, h1⟩, ⟨h160, h162, h163⟩, hs⟩ := hb
      have hr9 : (0 ≤ e r ∧ e r < A.2 5) ∧ S 162 (e r) = p r ∧ S 163 (e r) = f r ∧ (0 ≤ p r ∧ p r ≤ 3000000) := ⟨⟨h0, h1⟩, h162, h163, hpb r List.mem_cons_self⟩
      have hpt : ∀ q ∈ t, 0 ≤ p q ∧ p q ≤ 3000000 := fun q hq => hpb q (List.mem_cons_of_mem _ hq)
      have hG' : gml f (if f g < f r then r else g) t = gml f r0 t0 := hG
      obtain ⟨hg1, hg2, hg3, hg4⟩ := hg
      refine r_aload_n C dX7_giveCent_4 lg_2 ?_
      refine r_ifnull C (tgt := 34) dX7_giveCent_5 (by decide) (fun c5 => ?_) (fun c5 => ?_)
      · exfalso; omega
      · refine r_aload_n C dX7_giveCent_8 lg_1 ?_
        refine r_ifnull C (tgt := 26) dX7_giveCent_9 (by decide) (fun c9 => ?_) (fun c9 => ?_)
        · exfalso; omega
        · refine r_aload_n C dX7_giveCent_12 lg_2 ?_
          refine r_getJ C 163 dX7_giveCent_13 fg_X7_271_5 rfl rfl ⟨h0, h1⟩ (fun g13 => ?_)
          refine r_aload_n C dX7_giveCent_16 lg_1 ?_
          refine r_getJ C 163 dX7_giveCent_17 fg_X7_271_5 rfl rfl hg1 (fun g17 => ?_)
          refine r_lcle C (tgt := 26) dX7_giveCent_20 dX7_giveCent_21 (by decide) (by omega) (by omega) (fun c20 => ?_) (fun c20 => ?_)
          · have hG2 : gml f g t = gml f r0 t0 := by
              rw [if_neg (by omega)] at hG'
              exact hG'
            refine r_aload_n C dX7_giveCent_26 lg_2 ?_
            refine r_getA C 161 5 dX7_giveCent_27 fg_X7_274_5 rfl rfl ⟨h0, h1⟩ (fun g27 => ?_)
            refine r_astore_n C dX7_giveCent_30 (ls1_2 (cat_R _ _ _) (cat_R _ _ _)) ?_
            refine r_goto C (tgt := 4) dX7_giveCent_31 (by decide) ?_
            first
            | exact ih _ r hs hr9 hpt hG2
            | exact ih _ g hs ⟨hg1, hg2, hg3, hg4⟩ hpt hG2
          · have hG2 : gml f r t = gml f r0 t0 := by
              rw [if_pos (by omega)] at hG'
              exact hG'
            refine r_aload_n C dX7_giveCent_24 lg_2 ?_
            refine r_astore_n C dX7_giveCent_25 (ls1_1 (cat_R _ _ _) (cat_R _ _ _)) ?_
            refine r_aload_n C dX7_giveCent_26 lg_2 ?_
            refine r_getA C 161 5 dX7_giveCent_27 fg_X7_274_5 rfl rfl ⟨h0, h1⟩ (fun g27 => ?_)
            refine r_astore_n C dX7_giveCent_30 (ls1_2 (cat_R _ _ _) (cat_R _ _ _)) ?_
            refine r_goto C (tgt := 4) dX7_giveCent_31 (by decide) ?_
            first
            | exact ih _ r hs hr9 hpt hG2
            | exact ih _ g hs ⟨hg1, hg2, hg3, hg4⟩ hpt hG2
  refine r_aload_n C dX7_giveCent_0 lg_0 ?_
  refine r_astore_n C dX7_giveCent_1 (ls1_1 (cat_R _ _ _) (cat_R _ _ _)) ?_
  refine r_aload_n C dX7_giveCent_2 lg_0 ?_
  refine r_astore_n C dX7_giveCent_3 (ls1_2 (cat_R _ _ _) (cat_R _ _ _)) ?_
  have h9 := lp (r0 :: t0) s0 r0 hc0 ⟨⟨by rw [← e0]; exact q0, by rw [← e0]; exact q1⟩, by rw [← e0]; exact q3, by rw [← e0]; exact q4, hp r0 List.mem_cons_self⟩ hp (by show gml f (if f r0 < f r0 then r0 else r0) t0 = _; rw [if_neg (by omega)])
  rw [← e0] at h9
  exact h9
set_option maxRecDepth 20000 in
theorem cB_chosen2 {G : GT} {l : Launch} (hfl : l.stackTraces = false) {S : ST} {A : AB} {s m : Int} {R : RW} (hl6 : lv1 A 6 0) (hl8 : lv1 A 8 0) (h192 : S 192 0 = 0) (hpo : ∀ j, 0 ≤ j → j < 60 → S 256 j = if j < R.n then j else -1) (hm : 0 ≤ m ∧ m < 60) : CT G l yX7_chosen cX7_chosen 5 (some (.object "Layerbook$Movement")) (rmk 0 0 0 0) S A [vR A 6 0, vL s, vI m] (oA 3 fun z S' A' => chZ R s m = z ∧ S = S' ∧ A = A') (noX) := by
  have hp := hpo m hm.1 hm.2
  have hp2 : (m < R.n ∧ S 256 m = m) ∨ (¬ m < R.n ∧ S 256 m = -1) := by
    by_cases hmn : m < R.n
    · rw [if_pos hmn] at hp; exact Or.inl ⟨hmn, hp⟩
    · rw [if_neg hmn] at hp; exact Or.inr ⟨hmn, hp⟩
  have hcb := cho_bit (s := s) hm.1 (show m < 64 by omega)
  refine ct_ofN (own := RX7) (mn := "chosen") rfl rfl (by decide) hfl (lv0 := [some (vR A 6 0), some (vL s), none, some (vI m), none]) (ent_1 (cat_R _ _ _) (ent_2 rfl (ent_1 rfl (ent_n ent_0)))) rfl ?_
  intro J X C F FX FT FU hW hA
  refine r_iload_n C dX7_chosen_0 lg_3 ?_
  refine r_iflt C (tgt := 27) dX7_chosen_1 (by decide) (by omega) (fun c1 => ?_) (fun c1 => ?_)
  · exfalso; omega
  · refine r_iload_n C dX7_chosen_4 lg_3 ?_
    refine r_aload_n C dX7_chosen_5 lg_0 ?_
    refine r_getA C 192 8 dX7_chosen_6 fg_X7_11_6 rfl rfl hl6 (fun g6 => ?_)
    refine r_alen C (N := 60) dX7_chosen_9 (by decide) rfl (by decide) (by rw [h192]; exact hl8) ?_
    refine r_icge C (tgt := 27) dX7_chosen_10 (by decide) (by omega) (by omega) (fun c10 => ?_) (fun c10 => ?_)
    · exfalso; omega
    · refine r_lload_n C dX7_chosen_13 lg_1 ?_
      refine r_iload_n C dX7_chosen_14 lg_3 ?_
      refine r_lushr C dX7_chosen_15 (fun b15 => ?_)
      refine r_lconst C dX7_chosen_16 1 rfl ?_
      refine r_land C dX7_chosen_17 (fun b17 => ?_)
      refine r_lconst C dX7_chosen_18 1 rfl ?_
      refine r_lcne C (tgt := 27) dX7_chosen_19 dX7_chosen_20 (by decide) (by omega) (by omega) (fun c19 => ?_) (fun c19 => ?_)
      · refine r_iconst C dX7_chosen_27 ?_
        refine r_istore C dX7_chosen_28 (ls1_4 rfl rfl) ?_
        refine r_iload C dX7_chosen_30 lg_4 ?_
        refine r_ifeq C (tgt := 44) dX7_chosen_32 (by decide) (by omega) (fun c32 => ?_) (fun c32 => ?_)
        · refine r_null C 3 dX7_chosen_44 ?_
          exact f_A F dX7_chosen_45 (by have := hA.2.2 3; omega) (by
            first
            | (exfalso; omega)
            | exact ⟨cI_f (fun q => c20 (hcb.mpr q.1)), rfl, rfl⟩
            | exact ⟨cI_f (fun q => c19 (hcb.mpr q.1)), rfl, rfl⟩
            | (rcases hp2 with ⟨h1, h2⟩ | ⟨h1, h2⟩
               · rw [h2]; exact ⟨cI_t ⟨hcb.mp c19, h1⟩, rfl, rfl⟩
               · rw [h2]; exact ⟨cI_f (fun q => h1 q.2), rfl, rfl⟩)) (Nat.le_of_ble_eq_true rfl) (Nat.le_of_ble_eq_true rfl)
        · refine r_aload_n C dX7_chosen_35 lg_0 ?_
          refine r_getA C 192 8 dX7_chosen_36 fg_X7_11_6 rfl rfl hl6 (fun g36 => ?_)
          refine r_iload_n C dX7_chosen_39 lg_3 ?_
          refine r_aald C (N := 60) 256 dX7_chosen_40 (by decide) rfl rfl (by rw [h192]; exact hl8) (by omega) (by omega) (by omega) (fun g40 => ?_)
          refine r_goto C (tgt := 45) dX7_chosen_41 (by decide) ?_
          exact f_A F dX7_chosen_45 (by have := hA.2.2 3; omega) (by
            first
            | (exfalso; omega)
            | exact ⟨cI_f (fun q => c20 (hcb.mpr q.1)), rfl, rfl⟩
            | exact ⟨cI_f (fun q => c19 (hcb.mpr q.1)), rfl, rfl⟩
            | (rcases hp2 with ⟨h1, h2⟩ | ⟨h1, h2⟩
               · rw [h2]; exact ⟨cI_t ⟨hcb.mp c19, h1⟩, rfl, rfl⟩
               · rw [h2]; exact ⟨cI_f (fun q => h1 q.2), rfl, rfl⟩)) (Nat.le_of_ble_eq_true rfl) (Nat.le_of_ble_eq_true rfl)
      · refine r_iconst C dX7_chosen_23 ?_
        refine r_goto C (tgt := 28) dX7_chosen_24 (by decide) ?_
        refine r_istore C dX7_chosen_28 (ls1_4 rfl rfl) ?_
        refine r_iload C dX7_chosen_30 lg_4 ?_
        refine r_ifeq C (tgt := 44) dX7_chosen_32 (by decide) (by omega) (fun c32 => ?_) (fun c32 => ?_)
        · refine r_null C 3 dX7_chosen_44 ?_
          exact f_A F dX7_chosen_45 (by have := hA.2.2 3; omega) (by
            first
            | (exfalso; omega)
            | exact ⟨cI_f (fun q => c20 (hcb.mpr q.1)), rfl, rfl⟩
            | exact ⟨cI_f (fun q => c19 (hcb.mpr q.1)), rfl, rfl⟩
            | (rcases hp2 with ⟨h1, h2⟩ | ⟨h1, h2⟩
               · rw [h2]; exact ⟨cI_t ⟨hcb.mp c19, h1⟩, rfl, rfl⟩
               · rw [h2]; exact ⟨cI_f (fun q => h1 q.2), rfl, rfl⟩)) (Nat.le_of_ble_eq_true rfl) (Nat.le_of_ble_eq_true rfl)
        · refine r_aload_n C dX7_chosen_35 lg_0 ?_
          refine r_getA C 192 8 dX7_chosen_36 fg_X7_11_6 rfl rfl hl6 (fun g36 => ?_)
          refine r_iload_n C dX7_chosen_39 lg_3 ?_
          refine r_aald C (N := 60) 256 dX7_chosen_40 (by decide) rfl rfl (by rw [h192]; exact hl8) (by omega) (by omega) (by omega) (fun g40 => ?_)
          refine r_goto C (tgt := 45) dX7_chosen_41 (by decide) ?_
          exact f_A F dX7_chosen_45 (by have := hA.2.2 3; omega) (by
            first
            | (exfalso; omega)
            | exact ⟨cI_f (fun q => c20 (hcb.mpr q.1)), rfl, rfl⟩
            | exact ⟨cI_f (fun q => c19 (hcb.mpr q.1)), rfl, rfl⟩
            | (rcases hp2 with ⟨h1, h2⟩ | ⟨h1, h2⟩
               · rw [h2]; exact ⟨cI_t ⟨hcb.mp c19, h1⟩, rfl, rfl⟩
               · rw [h2]; exact ⟨cI_f (fun q => h1 q.2), rfl, rfl⟩)) (Nat.le_of_ble_eq_true rfl) (Nat.le_of_ble_eq_true rfl)
theorem hs_nn {f : Int → Int} : ∀ l : List Int, (∀ x ∈ l, 0 ≤ f x) → 0 ≤ hs f l
  | [], _ => Int.le_refl _
  | x :: t, h => by
    have h1 := hs_nn t (fun y hy => h y (List.mem_cons_of_mem _ hy))
    have h2 := h x List.mem_cons_self
    show 0 ≤ f x + hs f t
    omega
set_option maxRecDepth 20000 in
theorem cB_spread {G : GT} {l : Launch} (hfl : l.stackTraces = false) {S : ST} {A : AB} {a b s sm : Int} {R : RW} (hl6 : lv1 A 6 0) (hl8 : lv1 A 8 0) (hl9 : lv1 A 9 0) (h192 : S 192 0 = 0) (h196 : S 196 0 = 0) (hpo : ∀ j, 0 ≤ j → j < 60 → S 256 j = if j < R.n then j else -1) (hn : 0 ≤ R.n ∧ R.n ≤ 60) (hA3 : R.n ≤ A.2 3) (hbit : ∀ r, R.n ≤ r → r < 60 → ¬ hasB s r) (hs9 : rL s) (ha : 1 ≤ a ∧ a ≤ 1000000) (hb : rI b) (hsm : 0 < sm ∧ rL sm) (hrw : ∀ m, 0 ≤ m → m < R.n → hasB s m → (0 ≤ S 100 m ∧ S 100 m ≤ 1000) ∧ (0 ≤ S 101 m ∧ S 101 m ≤ 1000000) ∧ (0 ≤ S 99 m ∧ S 99 m ≤ 5) ∧ (0 ≤ S 288 (S 99 m) ∧ S 288 (S 99 m) ≤ 100)) (hbs : ∀ m, 0 ≤ m → m < R.n → hasB s m → bsC S b m ≤ sm) (hne : b60.1 s ≠ []) (hA5m : A.2 5 ≤ 100000) : CT G l yX7_spread cX7_spread 13 (some (.object "Layerbook$Share")) (rmk 2 60 240 55) S A [vR A 6 0, vI a, vI b, vL s, vL sm] (oA 5 fun z S' A' => AE A A' ∧ (∀ k', k' ≠ 5 → A'.2 k' = A.2 k') ∧ (A.2 5 ≤ A'.2 5 ∧ A'.2 5 ≤ A.2 5 + 60) ∧ rL z ∧ (∀ (c : Nat) (w : Int), (c / 32 ≠ 5 ∨ w < A.2 5) → S' c w = S c w) ∧ SHC S' (A'.2 5) z ((b60.1 s).map (fun r => (r, spC S a b s sm r)))) (noX) := by
  refine ct_ofN (own := RX7) (mn := "spread") rfl rfl (by decide) hfl (lv0 := [some (vR A 6 0), some (vI a), some (vI b), some (vL s), none, some (vL sm), none, none, none, none, none, none, none]) (ent_1 (cat_R _ _ _) (ent_1 rfl (ent_1 rfl (ent_2 rfl (ent_2 rfl (ent_n (ent_n (ent_n (ent_n (ent_n (ent_n ent_0))))))))))) rfl ?_
  intro J X C F FX FT FU hW hA
  have hbb : ∀ m, 0 ≤ m → m < R.n → hasB s m → 0 ≤ bsC S b m ∧ bsC S b m ≤ 1000000 := fun m m0 m1 mb => by
    obtain ⟨e1, e2, e3, e4⟩ := hrw m m0 m1 mb
    have e5 := mul_b e1.1 e1.2 e4.1 e4.2
    unfold bsC
    split
    · omega
    · split <;> omega
  have hpp : ∀ m, 0 ≤ m → m < R.n → hasB s m → 0 ≤ a * bsC S b m ∧ a * bsC S b m ≤ 1000000000000 := fun m m0 m1 mb => by
    have h9 := hbb m m0 m1 mb
    have h8 := mul_b (a := a) (b := bsC S b m) (by omega) ha.2 h9.1 h9.2
    omega
  have hqq : ∀ m, 0 ≤ m → m < R.n → hasB s m → 0 ≤ shC S a b sm m ∧ shC S a b sm m ≤ 1000000 := fun m m0 m1 mb => by
    have h9 := quo_b (a := a) (by omega) (hbb m m0 m1 mb).1 hsm.1 (hbs m m0 m1 mb)
    have h8 : 0 ≤ a * bsC S b m / sm ∧ a * bsC S b m / sm ≤ a := h9
    show 0 ≤ a * bsC S b m / sm ∧ a * bsC S b m / sm ≤ 1000000
    omega
  have lp2 : ∀ (A1 : AB) (e : Int → Int) (z lf r0 : Int) (t0 : List Int) (k n : Nat) (hE : AE A A1) (hAo : ∀ k', k' ≠ 5 → A1.2 k' = A.2 k') (hA5 : A.2 5 ≤ A1.2 5 ∧ A1.2 5 ≤ A.2 5 + 60) (hl : r0 :: t0 = b60.1 s) (hnd : (r0 :: t0).Nodup) (hid : ∀ r ∈ r0 :: t0, A.2 5 ≤ e r) (hlf : -100000000 ≤ lf ∧ lf ≤ 1000000) (hz : rL z ∧ z < A1.2 5) (hk : k ≤ 60) (hn9 : n = 4 * k) (N : Nat) (j : Int) (S2 : ST) (f p : Int → Int) (h1 : 0 ≤ j) (h2 : j ≤ lf ∨ j = 0) (hS : ∀ (c : Nat) (w : Int), (c / 32 ≠ 5 ∨ w < A.2 5) → S2 c w = S c w) (hch : SH3 S2 (A1.2 5) e f p z (r0 :: t0)) (hpb : ∀ r ∈ r0 :: t0, 0 ≤ p r ∧ p r ≤ 1000000 + j) (hG : gvC r0 t0 (lf - j).toNat f p = spC S a b s sm) (hN : (lf - j).toNat < N), J 91 [some (vR A1 6 0), some (vI a), some (vI b), some (vL s), none, some (vL sm), none, some (vR A1 5 z), some (vI lf), some (vI j), none, none, none] [] S2 A1 k n := by
    intro A1 e z lf r0 t0 k n hE hAo hA5 hl hnd hid hlf hz hk hn9 N
    induction N with
    | zero => intro j S2 f p h1 h2 hS hch hpb hG hN; omega
    | succ N ih =>
      intro j S2 f p h1 h2 hS hch hpb hG hN
      have hgm : gml f r0 t0 ∈ r0 :: t0 := by
        rcases gml_mem (f := f) t0 r0 with h | h
        · rw [h]; exact List.mem_cons_self
        · exact List.mem_cons_of_mem _ h
      have hge := hch.mem hgm
      have hgi := hid _ hgm
      refine r_iload C dX7_spread_91 lg_9 ?_
      refine r_iload C dX7_spread_93 lg_8 ?_
      refine r_icge C (tgt := 109) dX7_spread_95 (by decide) (by omega) (by omega) (fun c95 => ?_) (fun c95 => ?_)
      · refine r_aload C dX7_spread_109 lg_7 ?_
        exact f_A F dX7_spread_111 hz.2 (by
          have e0 : (lf - j).toNat = 0 := by omega
          rw [e0] at hG
          have hG' : p = spC S a b s sm := hG
          refine ⟨hE, hAo, hA5, hz.1, hS, ?_⟩
          rw [← hG', ← hl]
          exact hch.shc) (show _ ≤ 60 by omega) (show _ ≤ 240 by omega)
      · refine r_aload C dX7_spread_98 lg_7 ?_
        refine q_S1V C (cB_give hfl hch (fun r hr => by have := hpb r hr; omega)) dX7_spread_100 lk_X7_267 ⟨Nat.le_of_ble_eq_true rfl, Nat.le_of_ble_eq_true rfl⟩ (catLe (Nat.le_of_ble_eq_true rfl)) ⟨rfl, rfl⟩ rfl (show _ ≤ 60 by omega) (show _ ≤ 240 by omega) (fun S100 A100 p100 => ?_)
        obtain ⟨rfl, rfl⟩ := p100
        refine r_iinc C dX7_spread_103 lg_9 (ls1_9 rfl rfl) ?_
        refine r_goto C (tgt := 91) dX7_spread_106 (by decide) ?_
        refine ih (j + 1) _ (fu f (gml f r0 t0) (-1)) (fu p (gml f r0 t0) (p (gml f r0 t0) + 1)) (by omega) (by omega) (fun c w hc => ?_) (hch.give hgm) (fun r hr => ?_) ?_ (by omega)
        · rw [← hS c w hc]
          have h5 : ∀ (T : ST) (c0 : Nat) (v : Int), c0 / 32 = 5 → upS T c0 (e (gml f r0 t0)) v c w = T c w := fun T c0 v h0 => by
            rcases hc with hc | hc
            · exact upS_c _ _ (fun e => hc (e ▸ h0))
            · exact upS_z _ _ (by omega)
          rw [h5 _ _ _ (by decide), h5 _ _ _ (by decide)]
        · have h7 := hpb _ hgm
          have h8 := hpb _ hr
          by_cases e1 : r = gml f r0 t0
          · rw [e1, fu_self]; omega
          · rw [fu_ne _ _ e1]; omega
        · rw [← hG, show (lf - j).toNat = (lf - (j + 1)).toNat + 1 by omega]
          rfl
  have lp : ∀ (N : Nat) (i : Int) (S1 : ST) (A1 : AB) (e : Int → Int) (z lf : Int) (k n : Nat) (h1 : -1 ≤ i) (h2 : i ≤ 59) (hE : AE A A1) (hA5 : A1.2 5 = A.2 5 + ((bls s (59 - i).toNat).length : Int)) (hAo : ∀ k', k' ≠ 5 → A1.2 k' = A.2 k') (hS : ∀ (c : Nat) (w : Int), (c / 32 ≠ 5 ∨ w < A.2 5) → S1 c w = S c w) (hch : SH3 S1 (A1.2 5) e (rmC S a b sm) (shC S a b sm) z (bls s (59 - i).toNat)) (hz : rL z ∧ z < A1.2 5) (hid : ∀ r ∈ (bls s (59 - i).toNat), A.2 5 ≤ e r) (hlf : lf = a - hs (shC S a b sm) (bls s (59 - i).toNat)) (hk : (k : Int) ≤ 59 - i) (hn9 : n = 4 * k) (hN : i + 1 < N), J 10 [some (vR A1 6 0), some (vI a), some (vI b), some (vL s), none, some (vL sm), none, some (vR A1 5 z), some (vI lf), some (vI i), none, none, none] [] S1 A1 k n := by
    intro N
    induction N with
    | zero => intro i S1 A1 e z lf k n h1 h2 hE hA5 hAo hS hch hz hid hlf hk hn9 hN; omega
    | succ N ih =>
      intro i S1 A1 e z lf k n h1 h2 hE hA5 hAo hS hch hz hid hlf hk hn9 hN
      have l6 : lv1 A1 6 0 := ⟨hl6.1, by rw [hAo 6 (by omega)]; exact hl6.2⟩
      have l8 : lv1 A1 8 0 := ⟨hl8.1, by rw [hAo 8 (by omega)]; exact hl8.2⟩
      have l9 : lv1 A1 9 0 := ⟨hl9.1, by rw [hAo 9 (by omega)]; exact hl9.2⟩
      have e192 : S1 192 0 = 0 := (hS 192 0 (Or.inl (by decide))).trans h192
      have e196 : S1 196 0 = 0 := (hS 196 0 (Or.inl (by decide))).trans h196
      have hpo1 : ∀ j, 0 ≤ j → j < 60 → S1 256 j = if j < R.n then j else -1 := fun j j0 j1 => (hS 256 j (Or.inl (by decide))).trans (hpo j j0 j1)
      have hA50 := hA.2.2 5
      have hcz : (hasB s i ∧ i < R.n ∧ chZ R s i = i) ∨ (¬ (hasB s i ∧ i < R.n) ∧ chZ R s i = -1) := by
        rcases Classical.em (hasB s i ∧ i < R.n) with h | h
        · exact Or.inl ⟨h.1, h.2, cI_t h⟩
        · exact Or.inr ⟨h, cI_f h⟩
      have hsb : -(1000000 * ((bls s (59 - i).toNat).length : Int)) ≤ hs (shC S a b sm) (bls s (59 - i).toNat) ∧ hs (shC S a b sm) (bls s (59 - i).toNat) ≤ 1000000 * ((bls s (59 - i).toNat).length : Int) := hs_b _ (fun r hr => by
        have h9 := bls_mem _ hr
        have h8 : r < R.n := by
          by_cases q : r < R.n
          · exact q
          · exact absurd h9.2.2 (hbit r (by omega) h9.2.1)
        have h7 := hqq r (by omega) h8 h9.2.2
        omega)
      have hll : (bls s (59 - i).toNat).length ≤ (59 - i).toNat := bls_len s _
      refine r_iload C dX7_spread_10 lg_9 ?_
      refine r_iflt C (tgt := 88) dX7_spread_12 (by decide) (by omega) (fun c12 => ?_) (fun c12 => ?_)
      · have hi9 : i = -1 := by omega
        subst hi9
        refine r_iconst C dX7_spread_88 ?_
        refine r_istore C dX7_spread_89 (ls1_9 rfl rfl) ?_
        have e60 : bls s (59 - (-1 : Int)).toNat = b60.1 s := bls_60 (by decide)
        rw [e60] at hch hid hlf hA5 hsb hll
        obtain ⟨r0, t0, hrt⟩ : ∃ r0 t0, b60.1 s = r0 :: t0 := by
          cases hq : b60.1 s with
          | nil => exact absurd hq hne
          | cons r0 t0 => exact ⟨r0, t0, rfl⟩
        have hnd : (b60.1 s).Nodup := by rw [← e60]; exact bls_nd s _
        have hmm : ∀ r ∈ b60.1 s, 0 ≤ shC S a b sm r ∧ shC S a b sm r ≤ 1000000 := fun r hr => by
          rw [b60_e] at hr
          have h9 := (bl_mem 60).mp hr
          have h8 : r < R.n := by
            by_cases q : r < R.n
            · exact q
            · exact absurd h9.2 (hbit r (by omega) (by have := h9.1.2; omega))
          exact hqq r h9.1.1 h8 h9.2
        have hge := hs_nn (f := shC S a b sm) (b60.1 s) (fun r hr => (hmm r hr).1)
        have hsp : spC S a b s sm = gvC r0 t0 (lf - 0).toNat (rmC S a b sm) (shC S a b sm) := by
          unfold spC
          rw [hrt] at hlf ⊢
          rw [Int.sub_zero, hlf]
          rfl
        rw [hrt] at hch hid hnd hmm
        exact lp2 A1 e z lf r0 t0 k n hE hAo ⟨by omega, by omega⟩ hrt.symm hnd hid ⟨by omega, by omega⟩ hz (by omega) hn9 ((lf - 0).toNat + 1) 0 S1 _ _ (by omega) (Or.inr rfl) hS hch (fun r hr => by have := hmm r hr; omega) hsp.symm (by omega)
      · refine r_aload_n C dX7_spread_15 lg_0 ?_
        refine r_lload_n C dX7_spread_16 lg_3 ?_
        refine r_iload C dX7_spread_17 lg_9 ?_
        refine q_V2A C (cB_chosen2 hfl (R := R) l6 l8 e192 hpo1 ⟨by omega, by omega⟩) dX7_spread_19 lk_X7_228 l6 ⟨Nat.le_of_ble_eq_true rfl, Nat.le_of_ble_eq_true rfl⟩ (catLe (Nat.le_of_ble_eq_true rfl)) ⟨rfl, rfl⟩ rfl (show _ ≤ 60 by omega) (show _ ≤ 240 by omega) (fun z19 S19 A19 i19 p19 => ?_)
        obtain ⟨rfl, rfl, rfl⟩ := p19
        refine r_astore C dX7_spread_22 (ls1_10 (cat_R _ _ _) rfl) ?_
        refine r_aload C dX7_spread_24 lg_10 ?_
        refine r_ifnull C (tgt := 82) dX7_spread_26 (by decide) (fun c26 => ?_) (fun c26 => ?_)
        · have hbn : ¬ hasB s i := by
            rcases hcz with ⟨a1, a2, a3⟩ | ⟨a1, a2⟩
            · exfalso; omega
            · intro q
              by_cases q2 : i < R.n
              · exact a1 ⟨q, q2⟩
              · exact hbit i (by omega) (by omega) q
          have hbl := bls_f (s := s) (i := i) (by omega) h2 hbn
          have hgo := ih (i + -1) S1 A1 e z lf k n (by omega) (by omega) hE (by rw [hbl]; exact hA5) hAo hS (by rw [hbl]; exact hch) hz (by rw [hbl]; exact hid) (by rw [hbl]; exact hlf) (by omega) hn9 (by omega)
          refine r_iinc C dX7_spread_82 lg_9 (ls1_9 rfl rfl) ?_
          refine r_goto C (tgt := 10) dX7_spread_85 (by decide) ?_
          refine r_le C (lle_k (lle_k (lle_k (lle_k (lle_k (lle_k (lle_k (lle_k (lle_k (lle_k (lle_f (lle_k (lle_k lle_0))))))))))))) ?_
          first
          | exact hgo
          | (refine ih (i + -1) S67 A2 (fu e i (A1.2 5)) (A1.2 5) _ (k + 1) (n + 4) (by omega) (by omega) (hE.tr hE2) ?_ (fun k' h' => (ho2 k' h').trans (hAo k' h')) (fun c w hc => (ko c w (hc.imp id (fun h => by omega))).trans (hS c w hc)) ?_ ⟨by omega, by omega⟩ ?_ ?_ (by omega) (by omega) (by omega)
             · rw [hbl, List.length_cons]; omega
             · rw [hbl]
               refine ⟨⟨(fu_self _ _ _).symm, lz.1, lz.2⟩, ⟨k160, k162, k163⟩, ?_⟩
               rw [k161]
               refine hch.mp (by omega) (fun r hr => ?_)
               have h9 := (bls_mem _ hr).1
               have h8 := (hch.mem hr).1
               have h7 : r ≠ i := by omega
               have h6 : e r ≠ A1.2 5 := by omega
               refine ⟨fu_ne _ _ h7, ko _ _ (Or.inr h6), ko _ _ (Or.inr h6), fun q => ?_, fun q => ?_⟩
               · rw [ko _ _ (Or.inr h6)]; exact q
               · rw [ko _ _ (Or.inr h6)]; exact q
             · rw [hbl]
               intro r hr
               by_cases e1 : r = i
               · rw [e1, fu_self]; omega
               · rw [fu_ne _ _ e1]
                 rcases List.mem_cons.mp hr with h | h
                 · exact absurd h e1
                 · exact hid r h
             · rw [hbl, hlf]
               show _ = a - (a * bsC S b i / sm + hs (shC S a b sm) (bls s (59 - i).toNat))
               omega)
        · have hq9 : hasB s i ∧ i < R.n ∧ chZ R s i = i := by
            rcases hcz with h | ⟨h, e⟩
            · exact h
            · exfalso; omega
          obtain ⟨hbi, hin, hzi⟩ := hq9
          rw [hzi]
          have hbl := bls_t (s := s) (i := i) (by omega) h2 hbi
          have hzl : lv1 A1 3 i := ⟨by omega, by rw [hAo 3 (by omega)]; omega⟩
          have x99 := hS 99 i (Or.inl (by decide))
          have x100 := hS 100 i (Or.inl (by decide))
          have x101 := hS 101 i (Or.inl (by decide))
          have x288 := hS 288 (S 99 i) (Or.inl (by decide))
          have hrw9 := hrw i (by omega) hin hbi
          have w1 : 0 ≤ S1 100 i ∧ S1 100 i ≤ 1000 := by rw [x100]; exact hrw9.1
          have w2 : 0 ≤ S1 101 i ∧ S1 101 i ≤ 1000000 := by rw [x101]; exact hrw9.2.1
          have w3 : 0 ≤ S1 99 i ∧ S1 99 i ≤ 5 := by rw [x99]; exact hrw9.2.2.1
          have w4 : 0 ≤ S1 288 (S1 99 i) ∧ S1 288 (S1 99 i) ≤ 100 := by rw [x99, x288]; exact hrw9.2.2.2
          have eb : bsC S1 b i = bsC S b i := by unfold bsC; rw [x99, x100, x101, x288]
          have hq1 := hqq i (by omega) hin hbi
          have hp1 := hpp i (by omega) hin hbi
          have hm1 := Int.emod_nonneg (a * bsC S b i) (show sm ≠ 0 by omega)
          have hm2 := Int.emod_lt_of_pos (a * bsC S b i) hsm.1
          have hq2 : 0 ≤ a * bsC S b i / sm ∧ a * bsC S b i / sm ≤ 1000000 := hq1
          have hsm2 := hsm.2
          refine r_lload C dX7_spread_29 lg_5 ?_
          refine r_lconst C dX7_spread_31 0 rfl ?_
          refine r_lcle C (tgt := 82) dX7_spread_32 dX7_spread_33 (by decide) (by omega) (by omega) (fun c32 => ?_) (fun c32 => ?_)
          · exfalso; omega
          · refine r_iload_n C dX7_spread_36 lg_1 ?_
            refine r_i2l C dX7_spread_37 (by omega) ?_
            refine r_aload_n C dX7_spread_38 lg_0 ?_
            refine r_aload C dX7_spread_39 lg_10 ?_
            refine r_iload_n C dX7_spread_41 lg_2 ?_
            refine q_V2J C (cB_basis hfl l6 l9 e196 hzl hb w1 w2 w3 w4) dX7_spread_42 lk_X7_260 l6 ⟨Nat.le_of_ble_eq_true rfl, Nat.le_of_ble_eq_true rfl⟩ (catLe (Nat.le_of_ble_eq_true rfl)) ⟨rfl, rfl⟩ rfl (show _ ≤ 60 by omega) (show _ ≤ 240 by omega) (fun z42 S42 A42 i42 p42 => ?_)
            obtain ⟨rfl, rfl, rfl⟩ := p42
            rw [eb]
            refine r_lmul C dX7_spread_45 ?_
            refine r_lstore C dX7_spread_46 (ls2_11 rfl (cat_R _ _ _)) ?_
            refine r_new C dX7_spread_48 (kd := 5) (N := 4) rfl nw_X7_154.1 nw_X7_154.2.1 nw_X7_154.2.2 (show _ ≤ 60 by omega) (show _ ≤ 240 by omega) (fun q48 => ?_)
            refine r_gAS (fun A2 S48 hE2 hc2 ho2 hs2 hd2 => ?_)
            rw [← (hE2 6 0 l6.2).1, ← (hE2 5 z hz.2).1, ← (hE2 3 i hzl.2).1]
            have lz : lv1 A2 5 (A1.2 5) := ⟨by omega, by omega⟩
            refine r_dup C dX7_spread_51 (cat_R _ _ _) ?_
            refine r_aload C dX7_spread_52 lg_10 ?_
            refine r_lload C dX7_spread_54 lg_11 ?_
            refine r_lload C dX7_spread_56 lg_5 ?_
            refine r_ldiv C dX7_spread_58 (by omega) (by omega) (by omega) (by omega) ?_
            refine r_l2i C dX7_spread_59 ?_
            refine r_lload C dX7_spread_60 lg_11 ?_
            refine r_lload C dX7_spread_62 lg_5 ?_
            refine r_lrem C dX7_spread_64 (by omega) (by omega) (by omega) (by omega) ?_
            refine r_aload C dX7_spread_65 lg_7 ?_
            refine q_I4V C (cS_init hfl lz ⟨⟨hzl.1, by rw [ho2 3 (by omega)]; exact hzl.2⟩, by omega⟩ (by omega) (by omega) ⟨hz.1, by omega⟩) dX7_spread_67 lk_X7_264 (by omega) ⟨Nat.le_of_ble_eq_true rfl, Nat.le_of_ble_eq_true rfl⟩ (catLe (Nat.le_of_ble_eq_true rfl)) ⟨rfl, rfl⟩ rfl (show _ ≤ 60 by omega) (show _ ≤ 240 by omega) (fun S67 A67 p67 => ?_)
            obtain ⟨rfl, rfl⟩ := p67
            refine r_gS (fun S67 h67 => ?_)
            have k160 : S67 160 (A1.2 5) = i := by rw [h67, upS_c _ _ (by decide), upS_c _ _ (by decide), upS_c _ _ (by decide), upS_self]
            have k162 : S67 162 (A1.2 5) = a * bsC S b i / sm := by rw [h67, upS_c _ _ (by decide), upS_c _ _ (by decide), upS_self]
            have k163 : S67 163 (A1.2 5) = a * bsC S b i % sm := by rw [h67, upS_c _ _ (by decide), upS_self]
            have k161 : S67 161 (A1.2 5) = z := by rw [h67, upS_self]
            have ko : ∀ (c : Nat) (w : Int), (c / 32 ≠ 5 ∨ w ≠ A1.2 5) → S67 c w = S1 c w := fun c w hc => by
              have hu : ∀ (T : ST) (c0 : Nat) (v : Int), c0 / 32 = 5 → upS T c0 (A1.2 5) v c w = T c w := fun T c0 v h0 => by
                rcases hc with hc | hc
                · exact upS_c _ _ (fun e => hc (e ▸ h0))
                · exact upS_z _ _ hc
              rw [h67, hu _ _ _ (by decide), hu _ _ _ (by decide), hu _ _ _ (by decide), hu _ _ _ (by decide)]
              exact hs2 c w (hc.imp id (fun h => ⟨by omega, h⟩))
            refine r_astore C dX7_spread_70 (ls1_7 (cat_R _ _ _) trivial) ?_
            refine r_iload C dX7_spread_72 lg_8 ?_
            refine r_aload C dX7_spread_74 lg_7 ?_
            refine r_getI C 162 dX7_spread_76 fg_X7_153_5 rfl rfl lz (fun g76 => ?_)
            rw [k162]
            refine r_isub C dX7_spread_79 ?_
            refine r_istore C dX7_spread_80 (ls1_8 rfl (cat_R _ _ _)) ?_
            refine r_iinc C dX7_spread_82 lg_9 (ls1_9 rfl rfl) ?_
            refine r_goto C (tgt := 10) dX7_spread_85 (by decide) ?_
            refine r_le C (lle_k (lle_k (lle_k (lle_k (lle_k (lle_k (lle_k (lle_k (lle_k (lle_k (lle_f (lle_f (lle_k lle_0))))))))))))) ?_
            first
            | exact hgo
            | (refine ih (i + -1) S67 A2 (fu e i (A1.2 5)) (A1.2 5) _ (k + 1) (n + 4) (by omega) (by omega) (hE.tr hE2) ?_ (fun k' h' => (ho2 k' h').trans (hAo k' h')) (fun c w hc => (ko c w (hc.imp id (fun h => by omega))).trans (hS c w hc)) ?_ ⟨by omega, by omega⟩ ?_ ?_ (by omega) (by omega) (by omega)
               · rw [hbl, List.length_cons]; omega
               · rw [hbl]
                 refine ⟨⟨(fu_self _ _ _).symm, lz.1, lz.2⟩, ⟨k160, k162, k163⟩, ?_⟩
                 rw [k161]
                 refine hch.mp (by omega) (fun r hr => ?_)
                 have h9 := (bls_mem _ hr).1
                 have h8 := (hch.mem hr).1
                 have h7 : r ≠ i := by omega
                 have h6 : e r ≠ A1.2 5 := by omega
                 refine ⟨fu_ne _ _ h7, ko _ _ (Or.inr h6), ko _ _ (Or.inr h6), fun q => ?_, fun q => ?_⟩
                 · rw [ko _ _ (Or.inr h6)]; exact q
                 · rw [ko _ _ (Or.inr h6)]; exact q
               · rw [hbl]
                 intro r hr
                 by_cases e1 : r = i
                 · rw [e1, fu_self]; omega
                 · rw [fu_ne _ _ e1]
                   rcases List.mem_cons.mp hr with h | h
                   · exact absurd h e1
                   · exact hid r h
               · rw [hbl, hlf]
                 show _ = a - (a * bsC S b i / sm + hs (shC S a b sm) (bls s (59 - i).toNat))
                 omega)
  refine r_null C 5 dX7_spread_0 ?_
  refine r_astore C dX7_spread_1 (ls1_7 (cat_R _ _ _) trivial) ?_
  refine r_iload_n C dX7_spread_3 lg_1 ?_
  refine r_istore C dX7_spread_4 (ls1_8 rfl (cat_R _ _ _)) ?_
  refine r_bipush C dX7_spread_6 (by decide) ?_
  refine r_istore C dX7_spread_8 (ls1_9 rfl rfl) ?_
  exact lp 61 59 S A (fun _ => 0) (-1) a 0 0 (by omega) (by omega) AE.rf (by show _ = A.2 5 + ((0 : Nat) : Int); simp) (fun _ _ => rfl) (fun _ _ _ => rfl) rfl ⟨by omega, by have := hA.2.2 5; omega⟩ (fun r hr => by cases hr) (by show a = a - 0; omega) (by omega) rfl (by omega)
