/-! the law: cancelling and landing, in the rows -/
/-- when a movement can be cancelled -/
def CCR (R : RW) (S : ST) (m : Int) : Prop := R.gn m = 0 ∧ S 198 0 < R.dy m ∧ (R.kd m = 0 → (¬ ∃ x ∈ LdR R, m ∈ (shR R x).map Prod.fst) ∧ R.qt m ≤ spR R (R.it m) (R.dy m) m)
theorem cc_iff {R : RW} {S : ST} {A : AB} (hP : PI R S A) {m : Int} (hm : 0 ≤ m ∧ m < R.n) : (S 103 m = 0 ∧ S 198 0 < S 98 m ∧ (S 97 m = 0 → (¬ (∃ x ∈ LdR R, m ∈ (shR R x).map Prod.fst) ∧ S 100 m ≤ spf (S 98) (S 96) (S 99) (dlt (S 97) (S 100)) (S 100) (fun m => S 97 m = 1 ∨ S 97 m = 2) (S 99 m) (S 98 m) (S 96 m) (LdR R) 0 0))) ↔ CCR R S m := by
  obtain ⟨hCK, hR, hR2, hV⟩ := hP
  obtain ⟨a1, a2, a3, a4, a5, a6, a7, a8, a9⟩ := (hCK.2.2.2.2.1 m hm.1 hm.2).1
  unfold CCR
  rw [ck_spR hCK hR, a8, a3, a2, a5, a4, a1]
theorem acc7C {z a : Int} {IN B : Prop} {C : Prop} {X Y : Prop} (h : (z = a ∧ (IN ∧ B) ∧ C) ∨ (z = -5 ∧ ¬ IN ∧ X) ∨ (z = -7 ∧ (IN ∧ ¬ B) ∧ Y)) (hi : IN) (hb : B) : a = z ∧ C := by
  rcases h with h | h | h
  · exact ⟨h.1.symm, h.2.2⟩
  · exact absurd hi h.2.1
  · exact absurd hb h.2.1.2
theorem ref7C {z a : Int} {IN B D C X : Prop} {S S' : ST} (h : (z = a ∧ (IN ∧ B) ∧ C) ∨ (z = -5 ∧ ¬ IN ∧ X) ∨ (z = -7 ∧ (IN ∧ D) ∧ S = S')) (hi : IN) (hn : ¬ B) : -7 = z ∧ S = S' := by
  rcases h with h | h | h
  · exact absurd h.2.1.2 hn
  · exact absurd hi h.2.1
  · exact ⟨h.1.symm, h.2.2⟩
theorem pl_can {R : RW} {S S' : ST} {A : AB} (hL : PL R S A) {m : Int} (hm : 0 ≤ m ∧ m < R.n) (hc : CCR R S m) (hK : CK (rwC R m) S' A) (hF : Fr [103, 104, 64, 65] S S') : PL (rwC R m) S' A := by
  obtain ⟨⟨hCK, hR, hR2, hV⟩, hX, h3, h4, h5, h6, h7, h8⟩ := hL
  obtain ⟨c1, c2, c3⟩ := hc
  have hg := rg_C hR hR2 hm (fun k => (c3 k).1)
  refine ⟨⟨hK, hg.1, hg.2, rv_C hR hV hm c1 (fun k => (c3 k).2)⟩, rx_C hX m, ?_, h4, h5, ?_, ?_, ?_⟩
  · rw [hF.fn (c := 288) (by decide)]; exact h3
  · rw [hF 1280 0 (by decide), hF 198 0 (by decide)]; exact h6
  · rw [hF.fn (c := 1312) (by decide)]; exact h7
  · rw [hF.fn (c := 1344) (by decide), hF.fn (c := 288) (by decide)]; exact h8
/-! landing -/
theorem nz_bit {s : Int} (hs : rL s) (h : ¬ s = 0) : ∃ r, 0 ≤ r ∧ r < 64 ∧ hasB s r := by
  refine Classical.byContradiction fun q => h ?_
  refine (lI_eq hs rL_0).mp (Int64.toBitVec_inj.mp ?_)
  have e : (lI 0).toBitVec = 0#64 := rfl
  rw [e]
  apply BitVec.eq_of_getLsbD_eq
  intro i hi
  rw [BitVec.getLsbD_zero]
  refine Bool.eq_false_iff.mpr (fun hb => q ⟨(i : Int), by omega, by omega, ?_⟩)
  rw [has_bit (by omega) (by omega)]
  unfold bitB
  rw [Int.toNat_natCast]
  exact hb
/-- all that is chosen can bear a cost of that day -/
def LQR (R : RW) (s d : Int) : Prop := allR 0 R.n (fun r => hasB s r → R.gn r = 0 ∧ R.kd r = 0 ∧ R.dy r ≤ d)
theorem lq_iff {R : RW} {S : ST} {A : AB} (hP : PI R S A) {s d : Int} : allR 0 R.n (fun m => hasB s m → S 103 m = 0 ∧ S 97 m = 0 ∧ S 98 m ≤ d) ↔ LQR R s d := by
  obtain ⟨hCK, hR, hR2, hV⟩ := hP
  have hr : ∀ m, 0 ≤ m → m < R.n → S 103 m = R.gn m ∧ S 97 m = R.kd m ∧ S 98 m = R.dy m := fun m m0 m1 => by
    obtain ⟨a1, a2, a3, a4, a5, a6, a7, a8, a9⟩ := (hCK.2.2.2.2.1 m m0 m1).1
    exact ⟨a8, a2, a3⟩
  constructor
  · intro h m m0 m1 mb
    obtain ⟨r1, r2, r3⟩ := hr m m0 m1
    have h9 := h m m0 m1 mb
    rw [r1, r2, r3] at h9
    exact h9
  · intro h m m0 m1 mb
    obtain ⟨r1, r2, r3⟩ := hr m m0 m1
    rw [r1, r2, r3]
    exact h m m0 m1 mb
theorem bs_b {R : RW} {S : ST} {A : AB} (hL : PL R S A) {s d b : Int} (hb : 0 ≤ b ∧ b ≤ 2) (hq : LQR R s d) : ∀ m, 0 ≤ m → m < R.n → hasB s m → (0 ≤ bsC S b m ∧ bsC S b m ≤ 1000000) ∧ (¬ b = 1 → 1 ≤ bsC S b m) := by
  intro m m0 m1 mb
  obtain ⟨⟨hCK, hR, hR2, hV⟩, hX, h3, _⟩ := hL
  obtain ⟨a1, a2, a3, a4, a5, a6, a7, a8, a9⟩ := (hCK.2.2.2.2.1 m m0 m1).1
  have hk0 := (hq m m0 m1 mb).2.1
  have h9 := (hR.2 m m0 m1).1
  have hit := h9.2.2.1 (by omega)
  have hqt := h9.2.2.2.1
  have hco := h9.2.2.2.2
  have hw := h3 (R.it m) hit.1.1 hit.1.2
  have hmb := mul_b hqt.1 hqt.2 (show 0 ≤ S 288 (R.it m) by omega) hw.2
  unfold bsC
  rw [a4, a5, a6]
  by_cases b1 : b = 1
  · rw [if_pos b1]; exact ⟨hco, fun q => absurd b1 q⟩
  · rw [if_neg b1]
    by_cases b2 : b = 2
    · rw [if_pos b2]
      refine ⟨⟨hmb.1, by omega⟩, fun _ => ?_⟩
      have h5 : 0 < R.qt m * S 288 (R.it m) := Int.mul_pos (by omega) (by omega)
      omega
    · rw [if_neg b2]; exact ⟨⟨hqt.1, by omega⟩, fun _ => hit.2⟩
theorem sm_pos {R : RW} {S : ST} {A : AB} (hL : PL R S A) {s d b : Int} (hb : 0 ≤ b ∧ b ≤ 2) (hq : LQR R s d) (hs : rL s) (hs0 : ¬ s = 0) (hbit : allR R.n 64 (fun m => ¬ hasB s m)) (hb1 : ¬ b = 1) : 0 < sumI (fun m => cI (hasB s m ∧ m < R.n) (bsC S b m) 0) 60 := by
  obtain ⟨r, r0, r1, hr⟩ := nz_bit hs hs0
  have hn := hL.1.2.1.1
  have hrn : r < R.n := by
    by_cases q : r < R.n
    · exact q
    · exact absurd hr (hbit r (by omega) r1)
  have hbs := bs_b hL hb hq
  have h1 := sum_ge (f := fun m => cI (hasB s m ∧ m < R.n) (bsC S b m) 0) 60 (fun m m0 _ => by
    show 0 ≤ cI (hasB s m ∧ m < R.n) (bsC S b m) 0
    by_cases q : hasB s m ∧ m < R.n
    · rw [cI_t q]; exact (hbs m m0 q.2 q.1).1.1
    · rw [cI_f q]; omega) r r0 (by omega)
  have h2 : cI (hasB s r ∧ r < R.n) (bsC S b r) 0 ≤ sumN (fun m => cI (hasB s m ∧ m < R.n) (bsC S b m) 0) 60 := h1
  rw [cI_t ⟨hr, hrn⟩] at h2
  have h3 := (hbs r r0 hrn hr).2 hb1
  show 0 < sumN (fun m => cI (hasB s m ∧ m < R.n) (bsC S b m) 0) 60
  omega
noncomputable def ptZ (R : RW) (S : ST) (a b s sm : Int) : Int → Int := fun j => if 60 * R.n ≤ j ∧ j < 60 * R.n + 60 then cI (hasB s (j - 60 * R.n)) (spC S a b s sm (j - 60 * R.n)) 0 else R.pt j
theorem ptZ_o {R : RW} {S : ST} {a b s sm x r : Int} (h : x < R.n) (h0 : 0 ≤ r) (h1 : r < 60) : ptZ R S a b s sm (60 * x + r) = R.pt (60 * x + r) := by
  unfold ptZ
  rw [if_neg (by omega)]
theorem ptZ_n {R : RW} {S : ST} {a b s sm r : Int} (h0 : 0 ≤ r) (h1 : r < 60) : ptZ R S a b s sm (60 * R.n + r) = cI (hasB s r) (spC S a b s sm r) 0 := by
  unfold ptZ
  rw [if_pos (by omega), show 60 * R.n + r - 60 * R.n = r by omega]
theorem gvC_p {r0 : Int} {t0 : List Int} : ∀ (k : Nat) (f p : Int → Int) (x : Int), p x ≤ gvC r0 t0 k f p x ∧ gvC r0 t0 k f p x ≤ p x + k
  | 0, f, p, x => by show p x ≤ p x ∧ p x ≤ p x + (0 : Nat); omega
  | k + 1, f, p, x => by
    have h := gvC_p (r0 := r0) (t0 := t0) k (fu f (gml f r0 t0) (-1)) (fu p (gml f r0 t0) (p (gml f r0 t0) + 1)) x
    have h2 : p x ≤ fu p (gml f r0 t0) (p (gml f r0 t0) + 1) x ∧ fu p (gml f r0 t0) (p (gml f r0 t0) + 1) x ≤ p x + 1 := by
      by_cases e : x = gml f r0 t0
      · rw [e, fu_self]; omega
      · rw [fu_ne _ _ e]; omega
    show p x ≤ gvC r0 t0 k _ _ x ∧ gvC r0 t0 k _ _ x ≤ p x + ((k + 1 : Nat) : Int)
    omega
theorem land_ok {R : RW} {S S' : ST} {A A' : AB} {d a b s : Int} (hL : PL R S A) (hd : 0 ≤ d ∧ d ≤ 364) (ha : 1 ≤ a ∧ a ≤ 1000000) (hb : 0 ≤ b ∧ b ≤ 2) (hbit : allR R.n 64 (fun m => ¬ hasB s m)) (hn9 : R.n < 60) (hq : LQR R s d) (hsm : 0 < sumI (fun m => cI (hasB s m ∧ m < R.n) (bsC S b m) 0) 60)
    (hK : CK (rwP R 3 d (-1) 0 a s (ptL R S a b s (sumI (fun m => cI (hasB s m ∧ m < R.n) (bsC S b m) 0) 60))) S' A') (hC : CN S A S' A') : ∃ R1 : RW, PL R1 (upS S' 1312 R.n a) A' ∧ R1.n = R.n + 1 ∧ R1.kd R.n = 3 ∧ R1.dy R.n = d ∧ sumI (fun i => (wk R1 i 364).rcv) 6 = sumI (fun i => (wk R i 364).rcv) 6 + a := by
  have hLL := hL
  obtain ⟨⟨hCK, hR, hR2, hV⟩, hX, h3, h4, h5, h6, h7, h8⟩ := hL
  have hn := hR.1
  obtain ⟨sm, hsme⟩ : ∃ x, x = sumI (fun m => cI (hasB s m ∧ m < R.n) (bsC S b m) 0) 60 := ⟨_, rfl⟩
  rw [← hsme] at hsm hK
  have hbs := bs_b hLL hb hq
  have hin : ∀ x, x ∈ b60.1 s → (0 ≤ x ∧ x < R.n) ∧ hasB s x := fun x hx => by
    rw [b60_e] at hx
    have h9 := (bl_mem 60).mp hx
    refine ⟨⟨h9.1.1, ?_⟩, h9.2⟩
    by_cases q : x < R.n
    · exact q
    · exact absurd h9.2 (hbit x (by omega) (by omega))
  have e1 : sm = hs (bsC S b) (b60.1 s) := by
    rw [hsme, b60_e, ← sumN_bl 60]
    show sumN _ 60 = sumN _ 60
    refine sumN_c 60 (fun m m0 m1 => ?_)
    show cI (hasB s m ∧ m < R.n) (bsC S b m) 0 = cI (hasB s m) (bsC S b m) 0
    by_cases q : hasB s m
    · by_cases q2 : m < R.n
      · rw [cI_t q, cI_t ⟨q, q2⟩]
      · exact absurd q (hbit m (by omega) (by omega))
    · rw [cI_f q, cI_f (fun z => q z.1)]
  have hne : b60.1 s ≠ [] := fun q => by
    rw [q] at e1
    have : sm = 0 := e1
    omega
  have hsum := spC_sum (a := a) hsm e1.symm hne
  have hle : ∀ r, hasB s r → 0 ≤ r → r < 60 → bsC S b r ≤ sm := fun r hr r0 r1 => by
    rw [hsme]
    have hrn : r < R.n := by
      by_cases q : r < R.n
      · exact q
      · exact absurd hr (hbit r (by omega) (by omega))
    have h1 := sum_ge (f := fun m => cI (hasB s m ∧ m < R.n) (bsC S b m) 0) 60 (fun m m0 _ => by
      show 0 ≤ cI (hasB s m ∧ m < R.n) (bsC S b m) 0
      by_cases q : hasB s m ∧ m < R.n
      · rw [cI_t q]; exact (hbs m m0 q.2 q.1).1.1
      · rw [cI_f q]; omega) r r0 (by omega)
    have h2 : cI (hasB s r ∧ r < R.n) (bsC S b r) 0 ≤ sumN (fun m => cI (hasB s m ∧ m < R.n) (bsC S b m) 0) 60 := h1
    rw [cI_t ⟨hr, hrn⟩] at h2
    exact h2
  obtain ⟨r0, t0, hrt⟩ : ∃ r0 t0, b60.1 s = r0 :: t0 := by
    cases hq9 : b60.1 s with
    | nil => exact absurd hq9 hne
    | cons r0 t0 => exact ⟨r0, t0, rfl⟩
  have hsh : ∀ r, hasB s r → 0 ≤ r → r < 60 → 0 ≤ shC S a b sm r ∧ shC S a b sm r ≤ a := fun r hr r0 r1 => by
    have hrn : r < R.n := by
      by_cases q : r < R.n
      · exact q
      · exact absurd hr (hbit r (by omega) (by omega))
    exact quo_b (a := a) (b := bsC S b r) (s := sm) (by omega) (hbs r r0 hrn hr).1.1 hsm (hle r hr r0 r1)
  have hshs : 0 ≤ hs (shC S a b sm) (b60.1 s) := hs_nn _ (fun x hx => by
    have h9 := hin x hx
    exact (hsh x h9.2 h9.1.1 (by omega)).1)
  have hsp : ∀ r, hasB s r → 0 ≤ r → r < 60 → 0 ≤ spC S a b s sm r ∧ spC S a b s sm r ≤ 2000000 := fun r hr q0 q1 => by
    have h1 := hsh r hr q0 q1
    have h2 := gvC_p (r0 := r0) (t0 := t0) (a - hs (shC S a b sm) (b60.1 s)).toNat (rmC S a b sm) (shC S a b sm) r
    have e : spC S a b s sm r = gvC r0 t0 (a - hs (shC S a b sm) (b60.1 s)).toNat (rmC S a b sm) (shC S a b sm) r := by
      unfold spC
      rw [hrt]
      rfl
    rw [e]
    omega
  have hpt : ∀ m, 0 ≤ m → m < R.n → ∀ r, 0 ≤ r → r < 60 → ptZ R S a b s sm (60 * m + r) = R.pt (60 * m + r) := fun m _ m1 r q0 q1 => ptZ_o m1 q0 q1
  have hreq : REq (rwP R 3 d (-1) 0 a s (ptL R S a b s sm)) (rwP R 3 d (-1) 0 a s (ptZ R S a b s sm)) := by
    refine ⟨rfl, fun m m0 m1 => ⟨⟨rfl, rfl, rfl, rfl, rfl, rfl⟩, fun _ => ⟨rfl, fun r q0 q1 hr => ?_⟩⟩⟩
    show ptZ R S a b s sm (60 * m + r) = ptL R S a b s sm (60 * m + r)
    have m1' : m < R.n + 1 := m1
    by_cases e : m = R.n
    · have hr' : hasB (fu R.sp R.n s m) r := hr
      rw [e, fu_self] at hr'
      rw [e, ptZ_n q0 q1, cI_t hr']
      unfold ptL
      rw [if_pos (by omega), show 60 * R.n + r - 60 * R.n = r by omega]
    · rw [ptZ_o (by omega) q0 q1, ptL_o (by omega) q0 q1]
  have hn' : 0 ≤ (rwP R 3 d (-1) 0 a s (ptL R S a b s sm)).n := by show 0 ≤ R.n + 1; omega
  have hK2 := ck_eq hreq hn' hK
  have hbn : ∀ r, 0 ≤ r → r < 60 → hasB s r → r < R.n := fun r q0 q1 hr => by
    by_cases q : r < R.n
    · exact q
    · exact absurd hr (hbit r (by omega) (by omega))
  have hg := rg_P (sp := s) (pt := ptZ R S a b s sm) hR hR2 hn9 hpt (kd := 3) (d := d) (it := -1) (q := 0) (co := a) ⟨by omega, hd, fun q => absurd rfl q, by omega, by omega⟩ (fun q => by omega) (fun _ => ⟨rfl, rfl, fun r q0 q1 => by
    rw [ptZ_n q0 q1]
    refine ⟨?_, fun hr => ?_⟩
    · by_cases hr : hasB s r
      · rw [cI_t hr]; exact hsp r hr q0 q1
      · rw [cI_f hr]; omega
    · have hrn := hbn r q0 q1 hr
      have h9 := hq r q0 hrn hr
      exact ⟨hrn, h9.2.1, h9.1, h9.2.2⟩⟩)
  have hX' : RX (rwP R 3 d (-1) 0 a s (ptZ R S a b s sm)) := rx_P hR hX hpt (fun _ => ⟨fun r q0 q1 => ⟨fun hr => by rw [ptZ_n q0 q1, cI_f hr], fun hr => by
    have hrn := hbn r q0 q1 hr
    exact ⟨hrn, (hq r q0 hrn hr).2.2⟩⟩, by
    show sumN (fun r => ptZ R S a b s sm (60 * R.n + r)) 60 = a
    rw [sumN_c (g := fun r => cI (hasB s r) (spC S a b s sm r) 0) 60 (fun r q0 q1 => ptZ_n q0 (by omega)), sumN_bl 60, ← b60_e]
    exact hsum⟩)
  have hPI : PI (rwP R 3 d (-1) 0 a s (ptZ R S a b s sm)) S' A' := ⟨hK2, hg.1, hg.2, fun i i0 i1 => V_oth hn.1 (by omega) (hV i i0 i1)⟩
  obtain ⟨a1, a2, a3, a4, a5, a6⟩ := pl_add hLL hC hPI hX'
  have hP2 : PI (rwP R 3 d (-1) 0 a s (ptZ R S a b s sm)) (upS S' 1312 R.n a) A' := ⟨ck_fr hPI.1 (Fr.up (by decide) : Fr [1312] S' (upS S' 1312 R.n a)) (by decide), hPI.2⟩
  refine ⟨rwP R 3 d (-1) 0 a s (ptZ R S a b s sm), ⟨hP2, hX', ?_, a2, a3, ?_, fun m m0 m1 => ?_, ?_⟩, rfl, fu_self _ _ _, fu_self _ _ _, ?_⟩
  · rw [upS_fn _ _ _ (by decide)]; exact a1
  · rw [upS_c _ _ (by decide), upS_c _ _ (by decide)]; exact a4
  · show _ = if m < R.n + 1 then _ else 0
    by_cases e : m = R.n
    · rw [e, upS_self, if_pos (by omega), (amR_P (m := 0)).2, if_pos rfl]
    · rw [upS_z _ _ e, a5 m, h7 m m0 m1]
      by_cases e2 : m < R.n
      · rw [if_pos e2, if_pos (by omega), amR_P.1 e2]
      · rw [if_neg e2, if_neg (by omega)]
  · rw [upS_fn _ _ _ (by decide), upS_fn _ _ _ (by decide)]; exact a6
  · rw [rcv_all hg.1 hg.2 hX', rcv_all hR hR2 hX, tot_P hR hpt, if_pos (Or.inl rfl)]
    omega
theorem accL {z a : Int} {GA BT OP Q P C X Y Z : Prop} (h : (z = a ∧ (GA ∧ BT ∧ OP ∧ Q ∧ P) ∧ C) ∨ (z = -6 ∧ ¬ GA ∧ X) ∨ (z = -5 ∧ (GA ∧ ¬ BT) ∧ Y) ∨ (z = -7 ∧ (GA ∧ BT ∧ ¬ (OP ∧ Q ∧ P)) ∧ Z)) (hg : GA) (hb : BT) (ho : OP ∧ Q ∧ P) : a = z ∧ C := by
  rcases h with h | h | h | h
  · exact ⟨h.1.symm, h.2.2⟩
  · exact absurd hg h.2.1
  · exact absurd hb h.2.1.2
  · exact absurd ho h.2.1.2.2
theorem ref7L {z a : Int} {GA BT B D C X Y : Prop} {S S' : ST} {A A' : AB} (h : (z = a ∧ (GA ∧ BT ∧ B) ∧ C) ∨ (z = -6 ∧ ¬ GA ∧ X) ∨ (z = -5 ∧ (GA ∧ ¬ BT) ∧ Y) ∨ (z = -7 ∧ (GA ∧ BT ∧ D) ∧ S = S' ∧ A = A')) (hg : GA) (hb : BT) (hn : ¬ B) : -7 = z ∧ S = S' ∧ A = A' := by
  rcases h with h | h | h | h
  · exact absurd h.2.1.2.2 hn
  · exact absurd hg h.2.1
  · exact absurd hb h.2.1.2
  · exact ⟨h.1.symm, h.2.2⟩
