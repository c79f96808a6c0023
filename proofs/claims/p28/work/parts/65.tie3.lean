/-! what a landed cost is spread over: both spread alike -/
/-- the first with the greatest -/
def FGr (f : Int → Int) (l : List Int) (G : Int) : Prop := G ∈ l ∧ ∀ x ∈ l, f x ≤ f G ∧ (x < G → f x < f G)
theorem fg_u {f : Int → Int} {l : List Int} {G G' : Int} (h : FGr f l G) (h' : FGr f l G') : G = G' := by
  have a := h.2 G' h'.1
  have b := h'.2 G h.1
  by_cases e : G < G'
  · have := b.2 e; omega
  · by_cases e2 : G' < G
    · have := a.2 e2; omega
    · omega
theorem gml_fg {f : Int → Int} : ∀ (t : List Int) (g : Int) (a : List Int), FGr f a g → (∀ x ∈ a, ∀ y ∈ t, x < y) → t.Pairwise (· < ·) → FGr f (a ++ t) (gml f g t)
  | [], g, a, h, _, _ => by rw [List.append_nil]; exact h
  | r :: t, g, a, h, hat, hp => by
    obtain ⟨p1, p2⟩ := List.pairwise_cons.mp hp
    have har := fun x hx => hat x hx r List.mem_cons_self
    have hn : FGr f (a ++ [r]) (if f g < f r then r else g) := by
      split
      next hlt =>
        refine ⟨by simp, fun x hx => ?_⟩
        rcases List.mem_append.mp hx with hx | hx
        · have := (h.2 x hx).1; exact ⟨by omega, fun _ => by omega⟩
        · rw [List.mem_singleton.mp hx]; exact ⟨Int.le_refl _, fun q => by omega⟩
      next hge =>
        refine ⟨List.mem_append_left _ h.1, fun x hx => ?_⟩
        rcases List.mem_append.mp hx with hx | hx
        · exact h.2 x hx
        · rw [List.mem_singleton.mp hx]
          exact ⟨by omega, fun q => by have := har g h.1; omega⟩
    have h9 := gml_fg t _ (a ++ [r]) hn (fun x hx y hy => by
      rcases List.mem_append.mp hx with hx | hx
      · exact hat x hx y (List.mem_cons_of_mem _ hy)
      · rw [List.mem_singleton.mp hx]; exact p1 y hy) p2
    rw [List.append_assoc] at h9
    exact h9
theorem gmx_fg (f : Int → Int) : ∀ k : Nat, ∀ x, 0 ≤ x → x ≤ (k : Int) → f x ≤ f (gmx f k) ∧ (x < gmx f k → f x < f (gmx f k))
  | 0, x, h0, h1 => by
    have : x = 0 := by omega
    subst this
    exact ⟨Int.le_refl _, fun q => absurd q (Int.lt_irrefl _)⟩
  | k + 1, x, h0, h1 => by
    have ih := gmx_fg f k
    have hb := gmx_b f k
    show f x ≤ f (if f (gmx f k) < f (k + 1 : Nat) then ((k + 1 : Nat) : Int) else gmx f k) ∧ (x < (if f (gmx f k) < f (k + 1 : Nat) then ((k + 1 : Nat) : Int) else gmx f k) → f x < f (if f (gmx f k) < f (k + 1 : Nat) then ((k + 1 : Nat) : Int) else gmx f k))
    by_cases hlt : f (gmx f k) < f (k + 1 : Nat)
    · rw [if_pos hlt]
      by_cases e : x = ((k + 1 : Nat) : Int)
      · rw [e]; exact ⟨Int.le_refl _, fun q => absurd q (Int.lt_irrefl _)⟩
      · have := (ih x h0 (by omega)).1
        exact ⟨by omega, fun _ => by omega⟩
    · rw [if_neg hlt]
      by_cases e : x = ((k + 1 : Nat) : Int)
      · rw [e]; exact ⟨by omega, fun q => by omega⟩
      · exact ih x h0 (by omega)
def cnt (f : Int → Int) : List Int → Nat
  | [] => 0
  | x :: t => (if 0 ≤ f x then 1 else 0) + cnt f t
theorem cnt_c {f g : Int → Int} : ∀ l : List Int, (∀ x ∈ l, f x = g x) → cnt f l = cnt g l
  | [], _ => rfl
  | x :: t, h => by
    show (if 0 ≤ f x then 1 else 0) + cnt f t = (if 0 ≤ g x then 1 else 0) + cnt g t
    rw [h x List.mem_cons_self, cnt_c t (fun y hy => h y (List.mem_cons_of_mem _ hy))]
theorem cnt_fu {f : Int → Int} {G v : Int} : ∀ l : List Int, l.Nodup → cnt f l ≤ cnt (fu f G v) l + 1
  | [], _ => Nat.zero_le _
  | x :: t, h => by
    obtain ⟨n1, n2⟩ := List.nodup_cons.mp h
    show (if 0 ≤ f x then 1 else 0) + cnt f t ≤ (if 0 ≤ fu f G v x then 1 else 0) + cnt (fu f G v) t + 1
    by_cases e : x = G
    · have e2 : cnt (fu f G v) t = cnt f t := cnt_c t (fun y hy => fu_ne _ _ (fun q => n1 (by rw [e, ← q]; exact hy)))
      rw [e2]
      split <;> split <;> omega
    · have := cnt_fu (f := f) (G := G) (v := v) t n2
      rw [fu_ne _ _ e]
      split <;> omega
theorem cnt_pos {f : Int → Int} : ∀ l : List Int, 0 < cnt f l → ∃ x ∈ l, 0 ≤ f x
  | [], h => absurd h (Nat.lt_irrefl 0)
  | x :: t, h => by
    by_cases e : 0 ≤ f x
    · exact ⟨x, List.mem_cons_self, e⟩
    · have h' : 0 < (if 0 ≤ f x then 1 else 0) + cnt f t := h
      rw [if_neg e, Nat.zero_add] at h'
      obtain ⟨y, hy, h2⟩ := cnt_pos t h'
      exact ⟨y, List.mem_cons_of_mem _ hy, h2⟩
theorem cnt_all {f : Int → Int} : ∀ l : List Int, (∀ x ∈ l, 0 ≤ f x) → cnt f l = l.length
  | [], _ => rfl
  | x :: t, h => by
    show (if 0 ≤ f x then 1 else 0) + cnt f t = t.length + 1
    rw [if_pos (h x List.mem_cons_self), cnt_all t (fun y hy => h y (List.mem_cons_of_mem _ hy))]
    omega
theorem giv_gv {r0 : Int} {t0 : List Int} {N : Nat} (hp : (r0 :: t0).Pairwise (· < ·)) (hN : ∀ x ∈ r0 :: t0, 0 ≤ x ∧ x ≤ (N : Int)) : ∀ (k : Nat) (fM pM fC pC : Int → Int), (∀ x ∈ r0 :: t0, fM x = fC x ∧ pM x = pC x) → (∀ x, 0 ≤ x → x ≤ (N : Int) → x ∉ r0 :: t0 → fM x = -1) → k ≤ cnt fC (r0 :: t0) → (∀ x ∈ r0 :: t0, giv N k fM pM x = gvC r0 t0 k fC pC x) ∧ ∀ x, x ∉ r0 :: t0 → giv N k fM pM x = pM x
  | 0, fM, pM, fC, pC, h1, h2, _ => ⟨fun x hx => (h1 x hx).2, fun x hx => rfl⟩
  | k + 1, fM, pM, fC, pC, h1, h2, hk => by
    have hnd : (r0 :: t0).Nodup := hp.imp (fun h => by omega)
    obtain ⟨y, hy, hy0⟩ := cnt_pos (f := fC) (r0 :: t0) (by omega)
    have hG := gmx_fg fM N
    have hGy := (hG y (hN y hy).1 (hN y hy).2).1
    have hGm : gmx fM N ∈ r0 :: t0 := by
      refine Classical.byContradiction fun q => ?_
      have hb := gmx_b fM N
      have := h2 _ hb.1 hb.2 q
      have := (h1 y hy).1
      omega
    have hF1 : FGr fC (r0 :: t0) (gmx fM N) := ⟨hGm, fun x hx => by
      have := hG x (hN x hx).1 (hN x hx).2
      rw [(h1 x hx).1, (h1 _ hGm).1] at this
      exact this⟩
    have hF2 : FGr fC (r0 :: t0) (gml fC r0 t0) := gml_fg t0 r0 [r0] ⟨List.mem_cons_self, fun x hx => by
      rw [List.mem_singleton.mp hx]; exact ⟨Int.le_refl _, fun q => absurd q (Int.lt_irrefl _)⟩⟩ (fun x hx y hy => by
      rw [List.mem_singleton.mp hx]; exact (List.pairwise_cons.mp hp).1 y hy) (List.pairwise_cons.mp hp).2
    have e := fg_u hF1 hF2
    have ih := giv_gv hp hN k (fu fM (gmx fM N) (-1)) (fu pM (gmx fM N) (pM (gmx fM N) + 1)) (fu fC (gml fC r0 t0) (-1)) (fu pC (gml fC r0 t0) (pC (gml fC r0 t0) + 1)) (fun x hx => by
      rw [e]
      have hg := (h1 _ hGm).2
      rw [e] at hg
      by_cases q : x = gml fC r0 t0
      · rw [q, fu_self, fu_self, fu_self, fu_self, hg]; exact ⟨rfl, rfl⟩
      · rw [fu_ne _ _ q, fu_ne _ _ q, fu_ne _ _ q, fu_ne _ _ q]; exact h1 x hx) (fun x x0 x1 hx => by
      have q : x ≠ gmx fM N := fun q => hx (by rw [q]; exact hGm)
      rw [fu_ne _ _ q]; exact h2 x x0 x1 hx) (by
      have := cnt_fu (f := fC) (G := gml fC r0 t0) (v := -1) (r0 :: t0) hnd
      omega)
    refine ⟨ih.1, fun x hx => ?_⟩
    have h9 := ih.2 x hx
    rw [fu_ne _ _ (fun q => hx (by rw [q]; exact hGm))] at h9
    exact h9
theorem giv_p {N : Nat} : ∀ (k : Nat) (f p : Int → Int) (x : Int), p x ≤ giv N k f p x ∧ giv N k f p x ≤ p x + k
  | 0, f, p, x => by show p x ≤ p x ∧ p x ≤ p x + (0 : Nat); omega
  | k + 1, f, p, x => by
    have h := giv_p (N := N) k (fu f (gmx f N) (-1)) (fu p (gmx f N) (p (gmx f N) + 1)) x
    have h2 : p x ≤ fu p (gmx f N) (p (gmx f N) + 1) x ∧ fu p (gmx f N) (p (gmx f N) + 1) x ≤ p x + 1 := by
      by_cases e : x = gmx f N
      · rw [e, fu_self]; omega
      · rw [fu_ne _ _ e]; omega
    show p x ≤ giv N k _ _ x ∧ giv N k _ _ x ≤ p x + ((k + 1 : Nat) : Int)
    omega
/-- sums over what is chosen -/
theorem sumN_bl {s : Int} {g : Int → Int} : ∀ N : Nat, sumN (fun m => cI (hasB s m) (g m) 0) N = hs g (bl s N)
  | 0 => rfl
  | N + 1 => by
    show sumN (fun m => cI (hasB s m) (g m) 0) N + cI (hasB s N) (g N) 0 = hs g (bl s N ++ cL (hasB s N) N)
    rw [sumN_bl N, hs_app]
    by_cases h : hasB s N
    · rw [cI_t h, cL_t h]; show _ = _ + (g N + 0); omega
    · rw [cI_f h, cL_f h]; rfl
theorem bl_pw (s : Int) : ∀ N : Nat, (bl s N).Pairwise (· < ·)
  | 0 => List.Pairwise.nil
  | N + 1 => by
    show (bl s N ++ cL (hasB s N) N).Pairwise (· < ·)
    by_cases h : hasB s N
    · rw [cL_t h]
      refine List.pairwise_append.mpr ⟨bl_pw s N, List.pairwise_singleton _ _, fun x hx y hy => ?_⟩
      rw [List.mem_singleton.mp hy]
      exact ((bl_mem N).mp hx).1.2
    · rw [cL_f h, List.append_nil]; exact bl_pw s N
theorem hs_div {a sm : Int} {g : Int → Int} : ∀ l : List Int, sm * hs (fun r => a * g r / sm) l + hs (fun r => a * g r % sm) l = a * hs g l
  | [] => by show sm * 0 + 0 = a * 0; simp
  | x :: t => by
    have ih := hs_div (a := a) (sm := sm) (g := g) t
    have h := Int.mul_ediv_add_emod (a * g x) sm
    show sm * (a * g x / sm + hs (fun r => a * g r / sm) t) + (a * g x % sm + hs (fun r => a * g r % sm) t) = a * (g x + hs g t)
    rw [Int.mul_add, Int.mul_add]
    omega
theorem hs_mod {a sm : Int} {g : Int → Int} (h : 0 < sm) : ∀ l : List Int, 0 ≤ hs (fun r => a * g r % sm) l ∧ hs (fun r => a * g r % sm) l ≤ (sm - 1) * l.length
  | [] => by show (0 : Int) ≤ 0 ∧ (0 : Int) ≤ (sm - 1) * ((0 : Nat) : Int); simp
  | x :: t => by
    have ih := hs_mod (a := a) (g := g) h t
    have h1 := Int.emod_nonneg (a * g x) (show sm ≠ 0 by omega)
    have h2 := Int.emod_lt_of_pos (a * g x) h
    have e : (sm - 1) * ((x :: t).length : Int) = (sm - 1) * (t.length : Int) + (sm - 1) := by rw [List.length_cons, Int.natCast_add, Int.mul_add]; simp
    show 0 ≤ a * g x % sm + hs (fun r => a * g r % sm) t ∧ a * g x % sm + hs (fun r => a * g r % sm) t ≤ (sm - 1) * ((x :: t).length : Int)
    omega
theorem lft_b {a sm : Int} {g : Int → Int} {l : List Int} (h : 0 < sm) (hsm : hs g l = sm) (hl : 1 ≤ l.length) : 0 ≤ a - hs (fun r => a * g r / sm) l ∧ a - hs (fun r => a * g r / sm) l < l.length := by
  have h1 := hs_div (a := a) (sm := sm) (g := g) l
  have h2 := hs_mod (a := a) (g := g) h l
  rw [hsm] at h1
  have h3 : sm * (a - hs (fun r => a * g r / sm) l) = hs (fun r => a * g r % sm) l := by
    rw [Int.mul_sub, Int.mul_comm sm a]; omega
  have h5 : (sm - 1) * (l.length : Int) = sm * l.length - l.length := by rw [Int.sub_mul, Int.one_mul]
  constructor
  · refine Int.le_of_mul_le_mul_left (a := sm) ?_ h
    rw [h3, Int.mul_zero]; exact h2.1
  · refine Int.lt_of_mul_lt_mul_left (a := sm) ?_ (by omega)
    rw [h3]; omega
/-- both spread alike: rows below n are chosen alone -/
theorem sp_eq {S T : ST} {a b s n : Int} (hn : 0 ≤ n ∧ n < 60) (hbit : ∀ r, n ≤ r → r < 60 → ¬ hasB s r) (hT : T 232 0 = n + 1) (hbas : ∀ m, 0 ≤ m → m < n → hasB s m → basM T b m = bsC S b m) (hnn : ∀ m, 0 ≤ m → m < n → hasB s m → 0 ≤ bsC S b m) (hsm : 0 < smB T b s) : smB T b s = hs (bsC S b) (b60.1 s) ∧ (∀ r, hasB s r → 0 ≤ r → r < 60 → spP T a b s r = spC S a b s (smB T b s) r) ∧ ∀ r, 0 ≤ r → r < 60 → ¬ hasB s r → spP T a b s r = 0 := by
  have eb : b60.1 s = bl s (n + 1).toNat := by
    rw [b60_e]
    have h9 := bl_up (s := s) (k := (n + 1).toNat) (60 - (n + 1).toNat) (fun r h1 h2 => hbit r (by omega) (by omega))
    rw [show (n + 1).toNat + (60 - (n + 1).toNat) = 60 by omega] at h9
    exact h9
  have hmem : ∀ x, x ∈ b60.1 s → (0 ≤ x ∧ x < n) ∧ hasB s x := fun x hx => by
    rw [eb] at hx
    have h9 := (bl_mem _).mp hx
    refine ⟨⟨h9.1.1, ?_⟩, h9.2⟩
    by_cases q : x < n
    · exact q
    · exact absurd h9.2 (hbit x (by omega) (by omega))
  have hmem2 : ∀ x, 0 ≤ x → x < 60 → hasB s x → x ∈ b60.1 s := fun x h0 h1 h2 => by
    rw [b60_e]; exact (bl_mem 60).mpr ⟨⟨h0, by omega⟩, h2⟩
  have e1 : smB T b s = hs (bsC S b) (b60.1 s) := by
    unfold smB sumI
    rw [hT, sumN_bl, ← eb]
    exact hs_c _ (fun x hx => hbas x (hmem x hx).1.1 (hmem x hx).1.2 (hmem x hx).2)
  have e2 : sumI (shr T a b s) (T 232 0) = hs (shC S a b (smB T b s)) (b60.1 s) := by
    show sumI (fun r => cI (hasB s r) (a * basM T b r / smB T b s) 0) (T 232 0) = _
    unfold sumI
    rw [hT, sumN_bl, ← eb]
    exact hs_c _ (fun x hx => by unfold shC; rw [hbas x (hmem x hx).1.1 (hmem x hx).1.2 (hmem x hx).2])
  obtain ⟨sm, hsme⟩ : ∃ x, x = smB T b s := ⟨_, rfl⟩
  have hne : b60.1 s ≠ [] := fun q => by
    rw [q] at e1
    have : smB T b s = 0 := e1
    omega
  obtain ⟨r0, t0, hrt⟩ : ∃ r0 t0, b60.1 s = r0 :: t0 := by
    cases hq : b60.1 s with
    | nil => exact absurd hq hne
    | cons r0 t0 => exact ⟨r0, t0, rfl⟩
  have hp : (r0 :: t0).Pairwise (· < ·) := by rw [← hrt, eb]; exact bl_pw s _
  have hl := lft_b (a := a) (g := bsC S b) (l := b60.1 s) hsm e1.symm (by rw [hrt, List.length_cons]; omega)
  have hlf : lft T a b s = a - hs (shC S a b (smB T b s)) (b60.1 s) := by unfold lft; rw [e2]
  have hl : 0 ≤ lft T a b s ∧ lft T a b s < (b60.1 s).length := by rw [hlf]; exact hl
  have key := giv_gv (r0 := r0) (t0 := t0) (N := n.toNat) hp (fun x hx => by rw [← hrt] at hx; have := (hmem x hx).1; omega) (lft T a b s).toNat (rmn T a b s) (shr T a b s) (rmC S a b (smB T b s)) (shC S a b (smB T b s)) (fun x hx => by
    rw [← hrt] at hx
    obtain ⟨⟨x0, x1⟩, xb⟩ := hmem x hx
    unfold rmn shr rmC shC
    rw [cI_t xb, cI_t xb, hbas x x0 x1 xb]
    exact ⟨rfl, rfl⟩) (fun x x0 x1 hx => by
    rw [← hrt] at hx
    exact cI_f (fun q => hx (hmem2 x x0 (by omega) q))) (by
    rw [← hrt, cnt_all (f := rmC S a b (smB T b s)) _ (fun x hx => Int.emod_nonneg _ (by omega))]
    omega)
  have eN : (T 232 0 - 1).toNat = n.toNat := by rw [hT]; omega
  refine ⟨e1, fun r hb r0' r1 => ?_, fun r r0' r1 hb => ?_⟩
  · have hr := hmem2 r r0' r1 hb
    have h9 := key.1 r (by rw [← hrt]; exact hr)
    unfold spP spC
    rw [eN, h9, hrt, hlf, hrt]
    rfl
  · have h9 := key.2 r (fun q => hb (hmem r (by rw [hrt]; exact q)).2)
    unfold spP
    rw [eN, h9]
    exact cI_f hb
