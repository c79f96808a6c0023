/-! what the class asks of the ledger is what the reference asks: validity with one more, with one less -/
theorem vld_app {f q : Int → Int} {tk : Int → Prop} : ∀ (a b : List Int) (u : Int), vld f q tk u (a ++ b) ↔ vld f q tk u a ∧ vld f q tk (u + hs f a) b
  | [], b, u => by
    show vld f q tk u b ↔ True ∧ vld f q tk (u + 0) b
    rw [Int.add_zero]
    exact ⟨fun h => ⟨trivial, h⟩, fun h => h.2⟩
  | x :: t, b, u => by
    show (tk x → q x ≤ u) ∧ vld f q tk (u + f x) (t ++ b) ↔ ((tk x → q x ≤ u) ∧ vld f q tk (u + f x) t) ∧ vld f q tk (u + (f x + hs f t)) b
    rw [vld_app t b, show u + f x + hs f t = u + (f x + hs f t) by omega]
    exact ⟨fun ⟨a, b, c⟩ => ⟨⟨a, b⟩, c⟩, fun ⟨⟨a, b⟩, c⟩ => ⟨a, b, c⟩⟩
theorem vld_mono {f q : Int → Int} {tk : Int → Prop} : ∀ (b : List Int) {u u' : Int}, u ≤ u' → vld f q tk u b → vld f q tk u' b
  | [], _, _, _, _ => trivial
  | x :: t, u, u', h, ⟨h1, h2⟩ => ⟨fun k => by have := h1 k; omega, vld_mono t (by omega) h2⟩
theorem vld_c {f q f' q' : Int → Int} {tk tk' : Int → Prop} : ∀ (l : List Int) (u : Int), (∀ x ∈ l, f' x = f x ∧ q' x = q x ∧ (tk' x ↔ tk x)) → (vld f' q' tk' u l ↔ vld f q tk u l)
  | [], _, _ => Iff.rfl
  | x :: t, u, h => by
    obtain ⟨h1, h2, h3⟩ := h x List.mem_cons_self
    show (tk' x → q' x ≤ u) ∧ vld f' q' tk' (u + f' x) t ↔ (tk x → q x ≤ u) ∧ vld f q tk (u + f x) t
    rw [h1, h2, h3, vld_c t _ (fun y hy => h y (List.mem_cons_of_mem _ hy))]
theorem hs_c2 {f f' : Int → Int} (l : List Int) (h : ∀ x ∈ l, f' x = f x) : hs f' l = hs f l := hs_c l h
theorem srt_split {dy : Int → Int} (d : Int) : ∀ l : List Int, srt dy l → ∃ a b, l = a ++ b ∧ (∀ x ∈ a, dy x ≤ d) ∧ ∀ x ∈ b, d < dy x
  | [], _ => ⟨[], [], rfl, fun x hx => (by cases hx), fun x hx => (by cases hx)⟩
  | x :: t, ⟨h1, h2⟩ => by
    by_cases hx : dy x ≤ d
    · obtain ⟨a, b, e, ha, hb⟩ := srt_split d t h2
      refine ⟨x :: a, b, by rw [e]; rfl, fun y hy => ?_, hb⟩
      rcases List.mem_cons.mp hy with rfl | hy
      · exact hx
      · exact ha y hy
    · refine ⟨[], x :: t, rfl, fun y hy => (by cases hy), fun y hy => ?_⟩
      rcases List.mem_cons.mp hy with rfl | hy
      · omega
      · have := h1 y hy; omega
theorem hAt_a {dy f : Int → Int} {day : Int} : ∀ (a b : List Int) (u : Int), (∀ x ∈ a, dy x ≤ day) → hAt dy f day (a ++ b) u = hAt dy f day b (u + hs f a)
  | [], b, u, _ => by show hAt dy f day b u = hAt dy f day b (u + 0); rw [Int.add_zero]
  | x :: t, b, u, h => by
    show (if dy x ≤ day then hAt dy f day (t ++ b) (u + f x) else u) = hAt dy f day b (u + (f x + hs f t))
    rw [if_pos (h x List.mem_cons_self), hAt_a t b _ (fun y hy => h y (List.mem_cons_of_mem _ hy)), show u + f x + hs f t = u + (f x + hs f t) by omega]
theorem hAt_b {dy f : Int → Int} {day : Int} : ∀ (b : List Int) (u : Int), (∀ x ∈ b, day < dy x) → hAt dy f day b u = u
  | [], _, _ => rfl
  | x :: t, u, h => by
    show (if dy x ≤ day then _ else u) = u
    rw [if_neg (by have := h x List.mem_cons_self; omega)]
theorem hAt_ab {dy f : Int → Int} {day : Int} {a b : List Int} (ha : ∀ x ∈ a, dy x ≤ day) (hb : ∀ x ∈ b, day < dy x) : hAt dy f day (a ++ b) 0 = hs f a := by
  rw [hAt_a a b 0 ha, hAt_b b _ hb, Int.zero_add]
theorem spf_le {dy nm it kd qt : Int → Int} {item d n q9 : Int} : ∀ (b : List Int) (u s : Int), (∀ x ∈ b, d < dy x ∨ (d = dy x ∧ n < nm x)) → (q9 ≤ spf dy nm it (dlt kd qt) qt (fun m => kd m = 1 ∨ kd m = 2) item d n b u s ↔ q9 ≤ s ∧ vld (chg kd it qt item) qt (tks kd it item) (u - q9) b)
  | [], u, s, _ => ⟨fun h => ⟨h, trivial⟩, fun h => h.1⟩
  | x :: t, u, s, h => by
    have hb := h x List.mem_cons_self
    have ih := fun u s => spf_le (q9 := q9) (kd := kd) (it := it) (qt := qt) (item := item) t u s (fun y hy => h y (List.mem_cons_of_mem _ hy))
    show q9 ≤ cI (it x = item) (spf dy nm it (dlt kd qt) qt (fun m => kd m = 1 ∨ kd m = 2) item d n t (u + dlt kd qt x) (cI (d < dy x ∨ (d = dy x ∧ n < nm x)) (cI (kd x = 1 ∨ kd x = 2) (mn (u - qt x) s) s) (u + dlt kd qt x))) (spf dy nm it (dlt kd qt) qt (fun m => kd m = 1 ∨ kd m = 2) item d n t u s) ↔ q9 ≤ s ∧ ((tks kd it item x → qt x ≤ u - q9) ∧ vld (chg kd it qt item) qt (tks kd it item) (u - q9 + chg kd it qt item x) t)
    by_cases hi : it x = item
    · have e : chg kd it qt item x = dlt kd qt x := if_pos hi
      rw [cI_t hi, cI_t hb, e, show u - q9 + dlt kd qt x = u + dlt kd qt x - q9 by omega]
      by_cases hk : kd x = 1 ∨ kd x = 2
      · rw [cI_t hk, ih]
        have h9 : q9 ≤ mn (u - qt x) s ↔ q9 ≤ u - qt x ∧ q9 ≤ s := by unfold mn; split <;> omega
        rw [h9]
        constructor
        · rintro ⟨⟨a, b⟩, c⟩; exact ⟨b, fun _ => by omega, c⟩
        · rintro ⟨a, b, c⟩; exact ⟨⟨by have := b ⟨hi, hk⟩; omega, a⟩, c⟩
      · rw [cI_f hk, ih]
        exact ⟨fun ⟨a, c⟩ => ⟨a, fun q => absurd q.2 hk, c⟩, fun ⟨a, _, c⟩ => ⟨a, c⟩⟩
    · have e : chg kd it qt item x = 0 := if_neg hi
      rw [cI_f hi, ih, e, Int.add_zero]
      exact ⟨fun ⟨a, c⟩ => ⟨a, fun q => absurd q.1 hi, c⟩, fun ⟨a, _, c⟩ => ⟨a, c⟩⟩
theorem spf_a {dy nm it kd qt : Int → Int} {item d n : Int} : ∀ (a b : List Int) (u : Int), (∀ x ∈ a, ¬ (d < dy x ∨ (d = dy x ∧ n < nm x))) → spf dy nm it (dlt kd qt) qt (fun m => kd m = 1 ∨ kd m = 2) item d n (a ++ b) u u = spf dy nm it (dlt kd qt) qt (fun m => kd m = 1 ∨ kd m = 2) item d n b (u + hs (chg kd it qt item) a) (u + hs (chg kd it qt item) a)
  | [], b, u, _ => by
    show _ = spf dy nm it (dlt kd qt) qt (fun m => kd m = 1 ∨ kd m = 2) item d n b (u + 0) (u + 0)
    rw [Int.add_zero]; rfl
  | x :: t, b, u, h => by
    have hb := h x List.mem_cons_self
    have ih := fun u => spf_a (kd := kd) (it := it) (qt := qt) (item := item) t b u (fun y hy => h y (List.mem_cons_of_mem _ hy))
    show cI (it x = item) (spf dy nm it (dlt kd qt) qt (fun m => kd m = 1 ∨ kd m = 2) item d n (t ++ b) (u + dlt kd qt x) (cI (d < dy x ∨ (d = dy x ∧ n < nm x)) (cI (kd x = 1 ∨ kd x = 2) (mn (u - qt x) u) u) (u + dlt kd qt x))) (spf dy nm it (dlt kd qt) qt (fun m => kd m = 1 ∨ kd m = 2) item d n (t ++ b) u u) = spf dy nm it (dlt kd qt) qt (fun m => kd m = 1 ∨ kd m = 2) item d n b (u + (chg kd it qt item x + hs (chg kd it qt item) t)) (u + (chg kd it qt item x + hs (chg kd it qt item) t))
    by_cases hi : it x = item
    · have e : chg kd it qt item x = dlt kd qt x := if_pos hi
      rw [cI_t hi, cI_f hb, e, ih, show u + dlt kd qt x + hs (chg kd it qt item) t = u + (dlt kd qt x + hs (chg kd it qt item) t) by omega]
    · have e : chg kd it qt item x = 0 := if_neg hi
      rw [cI_f hi, ih, e, Int.zero_add]
theorem spf_c {dy nm it dl q dy' nm' it' dl' q' : Int → Int} {nd nd' : Int → Prop} {item d n : Int} : ∀ (l : List Int) (u s : Int), (∀ x ∈ l, dy' x = dy x ∧ nm' x = nm x ∧ it' x = it x ∧ dl' x = dl x ∧ q' x = q x ∧ (nd' x ↔ nd x)) → spf dy' nm' it' dl' q' nd' item d n l u s = spf dy nm it dl q nd item d n l u s
  | [], _, _, _ => rfl
  | x :: t, u, s, h => by
    obtain ⟨h1, h2, h3, h4, h5, h6⟩ := h x List.mem_cons_self
    have ih := fun u s => spf_c (item := item) (d := d) (n := n) t u s (fun y hy => h y (List.mem_cons_of_mem _ hy))
    show cI (it' x = item) (spf dy' nm' it' dl' q' nd' item d n t (u + dl' x) (cI (d < dy' x ∨ (d = dy' x ∧ n < nm' x)) (cI (nd' x) (mn (u - q' x) s) s) (u + dl' x))) (spf dy' nm' it' dl' q' nd' item d n t u s) = cI (it x = item) (spf dy nm it dl q nd item d n t (u + dl x) (cI (d < dy x ∨ (d = dy x ∧ n < nm x)) (cI (nd x) (mn (u - q x) s) s) (u + dl x))) (spf dy nm it dl q nd item d n t u s)
    rw [h1, h2, h3, h4, h5, show nd' x = nd x from propext h6, ih, ih]
theorem hAt_c {dy f dy' f' : Int → Int} {day : Int} : ∀ (l : List Int) (u : Int), (∀ x ∈ l, dy' x = dy x ∧ f' x = f x) → hAt dy' f' day l u = hAt dy f day l u
  | [], _, _ => rfl
  | x :: t, u, h => by
    obtain ⟨h1, h2⟩ := h x List.mem_cons_self
    show (if dy' x ≤ day then hAt dy' f' day t (u + f' x) else u) = (if dy x ≤ day then hAt dy f day t (u + f x) else u)
    rw [h1, h2, hAt_c t _ (fun y hy => h y (List.mem_cons_of_mem _ hy))]
/-- the rows' own words -/
noncomputable def spR (R : RW) (item d n : Int) : Int := spf R.dy (fun m => m) R.it (dlt R.kd R.qt) R.qt (fun m => R.kd m = 1 ∨ R.kd m = 2) item d n (LdR R) 0 0
def haR (R : RW) (item d : Int) : Int := hAt R.dy (chg R.kd R.it R.qt item) d (LdR R) 0
theorem ck_spR {R : RW} {S : ST} {A : AB} (hCK : CK R S A) (hR : RG R) (item d n : Int) : spf (S 98) (S 96) (S 99) (dlt (S 97) (S 100)) (S 100) (fun m => S 97 m = 1 ∨ S 97 m = 2) item d n (LdR R) 0 0 = spR R item d n := by
  refine spf_c _ _ _ (fun x hx => ?_)
  have h9 := (led_mem R.dy R.gn R.n.toNat).mp hx
  have hn := hR.1
  obtain ⟨a1, a2, a3, a4, a5, a6⟩ := (hCK.2.2.2.2.1 x h9.1.1 (by omega)).1
  exact ⟨a3, a1, a4, by unfold dlt; rw [a2, a5], a5, by rw [a2]⟩
theorem ck_haR {R : RW} {S : ST} {A : AB} (hCK : CK R S A) (hR : RG R) (item d : Int) : hAt (S 98) (dA S item) d (LdR R) 0 = haR R item d := by
  refine hAt_c _ _ (fun x hx => ?_)
  have h9 := (led_mem R.dy R.gn R.n.toNat).mp hx
  have hn := hR.1
  obtain ⟨a1, a2, a3, a4, a5, a6⟩ := (hCK.2.2.2.2.1 x h9.1.1 (by omega)).1
  exact ⟨a3, by unfold dA chg dlt; rw [a2, a4, a5]⟩
theorem RV_ab {R : RW} {i : Int} {a b : List Int} (h : LdR R = a ++ b) : RV R i ↔ vld (chg R.kd R.it R.qt i) R.qt (tks R.kd R.it i) 0 a ∧ vld (chg R.kd R.it R.qt i) R.qt (tks R.kd R.it i) (hs (chg R.kd R.it R.qt i) a) b := by
  unfold RV
  rw [h, vld_app, Int.zero_add]
theorem RV_P {R : RW} (hn : 0 ≤ R.n) {kd d it q co sp i : Int} {pt : Int → Int} {a b : List Int} (hab : LdR R = a ++ b) (ha : ∀ x ∈ a, R.dy x ≤ d) (hb : ∀ x ∈ b, d < R.dy x) :
    RV (rwP R kd d it q co sp pt) i ↔ vld (chg R.kd R.it R.qt i) R.qt (tks R.kd R.it i) 0 a ∧ ((it = i ∧ (kd = 1 ∨ kd = 2)) → q ≤ hs (chg R.kd R.it R.qt i) a) ∧ vld (chg R.kd R.it R.qt i) R.qt (tks R.kd R.it i) (hs (chg R.kd R.it R.qt i) a + (if it = i then (if kd = 0 then q else if kd = 1 then -q else 0) else 0)) b := by
  have hm : ∀ x ∈ LdR R, x ≠ R.n := fun x hx => by have := ((led_mem R.dy R.gn R.n.toNat).mp hx).1; omega
  have hma : ∀ x ∈ a, x ≠ R.n := fun x hx => hm x (by rw [hab]; exact List.mem_append_left _ hx)
  have hmb : ∀ x ∈ b, x ≠ R.n := fun x hx => hm x (by rw [hab]; exact List.mem_append_right _ hx)
  have hc : ∀ x, x ≠ R.n → chg (fu R.kd R.n kd) (fu R.it R.n it) (fu R.qt R.n q) i x = chg R.kd R.it R.qt i x ∧ fu R.qt R.n q x = R.qt x ∧ (tks (fu R.kd R.n kd) (fu R.it R.n it) i x ↔ tks R.kd R.it i x) := fun x hx => by
    unfold chg dlt tks
    rw [fu_ne _ _ hx, fu_ne _ _ hx, fu_ne _ _ hx]
    exact ⟨rfl, rfl, Iff.rfl⟩
  unfold RV
  rw [LdR_P hn, hab, ins_split a b (fun x hx => by rw [fu_ne _ _ (hma x hx), fu_self]; exact ha x hx) (fun x hx => by rw [fu_ne _ _ (hmb x hx), fu_self]; exact hb x hx), vld_app]
  show vld (chg (fu R.kd R.n kd) (fu R.it R.n it) (fu R.qt R.n q) i) (fu R.qt R.n q) (tks (fu R.kd R.n kd) (fu R.it R.n it) i) 0 a ∧ (tks (fu R.kd R.n kd) (fu R.it R.n it) i R.n → fu R.qt R.n q R.n ≤ 0 + hs (chg (fu R.kd R.n kd) (fu R.it R.n it) (fu R.qt R.n q) i) a) ∧ vld (chg (fu R.kd R.n kd) (fu R.it R.n it) (fu R.qt R.n q) i) (fu R.qt R.n q) (tks (fu R.kd R.n kd) (fu R.it R.n it) i) (0 + hs (chg (fu R.kd R.n kd) (fu R.it R.n it) (fu R.qt R.n q) i) a + chg (fu R.kd R.n kd) (fu R.it R.n it) (fu R.qt R.n q) i R.n) b ↔ _
  rw [hs_c2 a (fun x hx => (hc x (hma x hx)).1), vld_c a _ (fun x hx => hc x (hma x hx)), vld_c b _ (fun x hx => hc x (hmb x hx)), Int.zero_add]
  have e1 : chg (fu R.kd R.n kd) (fu R.it R.n it) (fu R.qt R.n q) i R.n = (if it = i then (if kd = 0 then q else if kd = 1 then -q else 0) else 0) := by
    unfold chg dlt
    rw [fu_self, fu_self, fu_self]
  have e2 : tks (fu R.kd R.n kd) (fu R.it R.n it) i R.n ↔ (it = i ∧ (kd = 1 ∨ kd = 2)) := by
    unfold tks
    rw [fu_self, fu_self]
  rw [e1, e2, fu_self]
theorem V_oth {R : RW} (hn : 0 ≤ R.n) {kd d it q co sp i : Int} {pt : Int → Int} (hi : it ≠ i) (h : RV R i) : RV (rwP R kd d it q co sp pt) i := by
  obtain ⟨a, b, hab, ha, hb⟩ := srt_split d (LdR R) (led_srt _ _ _)
  rw [RV_P hn hab ha hb]
  rw [RV_ab hab] at h
  rw [if_neg hi, Int.add_zero]
  exact ⟨h.1, fun q => absurd q.1 hi, h.2⟩
theorem V_rec {R : RW} (hn : 0 ≤ R.n) {d it q co sp i : Int} {pt : Int → Int} (hq : 0 ≤ q) (h : RV R i) : RV (rwP R 0 d it q co sp pt) i := by
  by_cases hi : it = i
  · obtain ⟨a, b, hab, ha, hb⟩ := srt_split d (LdR R) (led_srt _ _ _)
    rw [RV_P hn hab ha hb]
    rw [RV_ab hab] at h
    rw [if_pos hi, if_pos rfl]
    exact ⟨h.1, fun q => by omega, vld_mono b (by omega) h.2⟩
  · exact V_oth hn hi h
theorem V_iss {R : RW} (hn : 0 ≤ R.n ∧ R.n ≤ 60) {d it q co sp : Int} {pt : Int → Int} (h : RV R it) : RV (rwP R 1 d it q co sp pt) it ↔ q ≤ spR R it d 60 := by
  obtain ⟨a, b, hab, ha, hb⟩ := srt_split d (LdR R) (led_srt _ _ _)
  have hm : ∀ x ∈ LdR R, x < 60 := fun x hx => by have := ((led_mem R.dy R.gn R.n.toNat).mp hx).1; omega
  rw [RV_P hn.1 hab ha hb]
  rw [RV_ab hab] at h
  unfold spR
  rw [hab, spf_a a b 0 (fun x hx => by have := ha x hx; have := hm x (by rw [hab]; exact List.mem_append_left _ hx); omega), spf_le b _ _ (fun x hx => Or.inl (hb x hx)), Int.zero_add, if_pos rfl, if_neg (by omega), if_pos rfl]
  exact ⟨fun ⟨_, p, r⟩ => ⟨p ⟨rfl, Or.inl rfl⟩, r⟩, fun ⟨p, r⟩ => ⟨h.1, fun _ => p, r⟩⟩
theorem V_rev {R : RW} (hn : 0 ≤ R.n) {d it q co sp : Int} {pt : Int → Int} (h : RV R it) : RV (rwP R 2 d it q co sp pt) it ↔ q ≤ haR R it d := by
  obtain ⟨a, b, hab, ha, hb⟩ := srt_split d (LdR R) (led_srt _ _ _)
  rw [RV_P hn hab ha hb]
  rw [RV_ab hab] at h
  unfold haR
  rw [hab, hAt_ab ha hb, if_pos rfl, if_neg (by omega), if_neg (by omega), Int.add_zero]
  exact ⟨fun ⟨_, p, r⟩ => p ⟨rfl, Or.inr rfl⟩, fun p => ⟨h.1, fun _ => p, h.2⟩⟩
/-- one less -/
theorem RV_C {R : RW} {m i : Int} {a b : List Int} (hab : LdR R = a ++ m :: b) : RV (rwC R m) i ↔ vld (chg R.kd R.it R.qt i) R.qt (tks R.kd R.it i) 0 a ∧ vld (chg R.kd R.it R.qt i) R.qt (tks R.kd R.it i) (hs (chg R.kd R.it R.qt i) a) b := by
  have e : LdR (rwC R m) = a ++ b := led_rm hab
  have h := RV_ab (R := rwC R m) (i := i) e
  exact h
theorem RV_m {R : RW} {m i : Int} {a b : List Int} (hab : LdR R = a ++ m :: b) : RV R i ↔ vld (chg R.kd R.it R.qt i) R.qt (tks R.kd R.it i) 0 a ∧ (tks R.kd R.it i m → R.qt m ≤ hs (chg R.kd R.it R.qt i) a) ∧ vld (chg R.kd R.it R.qt i) R.qt (tks R.kd R.it i) (hs (chg R.kd R.it R.qt i) a + chg R.kd R.it R.qt i m) b := RV_ab hab
theorem vld_nn {kd it qt : Int → Int} {i : Int} : ∀ (l : List Int) (u : Int), 0 ≤ u → (∀ x ∈ l, 0 ≤ qt x) → vld (chg kd it qt i) qt (tks kd it i) u l → 0 ≤ u + hs (chg kd it qt i) l
  | [], u, h, _, _ => by show 0 ≤ u + 0; omega
  | x :: t, u, h, hq, ⟨h1, h2⟩ => by
    have hx := hq x List.mem_cons_self
    have h3 : 0 ≤ u + chg kd it qt i x := by
      unfold chg dlt
      split
      next hi =>
        split
        · omega
        · split
          next k1 => have := h1 ⟨hi, Or.inl k1⟩; omega
          next => omega
      next => omega
    have h4 := vld_nn t _ h3 (fun y hy => hq y (List.mem_cons_of_mem _ hy)) h2
    show 0 ≤ u + (chg kd it qt i x + hs (chg kd it qt i) t)
    omega
theorem C_oth {R : RW} {m i : Int} (hl : m ∈ LdR R) (hm : R.kd m ≠ 0 ∨ R.it m ≠ i) (hq : 0 ≤ R.qt m) (h : RV R i) : RV (rwC R m) i := by
  obtain ⟨a, b, hab⟩ := List.append_of_mem hl
  rw [RV_C hab]
  rw [RV_m hab] at h
  refine ⟨h.1, vld_mono b ?_ h.2.2⟩
  unfold chg dlt
  split
  · rw [if_neg (by omega)]
    split <;> omega
  · omega
theorem C_rec {R : RW} (hR : RG R) {m : Int} (hl : m ∈ LdR R) (hk : R.kd m = 0) (h : RV R (R.it m)) : RV (rwC R m) (R.it m) ↔ R.qt m ≤ spR R (R.it m) (R.dy m) m := by
  obtain ⟨a, b, hab⟩ := List.append_of_mem hl
  have hmm : ∀ x ∈ LdR R, 0 ≤ x ∧ x < R.n := fun x hx => by have := ((led_mem R.dy R.gn R.n.toNat).mp hx).1; have := hR.1; omega
  have hpw : (LdR R).Pairwise (lex R.dy) := led_pw R.dy R.gn R.n.toNat
  rw [hab] at hpw
  have h1 : ∀ x ∈ a, lex R.dy x m := fun x hx => (List.pairwise_append.mp hpw).2.2 x hx m List.mem_cons_self
  have h2 : ∀ x ∈ b, lex R.dy m x := fun x hx => (List.pairwise_cons.mp (List.pairwise_append.mp hpw).2.1).1 x hx
  rw [RV_C hab]
  rw [RV_m hab] at h
  have e1 : chg R.kd R.it R.qt (R.it m) m = R.qt m := by
    unfold chg dlt
    rw [if_pos rfl, if_pos hk]
  have hnn := vld_nn a 0 (Int.le_refl _) (fun x hx => by
    have := hmm x (by rw [hab]; exact List.mem_append_left _ hx)
    exact (hR.2 x this.1 this.2).1.2.2.2.1.1) h.1
  unfold spR
  rw [hab, show a ++ m :: b = (a ++ [m]) ++ b by simp, spf_a (a ++ [m]) b 0 (fun x hx => ?_), spf_le b _ _ (fun x hx => h2 x hx), Int.zero_add, hs_one, e1]
  · rw [show hs (chg R.kd R.it R.qt (R.it m)) a + R.qt m - R.qt m = hs (chg R.kd R.it R.qt (R.it m)) a by omega]
    exact ⟨fun ⟨_, p⟩ => ⟨by omega, p⟩, fun ⟨_, p⟩ => ⟨h.1, p⟩⟩
  · rcases List.mem_append.mp hx with hx | hx
    · have := h1 x hx
      unfold lex at this
      omega
    · rw [List.mem_singleton.mp hx]; omega
/-- available -/
theorem av_b {dy it kd qt : Int → Int} {item d n h : Int} {nm : Int → Int} : ∀ (b : List Int) (u s l : Int), (∀ x ∈ b, d < dy x) → (∀ x ∈ b, 0 ≤ qt x) → s ≤ u → mn l h = mn 1000 s → mn (avL dy (chg kd it qt item) qt (tks kd it item) d b u l) (mn h 1000) = mn 1000 (spf dy nm it (dlt kd qt) qt (fun m => kd m = 1 ∨ kd m = 2) item d n b u s)
  | [], u, s, l, _, _, hs9, hm => by
    show mn (mn u l) (mn h 1000) = mn 1000 s
    unfold mn at *
    repeat' split
    all_goals (repeat' split at hm)
    all_goals omega
  | x :: t, u, s, l, hb, hq, hs9, hm => by
    have hx := hb x List.mem_cons_self
    have hqx := hq x List.mem_cons_self
    have ih := fun u s l => av_b (h := h) (kd := kd) (it := it) (qt := qt) (item := item) (d := d) (n := n) (nm := nm) t u s l (fun y hy => hb y (List.mem_cons_of_mem _ hy)) (fun y hy => hq y (List.mem_cons_of_mem _ hy))
    show mn (avL dy (chg kd it qt item) qt (tks kd it item) d t (u + chg kd it qt item x) (cI (d < dy x ∧ tks kd it item x ∧ u - qt x < l) (u - qt x) l)) (mn h 1000) = mn 1000 (cI (it x = item) (spf dy nm it (dlt kd qt) qt (fun m => kd m = 1 ∨ kd m = 2) item d n t (u + dlt kd qt x) (cI (d < dy x ∨ (d = dy x ∧ n < nm x)) (cI (kd x = 1 ∨ kd x = 2) (mn (u - qt x) s) s) (u + dlt kd qt x))) (spf dy nm it (dlt kd qt) qt (fun m => kd m = 1 ∨ kd m = 2) item d n t u s))
    by_cases hi : it x = item
    · have e : chg kd it qt item x = dlt kd qt x := if_pos hi
      rw [cI_t hi, cI_t (Or.inl hx), e]
      by_cases hk : kd x = 1 ∨ kd x = 2
      · have hd : u + dlt kd qt x = u - qt x ∨ u + dlt kd qt x = u := by
          unfold dlt
          rw [if_neg (by omega)]
          split <;> omega
        have e2 : cI (d < dy x ∧ tks kd it item x ∧ u - qt x < l) (u - qt x) l = mn (u - qt x) l := by
          unfold mn
          by_cases q : u - qt x < l
          · rw [if_pos q, cI_t ⟨hx, ⟨hi, hk⟩, q⟩]
          · rw [if_neg q, cI_f (fun z => q z.2.2)]
        rw [cI_t hk, e2]
        refine ih _ _ _ ?_ ?_
        · unfold mn; split <;> omega
        · unfold mn at *
          repeat' split
          all_goals (repeat' split at hm)
          all_goals omega
      · have hd : u ≤ u + dlt kd qt x := by
          unfold dlt
          split
          · omega
          · rw [if_neg (by omega)]; omega
        rw [cI_f hk, cI_f (fun z => hk z.2.1.2)]
        exact ih _ _ _ (by omega) hm
    · have e : chg kd it qt item x = 0 := if_neg hi
      rw [cI_f hi, e, Int.add_zero, cI_f (fun z => hi z.2.1.1)]
      exact ih _ _ _ hs9 hm
theorem av_a {dy f q : Int → Int} {tk : Int → Prop} {day : Int} : ∀ (a b : List Int) (u l : Int), (∀ x ∈ a, dy x ≤ day) → avL dy f q tk day (a ++ b) u l = avL dy f q tk day b (u + hs f a) l
  | [], b, u, l, _ => by show avL dy f q tk day b u l = avL dy f q tk day b (u + 0) l; rw [Int.add_zero]
  | x :: t, b, u, l, h => by
    show avL dy f q tk day (t ++ b) (u + f x) (cI (day < dy x ∧ tk x ∧ u - q x < l) (u - q x) l) = avL dy f q tk day b (u + (f x + hs f t)) l
    rw [cI_f (fun z => by have := h x List.mem_cons_self; have := z.1; omega), av_a t b _ _ (fun y hy => h y (List.mem_cons_of_mem _ hy)), show u + f x + hs f t = u + (f x + hs f t) by omega]
theorem av_eq {R : RW} (hR : RG R) {item d : Int} : mn (avL R.dy (chg R.kd R.it R.qt item) R.qt (tks R.kd R.it item) d (LdR R) 0 1000) (mn (hAt R.dy (chg R.kd R.it R.qt item) d (LdR R) 0) 1000) = mn 1000 (spR R item d 60) := by
  obtain ⟨a, b, hab, ha, hb⟩ := srt_split d (LdR R) (led_srt _ _ _)
  have hmm : ∀ x ∈ LdR R, 0 ≤ x ∧ x < R.n := fun x hx => by have := ((led_mem R.dy R.gn R.n.toNat).mp hx).1; have := hR.1; omega
  have hn := hR.1
  unfold spR
  rw [hab, hAt_ab ha hb, av_a a b 0 1000 ha, spf_a a b 0 (fun x hx => by have := ha x hx; have := hmm x (by rw [hab]; exact List.mem_append_left _ hx); omega), Int.zero_add]
  refine av_b b _ _ _ hb (fun x hx => ?_) (Int.le_refl _) ?_
  · have := hmm x (by rw [hab]; exact List.mem_append_right _ hx)
    exact (hR.2 x this.1 this.2).1.2.2.2.1.1
  · rfl
/-- the place in the order -/
theorem plc_n2 {m : Int} : ∀ (l : List Int) (i f : Int), m ∉ l → plc m l i f = f
  | [], _, _, _ => rfl
  | x :: t, i, f, h => by
    show plc m t (i + 1) (if x = m then i else f) = f
    rw [if_neg (show ¬ x = m from fun e => h (by rw [e]; exact List.mem_cons_self))]
    exact plc_n2 t _ _ (fun q => h (List.mem_cons_of_mem _ q))
theorem plc_fst {m : Int} : ∀ (l : List Int) (i f : Int), l.Nodup → m ∈ l → plc m l i f = i + fst m l
  | [], _, _, _, h => by cases h
  | x :: t, i, f, hn, h => by
    obtain ⟨n1, n2⟩ := List.nodup_cons.mp hn
    show plc m t (i + 1) (if x = m then i else f) = i + (if x = m then 0 else 1 + fst m t)
    by_cases e : x = m
    · rw [if_pos e, if_pos e, plc_n2 t _ _ (e ▸ n1)]; omega
    · rw [if_neg e, if_neg e]
      rcases List.mem_cons.mp h with q | q
      · exact absurd q.symm e
      · rw [plc_fst t _ _ n2 q]; omega
