/-! .. the calls one by one -/
theorem u_receive {S S1 S2 : ST} {A A1 : AB} {d item q c k z : Int} (hI : INV S A) (hW : (k = 0 ∧ ((akOk item d ∧ (1 ≤ q ∧ q ≤ 1000) ∧ (0 ≤ c ∧ c ≤ 1000000)) ∧ (S 198 0 < d ∧ S 197 0 < 60) ∧ True) ∧ ∃ S9, CK (rwP (rwM S) 0 d item q c 0 (rwM S).pt) S9 A1 ∧ CN S A S9 A1 ∧ S1 = upS S9 1280 0 (rwM S).n) ∨ (k = 1 ∧ ¬ (akOk item d ∧ (1 ≤ q ∧ q ≤ 1000) ∧ (0 ≤ c ∧ c ≤ 1000000)) ∧ S1 = S ∧ A1 = A) ∨ (k = 2 ∧ ((akOk item d ∧ (1 ≤ q ∧ q ≤ 1000) ∧ (0 ≤ c ∧ c ≤ 1000000)) ∧ ¬ ((S 198 0 < d ∧ S 197 0 < 60) ∧ True)) ∧ S1 = S ∧ A1 = A)) (hz : PST S1 0 d item q c z S2) : ANS S2 k z ∧ INV S2 A1 :=
  u_post hI (Or.inl rfl) (fun h => by omega) ⟨fun h => ⟨⟨h.2.1, h.1⟩, h.2.2⟩, fun h => ⟨h.1.2, h.1.1, h.2⟩⟩ Iff.rfl (fun hg => ⟨fun _ => trivial, fun _ => V_rec hI.1.2.1.1.1.1 (by have := hg.2.1; omega) (hI.1.2.2.1 item hg.1.1.1 hg.1.1.2)⟩) hW hz
theorem u_issue {S S1 S2 : ST} {A A1 : AB} {d item q k z : Int} (hI : INV S A) (hW : (k = 0 ∧ ((akOk item d ∧ (1 ≤ q ∧ q ≤ 1000)) ∧ (S 198 0 < d ∧ S 197 0 < 60) ∧ q ≤ spf (S 98) (S 96) (S 99) (dlt (S 97) (S 100)) (S 100) (fun m => S 97 m = 1 ∨ S 97 m = 2) item d 60 (LdR (rwM S)) 0 0) ∧ ∃ S9, CK (rwP (rwM S) 1 d item q 0 0 (rwM S).pt) S9 A1 ∧ CN S A S9 A1 ∧ S1 = upS S9 1280 0 (rwM S).n) ∨ (k = 1 ∧ ¬ (akOk item d ∧ (1 ≤ q ∧ q ≤ 1000)) ∧ S1 = S ∧ A1 = A) ∨ (k = 2 ∧ ((akOk item d ∧ (1 ≤ q ∧ q ≤ 1000)) ∧ ¬ ((S 198 0 < d ∧ S 197 0 < 60) ∧ q ≤ spf (S 98) (S 96) (S 99) (dlt (S 97) (S 100)) (S 100) (fun m => S 97 m = 1 ∨ S 97 m = 2) item d 60 (LdR (rwM S)) 0 0)) ∧ S1 = S ∧ A1 = A)) (hz : PST S1 1 d item q 0 z S2) : ANS S2 k z ∧ INV S2 A1 :=
  u_post hI (Or.inr (Or.inl rfl)) (fun _ => rfl) ⟨fun h => ⟨⟨h.2.1, h.1⟩, h.2.2.1⟩, fun h => ⟨h.1.2, h.1.1, h.2, by omega, by omega⟩⟩ Iff.rfl (fun hg => by rw [ck_spR hI.2.1 hI.1.2.1.1]; exact V_iss hI.1.2.1.1.1 (hI.1.2.2.1 item hg.1.1.1 hg.1.1.2)) hW hz
theorem u_revalue {S S1 S2 : ST} {A A1 : AB} {d item q c k z : Int} (hI : INV S A) (hW : (k = 0 ∧ ((akOk item d ∧ (1 ≤ q ∧ q ≤ 1000) ∧ (0 ≤ c ∧ c ≤ 1000000)) ∧ (S 198 0 < d ∧ S 197 0 < 60) ∧ q ≤ hAt (S 98) (dA S item) d (LdR (rwM S)) 0) ∧ ∃ S9, CK (rwP (rwM S) 2 d item q c 0 (rwM S).pt) S9 A1 ∧ CN S A S9 A1 ∧ S1 = upS S9 1280 0 (rwM S).n) ∨ (k = 1 ∧ ¬ (akOk item d ∧ (1 ≤ q ∧ q ≤ 1000) ∧ (0 ≤ c ∧ c ≤ 1000000)) ∧ S1 = S ∧ A1 = A) ∨ (k = 2 ∧ ((akOk item d ∧ (1 ≤ q ∧ q ≤ 1000) ∧ (0 ≤ c ∧ c ≤ 1000000)) ∧ ¬ ((S 198 0 < d ∧ S 197 0 < 60) ∧ q ≤ hAt (S 98) (dA S item) d (LdR (rwM S)) 0)) ∧ S1 = S ∧ A1 = A)) (hz : PST S1 2 d item q c z S2) : ANS S2 k z ∧ INV S2 A1 :=
  u_post hI (Or.inr (Or.inr rfl)) (fun h => by omega) ⟨fun h => ⟨⟨h.2.1, h.1⟩, h.2.2⟩, fun h => ⟨h.1.2, h.1.1, h.2⟩⟩ Iff.rfl (fun hg => by rw [ck_haR hI.2.1 hI.1.2.1.1]; exact V_rev hI.1.2.1.1.1.1 (hI.1.2.2.1 item hg.1.1.1 hg.1.1.2)) hW hz
theorem u_close {S S1 S2 : ST} {A : AB} {d k z : Int} (hI : INV S A) (hW : (k = 0 ∧ ((0 ≤ d ∧ d ≤ 364) ∧ S 198 0 < d) ∧ S1 = upS (upS S 198 0 d) 1280 0 (S 198 0)) ∨ (k = 1 ∧ ¬ (0 ≤ d ∧ d ≤ 364) ∧ S1 = S) ∨ (k = 2 ∧ ((0 ≤ d ∧ d ≤ 364) ∧ ¬ S 198 0 < d) ∧ S1 = S)) (hz : (¬ clW S1 d = 0 ∧ z = 0 ∧ S2 = upS S1 249 0 (clW S1 d)) ∨ (clW S1 d = 0 ∧ z = S1 233 0 ∧ S2 = upS (upS S1 249 0 0) 233 0 d)) : ANS S2 k z ∧ INV S2 A := by
  have hcl := hI.2.2.1
  rcases hW with ⟨rfl, ⟨h1, h2⟩, hS⟩ | ⟨rfl, h1, rfl⟩ | ⟨rfl, ⟨h1, h2⟩, rfl⟩
  · have e : S1 233 0 = S 233 0 := by rw [hS, upS_c _ _ (by decide), upS_c _ _ (by decide)]
    have hw : clW S1 d = 0 := by unfold clW; rw [cI_t h1, cI_f (by omega)]
    rcases hz with ⟨q, _⟩ | ⟨_, q1, q2⟩
    · exact absurd hw q
    · have f : ∀ c, c ≠ 198 → c ≠ 1280 → c ≠ 249 → c ≠ 233 → S2 c = S c := fun c a b g h => by rw [q2, upS_fn _ _ _ h, upS_fn _ _ _ g, hS, upS_fn _ _ _ b, upS_fn _ _ _ a]
      have x1 : S2 233 0 = d := by rw [q2, upS_self]
      have x2 : S2 198 0 = d := by rw [q2, upS_c _ _ (by decide), upS_c _ _ (by decide), hS, upS_c _ _ (by decide), upS_self]
      have hF : Fr [198, 1280, 249, 233] S S2 := fun c z9 hc => by
        simp only [List.mem_cons, List.not_mem_nil, or_false, not_or] at hc
        rw [f c hc.1 hc.2.1 hc.2.2.1 hc.2.2.2]
      obtain ⟨⟨h1', h2', h3', h4', h5'⟩, c2, c3, c4, c5, c6⟩ := hI
      have er : rwM S2 = rwM S := by
        unfold rwM
        rw [f 320 (by decide) (by decide) (by decide) (by decide), f 352 (by decide) (by decide) (by decide) (by decide), f 384 (by decide) (by decide) (by decide) (by decide), f 416 (by decide) (by decide) (by decide) (by decide), f 448 (by decide) (by decide) (by decide) (by decide), f 480 (by decide) (by decide) (by decide) (by decide), f 512 (by decide) (by decide) (by decide) (by decide), f 544 (by decide) (by decide) (by decide) (by decide), f 232 (by decide) (by decide) (by decide) (by decide)]
      refine ⟨⟨?_, fun _ => ?_⟩, ⟨⟨h1'.of hF (by decide), by rw [er]; exact h2', by rw [er]; exact h3', by omega, by rw [f 640 (by decide) (by decide) (by decide) (by decide)]; exact h5'⟩, by rw [er]; exact ck_fr c2 hF (by decide), by rw [x1, x2], ?_, ?_, c6⟩⟩
      · rw [q2, upS_c _ _ (by decide), upS_self]
      · rw [q2, upS_c _ _ (by decide), upS_c _ _ (by decide), hS, upS_self, q1, e]; exact c3
      · rw [f 288 (by decide) (by decide) (by decide) (by decide), f 640 (by decide) (by decide) (by decide) (by decide)]; exact c4
      · rw [f 232 (by decide) (by decide) (by decide) (by decide)]; exact c5
  · have hw : clW S1 d = 1 := by unfold clW; rw [cI_f h1]
    rw [hw] at hz
    rcases hz with ⟨_, _, rfl⟩ | ⟨q, _⟩
    · exact ⟨⟨upS_self _ _ _ _, fun q => by omega⟩, inv_fr hI (Fr.up (by decide))⟩
    · omega
  · have hw : clW S1 d = 2 := by unfold clW; rw [cI_t h1, cI_t (by omega)]
    rw [hw] at hz
    rcases hz with ⟨_, _, rfl⟩ | ⟨q, _⟩
    · exact ⟨⟨upS_self _ _ _ _, fun q => by omega⟩, inv_fr hI (Fr.up (by decide))⟩
    · omega
theorem u_setWeight {S S1 S2 : ST} {A : AB} {i v k z : Int} (hI : INV S A) (hW : (k = 0 ∧ ((0 ≤ i ∧ i ≤ 5) ∧ (1 ≤ v ∧ v ≤ 100)) ∧ S1 = upS (upS S 288 i v) 1280 0 (S 288 i)) ∨ (k = 1 ∧ ¬ ((0 ≤ i ∧ i ≤ 5) ∧ (1 ≤ v ∧ v ≤ 100)) ∧ S1 = S)) (hz : (¬ swW i v = 0 ∧ z = 0 ∧ S2 = upS S1 249 0 (swW i v)) ∨ (swW i v = 0 ∧ z = S1 640 i ∧ S2 = upS (upS S1 249 0 0) 640 i v)) : ANS S2 k z ∧ INV S2 A := by
  rcases hW with ⟨rfl, h1, hS⟩ | ⟨rfl, h1, rfl⟩
  · have e : S1 640 i = S 640 i := by rw [hS, upS_c _ _ (by decide), upS_c _ _ (by decide)]
    have hw : swW i v = 0 := by unfold swW; rw [cI_t h1]
    rcases hz with ⟨q, _⟩ | ⟨_, q1, q2⟩
    · exact absurd hw q
    · have f : ∀ c, c ≠ 288 → c ≠ 1280 → c ≠ 249 → c ≠ 640 → S2 c = S c := fun c a b g h => by rw [q2, upS_fn _ _ _ h, upS_fn _ _ _ g, hS, upS_fn _ _ _ b, upS_fn _ _ _ a]
      have x1 : S2 640 = fu (S 640) i v := by rw [q2, upS_fu, upS_fn _ _ _ (by decide), hS, upS_fn _ _ _ (by decide), upS_fn _ _ _ (by decide)]
      have x2 : S2 288 = fu (S 288) i v := by rw [q2, upS_fn _ _ _ (by decide), upS_fn _ _ _ (by decide), hS, upS_fn _ _ _ (by decide), upS_fu]
      have hF : Fr [288, 1280, 249, 640] S S2 := fun c z9 hc => by
        simp only [List.mem_cons, List.not_mem_nil, or_false, not_or] at hc
        rw [f c hc.1 hc.2.1 hc.2.2.1 hc.2.2.2]
      obtain ⟨⟨h1', h2', h3', h4', h5'⟩, c2, c3, c4, c5, c6⟩ := hI
      have er : rwM S2 = rwM S := by
        unfold rwM
        rw [f 320 (by decide) (by decide) (by decide) (by decide), f 352 (by decide) (by decide) (by decide) (by decide), f 384 (by decide) (by decide) (by decide) (by decide), f 416 (by decide) (by decide) (by decide) (by decide), f 448 (by decide) (by decide) (by decide) (by decide), f 480 (by decide) (by decide) (by decide) (by decide), f 512 (by decide) (by decide) (by decide) (by decide), f 544 (by decide) (by decide) (by decide) (by decide), f 232 (by decide) (by decide) (by decide) (by decide)]
      refine ⟨⟨?_, fun _ => ?_⟩, ⟨⟨h1'.of hF (by decide), by rw [er]; exact h2', by rw [er]; exact h3', by rw [f 233 (by decide) (by decide) (by decide) (by decide)]; exact h4', fun j j0 j1 => ?_⟩, by rw [er]; exact ck_fr c2 hF (by decide), ?_, fun j j0 j1 => ?_, ?_, c6⟩⟩
      · rw [q2, upS_c _ _ (by decide), upS_self]
      · rw [q2, upS_c _ _ (by decide), upS_c _ _ (by decide), hS, upS_self, q1, e]; exact c4 i h1.1.1 h1.1.2
      · rw [x1]
        by_cases ej : j = i
        · rw [ej, fu_self]; omega
        · rw [fu_ne _ _ ej]; exact h5' j j0 j1
      · rw [f 198 (by decide) (by decide) (by decide) (by decide), f 233 (by decide) (by decide) (by decide) (by decide)]; exact c3
      · rw [x1, x2]
        by_cases ej : j = i
        · rw [ej, fu_self, fu_self]
        · rw [fu_ne _ _ ej, fu_ne _ _ ej]; exact c4 j j0 j1
      · rw [f 232 (by decide) (by decide) (by decide) (by decide)]; exact c5
  · have hw : swW i v = 1 := by unfold swW; rw [cI_f h1]
    rw [hw] at hz
    rcases hz with ⟨_, _, rfl⟩ | ⟨q, _⟩
    · exact ⟨⟨upS_self _ _ _ _, fun q => by omega⟩, inv_fr hI (Fr.up (by decide))⟩
    · omega
theorem rv_neg {R : RW} (hR : RG R) : RV R (-1) := by
  unfold RV
  have key : ∀ (l : List Int) (u : Int), (∀ x ∈ l, 0 ≤ x ∧ x < R.n) → vld (chg R.kd R.it R.qt (-1)) R.qt (tks R.kd R.it (-1)) u l := by
    intro l
    induction l with
    | nil => intro u _; exact trivial
    | cons x t ih =>
      intro u h
      have hx := h x List.mem_cons_self
      refine ⟨fun q => ?_, ih _ (fun y hy => h y (List.mem_cons_of_mem _ hy))⟩
      have h9 := ((hR.2 x hx.1 hx.2).1.2.2.1 (by have := q.2; omega)).1
      have := q.1
      omega
  exact key _ _ (fun x hx => by have := ((led_mem R.dy R.gn R.n.toNat).mp hx).1; have := hR.1; omega)
theorem shR_mem {R : RW} {x m : Int} (h0 : 0 ≤ m) (h1 : m < 60) : m ∈ (shR R x).map Prod.fst ↔ R.kd x = 3 ∧ hasB (R.sp x) m := by
  unfold shR
  by_cases k : R.kd x = 3
  · rw [if_pos k]
    constructor
    · intro h
      obtain ⟨y, hy, e⟩ := List.mem_map.mp h
      have h9 := mem_shl hy
      rw [e] at h9
      exact ⟨k, h9.1.2⟩
    · rintro ⟨_, hb⟩
      refine List.mem_map.mpr ⟨(m, R.pt (60 * x + m)), ?_, rfl⟩
      unfold shl
      rw [b60_e]
      exact List.mem_map.mpr ⟨m, (bl_mem 60).mpr ⟨by omega, hb⟩, rfl⟩
  · rw [if_neg k]
    exact ⟨fun h => (by cases h), fun h => absurd h.1 k⟩
theorem u_cancel {S S1 S2 : ST} {A : AB} {m k z : Int} (hI : INV S A) (hW : (k = 0 ∧ ((0 ≤ m ∧ m < (rwM S).n) ∧ (S 103 m = 0 ∧ S 198 0 < S 98 m ∧ (S 97 m = 0 → (¬ (∃ x ∈ LdR (rwM S), m ∈ (shR (rwM S) x).map Prod.fst) ∧ S 100 m ≤ spf (S 98) (S 96) (S 99) (dlt (S 97) (S 100)) (S 100) (fun m => S 97 m = 1 ∨ S 97 m = 2) (S 99 m) (S 98 m) (S 96 m) (LdR (rwM S)) 0 0)))) ∧ ∃ S9, CK (rwC (rwM S) m) S9 A ∧ Fr [103, 104, 64, 65] S S9 ∧ S1 = upS S9 1280 0 ((LdR (rwC (rwM S) m)).length : Int)) ∨ (k = 1 ∧ ¬ (0 ≤ m ∧ m < (rwM S).n) ∧ S1 = S) ∨ (k = 2 ∧ ((0 ≤ m ∧ m < (rwM S).n) ∧ ¬ (S 103 m = 0 ∧ S 198 0 < S 98 m ∧ (S 97 m = 0 → (¬ (∃ x ∈ LdR (rwM S), m ∈ (shR (rwM S) x).map Prod.fst) ∧ S 100 m ≤ spf (S 98) (S 96) (S 99) (dlt (S 97) (S 100)) (S 100) (fun m => S 97 m = 1 ∨ S 97 m = 2) (S 99 m) (S 98 m) (S 96 m) (LdR (rwM S)) 0 0)))) ∧ S1 = S))
    (hz : CST S1 m z S2) : ANS S2 k z ∧ INV S2 A := by
  have hR := hI.1.2.1.1
  have hn := hR.1
  have hcl := hI.2.2.1
  -- what the class asks is what the reference asks
  have hcond : (0 ≤ m ∧ m < (rwM S).n) → ((S 103 m = 0 ∧ S 198 0 < S 98 m ∧ (S 97 m = 0 → (¬ (∃ x ∈ LdR (rwM S), m ∈ (shR (rwM S) x).map Prod.fst) ∧ S 100 m ≤ spf (S 98) (S 96) (S 99) (dlt (S 97) (S 100)) (S 100) (fun m => S 97 m = 1 ∨ S 97 m = 2) (S 99 m) (S 98 m) (S 96 m) (LdR (rwM S)) 0 0))) ↔ (cnW S m = 0 ∧ cOk S m)) := fun hm => by
    obtain ⟨a1, a2, a3, a4, a5, a6, a7, a8, a9⟩ := (hI.2.1.2.2.2.2.1 m hm.1 hm.2).1
    have a8' : S 103 m = S 480 m := a8
    have a3' : S 98 m = S 352 m := a3
    have a2' : S 97 m = S 320 m := a2
    have hex : (∃ x ∈ LdR (rwM S), m ∈ (shR (rwM S) x).map Prod.fst) ↔ exR 0 (S 232 0) (fun x => S 320 x = 3 ∧ S 480 x = 0 ∧ hasB (S 512 x) m) := by
      constructor
      · rintro ⟨x, hx, hb⟩
        have h9 := (led_mem (rwM S).dy (rwM S).gn (rwM S).n.toNat).mp hx
        have h8 := (shR_mem (R := rwM S) (x := x) hm.1 (by omega)).mp hb
        exact ⟨x, h9.1.1, by show x < (rwM S).n; omega, h8.1, h9.2, h8.2⟩
      · rintro ⟨x, x0, x1, x2, x3, x4⟩
        have x1' : x < (rwM S).n := x1
        exact ⟨x, (led_mem (rwM S).dy (rwM S).gn (rwM S).n.toNat).mpr ⟨by omega, x3⟩, (shR_mem (R := rwM S) (x := x) hm.1 (by omega)).mpr ⟨x2, x4⟩⟩
    have hok : cOk S m ↔ RV (rwC (rwM S) m) ((rwM S).it m) := Iff.rfl
    have hcn : cnW S m = 0 ↔ (S 480 m = 0 ∧ ¬ S 352 m ≤ S 233 0 ∧ ¬ exR 0 (S 232 0) (fun x => S 320 x = 3 ∧ S 480 x = 0 ∧ hasB (S 512 x) m)) := by
      have hm' : 0 ≤ m ∧ m < S 232 0 := hm
      unfold cnW
      rw [cI_t hm']
      by_cases g : S 480 m = 0
      · rw [cI_t g]
        by_cases g2 : S 352 m ≤ S 233 0
        · rw [cI_t g2]; exact ⟨fun q => by omega, fun q => absurd g2 q.2.1⟩
        · rw [cI_f g2]
          by_cases g3 : exR 0 (S 232 0) (fun x => S 320 x = 3 ∧ S 480 x = 0 ∧ hasB (S 512 x) m)
          · rw [cI_t g3]; exact ⟨fun q => by omega, fun q => absurd g3 q.2.2⟩
          · rw [cI_f g3]; exact ⟨fun _ => ⟨g, g2, g3⟩, fun _ => rfl⟩
      · rw [cI_f g]; exact ⟨fun q => by omega, fun q => absurd q.1 g⟩
    rw [hcn, hok, hex, a8', a3', hcl, a2']
    have hg0 : S 480 m = 0 → m ∈ LdR (rwM S) := fun g => (led_mem (rwM S).dy (rwM S).gn (rwM S).n.toNat).mpr ⟨by omega, g⟩
    by_cases k0 : S 320 m = 0
    · have hit := ((hR.2 m hm.1 hm.2).1.2.2.1 (by show ¬ S 320 m = 3; omega)).1
      have hsp : S 100 m ≤ spf (S 98) (S 96) (S 99) (dlt (S 97) (S 100)) (S 100) (fun m => S 97 m = 1 ∨ S 97 m = 2) (S 99 m) (S 352 m) (S 96 m) (LdR (rwM S)) 0 0 ↔ (rwM S).qt m ≤ spR (rwM S) ((rwM S).it m) ((rwM S).dy m) m := by
        rw [ck_spR hI.2.1 hR, a5, a4, a1]; exact Iff.rfl
      rw [hsp]
      constructor
      · rintro ⟨g, g2, g3⟩
        have g4 := g3 k0
        exact ⟨⟨g, by omega, g4.1⟩, (C_rec hR (hg0 g) k0 (hI.1.2.2.1 _ hit.1 hit.2)).mpr g4.2⟩
      · rintro ⟨⟨g, g2, g3⟩, g4⟩
        exact ⟨g, by omega, fun _ => ⟨g3, (C_rec hR (hg0 g) k0 (hI.1.2.2.1 _ hit.1 hit.2)).mp g4⟩⟩
    · have hnx : ¬ exR 0 (S 232 0) (fun x => S 320 x = 3 ∧ S 480 x = 0 ∧ hasB (S 512 x) m) := by
        rintro ⟨x, x0, x1, x2, x3, x4⟩
        exact k0 ((((hR.2 x x0 x1).2 x2).2.2 m hm.1 (by omega)).2 x4).2
      constructor
      · rintro ⟨g, g2, _⟩
        refine ⟨⟨g, by omega, hnx⟩, C_oth (hg0 g) (Or.inl k0) (hR.2 m hm.1 hm.2).1.2.2.2.1.1 ?_⟩
        by_cases k3 : (rwM S).kd m = 3
        · rw [((hR.2 m hm.1 hm.2).2 k3).1]; exact rv_neg hR
        · have hit := ((hR.2 m hm.1 hm.2).1.2.2.1 k3).1
          exact hI.1.2.2.1 _ hit.1 hit.2
      · rintro ⟨⟨g, g2, _⟩, _⟩
        exact ⟨g, by omega, fun q => absurd q k0⟩
  rcases hW with ⟨rfl, ⟨hm, hc⟩, S9, hK, hF, hS⟩ | ⟨rfl, hm, rfl⟩ | ⟨rfl, ⟨hm, hc⟩, rfl⟩
  · obtain ⟨w1, w2⟩ := (hcond hm).mp hc
    have ec : ∀ c, c ∉ [103, 104, 64, 65] → c ≠ 1280 → S1 c = S c := fun c a e => by rw [hS, upS_fn _ _ _ e, hF.fn a]
    have w1' : cnW S1 m = 0 := by
      unfold cnW at w1 ⊢
      rw [ec 232 (by decide) (by decide), ec 480 (by decide) (by decide), ec 352 (by decide) (by decide), ec 233 (by decide) (by decide), ec 320 (by decide) (by decide), ec 512 (by decide) (by decide)]
      exact w1
    have w2' : cOk S1 m := by
      unfold cOk at w2 ⊢
      rw [ec 232 (by decide) (by decide), ec 480 (by decide) (by decide), ec 352 (by decide) (by decide), ec 384 (by decide) (by decide), ec 320 (by decide) (by decide), ec 416 (by decide) (by decide)]
      exact w2
    rcases hz with ⟨q, _⟩ | ⟨_, _, q1, q2, q3, q4⟩ | ⟨_, q, _⟩
    · exact absurd w1' q
    · have hF2 : Fr [103, 104, 64, 65, 1280, 249, 480, 672, 236] S S2 := ((hF.sub (by decide)).tr (hS ▸ Fr.up (by decide) : Fr [103, 104, 64, 65, 1280, 249, 480, 672, 236] S9 S1)).tr (q4.sub (by decide))
      have x480 : S2 480 = fu (S 480) m 1 := by rw [q3, ec 480 (by decide) (by decide)]
      have er : rwM S2 = rwC (rwM S) m := by
        unfold rwM rwC
        rw [hF2.fn (c := 320) (by decide), hF2.fn (c := 352) (by decide), hF2.fn (c := 384) (by decide), hF2.fn (c := 416) (by decide), hF2.fn (c := 448) (by decide), x480, hF2.fn (c := 512) (by decide), hF2.fn (c := 544) (by decide), hF2.fn (c := 232) (by decide)]
        rfl
      have hg : S 480 m = 0 := by
        have a8 := (hI.2.1.2.2.2.2.1 m hm.1 hm.2).1.2.2.2.2.2.2.2.1
        have a8' : S 103 m = S 480 m := a8
        omega
      have hnx : ¬ exR 0 (S 232 0) (fun x => S 320 x = 3 ∧ S 480 x = 0 ∧ hasB (S 512 x) m) := by
        intro hx
        have hm' : 0 ≤ m ∧ m < S 232 0 := hm
        unfold cnW at w1
        rw [cI_t hm', cI_t hg] at w1
        by_cases g2 : S 352 m ≤ S 233 0
        · rw [cI_t g2] at w1; omega
        · rw [cI_f g2, cI_t hx] at w1; omega
      have hl : m ∈ LdR (rwM S) := (led_mem (rwM S).dy (rwM S).gn (rwM S).n.toNat).mpr ⟨by omega, hg⟩
      have hq0 := (hR.2 m hm.1 hm.2).1.2.2.2.1.1
      obtain ⟨⟨h1', ⟨h2a, ⟨h2b, h2c, h2d⟩, h2e⟩, h3', h4', h5'⟩, c2, c3, c4, c5, c6⟩ := hI
      refine ⟨⟨q2, fun _ => ?_⟩, ⟨⟨h1'.of hF2 (by decide), ?_, fun i i0 i1 => ?_, by rw [hF2 233 0 (by decide)]; exact h4', by rw [hF2.fn (c := 640) (by decide)]; exact h5'⟩, ?_, ?_, ?_, by rw [hF2 232 0 (by decide)]; exact c5, c6⟩⟩
      · rw [q4 1280 0 (by decide), hS, upS_self, q1, ec 352 (by decide) (by decide), ec 480 (by decide) (by decide), ec 232 (by decide) (by decide)]; rfl
      · rw [er]
        refine ⟨⟨h2a.1, h2a.2⟩, ⟨h2b, h2c, fun x x0 x1 xk xg r r0 r1 hb => ?_⟩, h2e⟩
        have xg' : fu (S 480) m 1 x = 0 := xg
        have hxm : x ≠ m := fun e => by rw [e, fu_self] at xg'; omega
        rw [fu_ne _ _ hxm] at xg'
        have h9 := h2d x x0 x1 xk xg' r r0 r1 hb
        have hrm : r ≠ m := fun e => hnx ⟨x, x0, x1, xk, xg', by rw [← e]; exact hb⟩
        refine ⟨?_, h9.2⟩
        show fu (S 480) m 1 r = 0
        rw [fu_ne _ _ hrm]; exact h9.1
      · rw [er]
        by_cases ei : (rwM S).it m = i
        · rw [← ei]; exact w2
        · exact C_oth hl (Or.inr ei) hq0 (h3' i i0 i1)
      · rw [er]
        exact ck_fr hK ((hS ▸ Fr.up (by decide) : Fr [1280, 249, 480, 672, 236] S9 S1).tr (q4.sub (by decide))) (by decide)
      · rw [hF2 198 0 (by decide), hF2 233 0 (by decide)]; exact c3
      · rw [hF2.fn (c := 288) (by decide), hF2.fn (c := 640) (by decide)]; exact c4
    · exact absurd w2' q
  · have hw : cnW S1 m = 1 := by
      have hm' : ¬ (0 ≤ m ∧ m < S1 232 0) := hm
      unfold cnW; rw [cI_f hm']
    rw [CST, hw] at hz
    rcases hz with ⟨_, _, rfl⟩ | ⟨q, _⟩ | ⟨q, _⟩
    · exact ⟨⟨upS_self _ _ _ _, fun q => by omega⟩, inv_fr hI (Fr.up (by decide))⟩
    · omega
    · omega
  · have hno : ¬ (cnW S1 m = 0 ∧ cOk S1 m) := fun q => hc ((hcond hm).mpr q)
    have hw : cnW S1 m = 0 ∨ cnW S1 m = 2 := by
      have hm' : 0 ≤ m ∧ m < S1 232 0 := hm
      unfold cnW
      rw [cI_t hm']
      by_cases g : S1 480 m = 0
      · rw [cI_t g]
        by_cases g2 : S1 352 m ≤ S1 233 0
        · rw [cI_t g2]; exact Or.inr rfl
        · rw [cI_f g2]
          by_cases g3 : exR 0 (S1 232 0) (fun x => S1 320 x = 3 ∧ S1 480 x = 0 ∧ hasB (S1 512 x) m)
          · rw [cI_t g3]; exact Or.inr rfl
          · rw [cI_f g3]; exact Or.inl rfl
      · rw [cI_f g]; exact Or.inr rfl
    rcases hz with ⟨q, _, rfl⟩ | ⟨q, q1, _⟩ | ⟨_, _, _, q2, q3, q4⟩
    · refine ⟨⟨?_, fun q => by omega⟩, inv_fr hI (Fr.up (by decide))⟩
      rw [upS_self]; omega
    · exact absurd ⟨q, q1⟩ hno
    · refine ⟨⟨q2, fun q => by omega⟩, inv_keep hI (q4.sub (by decide)) (q4 232 0 (by decide)) (fun x x0 x1 => ⟨⟨?_, ?_, ?_, ?_, ?_, ?_⟩, ?_, fun r _ _ => ?_⟩)⟩
      · exact q4 320 x (by decide)
      · exact q4 352 x (by decide)
      · exact q4 384 x (by decide)
      · exact q4 416 x (by decide)
      · exact q4 448 x (by decide)
      · show S2 480 x = S1 480 x; rw [q3]
      · exact q4 512 x (by decide)
      · exact q4 544 _ (by decide)
