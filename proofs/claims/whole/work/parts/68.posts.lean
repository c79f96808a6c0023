/-! the calls that change the ledger: both change alike -/
def rowE (R R2 : RW) (m : Int) : Prop := (R2.kd m = R.kd m ∧ R2.dy m = R.dy m ∧ R2.it m = R.it m ∧ R2.qt m = R.qt m ∧ R2.co m = R.co m ∧ R2.gn m = R.gn m) ∧ R2.sp m = R.sp m ∧ ∀ r, 0 ≤ r → r < 60 → R2.pt (60 * m + r) = R.pt (60 * m + r)
theorem rg_row {R R2 : RW} {m : Int} (hR : RG R) (m0 : 0 ≤ m) (m1 : m < R.n) (hrow : ∀ m, 0 ≤ m → m < R.n → rowE R R2 m) : ((0 ≤ R2.kd m ∧ R2.kd m ≤ 3) ∧ (0 ≤ R2.dy m ∧ R2.dy m ≤ 364) ∧ (¬ R2.kd m = 3 → (0 ≤ R2.it m ∧ R2.it m ≤ 5) ∧ 1 ≤ R2.qt m) ∧ (0 ≤ R2.qt m ∧ R2.qt m ≤ 1000) ∧ (0 ≤ R2.co m ∧ R2.co m ≤ 1000000)) ∧ (R2.kd m = 3 → R2.it m = -1 ∧ R2.qt m = 0 ∧ ∀ r, 0 ≤ r → r < 60 → (0 ≤ R2.pt (60 * m + r) ∧ R2.pt (60 * m + r) ≤ 2000000) ∧ (hasB (R2.sp m) r → r < m ∧ R2.kd r = 0)) := by
  obtain ⟨⟨a1, a2, a3, a4, a5, a6⟩, b1, b2⟩ := hrow m m0 m1
  obtain ⟨h1, h2⟩ := hR.2 m m0 m1
  rw [a1, a2, a3, a4, a5, b1]
  refine ⟨h1, fun k => ⟨(h2 k).1, (h2 k).2.1, fun r r0 r1 => ?_⟩⟩
  have h3 := (h2 k).2.2 r r0 r1
  rw [b2 r r0 r1]
  refine ⟨h3.1, fun hb => ?_⟩
  have h4 := h3.2 hb
  refine ⟨h4.1, ?_⟩
  rw [(hrow r r0 (by omega)).1.1]
  exact h4.2
theorem rg_keep {R R2 : RW} (h : RG R ∧ RG2 R ∧ RG3 R) (hn : R2.n = R.n) (hrow : ∀ m, 0 ≤ m → m < R.n → rowE R R2 m) : RG R2 ∧ RG2 R2 ∧ RG3 R2 := by
  obtain ⟨hR, ⟨g1, g2, g3⟩, h3⟩ := h
  refine ⟨⟨by rw [hn]; exact hR.1, fun m m0 m1 => rg_row hR m0 (by omega) hrow⟩, ⟨fun m m0 m1 k => ?_, fun m m0 m1 k r r0 r1 => ?_, fun m m0 m1 k hg r r0 r1 hb => ?_⟩, fun m m0 m1 k r r0 r1 hb => ?_⟩
  · have e := hrow m m0 (by omega)
    rw [e.1.2.2.2.2.1]; exact g1 m m0 (by omega) (by rw [← e.1.1]; exact k)
  · have e := hrow m m0 (by omega)
    rw [e.2.1]; exact g2 m m0 (by omega) (by rw [← e.1.1]; exact k) r (by omega) r1
  · have e := hrow m m0 (by omega)
    rw [e.2.1] at hb
    have hk := e.1.1.symm.trans k
    have h4 := ((hR.2 m m0 (by omega)).2 hk).2.2 r r0 r1
    have h5 := (h4.2 hb).1
    have e2 := hrow r r0 (by omega)
    rw [e2.1.2.2.2.2.2, e2.1.2.1, e.1.2.1]
    exact g3 m m0 (by omega) hk (e.1.2.2.2.2.2.symm.trans hg) r r0 r1 hb
  · have e := hrow m m0 (by omega)
    rw [e.2.2 r r0 r1]
    rw [e.2.1] at hb
    exact h3 m m0 (by omega) (e.1.1.symm.trans k) r r0 r1 hb
theorem rg_add {R R2 : RW} (h : RG R ∧ RG2 R ∧ RG3 R) (hn9 : R.n < 60) (hn : R2.n = R.n + 1) (hrow : ∀ m, 0 ≤ m → m < R.n → rowE R R2 m)
    (new : (0 ≤ R2.kd R.n ∧ R2.kd R.n ≤ 3) ∧ (0 ≤ R2.dy R.n ∧ R2.dy R.n ≤ 364) ∧ (¬ R2.kd R.n = 3 → (0 ≤ R2.it R.n ∧ R2.it R.n ≤ 5) ∧ 1 ≤ R2.qt R.n) ∧ (0 ≤ R2.qt R.n ∧ R2.qt R.n ≤ 1000) ∧ (0 ≤ R2.co R.n ∧ R2.co R.n ≤ 1000000)) (n1 : R2.kd R.n = 1 → R2.co R.n = 0)
    (n3 : R2.kd R.n = 3 → R2.it R.n = -1 ∧ R2.qt R.n = 0 ∧ ∀ r, 0 ≤ r → r < 60 → (0 ≤ R2.pt (60 * R.n + r) ∧ R2.pt (60 * R.n + r) ≤ 2000000) ∧ (hasB (R2.sp R.n) r → r < R.n ∧ R.kd r = 0 ∧ R.gn r = 0 ∧ R.dy r ≤ R2.dy R.n) ∧ (¬ hasB (R2.sp R.n) r → R2.pt (60 * R.n + r) = 0)) : RG R2 ∧ RG2 R2 ∧ RG3 R2 := by
  obtain ⟨hR, ⟨g1, g2, g3⟩, h3⟩ := h
  have hn0 := hR.1
  have cs : ∀ m, 0 ≤ m → m < R2.n → m < R.n ∨ m = R.n := fun m m0 m1 => by omega
  refine ⟨⟨by omega, fun m m0 m1 => ?_⟩, ⟨fun m m0 m1 k => ?_, fun m m0 m1 k r r0 r1 => ?_, fun m m0 m1 k hg r r0 r1 hb => ?_⟩, fun m m0 m1 k r r0 r1 hb => ?_⟩
  · rcases cs m m0 m1 with q | rfl
    · exact rg_row hR m0 q hrow
    · refine ⟨new, fun k => ⟨(n3 k).1, (n3 k).2.1, fun r r0 r1 => ⟨((n3 k).2.2 r r0 r1).1, fun hb => ?_⟩⟩⟩
      have h4 := ((n3 k).2.2 r r0 r1).2.1 hb
      exact ⟨h4.1, by rw [(hrow r r0 h4.1).1.1]; exact h4.2.1⟩
  · rcases cs m m0 m1 with q | rfl
    · have e := hrow m m0 q
      rw [e.1.2.2.2.2.1]; exact g1 m m0 q (by rw [← e.1.1]; exact k)
    · exact n1 k
  · rcases cs m m0 m1 with q | rfl
    · have e := hrow m m0 q
      rw [e.2.1]; exact g2 m m0 q (by rw [← e.1.1]; exact k) r (by omega) r1
    · intro hb
      have := (((n3 k).2.2 r (by omega) r1).2.1 hb).1
      omega
  · rcases cs m m0 m1 with q | rfl
    · have e := hrow m m0 q
      rw [e.2.1] at hb
      have hk := e.1.1.symm.trans k
      have h4 := ((hR.2 m m0 q).2 hk).2.2 r r0 r1
      have h5 := (h4.2 hb).1
      have e2 := hrow r r0 (by omega)
      rw [e2.1.2.2.2.2.2, e2.1.2.1, e.1.2.1]
      exact g3 m m0 q hk (e.1.2.2.2.2.2.symm.trans hg) r r0 r1 hb
    · have h4 := ((n3 k).2.2 r r0 r1).2.1 hb
      have e2 := hrow r r0 h4.1
      rw [e2.1.2.2.2.2.2, e2.1.2.1]
      exact ⟨h4.2.2.1, h4.2.2.2⟩
  · rcases cs m m0 m1 with q | rfl
    · have e := hrow m m0 q
      rw [e.2.2 r r0 r1]
      rw [e.2.1] at hb
      exact h3 m m0 q (e.1.1.symm.trans k) r r0 r1 hb
    · exact ((n3 k).2.2 r r0 r1).2.2 hb
theorem rv_eq {R R' : RW} (h : REq R R') (hn : 0 ≤ R.n) (i : Int) : RV R' i ↔ RV R i := by
  unfold RV
  rw [req_led h hn]
  refine vld_c _ _ (fun x hx => ?_)
  have h9 := (led_mem R.dy R.gn R.n.toNat).mp hx
  obtain ⟨a1, a2, a3, a4, a5, a6⟩ := (h.2 x h9.1.1 (by omega)).1
  unfold chg dlt tks
  rw [a1, a3, a4]
  exact ⟨rfl, rfl, Iff.rfl⟩
theorem rowE_req {R R2 : RW} (hn : R2.n = R.n) (hrow : ∀ m, 0 ≤ m → m < R.n → rowE R R2 m) : REq R R2 := ⟨hn, fun m m0 m1 => ⟨(hrow m m0 m1).1, fun _ => ⟨(hrow m m0 m1).2.1, fun r r0 r1 _ => (hrow m m0 m1).2.2 r r0 r1⟩⟩⟩
/-- nothing landed, the reference's rows behind the last are other -/
theorem inv_keep {S S2 : ST} {A : AB} (hI : INV S A) (hF : Fr ([320, 352, 384, 416, 448, 480, 544, 512] ++ CHG ++ [232]) S S2) (hn : S2 232 0 = S 232 0) (hrow : ∀ m, 0 ≤ m → m < (rwM S).n → rowE (rwM S) (rwM S2) m) : INV S2 A := by
  obtain ⟨⟨h1, h2, h3, h4, h5⟩, c2, c3, c4, c5, c6⟩ := hI
  have hn0 := h2.1.1
  have hq := rowE_req (R := rwM S) (R2 := rwM S2) hn hrow
  refine ⟨⟨rm_ae h1 AE.rf (fun j hj => hF _ _ ((by decide : ∀ j ∈ mArr, 224 + j ∉ [320, 352, 384, 416, 448, 480, 544, 512] ++ CHG ++ [232]) j hj)), rg_keep h2 hn hrow, fun i i0 i1 => (rv_eq hq hn0.1 i).mpr (h3 i i0 i1), by rw [hF 233 0 (by decide)]; exact h4, by rw [hF.fn (c := 640) (by decide)]; exact h5⟩, ck_eq hq hn0.1 (ck_fr c2 hF (by decide)), ?_, ?_, by rw [hn]; exact c5, c6⟩
  · rw [hF 198 0 (by decide), hF 233 0 (by decide)]; exact c3
  · rw [hF.fn (c := 288) (by decide), hF.fn (c := 640) (by decide)]; exact c4
/-- one landed on both sides -/
theorem inv_add {S S2 S9 : ST} {A A1 : AB} {kd d it q co sp : Int} {pt : Int → Int} (hI : INV S A) (hn9 : S 232 0 < 60) (hK : CK (rwP (rwM S) kd d it q co sp pt) S9 A1) (hC : CN S A S9 A1) (hF : Fr [320, 352, 384, 416, 448, 480, 544, 512, 232, 672, 236, 249, 1088, 1280] S9 S2) (hn : S2 232 0 = S 232 0 + 1) (hrow : ∀ m, 0 ≤ m → m < (rwM S).n → rowE (rwM S) (rwM S2) m) (hq : REq (rwP (rwM S) kd d it q co sp pt) (rwM S2)) (hg : RG (rwM S2) ∧ RG2 (rwM S2) ∧ RG3 (rwM S2)) (hv : ∀ i, 0 ≤ i → i ≤ 5 → RV (rwP (rwM S) kd d it q co sp pt) i) : INV S2 A1 := by
  obtain ⟨⟨h1, h2, h3, h4, h5⟩, c2, c3, c4, c5, c6⟩ := hI
  obtain ⟨q1, q2, q3, q4, q5⟩ := hC
  have hn0 := h2.1.1
  have hp : 0 ≤ (rwP (rwM S) kd d it q co sp pt).n := by show 0 ≤ (rwM S).n + 1; omega
  have f : ∀ c, 224 ≤ c → c ≠ 256 → c ∉ [320, 352, 384, 416, 448, 480, 544, 512, 232, 672, 236, 249, 1088, 1280] → S2 c = S c := fun c a b e => by
    funext z
    rw [hF c z e, q2 c z a b]
  refine ⟨⟨rm_ae h1 q1 (fun j hj => by rw [f (224 + j) (by omega) ((by decide : ∀ j ∈ mArr, 224 + j ≠ 256) j hj) ((by decide : ∀ j ∈ mArr, 224 + j ∉ [320, 352, 384, 416, 448, 480, 544, 512, 232, 672, 236, 249, 1088, 1280]) j hj)]), hg, fun i i0 i1 => (rv_eq hq hp i).mpr (hv i i0 i1), by rw [f 233 (by decide) (by decide) (by decide)]; exact h4, by rw [f 640 (by decide) (by decide) (by decide)]; exact h5⟩, ck_eq hq hp (ck_fr hK hF (by decide)), ?_, ?_, ?_, ⟨c6.1, (q1 40 0 c6.2).2⟩⟩
  · rw [hF 198 0 (by decide), q3, f 233 (by decide) (by decide) (by decide)]; exact c3
  · rw [f 288 (by decide) (by decide) (by decide), f 640 (by decide) (by decide) (by decide)]; exact c4
  · rw [hn]; omega
theorem mv_cn {S S1 S9 : ST} {A A1 : AB} {v : Int} (h : MV9 S A) (hC : CN S A S9 A1) (hS : S1 = upS S9 1280 0 v) : MV9 S1 A1 := by
  refine mv_fr h hC.1 (fun c hc => ?_)
  funext z
  rw [hS, upS_c _ _ ((by decide : ∀ c ∈ RFC, c ≠ 1280) c hc), hC.2.1 c z ((by decide : ∀ c ∈ RFC, 224 ≤ c) c hc) ((by decide : ∀ c ∈ RFC, c ≠ 256) c hc)]
/-- a posting's words, class against reference -/
theorem wrg_v {S : ST} {d i q c : Int} {GA OPN : Prop} (hg : ((0 ≤ d ∧ d ≤ 364) ∧ (0 ≤ i ∧ i ≤ 5) ∧ (1 ≤ q ∧ q ≤ 1000) ∧ 0 ≤ c ∧ c ≤ 1000000) ↔ GA) (ho : (d ≤ S 233 0 ∨ S 232 0 = 60) ↔ ¬ OPN) : (¬ GA → wrg S d i q c = 1) ∧ (GA → ¬ OPN → wrg S d i q c = 2) ∧ (GA → OPN → wrg S d i q c = 0) := by
  unfold wrg
  refine ⟨fun h => cI_f (fun q => h (hg.mp q)), fun h h2 => ?_, fun h h2 => ?_⟩
  · rw [cI_t (hg.mpr h), cI_t (ho.mpr h2)]
  · rw [cI_t (hg.mpr h), cI_f (fun q => ho.mp q h2)]
theorem pst_rows {S1 S2 : ST} {kd d it q co : Int} {n' : Int} (hk : ¬ kd = 3) (hn : 0 ≤ (rwM S1).n) (hr : pRow S1 S2 kd d it q co) (h512 : S2 512 = S1 512) : (∀ m, 0 ≤ m → m < (rwM S1).n → rowE (rwM S1) (rwM S2) m) ∧ (S2 232 0 = S1 232 0 + 1 → REq (rwP (rwM S1) kd d it q co 0 (rwM S1).pt) (rwM S2)) := by
  obtain ⟨r1, r2, r3, r4, r5, r6, r7⟩ := hr
  have hrow : ∀ m, 0 ≤ m → m < (rwM S1).n → rowE (rwM S1) (rwM S2) m := fun m m0 m1 => by
    have hne : m ≠ S1 232 0 := fun e => by have : m = (rwM S1).n := e; omega
    have m1' : m < S1 232 0 := m1
    refine ⟨⟨?_, ?_, ?_, ?_, ?_, ?_⟩, ?_, fun r r0 r1' => ?_⟩
    · show S2 320 m = S1 320 m; rw [r1, fu_ne _ _ hne]
    · show S2 352 m = S1 352 m; rw [r2, fu_ne _ _ hne]
    · show S2 384 m = S1 384 m; rw [r3, fu_ne _ _ hne]
    · show S2 416 m = S1 416 m; rw [r4, fu_ne _ _ hne]
    · show S2 448 m = S1 448 m; rw [r5, fu_ne _ _ hne]
    · show S2 480 m = S1 480 m; rw [r6, fu_ne _ _ hne]
    · show S2 512 m = S1 512 m; rw [h512]
    · show S2 544 (60 * m + r) = S1 544 (60 * m + r)
      rw [r7, if_neg (by omega)]
  refine ⟨hrow, fun hn2 => ⟨hn2, fun m m0 m1 => ?_⟩⟩
  have m1' : m < S1 232 0 + 1 := m1
  refine ⟨⟨?_, ?_, ?_, ?_, ?_, ?_⟩, fun k3 => ?_⟩
  · show S2 320 m = fu (S1 320) (S1 232 0) kd m; rw [r1]
  · show S2 352 m = fu (S1 352) (S1 232 0) d m; rw [r2]
  · show S2 384 m = fu (S1 384) (S1 232 0) it m; rw [r3]
  · show S2 416 m = fu (S1 416) (S1 232 0) q m; rw [r4]
  · show S2 448 m = fu (S1 448) (S1 232 0) co m; rw [r5]
  · show S2 480 m = fu (S1 480) (S1 232 0) 0 m; rw [r6]
  · have k3' : fu (S1 320) (S1 232 0) kd m = 3 := k3
    have hne : m ≠ S1 232 0 := fun e => by rw [e, fu_self] at k3'; exact hk k3'
    have h9 := hrow m m0 (by show m < S1 232 0; omega)
    refine ⟨?_, fun r r0 r1' _ => h9.2.2 r r0 r1'⟩
    show S2 512 m = fu (S1 512) (S1 232 0) 0 m
    rw [fu_ne _ _ hne, h512]
theorem u_post {S S1 S2 : ST} {A A1 : AB} {kd d it q co k z : Int} {GA OPN EX : Prop} (hI : INV S A) (hkd : kd = 0 ∨ kd = 1 ∨ kd = 2) (hco : kd = 1 → co = 0) (hGA : ((0 ≤ d ∧ d ≤ 364) ∧ (0 ≤ it ∧ it ≤ 5) ∧ (1 ≤ q ∧ q ≤ 1000) ∧ 0 ≤ co ∧ co ≤ 1000000) ↔ GA) (hOPN : (S 198 0 < d ∧ S 197 0 < 60) ↔ OPN) (hEX : GA → (RV (rwP (rwM S) kd d it q co 0 (rwM S).pt) it ↔ EX))
    (hW : (k = 0 ∧ (GA ∧ OPN ∧ EX) ∧ ∃ S9, CK (rwP (rwM S) kd d it q co 0 (rwM S).pt) S9 A1 ∧ CN S A S9 A1 ∧ S1 = upS S9 1280 0 (rwM S).n) ∨ (k = 1 ∧ ¬ GA ∧ S1 = S ∧ A1 = A) ∨ (k = 2 ∧ (GA ∧ ¬ (OPN ∧ EX)) ∧ S1 = S ∧ A1 = A)) (hz : PST S1 kd d it q co z S2) : ANS S2 k z ∧ INV S2 A1 := by
  have hn := hI.1.2.1.1.1
  have hcl := hI.2.2.1
  have h197 : S 197 0 = S 232 0 := hI.2.1.2.2.1.1
  have hn' : S 232 0 ≤ 60 := hn.2
  have hk3 : ¬ kd = 3 := by omega
  rcases hW with ⟨rfl, ⟨hg, ho, hx⟩, S9, hK, hC, hS⟩ | ⟨rfl, hg, rfl, rfl⟩ | ⟨rfl, ⟨hg, ho⟩, rfl, rfl⟩
  · have ec : ∀ c, 224 ≤ c → c ≠ 256 → c ≠ 1280 → S1 c = S c := fun c a b e => by
      funext y
      rw [hS, upS_c _ _ e, hC.2.1 c y a b]
    have e0 : ∀ c, 224 ≤ c → c ≠ 256 → c ≠ 1280 → S1 c 0 = S c 0 := fun c a b e => by rw [ec c a b e]
    have er : rwM S1 = rwM S := rwM_c (fun c hc => ec c ((by decide : ∀ c ∈ RFC, 224 ≤ c) c hc) ((by decide : ∀ c ∈ RFC, c ≠ 256) c hc) ((by decide : ∀ c ∈ RFC, c ≠ 1280) c hc))
    have ho' := hOPN.mpr ho
    have hw := (wrg_v (S := S1) (d := d) (i := it) (q := q) (c := co) (OPN := OPN) hGA (by
      rw [e0 233 (by decide) (by decide) (by decide), e0 232 (by decide) (by decide) (by decide), ← hOPN]; omega)).2.2 hg ho
    have hp : pOk S1 kd d it q := Or.inr (by
      have h9 : RV (rwP (rwM S1) kd d it q co 0 (rwM S1).pt) it := by rw [er]; exact (hEX hg).mpr hx
      exact h9)
    rcases hz with ⟨q1, _⟩ | ⟨_, _, q1, q2, q3, q4, q5⟩ | ⟨_, q1, _⟩
    · exact absurd hw q1
    · have q4' := q4
      obtain ⟨p1, p2⟩ := pst_rows (n' := 0) hk3 (by rw [er]; exact hn.1) q4 (q5.fn (by decide))
      rw [er] at p1 p2
      refine ⟨⟨q2, fun _ => ?_⟩, inv_add hI (by omega) hK hC ?_ (by rw [q3, e0 232 (by decide) (by decide) (by decide)]) p1 (p2 q3) ?_ (fun i i0 i1 => ?_)⟩
      · have x9 : S1 1280 0 = (rwM S).n := by rw [hS, upS_self]
        rw [q5 1280 0 (by decide), x9, q1, e0 232 (by decide) (by decide) (by decide)]; rfl
      · exact (hS ▸ Fr.up (by decide) : Fr [320, 352, 384, 416, 448, 480, 544, 512, 232, 672, 236, 249, 1088, 1280] S9 S1).tr (q5.sub (by decide))
      · have hga := hGA.mpr hg
        have hreq := p2 q3
        have w := (hreq.2 (rwM S).n hn.1 (by show (rwM S).n < (rwM S).n + 1; omega)).1
        have wk : (rwM S2).kd (rwM S).n = kd := by rw [w.1]; exact fu_self _ _ _
        have wd : (rwM S2).dy (rwM S).n = d := by rw [w.2.1]; exact fu_self _ _ _
        have wi : (rwM S2).it (rwM S).n = it := by rw [w.2.2.1]; exact fu_self _ _ _
        have wq : (rwM S2).qt (rwM S).n = q := by rw [w.2.2.2.1]; exact fu_self _ _ _
        have wc : (rwM S2).co (rwM S).n = co := by rw [w.2.2.2.2.1]; exact fu_self _ _ _
        refine rg_add hI.1.2.1 (by show S 232 0 < 60; omega) (by rw [hreq.1]; rfl) p1 ?_ (fun k1 => by rw [wc]; exact hco (by rw [← wk]; exact k1)) (fun k3 => absurd (wk.symm.trans k3) hk3)
        rw [wk, wd, wi, wq, wc]
        exact ⟨by omega, hga.1, fun _ => ⟨hga.2.1, hga.2.2.1.1⟩, by omega, hga.2.2.2⟩
      · by_cases ei : it = i
        · rw [← ei]; exact (hEX hg).mpr hx
        · exact V_oth hn.1 ei (hI.1.2.2.1 i i0 i1)
    · exact absurd hp q1
  · have hw := (wrg_v (S := S1) (d := d) (i := it) (q := q) (c := co) (OPN := OPN) hGA (by rw [← hOPN]; omega)).1 hg
    rw [PST, hw] at hz
    rcases hz with ⟨_, _, rfl⟩ | ⟨q, _⟩ | ⟨q, _⟩
    · exact ⟨⟨upS_self _ _ _ _, fun q => by omega⟩, inv_fr hI (Fr.up (by decide))⟩
    · omega
    · omega
  · have hv := wrg_v (S := S1) (d := d) (i := it) (q := q) (c := co) (OPN := OPN) hGA (by rw [← hOPN]; omega)
    by_cases hop : OPN
    · have hx : ¬ EX := fun q => ho ⟨hop, q⟩
      have hw := hv.2.2 hg hop
      have hp : ¬ pOk S1 kd d it q := by
        rintro (h | h)
        · exact hk3 h
        · exact hx ((hEX hg).mp h)
      rcases hz with ⟨q1, _⟩ | ⟨_, q1, _⟩ | ⟨_, _, _, q2, q3, q4, q5⟩
      · exact absurd hw q1
      · exact absurd q1 hp
      · obtain ⟨p1, _⟩ := pst_rows (n' := 0) hk3 hn.1 q4 (q5.fn (by decide))
        exact ⟨⟨q2, fun q => by omega⟩, inv_keep hI (q5.sub (by decide)) q3 p1⟩
    · have hw := hv.2.1 hg hop
      rw [PST, hw] at hz
      rcases hz with ⟨_, _, rfl⟩ | ⟨q, _⟩ | ⟨q, _⟩
      · exact ⟨⟨upS_self _ _ _ _, fun q => by omega⟩, inv_fr hI (Fr.up (by decide))⟩
      · omega
      · omega
