/-! what holds between two calls of the law; the calls that only look -/
def RG3 (R : RW) : Prop := ∀ m, 0 ≤ m → m < R.n → R.kd m = 3 → ∀ r, 0 ≤ r → r < 60 → ¬ hasB (R.sp m) r → R.pt (60 * m + r) = 0
/-- the reference's half -/
def MV9 (S : ST) (A : AB) : Prop := RM S A ∧ (RG (rwM S) ∧ RG2 (rwM S) ∧ RG3 (rwM S)) ∧ (∀ i, 0 ≤ i → i ≤ 5 → RV (rwM S) i) ∧ (-1 ≤ S 233 0 ∧ S 233 0 ≤ 364) ∧ (∀ i, 0 ≤ i → i ≤ 5 → 0 ≤ S 640 i ∧ S 640 i ≤ 100)
def INV (S : ST) (A : AB) : Prop := MV9 S A ∧ CK (rwM S) S A ∧ S 198 0 = S 233 0 ∧ (∀ i, 0 ≤ i → i ≤ 5 → S 288 i = S 640 i) ∧ A.2 5 ≤ 60 * S 232 0 ∧ lv1 A 40 0
abbrev RFC : List Nat := [224, 225, 226, 227, 228, 229, 230, 231, 234, 235, 240, 241, 242, 243, 245, 246, 247, 248, 320, 352, 384, 416, 448, 480, 512, 544, 232, 233, 640]
theorem rm_ae {S S' : ST} {A A' : AB} (h : RM S A) (hE : AE A A') (hF : ∀ j ∈ mArr, S' (224 + j) 0 = S (224 + j) 0) : RM S' A' := ⟨⟨h.1.1, (hE 7 0 h.1.2).2⟩, fun j hj => ⟨⟨(h.2 j hj).1.1, (hE (10 + j) 0 (h.2 j hj).1.2).2⟩, (hF j hj).trans (h.2 j hj).2⟩⟩
theorem mArr_RFC : ∀ j ∈ mArr, 224 + j ∈ RFC := by decide
theorem rwM_c {S S' : ST} (hF : ∀ c ∈ RFC, S' c = S c) : rwM S' = rwM S := by
  unfold rwM
  rw [hF 320 (by decide), hF 352 (by decide), hF 384 (by decide), hF 416 (by decide), hF 448 (by decide), hF 480 (by decide), hF 512 (by decide), hF 544 (by decide), hF 232 (by decide)]
theorem mv_fr {S S' : ST} {A A' : AB} (h : MV9 S A) (hE : AE A A') (hF : ∀ c ∈ RFC, S' c = S c) : MV9 S' A' := by
  obtain ⟨h1, h2, h3, h4, h5⟩ := h
  have e := rwM_c hF
  refine ⟨rm_ae h1 hE (fun j hj => by rw [hF _ (mArr_RFC j hj)]), by rw [e]; exact h2, by rw [e]; exact h3, by rw [hF 233 (by decide)]; exact h4, by rw [hF 640 (by decide)]; exact h5⟩
theorem inv_fr {S S' : ST} {A : AB} (h : INV S A) (hF : Fr CHG S S') : INV S' A := by
  obtain ⟨h1, h2, h3, h4, h5, h6⟩ := h
  have hc : ∀ c ∈ RFC, S' c = S c := fun c hc => hF.fn ((by decide : ∀ c ∈ RFC, c ∉ CHG) c hc)
  refine ⟨mv_fr h1 AE.rf hc, ?_, ?_, ?_, ?_, h6⟩
  · rw [rwM_c hc]; exact ck_fr h2 hF (by decide)
  · rw [hF.fn (c := 198) (by decide), hF.fn (c := 233) (by decide)]; exact h3
  · rw [hF.fn (c := 288) (by decide), hF.fn (c := 640) (by decide)]; exact h4
  · rw [hF.fn (c := 232) (by decide)]; exact h5
/-- what the reference's contracts want -/
theorem mv_pre {S : ST} {A : AB} (h : MV9 S A) : rI (S 233 0) ∧ 0 ≤ S 232 0 ∧ S 232 0 ≤ 60 ∧ (∀ m, 0 ≤ m → m < S 232 0 → 0 ≤ S 416 m ∧ S 416 m ≤ 1000) ∧ (∀ m, 0 ≤ m → m < S 232 0 → 0 ≤ S 448 m ∧ S 448 m ≤ 1000000) ∧ (∀ m, 0 ≤ m → m < S 232 0 → S 320 m = 0 → 0 ≤ S 384 m ∧ S 384 m ≤ 5) := by
  obtain ⟨h1, ⟨h2, _, _⟩, h3, h4, h5⟩ := h
  refine ⟨by omega, h2.1.1, h2.1.2, fun m m0 m1 => (h2.2 m m0 m1).1.2.2.2.1, fun m m0 m1 => (h2.2 m m0 m1).1.2.2.2.2, fun m m0 m1 k => ((h2.2 m m0 m1).1.2.2.1 (fun q => ?_)).1⟩
  have q' : S 320 m = 3 := q
  omega
/-- what the reference tells, against what the class told -/
def ANS (S : ST) (k z : Int) : Prop := S 249 0 = k ∧ (k = 0 → S 1280 0 = z)
theorem u_mv {S S1 S2 : ST} {A : AB} {m k z v w : Int} (hI : INV S A) (hF : Fr CHG S S1) (hW : (k = 0 ∧ (0 ≤ m ∧ m < (rwM S).n) ∧ S1 1280 0 = v) ∨ (k = 1 ∧ ¬ (0 ≤ m ∧ m < (rwM S).n))) (hv : (0 ≤ m ∧ m < (rwM S).n) → v = w) (hz : cI (0 ≤ m ∧ m < S1 232 0) w 0 = z) (hS : Fr [249, 672, 236] S1 S2) (h9 : S2 249 0 = mvW S1 m) : ANS S2 k z ∧ INV S2 A := by
  refine ⟨?_, inv_fr hI (hF.tr (hS.sub (by decide)))⟩
  have e : S1 232 0 = (rwM S).n := hF 232 0 (by decide)
  unfold mvW at h9
  rw [e] at hz h9
  rcases hW with ⟨rfl, h1, h2⟩ | ⟨rfl, h1⟩
  · rw [cI_t h1] at hz h9
    exact ⟨h9, fun _ => by rw [hS 1280 0 (by decide), h2, hv h1, hz]⟩
  · rw [cI_f h1] at h9
    exact ⟨h9, fun q => by omega⟩
theorem inv_row {S : ST} {A : AB} (hI : INV S A) {m : Int} (h : 0 ≤ m ∧ m < (rwM S).n) : S 97 m = S 320 m ∧ S 98 m = S 352 m ∧ S 103 m = S 480 m := by
  have h9 := (hI.2.1.2.2.2.2.1 m h.1 h.2).1
  exact ⟨h9.2.1, h9.2.2.1, h9.2.2.2.2.2.2.2.1⟩
theorem u_kindOf {S S1 S2 : ST} {A : AB} {m k z : Int} (hI : INV S A) (hF : Fr CHG S S1) (hW : (k = 0 ∧ (0 ≤ m ∧ m < (rwM S).n) ∧ S1 1280 0 = S 97 m) ∨ (k = 1 ∧ ¬ (0 ≤ m ∧ m < (rwM S).n))) (hz : cI (0 ≤ m ∧ m < S1 232 0) (S1 320 m) 0 = z) (hS : upS S1 249 0 (mvW S1 m) = S2) : ANS S2 k z ∧ INV S2 A :=
  u_mv hI hF hW (fun h => (inv_row hI h).1.trans (hF 320 m (by decide)).symm) hz (hS ▸ Fr.up (by decide)) (by rw [← hS, upS_self])
theorem u_dayOf {S S1 S2 : ST} {A : AB} {m k z : Int} (hI : INV S A) (hF : Fr CHG S S1) (hW : (k = 0 ∧ (0 ≤ m ∧ m < (rwM S).n) ∧ S1 1280 0 = S 98 m) ∨ (k = 1 ∧ ¬ (0 ≤ m ∧ m < (rwM S).n))) (hz : cI (0 ≤ m ∧ m < S1 232 0) (S1 352 m) 0 = z) (hS : upS S1 249 0 (mvW S1 m) = S2) : ANS S2 k z ∧ INV S2 A :=
  u_mv hI hF hW (fun h => (inv_row hI h).2.1.trans (hF 352 m (by decide)).symm) hz (hS ▸ Fr.up (by decide)) (by rw [← hS, upS_self])
theorem u_isCancelled {S S1 S2 : ST} {A : AB} {m k z : Int} (hI : INV S A) (hF : Fr CHG S S1) (hW : (k = 0 ∧ (0 ≤ m ∧ m < (rwM S).n) ∧ S1 1280 0 = cI (S 103 m = 0) 0 1) ∨ (k = 1 ∧ ¬ (0 ≤ m ∧ m < (rwM S).n))) (hz : b2i ((0 ≤ m ∧ m < S1 232 0) ∧ ¬ S1 480 m = 0) = z) (hS : upS S1 249 0 (mvW S1 m) = S2) : ANS S2 k z ∧ INV S2 A := by
  refine u_mv hI hF hW (fun h => ?_) (w := cI (S1 480 m = 0) 0 1) ?_ (hS ▸ Fr.up (by decide)) (by rw [← hS, upS_self])
  · rw [(inv_row hI h).2.2, hF 480 m (by decide)]
  · rw [← hz]
    by_cases h1 : 0 ≤ m ∧ m < S1 232 0
    · rw [cI_t h1]
      by_cases h2 : S1 480 m = 0
      · rw [cI_t h2, b2i_f (fun q => q.2 h2)]
      · rw [cI_f h2, b2i_t ⟨h1, h2⟩]
    · rw [cI_f h1, b2i_f (fun q => h1 q.1)]
theorem u_placeOf {S S1 S2 : ST} {A : AB} {m k z : Int} (hI : INV S A) (hF : Fr CHG S S1) (hW : (k = 0 ∧ (0 ≤ m ∧ m < (rwM S).n) ∧ S1 1280 0 = cI (S 103 m = 0) (fst m (LdR (rwM S))) (-1)) ∨ (k = 1 ∧ ¬ (0 ≤ m ∧ m < (rwM S).n))) (hz : cI (mvW S1 m = 0) (plc m (led (S1 352) (S1 480) (S1 232 0).toNat) 0 (-1)) 0 = z) (hS : Fr [249, 672, 236] S1 S2) (h9 : S2 249 0 = mvW S1 m) : ANS S2 k z ∧ INV S2 A := by
  have el : led (S1 352) (S1 480) (S1 232 0).toNat = LdR (rwM S) := by
    rw [hF.fn (c := 352) (by decide), hF.fn (c := 480) (by decide), hF.fn (c := 232) (by decide)]; rfl
  refine u_mv hI hF hW (fun h => ?_) (w := plc m (LdR (rwM S)) 0 (-1)) ?_ hS h9
  · rw [(inv_row hI h).2.2]
    have hn := hI.1.2.1.1.1
    by_cases h2 : S 480 m = 0
    · rw [cI_t h2, plc_fst (LdR (rwM S)) 0 (-1) (led_nd (rwM S).dy (rwM S).gn (rwM S).n.toNat) ((led_mem (rwM S).dy (rwM S).gn (rwM S).n.toNat).mpr ⟨by omega, h2⟩), Int.zero_add]
    · rw [cI_f h2, plc_n2 (LdR (rwM S)) 0 (-1) (fun q => h2 ((led_mem (rwM S).dy (rwM S).gn (rwM S).n.toNat).mp q).2)]
  · rw [el] at hz
    rw [← hz]
    unfold mvW
    by_cases h1 : 0 ≤ m ∧ m < S1 232 0
    · rw [cI_t h1, cI_t h1, cI_t rfl]
    · rw [cI_f h1, cI_f h1, cI_f (by omega)]
theorem u_partOf {S S1 S2 : ST} {A : AB} {a b k z : Int} (hI : INV S A) (hF : Fr CHG S S1) (hW : (k = 0 ∧ (((0 ≤ a ∧ a < (rwM S).n) ∧ (0 ≤ b ∧ b < (rwM S).n)) ∧ (rwM S).kd a = 3) ∧ ptC (rwM S) a b (S1 1280 0)) ∨ (k = 1 ∧ ¬ ((0 ≤ a ∧ a < (rwM S).n) ∧ (0 ≤ b ∧ b < (rwM S).n))) ∨ (k = 2 ∧ (((0 ≤ a ∧ a < (rwM S).n) ∧ (0 ≤ b ∧ b < (rwM S).n)) ∧ ¬ (rwM S).kd a = 3))) (hz : cI (ptW S1 a b = 0) (S1 544 (60 * a + b)) 0 = z) (hS : upS S1 249 0 (ptW S1 a b) = S2) : ANS S2 k z ∧ INV S2 A := by
  subst hS
  refine ⟨?_, inv_fr hI (hF.tr (Fr.up (by decide)))⟩
  have e1 : S1 232 0 = (rwM S).n := hF 232 0 (by decide)
  have e2 : S1 320 a = (rwM S).kd a := hF 320 a (by decide)
  have e3 : S1 544 (60 * a + b) = (rwM S).pt (60 * a + b) := hF 544 _ (by decide)
  have hp : ptW S1 a b = cI ((0 ≤ a ∧ a < (rwM S).n) ∧ (0 ≤ b ∧ b < (rwM S).n)) (cI ((rwM S).kd a = 3) 0 2) 1 := by unfold ptW; rw [e1, e2]
  rw [hp] at hz ⊢
  rcases hW with ⟨rfl, ⟨h1, h2⟩, h3⟩ | ⟨rfl, h1⟩ | ⟨rfl, h1, h2⟩
  · rw [cI_t h1, cI_t h2] at hz ⊢
    refine ⟨upS_self _ _ _ _, fun _ => ?_⟩
    rw [cI_t rfl] at hz
    rw [upS_c _ _ (by decide), ← hz, e3]
    have hn := hI.1.2.1.1.1
    rcases h3 with ⟨q1, q2⟩ | ⟨p, q1, q2⟩
    · rw [q2]
      have hb : ¬ hasB ((rwM S).sp a) b := fun hb => q1 (List.mem_map.mpr ⟨(b, (rwM S).pt (60 * a + b)), by
        unfold shl
        rw [b60_e]
        exact List.mem_map.mpr ⟨b, (bl_mem 60).mpr ⟨by omega, hb⟩, rfl⟩, rfl⟩)
      exact (hI.1.2.1.2.2 a h1.1.1 h1.1.2 h2 b h1.2.1 (by omega) hb).symm
    · rw [q2]
      exact (mem_shl q1).2
  · rw [cI_f h1]
    exact ⟨upS_self _ _ _ _, fun q => by omega⟩
  · rw [cI_t h1, cI_f h2]
    exact ⟨upS_self _ _ _ _, fun q => by omega⟩
theorem u_costOf {S S1 S2 : ST} {A : AB} {m y k z : Int} (hI : INV S A) (hF : Fr CHG S S1) (hW : (k = 0 ∧ ((0 ≤ m ∧ m < (rwM S).n) ∧ ((rwM S).kd m = 1 ∧ (rwM S).gn m = 0)) ∧ S1 1280 0 = cI (y = 0) ((WKr (rwM S) ((rwM S).it m) ((rwM S).dy m) (icF S)).ic (2 * m)) ((WKr (rwM S) ((rwM S).it m) ((rwM S).dy m) (icF S)).ic (2 * m + 1))) ∨ (k = 1 ∧ ¬ (0 ≤ m ∧ m < (rwM S).n)) ∨ (k = 2 ∧ ((0 ≤ m ∧ m < (rwM S).n) ∧ ¬ ((rwM S).kd m = 1 ∧ (rwM S).gn m = 0))))
    (hz : (¬ coW S1 m = 0 ∧ z = 0 ∧ S2 = upS S1 249 0 (coW S1 m)) ∨ (coW S1 m = 0 ∧ z = (WKr (rwM S1) (S1 384 m) 365 (S1 928)).ic (2 * m + cI (y = 0) 0 1) ∧ S2 249 0 = 0 ∧ Fr [237, 238, 239, 244, 832, 864, 896, 928, 992, 1024, 1056, 672, 236, 249] S1 S2)) : ANS S2 k z ∧ INV S2 A := by
  have e1 : S1 232 0 = (rwM S).n := hF 232 0 (by decide)
  have e2 : S1 320 m = (rwM S).kd m := hF 320 m (by decide)
  have e3 : S1 480 m = (rwM S).gn m := hF 480 m (by decide)
  have e4 : S1 384 m = (rwM S).it m := hF 384 m (by decide)
  have er : rwM S1 = rwM S := rwM_c (fun c hc => hF.fn ((by decide : ∀ c ∈ RFC, c ∉ CHG) c hc))
  have hp : coW S1 m = cI (0 ≤ m ∧ m < (rwM S).n) (cI ((rwM S).kd m = 1) (cI ((rwM S).gn m = 0) 0 2) 2) 1 := by unfold coW; rw [e1, e2, e3]
  rw [hp, e4, er] at hz
  rcases hW with ⟨rfl, ⟨h1, h2, h3⟩, h4⟩ | ⟨rfl, h1⟩ | ⟨rfl, h1, h2⟩
  · rw [cI_t h1, cI_t h2, cI_t h3] at hz
    rcases hz with ⟨q, _⟩ | ⟨_, q1, q2, q3⟩
    · exact absurd rfl q
    · refine ⟨⟨q2, fun _ => ?_⟩, inv_fr hI (hF.tr (q3.sub (by decide)))⟩
      rw [q3 1280 0 (by decide), h4, q1]
      have hc := cost_eq hI.1.2.1.1 h1.1 h1.2 h2 h3 (S1 928) (icF S)
      by_cases hy : y = 0
      · rw [cI_t hy, cI_t hy, Int.add_zero, hc.1]
      · rw [cI_f hy, cI_f hy, hc.2]
  · rw [cI_f h1] at hz
    rcases hz with ⟨_, _, rfl⟩ | ⟨q, _⟩
    · exact ⟨⟨upS_self _ _ _ _, fun q => by omega⟩, inv_fr hI (hF.tr (Fr.up (by decide)))⟩
    · omega
  · have e9 : cI (0 ≤ m ∧ m < (rwM S).n) (cI ((rwM S).kd m = 1) (cI ((rwM S).gn m = 0) 0 2) 2) 1 = 2 := by
      rw [cI_t h1]
      by_cases k1 : (rwM S).kd m = 1
      · rw [cI_t k1, cI_f (fun q => h2 ⟨k1, q⟩)]
      · rw [cI_f k1]
    rw [e9] at hz
    rcases hz with ⟨_, _, rfl⟩ | ⟨q, _⟩
    · exact ⟨⟨upS_self _ _ _ _, fun q => by omega⟩, inv_fr hI (hF.tr (Fr.up (by decide)))⟩
    · omega
theorem u_ask {S S1 S2 : ST} {A : AB} {item day k z v v' : Int} (hI : INV S A) (hF : Fr CHG S S1) (hW : (k = 0 ∧ akOk item day ∧ S1 1280 0 = v) ∨ (k = 1 ∧ ¬ akOk item day)) (hz : ASK S1 item day v' z S2) (hv : akOk item day → v = v') : ANS S2 k z ∧ INV S2 A := by
  rcases hW with ⟨rfl, h1, h2⟩ | ⟨rfl, h1⟩
  · rcases hz with ⟨q, _⟩ | ⟨_, q1, q2, q3⟩
    · exact absurd h1 q
    · exact ⟨⟨q2, fun _ => by rw [q3 1280 0 (by decide), h2, q1, hv h1]⟩, inv_fr hI (hF.tr (q3.sub (by decide)))⟩
  · rcases hz with ⟨_, _, rfl⟩ | ⟨q, _⟩
    · exact ⟨⟨upS_self _ _ _ _, fun q => by omega⟩, inv_fr hI (hF.tr (Fr.up (by decide)))⟩
    · exact absurd q h1
theorem fr_rw {S S1 : ST} (hF : Fr CHG S S1) : rwM S1 = rwM S := rwM_c (fun c hc => hF.fn ((by decide : ∀ c ∈ RFC, c ∉ CHG) c hc))
theorem wk_f {S S1 : ST} (hF : Fr CHG S S1) (item day : Int) : ∃ g, WKr (rwM S1) item day (S1 928) = sic (WKr (rwM S) item day (icF S)) g := by
  rw [fr_rw hF]
  exact wk_ic (rwM S) item day (S1 928) (icF S)
theorem u_onHand {S S1 S2 : ST} {A : AB} {item day k z : Int} (hI : INV S A) (hF : Fr CHG S S1) (hW : (k = 0 ∧ akOk item day ∧ S1 1280 0 = hAt (S 98) (dA S item) day (LdR (rwM S)) 0) ∨ (k = 1 ∧ ¬ akOk item day)) (hz : ASK S1 item day ((WKr (rwM S1) item day (S1 928)).hand) z S2) : ANS S2 k z ∧ INV S2 A :=
  u_ask hI hF hW hz (fun _ => by rw [ck_haR hI.2.1 hI.1.2.1.1, fr_rw hF, wk_hand])
theorem u_received {S S1 S2 : ST} {A : AB} {item day k z : Int} (hI : INV S A) (hF : Fr CHG S S1) (hW : (k = 0 ∧ akOk item day ∧ S1 1280 0 = (WKr (rwM S) item day (icF S)).rcv) ∨ (k = 1 ∧ ¬ akOk item day)) (hz : ASK S1 item day ((WKr (rwM S1) item day (S1 928)).rcv) z S2) : ANS S2 k z ∧ INV S2 A :=
  u_ask hI hF hW hz (fun _ => by obtain ⟨g, e⟩ := wk_f hF item day; rw [e]; rfl)
theorem u_layers {S S1 S2 : ST} {A : AB} {item day k z : Int} (hI : INV S A) (hF : Fr CHG S S1) (hW : (k = 0 ∧ akOk item day ∧ S1 1280 0 = ((WKr (rwM S) item day (icF S)).q.length : Int)) ∨ (k = 1 ∧ ¬ akOk item day)) (hz : ASK S1 item day (((WKr (rwM S1) item day (S1 928)).q.length : Int)) z S2) : ANS S2 k z ∧ INV S2 A :=
  u_ask hI hF hW hz (fun _ => by obtain ⟨g, e⟩ := wk_f hF item day; rw [e]; rfl)
theorem u_value {S S1 S2 : ST} {A : AB} {item day y k z : Int} (hI : INV S A) (hF : Fr CHG S S1) (hW : (k = 0 ∧ akOk item day ∧ S1 1280 0 = cI (y = 0) (qc (WKr (rwM S) item day (icF S)).q) (WKr (rwM S) item day (icF S)).avg) ∨ (k = 1 ∧ ¬ akOk item day)) (hz : ASK S1 item day (cI (y = 0) (qc (WKr (rwM S1) item day (S1 928)).q) (WKr (rwM S1) item day (S1 928)).avg) z S2) : ANS S2 k z ∧ INV S2 A :=
  u_ask hI hF hW hz (fun _ => by obtain ⟨g, e⟩ := wk_f hF item day; rw [e]; rfl)
theorem u_issued {S S1 S2 : ST} {A : AB} {item day y k z : Int} (hI : INV S A) (hF : Fr CHG S S1) (hW : (k = 0 ∧ akOk item day ∧ S1 1280 0 = cI (y = 0) (WKr (rwM S) item day (icF S)).i0 (WKr (rwM S) item day (icF S)).i1) ∨ (k = 1 ∧ ¬ akOk item day)) (hz : ASK S1 item day (cI (y = 0) (WKr (rwM S1) item day (S1 928)).i0 (WKr (rwM S1) item day (S1 928)).i1) z S2) : ANS S2 k z ∧ INV S2 A :=
  u_ask hI hF hW hz (fun _ => by obtain ⟨g, e⟩ := wk_f hF item day; rw [e]; rfl)
theorem u_revalued {S S1 S2 : ST} {A : AB} {item day y k z : Int} (hI : INV S A) (hF : Fr CHG S S1) (hW : (k = 0 ∧ akOk item day ∧ S1 1280 0 = cI (y = 0) (WKr (rwM S) item day (icF S)).v0 (WKr (rwM S) item day (icF S)).v1) ∨ (k = 1 ∧ ¬ akOk item day)) (hz : ASK S1 item day (cI (y = 0) (WKr (rwM S1) item day (S1 928)).v0 (WKr (rwM S1) item day (S1 928)).v1) z S2) : ANS S2 k z ∧ INV S2 A :=
  u_ask hI hF hW hz (fun _ => by obtain ⟨g, e⟩ := wk_f hF item day; rw [e]; rfl)
theorem u_expensed {S S1 S2 : ST} {A : AB} {item day y k z : Int} (hI : INV S A) (hF : Fr CHG S S1) (hW : (k = 0 ∧ akOk item day ∧ S1 1280 0 = cI (y = 0) (WKr (rwM S) item day (icF S)).e0 (WKr (rwM S) item day (icF S)).e1) ∨ (k = 1 ∧ ¬ akOk item day)) (hz : ASK S1 item day (cI (y = 0) (WKr (rwM S1) item day (S1 928)).e0 (WKr (rwM S1) item day (S1 928)).e1) z S2) : ANS S2 k z ∧ INV S2 A :=
  u_ask hI hF hW hz (fun _ => by obtain ⟨g, e⟩ := wk_f hF item day; rw [e]; rfl)
theorem u_available {S S1 S2 : ST} {A : AB} {item day k z : Int} (hI : INV S A) (hF : Fr CHG S S1) (hW : (k = 0 ∧ akOk item day ∧ S1 1280 0 = mn 1000 (spf (S 98) (S 96) (S 99) (dlt (S 97) (S 100)) (S 100) (fun m => S 97 m = 1 ∨ S 97 m = 2) item day 60 (LdR (rwM S)) 0 0)) ∨ (k = 1 ∧ ¬ akOk item day))
    (hz : (¬ akOk item day ∧ z = 0 ∧ S2 = upS S1 249 0 1) ∨ (akOk item day ∧ z = mn (avL (S1 352) (chg (S1 320) (S1 384) (S1 416) item) (S1 416) (tks (S1 320) (S1 384) item) day (led (S1 352) (S1 480) (S1 232 0).toNat) 0 1000) (mn (hAt (S1 352) (chg (S1 320) (S1 384) (S1 416) item) day (led (S1 352) (S1 480) (S1 232 0).toNat) 0) 1000) ∧ S2 249 0 = 0 ∧ Fr [249, 672, 236] S1 S2)) : ANS S2 k z ∧ INV S2 A := by
  rcases hW with ⟨rfl, h1, h2⟩ | ⟨rfl, h1⟩
  · rcases hz with ⟨q, _⟩ | ⟨_, q1, q2, q3⟩
    · exact absurd h1 q
    · refine ⟨⟨q2, fun _ => ?_⟩, inv_fr hI (hF.tr (q3.sub (by decide)))⟩
      have er := fr_rw hF
      have q1' : z = mn (avL (rwM S1).dy (chg (rwM S1).kd (rwM S1).it (rwM S1).qt item) (rwM S1).qt (tks (rwM S1).kd (rwM S1).it item) day (LdR (rwM S1)) 0 1000) (mn (hAt (rwM S1).dy (chg (rwM S1).kd (rwM S1).it (rwM S1).qt item) day (LdR (rwM S1)) 0) 1000) := q1
      rw [er, av_eq hI.1.2.1.1] at q1'
      rw [q3 1280 0 (by decide), h2, q1', ck_spR hI.2.1 hI.1.2.1.1]
  · rcases hz with ⟨_, _, rfl⟩ | ⟨q, _⟩
    · exact ⟨⟨upS_self _ _ _ _, fun q => by omega⟩, inv_fr hI (hF.tr (Fr.up (by decide)))⟩
    · exact absurd q h1
theorem u_asl {S S1 S2 : ST} {A : AB} {item day lay k z v v' : Int} (hI : INV S A) (hF : Fr CHG S S1) (hW : (k = 0 ∧ ((0 ≤ lay ∧ lay < (WKr (rwM S) item day (icF S)).q.length) ∧ akOk item day) ∧ S1 1280 0 = v) ∨ (k = 1 ∧ ¬ akOk item day) ∨ (k = 2 ∧ (akOk item day ∧ ¬ (0 ≤ lay ∧ lay < (WKr (rwM S) item day (icF S)).q.length)))) (hz : ASL S1 item day lay v' z S2) (hv : v = v') : ANS S2 k z ∧ INV S2 A := by
  have eq9 : (WKr (rwM S1) item day (S1 928)).q = (WKr (rwM S) item day (icF S)).q := by obtain ⟨g, e⟩ := wk_f hF item day; rw [e]; rfl
  unfold ASL at hz
  rw [eq9] at hz
  rcases hW with ⟨rfl, ⟨h1, h2⟩, h3⟩ | ⟨rfl, h1⟩ | ⟨rfl, h1, h2⟩
  · rcases hz with ⟨q, _⟩ | ⟨_, _, q1, q2, q3⟩ | ⟨_, q, _⟩
    · exact absurd h2 q
    · exact ⟨⟨q2, fun _ => by rw [q3 1280 0 (by decide), h3, q1, hv]⟩, inv_fr hI (hF.tr (q3.sub (by decide)))⟩
    · exact absurd h1 q
  · rcases hz with ⟨_, _, rfl⟩ | ⟨q, _⟩ | ⟨q, _⟩
    · exact ⟨⟨upS_self _ _ _ _, fun q => by omega⟩, inv_fr hI (hF.tr (Fr.up (by decide)))⟩
    · exact absurd q h1
    · exact absurd q h1
  · rcases hz with ⟨q, _⟩ | ⟨_, q, _⟩ | ⟨_, _, _, q2, q3⟩
    · exact absurd h1 q
    · exact absurd q h2
    · exact ⟨⟨q2, fun q => by omega⟩, inv_fr hI (hF.tr (q3.sub (by decide)))⟩
theorem wk_fq {S S1 : ST} (hF : Fr CHG S S1) (item day : Int) : (WKr (rwM S1) item day (S1 928)).q = (WKr (rwM S) item day (icF S)).q := by obtain ⟨g, e⟩ := wk_f hF item day; rw [e]; rfl
