/-! the reference: a whole walk, and what asks for it -/
def w00 (ic : Int → Int) : WS := (0, 0, 0, 0, 0, 0, 0, 0, 0, [], ic)
theorem rwM_fr {S S' : ST} (h : Fr [237, 238, 239, 244, 832, 864, 896, 928, 992, 1024, 1056, 672, 236, 249] S S') : rwM S' = rwM S := by
  unfold rwM
  rw [h.fn (c := 320) (by decide), h.fn (c := 352) (by decide), h.fn (c := 384) (by decide), h.fn (c := 416) (by decide), h.fn (c := 448) (by decide), h.fn (c := 480) (by decide), h.fn (c := 512) (by decide), h.fn (c := 544) (by decide), h 232 0 (by decide)]
theorem WD.fr {S S' : ST} {w : WS} {cs : List Nat} (h : WD S w) (hF : Fr cs S S') (hc : ∀ c ∈ [237, 238, 239, 244, 832, 864, 896, 928, 992, 1024, 1056], c ∉ cs) : WD S' w := by
  obtain ⟨h1, h2, h3, h4, h5, h6, h7, h8, h9, h10, h11⟩ := h
  exact ⟨(hF _ _ (hc 237 (by decide))).trans h1, (hF _ _ (hc 238 (by decide))).trans h2, (hF _ _ (hc 239 (by decide))).trans h3, (hF _ _ (hc 832 (by decide))).trans h4, (hF _ _ (hc 832 (by decide))).trans h5, (hF _ _ (hc 864 (by decide))).trans h6, (hF _ _ (hc 864 (by decide))).trans h7, (hF _ _ (hc 896 (by decide))).trans h8, (hF _ _ (hc 896 (by decide))).trans h9, h10.fr hF (fun c h' => hc c (by simp at h'; rcases h' with rfl | rfl | rfl | rfl <;> decide)), fun j => (hF _ _ (hc 928 (by decide))).trans (h11 j)⟩
theorem WI_00 (R : RW) (item : Int) (ic : Int → Int) : WI R item [] 0 (w00 ic) := by
  refine ⟨fun x hx => (by cases hx), List.nodup_nil, fun x hx => (by cases hx), Nat.le_refl _, rfl, rfl, ⟨⟨Int.le_refl _, Int.le_refl _⟩, ⟨Int.le_refl _, Int.le_refl _⟩, Int.le_refl _, ?_, ?_, ?_, ?_, ?_, ?_, ?_⟩⟩ <;> exact ⟨by show _ ≤ (0 : Int); omega, by show (0 : Int) ≤ _; omega⟩
/-- the ledger of the rows -/
abbrev LdR (R : RW) : List Int := led R.dy R.gn R.n.toNat
def RV (R : RW) (item : Int) : Prop := vld (chg R.kd R.it R.qt item) R.qt (tks R.kd R.it item) 0 (LdR R)
theorem walk_WI {R : RW} (hR : RG R) {item day : Int} (hit : 0 ≤ item) : ∀ (b a : List Int) (w : WS), LdR R = a ++ b → WI R item a (61 * a.length) w → vld (chg R.kd R.it R.qt item) R.qt (tks R.kd R.it item) w.hand b → ∃ a', WI R item a' 3660 (walkW R item day b w)
  | [], a, w, hab, hw, hv => ⟨a, WI_more hw (by have := led_len R.dy R.gn R.n.toNat; have h9 := hR.1; have : (LdR R).length ≤ R.n.toNat := this; rw [hab, List.append_nil] at this; omega)⟩
  | m :: t, a, w, hab, hw, hv => by
    have hlen : (LdR R).length ≤ R.n.toNat := led_len R.dy R.gn R.n.toNat
    rw [hab, List.length_append, List.length_cons] at hlen
    have h9 := hR.1
    have hm := (led_mem R.dy R.gn R.n.toNat).mp (show m ∈ LdR R by rw [hab]; simp)
    have hnd : (LdR R).Nodup := led_nd R.dy R.gn R.n.toNat
    rw [hab, List.nodup_append] at hnd
    have hma : m ∉ a := fun q => hnd.2.2 m q m List.mem_cons_self rfl
    show ∃ a', WI R item a' 3660 (if R.dy m ≤ day then walkW R item day t (stepW R item w m) else w)
    split
    · have h1 := WI_step hR hw (by omega) hit hm.1.1 (by omega) hma hv.1
      have hh : (stepW R item w m).hand = w.hand + chg R.kd R.it R.qt item m := by
        rw [h1.2.2.2.2.2.1, hs_one, ← hw.2.2.2.2.2.1]
      exact walk_WI hR hit t (a ++ [m]) _ (by rw [hab]; simp) (WI_more h1 (by rw [List.length_append, List.length_singleton]; omega)) (by rw [hh]; exact hv.2)
    · exact ⟨a, WI_more hw (by omega)⟩
theorem lands_s {R : RW} {item m r : Int} {w : WS} (h : 0 ≤ r) : landsW R item m (r + 1).toNat w = wI (hasB (R.sp m) r ∧ R.it r = item) (landW (landsW R item m r.toNat w) r (R.pt (60 * m + r)) (R.qt r)) (landsW R item m r.toNat w) := by
  rw [toN_s h]
  show wI _ (landW _ (r.toNat : Int) _ _) _ = _
  rw [Int.toNat_of_nonneg h]
set_option maxRecDepth 20000 in
theorem cM_walks {G : GT} {l : Launch} (hfl : l.stackTraces = false) {S : ST} {A : AB} {item day : Int} (M0 : RM S A) (hR : RG (rwM S)) (hdy : rI day) (hit : 0 ≤ item ∧ item ≤ 5) (hval : RV (rwM S) item) : CT G l yX8_walks cX8_walks 6 none (rmk 3 0 0 73) S A [vR A 7 0, vI item, vI day] (oV fun S' A' => A = A' ∧ Fr [237, 238, 239, 244, 832, 864, 896, 928, 992, 1024, 1056, 672, 236] S S' ∧ WD S' (walkW (rwM S) item day (led (S 352) (S 480) (S 232 0).toNat) (w00 (S 928)))) (noX) := by
  refine ct_ofN (own := RX8) (mn := "walks") rfl rfl (by decide) hfl (lv0 := [some (vR A 7 0), some (vI item), some (vI day), none, none, none]) (ent_1 (cat_R _ _ _) (ent_1 rfl (ent_1 rfl (ent_n (ent_n (ent_n ent_0)))))) rfl ?_
  intro J X C F FX FT FU hW hA
  have lp : ∀ (b a : List Int) (w : WS) (S1 : ST) (hF : Fr [237, 238, 239, 244, 832, 864, 896, 928, 992, 1024, 1056, 672, 236] S S1) (hL : LD S1 (led (S 352) (S 480) (S 232 0).toNat)) (hw : WD S1 w) (hWI : WI (rwM S) item a (61 * a.length) w) (hab : (led (S 352) (S 480) (S 232 0).toNat) = a ++ b) (hv : vld (chg (S 320) (S 384) (S 416) item) (S 416) (tks (S 320) (S 384) item) w.hand b) (hG : walkW (rwM S) item day b w = walkW (rwM S) item day (led (S 352) (S 480) (S 232 0).toNat) (w00 (S 928))), J 60 [some (vR A 7 0), some (vI item), some (vI day), some (vI (a.length : Int)), none, none] [] S1 A 0 0 := by
    intro b
    have hlen := led_len (S 352) (S 480) (S 232 0).toNat
    have hnn := hR.1
    have hn60 : 0 ≤ S 232 0 ∧ S 232 0 ≤ 60 := hnn
    induction b with
    | nil =>
      intro a w S1 hF hL hw hWI hab hv hG
      have M := M0.of hF (by decide)
      have h236 := hL.1
      rw [List.append_nil] at hab
      rw [hab] at h236
      refine r_iload_n C dX8_walks_60 lg_3 ?_
      refine r_aload_n C dX8_walks_61 lg_0 ?_
      refine r_getI C 236 dX8_walks_62 fg_X8_80_7 rfl rfl M.1 (fun g62 => ?_)
      refine r_icge C (tgt := 199) dX8_walks_65 (by decide) (by omega) (by omega) (fun c65 => ?_) (fun c65 => ?_)
      · exact f_V F dX8_walks_199 ⟨rfl, hF, by rw [← hG]; exact hw⟩ (Nat.le_of_ble_eq_true rfl) (Nat.le_of_ble_eq_true rfl)
      · exfalso; omega
    | cons m t ih =>
      intro a w S1 hF hL hw hWI hab hv hG
      have M := M0.of hF (by decide)
      have h236 := hL.1
      have hlab : a.length + (t.length + 1) ≤ 60 := by rw [hab, List.length_append, List.length_cons] at hlen; omega
      rw [hab, List.length_append, List.length_cons] at h236
      have hm := (led_mem (S 352) (S 480) (S 232 0).toNat).mp (show m ∈ (led (S 352) (S 480) (S 232 0).toNat) by rw [hab]; simp)
      have hm0 := hm.1.1
      have hm1 : m < S 232 0 := by omega
      have ex : S1 672 (a.length : Int) = m := (hab ▸ hL : LD S1 (a ++ m :: t)).at
      have hnd := led_nd (S 352) (S 480) (S 232 0).toNat
      rw [hab, List.nodup_append] at hnd
      have hma : m ∉ a := fun q => hnd.2.2 m q m List.mem_cons_self rfl
      have hst := WI_step hR hWI (by omega) hit.1 hm0 hm1 hma hv.1
      have hh : (stepW (rwM S) item w m).hand = w.hand + chg (S 320) (S 384) (S 416) item m := by
        rw [hst.2.2.2.2.2.1, hs_one, ← hWI.2.2.2.2.2.1]
        rfl
      have hrow := hR.2 m hm0 hm1
      have e352 := hF 352 m (by decide)
      have e320 := hF 320 m (by decide)
      have e384 := hF 384 m (by decide)
      have e512 := hF 512 m (by decide)
      have next : ∀ (r : Int) (S2 : ST), ¬ day < S 352 m → Fr [237, 238, 239, 244, 832, 864, 896, 928, 992, 1024, 1056, 672, 236] S S2 → LD S2 (led (S 352) (S 480) (S 232 0).toNat) → WD S2 (stepW (rwM S) item w m) → J 193 [some (vR A 7 0), some (vI item), some (vI day), some (vI (a.length : Int)), some (vI m), some (vI r)] [] S2 A 0 0 := by
        intro r S2 hdy hF2 hL2 hw2
        refine r_iinc C dX8_walks_193 lg_3 (ls1_3 rfl rfl) ?_
        refine r_goto C (tgt := 60) dX8_walks_196 (by decide) ?_
        refine r_le C (lle_k (lle_k (lle_k (lle_k (lle_f (lle_f lle_0)))))) ?_
        have h9 := ih (a ++ [m]) (stepW (rwM S) item w m) S2 hF2 hL2 hw2 (WI_more hst (by rw [List.length_append, List.length_singleton]; omega)) (by rw [hab]; simp) (by rw [hh]; exact hv.2) (by rw [← hG]; show _ = (if (rwM S).dy m ≤ day then walkW (rwM S) item day t (stepW (rwM S) item w m) else w); rw [if_pos (show (rwM S).dy m ≤ day by show S 352 m ≤ day; omega)])
        rw [List.length_append, List.length_singleton] at h9
        exact h9
      have inner : S 320 m = 3 → ¬ day < S 352 m → ∀ (N : Nat) (r : Int) (S2 : ST), Fr [237, 238, 239, 244, 832, 864, 896, 928, 992, 1024, 1056, 672, 236] S S2 → LD S2 (led (S 352) (S 480) (S 232 0).toNat) → 0 ≤ r → r ≤ S 232 0 → WD S2 (landsW (rwM S) item m r.toNat w) → S 232 0 - r < N → J 94 [some (vR A 7 0), some (vI item), some (vI day), some (vI (a.length : Int)), some (vI m), some (vI r)] [] S2 A 0 0 := by
        intro k3 hdy N
        induction N with
        | zero => intro r S2 hF2 hL2 r0 r1 hw2 hN; omega
        | succ N ih2 =>
          intro r S2 hF2 hL2 r0 r1 hw2 hN
          have M := M0.of hF2 (by decide)
          have f232 := hF2 232 0 (by decide)
          have f320 := hF2 320 m (by decide)
          have f512 := hF2 512 m (by decide)
          have f384 := hF2 384 r (by decide)
          have f416 := hF2 416 r (by decide)
          have f544 := hF2 544 (60 * m + r) (by decide)
          have hwl := WI_lands hR hWI hm0 hm1 k3 r.toNat (by show (r.toNat : Int) ≤ S 232 0; omega)
          obtain ⟨ho, hnd2, hmem, hlq, hqu, hhand, hb⟩ := hwl
          refine r_iload C dX8_walks_94 lg_5 ?_
          refine r_aload_n C dX8_walks_96 lg_0 ?_
          refine r_getI C 232 dX8_walks_97 fg_X8_77_7 rfl rfl M.1 (fun g97 => ?_)
          refine r_icge C (tgt := 165) dX8_walks_100 (by decide) (by omega) (by omega) (fun c100 => ?_) (fun c100 => ?_)
          · have er : r = S 232 0 := by omega
            have hst3 : stepW (rwM S) item w m = landsW (rwM S) item m r.toNat w := by
              unfold stepW
              rw [if_pos (show (rwM S).kd m = 3 from k3), er]
              rfl
            refine r_aload_n C dX8_walks_165 lg_0 ?_
            refine r_getA C 224 10 dX8_walks_166 fg_X8_7_7 rfl rfl M.1 (fun g166 => ?_)
            refine r_iload C dX8_walks_169 lg_4 ?_
            refine r_iald C (N := 60) 320 dX8_walks_171 (by decide) rfl rfl (M.g (j := 0) (by decide)) (by omega) (by omega) (by omega) (fun g171 => ?_)
            rw [f320, k3]
            refine r_iconst C dX8_walks_172 ?_
            refine r_iceq C (tgt := 193) dX8_walks_173 (by decide) (by omega) (by omega) (fun c173 => ?_) (fun c173 => ?_)
            · exact next r S2 hdy hF2 hL2 (by rw [hst3]; exact hw2)
            · exfalso; omega
          · refine r_aload_n C dX8_walks_103 lg_0 ?_
            refine r_getA C 224 10 dX8_walks_104 fg_X8_7_7 rfl rfl M.1 (fun g104 => ?_)
            refine r_iload C dX8_walks_107 lg_4 ?_
            refine r_iald C (N := 60) 320 dX8_walks_109 (by decide) rfl rfl (M.g (j := 0) (by decide)) (by omega) (by omega) (by omega) (fun g109 => ?_)
            rw [f320, k3]
            refine r_iconst C dX8_walks_110 ?_
            refine r_icne C (tgt := 165) dX8_walks_111 (by decide) (by omega) (by omega) (fun c111 => ?_) (fun c111 => ?_)
            · exfalso; omega
            · refine r_aload_n C dX8_walks_114 lg_0 ?_
              refine r_getA C 230 16 dX8_walks_115 fg_X8_29_7 rfl rfl M.1 (fun g115 => ?_)
              refine r_iload C dX8_walks_118 lg_4 ?_
              refine r_lald C (N := 60) 512 dX8_walks_120 (by decide) rfl rfl (M.g (j := 6) (by decide)) (by omega) (by omega) (by omega) (fun g120 => ?_)
              rw [f512] at g120 ⊢
              refine r_iload C dX8_walks_121 lg_5 ?_
              refine q_S2Z C (cM_has hfl (by omega)) dX8_walks_123 lk_X8_123 ⟨Nat.le_of_ble_eq_true rfl, Nat.le_of_ble_eq_true rfl⟩ (catLe (Nat.le_of_ble_eq_true rfl)) ⟨rfl, rfl⟩ rfl (Nat.le_of_ble_eq_true rfl) (Nat.le_of_ble_eq_true rfl) (fun z123 S123 A123 i123 p123 => ?_)
              obtain ⟨rfl, rfl, rfl⟩ := p123
              refine rb_ifeq C (tgt := 159) dX8_walks_126 (by decide) (fun c126 => ?_) (fun c126 => ?_)
              · refine r_iinc C dX8_walks_159 lg_5 (ls1_5 rfl rfl) ?_
                refine r_goto C (tgt := 94) dX8_walks_162 (by decide) ?_
                first
                | exact ih2 (r + 1) S156 (hF2.tr (hF156.sub (by decide))) (hL2.fr hF156 (by decide) (by decide)) (by omega) (by omega) (by rw [lands_s r0, wI_t (show hasB ((rwM S).sp m) r ∧ (rwM S).it r = item from ⟨c126, by show S 384 r = item; omega⟩)]; exact hw156) (by omega)
                | exact ih2 (r + 1) S2 hF2 hL2 (by omega) (by omega) (by rw [lands_s r0, wI_f (fun q => c126 q.1)]; exact hw2) (by omega)
                | exact ih2 (r + 1) S2 hF2 hL2 (by omega) (by omega) (by rw [lands_s r0, wI_f (fun q => c137 q.2)]; exact hw2) (by omega)
              · refine r_aload_n C dX8_walks_129 lg_0 ?_
                refine r_getA C 226 12 dX8_walks_130 fg_X8_16_7 rfl rfl M.1 (fun g130 => ?_)
                refine r_iload C dX8_walks_133 lg_5 ?_
                refine r_iald C (N := 60) 384 dX8_walks_135 (by decide) rfl rfl (M.g (j := 2) (by decide)) (by omega) (by omega) (by omega) (fun g135 => ?_)
                rw [f384]
                refine r_iload_n C dX8_walks_136 lg_1 ?_
                refine r_icne C (tgt := 159) dX8_walks_137 (by decide) (by omega) (by omega) (fun c137 => ?_) (fun c137 => ?_)
                · refine r_iinc C dX8_walks_159 lg_5 (ls1_5 rfl rfl) ?_
                  refine r_goto C (tgt := 94) dX8_walks_162 (by decide) ?_
                  first
                  | exact ih2 (r + 1) S156 (hF2.tr (hF156.sub (by decide))) (hL2.fr hF156 (by decide) (by decide)) (by omega) (by omega) (by rw [lands_s r0, wI_t (show hasB ((rwM S).sp m) r ∧ (rwM S).it r = item from ⟨c126, by show S 384 r = item; omega⟩)]; exact hw156) (by omega)
                  | exact ih2 (r + 1) S2 hF2 hL2 (by omega) (by omega) (by rw [lands_s r0, wI_f (fun q => c126 q.1)]; exact hw2) (by omega)
                  | exact ih2 (r + 1) S2 hF2 hL2 (by omega) (by omega) (by rw [lands_s r0, wI_f (fun q => c137 q.2)]; exact hw2) (by omega)
                · have hz := hR.2 r (by omega) (by show r < S 232 0; omega)
                  have hz2 := (hrow.2 k3).2.2 r (by omega) (by omega)
                  have hz3 := hz2.2 c126
                  have hz4 : ¬ (rwM S).kd r = 3 := by have : (rwM S).kd r = 0 := hz3.2; omega
                  have hz5 : 1 ≤ S 416 r := (hz.1.2.2.1 hz4).2
                  have hz6 : 0 ≤ S 416 r ∧ S 416 r ≤ 1000 := hz.1.2.2.2.1
                  have hz7 : 0 ≤ S 544 (60 * m + r) ∧ S 544 (60 * m + r) ≤ 2000000 := hz2.1
                  refine r_aload_n C dX8_walks_140 lg_0 ?_
                  refine r_aload_n C dX8_walks_141 lg_0 ?_
                  refine r_getA C 231 17 dX8_walks_142 fg_X8_33_7 rfl rfl M.1 (fun g142 => ?_)
                  refine r_bipush C dX8_walks_145 (by decide) ?_
                  refine r_iload C dX8_walks_147 lg_4 ?_
                  refine r_imul C dX8_walks_149 ?_
                  refine r_iload C dX8_walks_150 lg_5 ?_
                  refine r_iadd C dX8_walks_152 ?_
                  refine r_iald C (N := 3600) 544 dX8_walks_153 (by decide) rfl rfl (M.g (j := 7) (by decide)) (by omega) (by omega) (by omega) (fun g153 => ?_)
                  rw [f544]
                  refine r_iload C dX8_walks_154 lg_5 ?_
                  refine q_V2V C (cM_lands hfl M hw2 ho hnd2 (by omega) hb (by omega) (by omega) (by omega) (by omega)) dX8_walks_156 lk_X8_189 M.1 ⟨Nat.le_of_ble_eq_true rfl, Nat.le_of_ble_eq_true rfl⟩ (catLe (Nat.le_of_ble_eq_true rfl)) ⟨rfl, rfl⟩ rfl (Nat.le_of_ble_eq_true rfl) (Nat.le_of_ble_eq_true rfl) (fun S156 A156 p156 => ?_)
                  obtain ⟨rfl, hF156, hw156⟩ := p156
                  rw [f416] at hw156
                  refine r_iinc C dX8_walks_159 lg_5 (ls1_5 rfl rfl) ?_
                  refine r_goto C (tgt := 94) dX8_walks_162 (by decide) ?_
                  first
                  | exact ih2 (r + 1) S156 (hF2.tr (hF156.sub (by decide))) (hL2.fr hF156 (by decide) (by decide)) (by omega) (by omega) (by rw [lands_s r0, wI_t (show hasB ((rwM S).sp m) r ∧ (rwM S).it r = item from ⟨c126, by show S 384 r = item; omega⟩)]; exact hw156) (by omega)
                  | exact ih2 (r + 1) S2 hF2 hL2 (by omega) (by omega) (by rw [lands_s r0, wI_f (fun q => c126 q.1)]; exact hw2) (by omega)
                  | exact ih2 (r + 1) S2 hF2 hL2 (by omega) (by omega) (by rw [lands_s r0, wI_f (fun q => c137 q.2)]; exact hw2) (by omega)
      have mid : ¬ day < S 352 m → J 94 [some (vR A 7 0), some (vI item), some (vI day), some (vI (a.length : Int)), some (vI m), some (vI 0)] [] S1 A 0 0 := by
        intro hdy
        by_cases k3 : S 320 m = 3
        · exact inner k3 hdy (S 232 0 + 1).toNat 0 S1 hF hL (by omega) (by omega) hw (by omega)
        · have e232 := hF 232 0 (by decide)
          obtain ⟨ho, hnd2, hmem, hlq, hqu, hhand, hb⟩ := hWI
          have er := rwM_fr (hF.sub (by decide) : Fr [237, 238, 239, 244, 832, 864, 896, 928, 992, 1024, 1056, 672, 236, 249] S S1)
          have e416 := hF 416 m (by decide)
          have e448 := hF 448 m (by decide)
          have hk3 : ¬ (rwM S).kd m = 3 := k3
          have hq1 : 0 ≤ S 320 m ∧ S 320 m ≤ 3 := hrow.1.1
          have hq2 : (0 ≤ S 384 m ∧ S 384 m ≤ 5) ∧ 1 ≤ S 416 m := hrow.1.2.2.1 hk3
          have hq3 : 0 ≤ S 416 m ∧ S 416 m ≤ 1000 := hrow.1.2.2.2.1
          have hq4 : 0 ≤ S 448 m ∧ S 448 m ≤ 1000000 := hrow.1.2.2.2.2
          refine r_iload C dX8_walks_94 lg_5 ?_
          refine r_aload_n C dX8_walks_96 lg_0 ?_
          refine r_getI C 232 dX8_walks_97 fg_X8_77_7 rfl rfl M.1 (fun g97 => ?_)
          refine r_icge C (tgt := 165) dX8_walks_100 (by decide) (by omega) (by omega) (fun c100 => ?_) (fun c100 => ?_)
          · exfalso; omega
          · refine r_aload_n C dX8_walks_103 lg_0 ?_
            refine r_getA C 224 10 dX8_walks_104 fg_X8_7_7 rfl rfl M.1 (fun g104 => ?_)
            refine r_iload C dX8_walks_107 lg_4 ?_
            refine r_iald C (N := 60) 320 dX8_walks_109 (by decide) rfl rfl (M.g (j := 0) (by decide)) (by omega) (by omega) (by omega) (fun g109 => ?_)
            rw [e320]
            refine r_iconst C dX8_walks_110 ?_
            refine r_icne C (tgt := 165) dX8_walks_111 (by decide) (by omega) (by omega) (fun c111 => ?_) (fun c111 => ?_)
            · refine r_aload_n C dX8_walks_165 lg_0 ?_
              refine r_getA C 224 10 dX8_walks_166 fg_X8_7_7 rfl rfl M.1 (fun g166 => ?_)
              refine r_iload C dX8_walks_169 lg_4 ?_
              refine r_iald C (N := 60) 320 dX8_walks_171 (by decide) rfl rfl (M.g (j := 0) (by decide)) (by omega) (by omega) (by omega) (fun g171 => ?_)
              rw [e320]
              refine r_iconst C dX8_walks_172 ?_
              refine r_iceq C (tgt := 193) dX8_walks_173 (by decide) (by omega) (by omega) (fun c173 => ?_) (fun c173 => ?_)
              · exfalso; omega
              · refine r_aload_n C dX8_walks_176 lg_0 ?_
                refine r_getA C 226 12 dX8_walks_177 fg_X8_16_7 rfl rfl M.1 (fun g177 => ?_)
                refine r_iload C dX8_walks_180 lg_4 ?_
                refine r_iald C (N := 60) 384 dX8_walks_182 (by decide) rfl rfl (M.g (j := 2) (by decide)) (by omega) (by omega) (by omega) (fun g182 => ?_)
                rw [e384]
                refine r_iload_n C dX8_walks_183 lg_1 ?_
                refine r_icne C (tgt := 193) dX8_walks_184 (by decide) (by omega) (by omega) (fun c184 => ?_) (fun c184 => ?_)
                · first
                  | exact next 0 S190 hdy (hF.tr (hF190.sub (by decide))) (hL.fr hF190 (by decide) (by decide)) (by
                      unfold stepW
                      rw [if_neg hk3, if_pos (show (rwM S).it m = item by show S 384 m = item; omega)]
                      exact hw190)
                  | exact next 0 S1 hdy hF hL (by
                      unfold stepW
                      rw [if_neg hk3, if_neg (show ¬ (rwM S).it m = item by show ¬ S 384 m = item; omega)]
                      exact hw)
                · refine r_aload_n C dX8_walks_187 lg_0 ?_
                  refine r_iload C dX8_walks_188 lg_4 ?_
                  refine q_V1V C (cM_moves hfl M hw ho hnd2 (by omega) hb (by omega) hm0 (by omega) (by omega) (by omega) (by omega) (by omega) hqu (fun k0 => by rw [e416]; exact hv.1 ⟨by omega, by omega⟩)) dX8_walks_190 lk_X8_192 M.1 ⟨Nat.le_of_ble_eq_true rfl, Nat.le_of_ble_eq_true rfl⟩ (catLe (Nat.le_of_ble_eq_true rfl)) ⟨rfl, rfl⟩ rfl (Nat.le_of_ble_eq_true rfl) (Nat.le_of_ble_eq_true rfl) (fun S190 A190 p190 => ?_)
                  obtain ⟨rfl, hF190, hw190⟩ := p190
                  rw [er] at hw190
                  first
                  | exact next 0 S190 hdy (hF.tr (hF190.sub (by decide))) (hL.fr hF190 (by decide) (by decide)) (by
                      unfold stepW
                      rw [if_neg hk3, if_pos (show (rwM S).it m = item by show S 384 m = item; omega)]
                      exact hw190)
                  | exact next 0 S1 hdy hF hL (by
                      unfold stepW
                      rw [if_neg hk3, if_neg (show ¬ (rwM S).it m = item by show ¬ S 384 m = item; omega)]
                      exact hw)
            · exfalso; omega
      refine r_iload_n C dX8_walks_60 lg_3 ?_
      refine r_aload_n C dX8_walks_61 lg_0 ?_
      refine r_getI C 236 dX8_walks_62 fg_X8_80_7 rfl rfl M.1 (fun g62 => ?_)
      refine r_icge C (tgt := 199) dX8_walks_65 (by decide) (by omega) (by omega) (fun c65 => ?_) (fun c65 => ?_)
      · exfalso; omega
      · refine r_aload_n C dX8_walks_68 lg_0 ?_
        refine r_getA C 225 11 dX8_walks_69 fg_X8_13_7 rfl rfl M.1 (fun g69 => ?_)
        refine r_aload_n C dX8_walks_72 lg_0 ?_
        refine r_getA C 235 21 dX8_walks_73 fg_X8_43_7 rfl rfl M.1 (fun g73 => ?_)
        refine r_iload_n C dX8_walks_76 lg_3 ?_
        refine r_iald C (N := 60) 672 dX8_walks_77 (by decide) rfl rfl (M.g (j := 11) (by decide)) (by omega) (by omega) (by omega) (fun g77 => ?_)
        rw [ex]
        refine r_iald C (N := 60) 352 dX8_walks_78 (by decide) rfl rfl (M.g (j := 1) (by decide)) (by omega) (by omega) (by omega) (fun g78 => ?_)
        rw [e352]
        refine r_iload_n C dX8_walks_79 lg_2 ?_
        refine r_icgt C (tgt := 199) dX8_walks_80 (by decide) (by omega) (by omega) (fun c80 => ?_) (fun c80 => ?_)
        · exact f_V F dX8_walks_199 ⟨rfl, hF, by
              rw [← hG]
              show WD S1 (if (rwM S).dy m ≤ day then walkW (rwM S) item day t (stepW (rwM S) item w m) else w)
              rw [if_neg (show ¬ (rwM S).dy m ≤ day by show ¬ S 352 m ≤ day; omega)]
              exact hw⟩ (Nat.le_of_ble_eq_true rfl) (Nat.le_of_ble_eq_true rfl)
        · refine r_aload_n C dX8_walks_83 lg_0 ?_
          refine r_getA C 235 21 dX8_walks_84 fg_X8_43_7 rfl rfl M.1 (fun g84 => ?_)
          refine r_iload_n C dX8_walks_87 lg_3 ?_
          refine r_iald C (N := 60) 672 dX8_walks_88 (by decide) rfl rfl (M.g (j := 11) (by decide)) (by omega) (by omega) (by omega) (fun g88 => ?_)
          rw [ex]
          refine r_istore C dX8_walks_89 (ls1_4 rfl rfl) ?_
          refine r_iconst C dX8_walks_91 ?_
          refine r_istore C dX8_walks_92 (ls1_5 rfl rfl) ?_
          exact mid (by omega)
  have lz : ∀ (N : Nat) (k : Int) (S1 : ST) (h1 : 0 ≤ k) (h2 : k ≤ 2) (hF : Fr [237, 238, 239, 244, 832, 864, 896, 928, 992, 1024, 1056] S S1) (z1 : S1 237 0 = 0) (z2 : S1 238 0 = 0) (z3 : S1 239 0 = 0) (z4 : S1 244 0 = 0) (hz : ∀ j, 0 ≤ j → j < k → S1 832 j = 0 ∧ S1 864 j = 0 ∧ S1 896 j = 0) (hic : ∀ j, S1 928 j = S 928 j) (hN : 2 - k < N), J 22 [some (vR A 7 0), some (vI item), some (vI day), some (vI k), none, none] [] S1 A 0 0 := by
    intro N
    induction N with
    | zero => intro k S1 h1 h2 hF z1 z2 z3 z4 hz hic hN; omega
    | succ N ih =>
      intro k S1 h1 h2 hF z1 z2 z3 z4 hz hic hN
      have M := M0.of hF (by decide)
      have e232 := hF 232 0 (by decide)
      have hnn : 0 ≤ S 232 0 ∧ S 232 0 ≤ 60 := hR.1
      refine r_iload_n C dX8_walks_22 lg_3 ?_
      refine r_iconst C dX8_walks_23 ?_
      refine r_icge C (tgt := 54) dX8_walks_24 (by decide) (by omega) (by omega) (fun c24 => ?_) (fun c24 => ?_)
      · refine r_aload_n C dX8_walks_54 lg_0 ?_
        refine q_V0V C (cM_orders hfl M (by omega) (by omega)) dX8_walks_55 lk_X8_83 M.1 ⟨Nat.le_of_ble_eq_true rfl, Nat.le_of_ble_eq_true rfl⟩ (catLe (Nat.le_of_ble_eq_true rfl)) ⟨rfl, rfl⟩ rfl (Nat.le_of_ble_eq_true rfl) (Nat.le_of_ble_eq_true rfl) (fun S55 A55 p55 => ?_)
        obtain ⟨rfl, hF55, hL55⟩ := p55
        refine r_iconst C dX8_walks_58 ?_
        refine r_istore_n C dX8_walks_59 (ls1_3 rfl rfl) ?_
        have hL : LD S55 (led (S 352) (S 480) (S 232 0).toNat) := by
          rw [hF.fn (c := 352) (by decide), hF.fn (c := 480) (by decide), hF 232 0 (by decide)] at hL55
          exact hL55
        have hz0 := hz 0 (by omega) (by omega)
        have hz1 := hz 1 (by omega) (by omega)
        have hW1 : WD S1 (w00 (S 928)) := ⟨z1, z2, z3, hz0.1, hz1.1, hz0.2.1, hz1.2.1, hz0.2.2, hz1.2.2, ⟨z4, fun i x hx => by cases hx⟩, hic⟩
        exact lp (led (S 352) (S 480) (S 232 0).toNat) [] (w00 (S 928)) S55 ((hF.sub (by decide)).tr (hF55.sub (by decide))) hL (hW1.fr hF55 (by decide)) (WI_00 _ _ _) rfl hval rfl
      · refine r_aload_n C dX8_walks_27 lg_0 ?_
        refine r_getA C 240 26 dX8_walks_28 fg_X8_46_7 rfl rfl M.1 (fun g28 => ?_)
        refine r_iload_n C dX8_walks_31 lg_3 ?_
        refine r_lconst C dX8_walks_32 0 rfl ?_
        refine r_last C (N := 2) 832 dX8_walks_33 (by decide) rfl rfl (M.g (j := 16) (by decide)) (by omega) (by omega) (by omega) (by omega) ?_
        refine r_gS (fun S33 h33 => ?_)
        have M : RM S33 A := by rw [h33]; exact M.up (by decide)
        refine r_aload_n C dX8_walks_34 lg_0 ?_
        refine r_getA C 241 27 dX8_walks_35 fg_X8_49_7 rfl rfl M.1 (fun g35 => ?_)
        refine r_iload_n C dX8_walks_38 lg_3 ?_
        refine r_lconst C dX8_walks_39 0 rfl ?_
        refine r_last C (N := 2) 864 dX8_walks_40 (by decide) rfl rfl (M.g (j := 17) (by decide)) (by omega) (by omega) (by omega) (by omega) ?_
        refine r_gS (fun S40 h40 => ?_)
        have M : RM S40 A := by rw [h40]; exact M.up (by decide)
        refine r_aload_n C dX8_walks_41 lg_0 ?_
        refine r_getA C 242 28 dX8_walks_42 fg_X8_52_7 rfl rfl M.1 (fun g42 => ?_)
        refine r_iload_n C dX8_walks_45 lg_3 ?_
        refine r_lconst C dX8_walks_46 0 rfl ?_
        refine r_last C (N := 2) 896 dX8_walks_47 (by decide) rfl rfl (M.g (j := 18) (by decide)) (by omega) (by omega) (by omega) (by omega) ?_
        refine r_gS (fun S47 h47 => ?_)
        have M : RM S47 A := by rw [h47]; exact M.up (by decide)
        refine r_iinc C dX8_walks_48 lg_3 (ls1_3 rfl rfl) ?_
        refine r_goto C (tgt := 22) dX8_walks_51 (by decide) ?_
        have f33 : Fr [237, 238, 239, 244, 832, 864, 896, 928, 992, 1024, 1056] S1 S33 := by rw [h33]; exact Fr.up (by decide)
        have f40 : Fr [237, 238, 239, 244, 832, 864, 896, 928, 992, 1024, 1056] S33 S40 := by rw [h40]; exact Fr.up (by decide)
        have f47 : Fr [237, 238, 239, 244, 832, 864, 896, 928, 992, 1024, 1056] S40 S47 := by rw [h47]; exact Fr.up (by decide)
        refine ih (k + 1) S47 (by omega) (by omega) (((hF.tr f33).tr f40).tr f47) ?_ ?_ ?_ ?_ (fun j j0 j1 => ?_) (fun j => ?_) (by omega)
        · rw [h47, upS_c _ _ (by decide), h40, upS_c _ _ (by decide), h33, upS_c _ _ (by decide)]; exact z1
        · rw [h47, upS_c _ _ (by decide), h40, upS_c _ _ (by decide), h33, upS_c _ _ (by decide)]; exact z2
        · rw [h47, upS_c _ _ (by decide), h40, upS_c _ _ (by decide), h33, upS_c _ _ (by decide)]; exact z3
        · rw [h47, upS_c _ _ (by decide), h40, upS_c _ _ (by decide), h33, upS_c _ _ (by decide)]; exact z4
        · by_cases e : j = k
          · subst e
            refine ⟨?_, ?_, ?_⟩
            · rw [h47, upS_c _ _ (by decide), h40, upS_c _ _ (by decide), h33, upS_self]
            · rw [h47, upS_c _ _ (by decide), h40, upS_self]
            · rw [h47, upS_self]
          · have h9 := hz j j0 (by omega)
            refine ⟨?_, ?_, ?_⟩
            · rw [h47, upS_c _ _ (by decide), h40, upS_c _ _ (by decide), h33, upS_z _ _ e]; exact h9.1
            · rw [h47, upS_c _ _ (by decide), h40, upS_z _ _ e, h33, upS_c _ _ (by decide)]; exact h9.2.1
            · rw [h47, upS_z _ _ e, h40, upS_c _ _ (by decide), h33, upS_c _ _ (by decide)]; exact h9.2.2
        · rw [h47, upS_c _ _ (by decide), h40, upS_c _ _ (by decide), h33, upS_c _ _ (by decide)]; exact hic j
  have M := M0
  refine r_aload_n C dX8_walks_0 lg_0 ?_
  refine r_iconst C dX8_walks_1 ?_
  refine r_putI C 237 dX8_walks_2 fg_X8_175_7 rfl rfl M.1 (fun q h => by cases h; exact Or.inl rfl) (by omega) ?_
  refine r_gS (fun S2 h2 => ?_)
  have M : RM S2 A := by rw [h2]; exact M.up (by decide)
  refine r_aload_n C dX8_walks_5 lg_0 ?_
  refine r_lconst C dX8_walks_6 0 rfl ?_
  refine r_putJ C 238 dX8_walks_7 fg_X8_178_7 rfl rfl M.1 (fun q h => by cases h; exact Or.inl rfl) (by omega) ?_
  refine r_gS (fun S7 h7 => ?_)
  have M : RM S7 A := by rw [h7]; exact M.up (by decide)
  refine r_aload_n C dX8_walks_10 lg_0 ?_
  refine r_lconst C dX8_walks_11 0 rfl ?_
  refine r_putJ C 239 dX8_walks_12 fg_X8_171_7 rfl rfl M.1 (fun q h => by cases h; exact Or.inl rfl) (by omega) ?_
  refine r_gS (fun S12 h12 => ?_)
  have M : RM S12 A := by rw [h12]; exact M.up (by decide)
  refine r_aload_n C dX8_walks_15 lg_0 ?_
  refine r_iconst C dX8_walks_16 ?_
  refine r_putI C 244 dX8_walks_17 fg_X8_161_7 rfl rfl M.1 (fun q h => by cases h; exact Or.inl rfl) (by omega) ?_
  refine r_gS (fun S17 h17 => ?_)
  have M : RM S17 A := by rw [h17]; exact M.up (by decide)
  refine r_iconst C dX8_walks_20 ?_
  refine r_istore_n C dX8_walks_21 (ls1_3 rfl rfl) ?_
  have f2 : Fr [237, 238, 239, 244, 832, 864, 896, 928, 992, 1024, 1056] S S2 := by rw [h2]; exact Fr.up (by decide)
  have f7 : Fr [237, 238, 239, 244, 832, 864, 896, 928, 992, 1024, 1056] S2 S7 := by rw [h7]; exact Fr.up (by decide)
  have f12 : Fr [237, 238, 239, 244, 832, 864, 896, 928, 992, 1024, 1056] S7 S12 := by rw [h12]; exact Fr.up (by decide)
  have f17 : Fr [237, 238, 239, 244, 832, 864, 896, 928, 992, 1024, 1056] S12 S17 := by rw [h17]; exact Fr.up (by decide)
  refine lz 3 0 S17 (by omega) (by omega) (((f2.tr f7).tr f12).tr f17) ?_ ?_ ?_ ?_ (fun j j0 j1 => by omega) (fun j => ?_) (by omega)
  · rw [h17, upS_c _ _ (by decide), h12, upS_c _ _ (by decide), h7, upS_c _ _ (by decide), h2, upS_self]
  · rw [h17, upS_c _ _ (by decide), h12, upS_c _ _ (by decide), h7, upS_self]
  · rw [h17, upS_c _ _ (by decide), h12, upS_self]
  · rw [h17, upS_self]
  · rw [h17, upS_c _ _ (by decide), h12, upS_c _ _ (by decide), h7, upS_c _ _ (by decide), h2, upS_c _ _ (by decide)]
