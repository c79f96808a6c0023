/-! the heap's rows -/
def tyfitB : Nat → FieldType → Bool
  | 0, .int => true
  | 1, .long => true
  | 2, .boolean => true
  | _ + 3, .object _ => true
  | _ + 3, .array _ => true
  | _, _ => false
theorem va_rf_fit {o : Option Nat} {ty : FieldType} (h : (∃ n, ty = .object n) ∨ ∃ u, ty = .array u) : narrow ty (va_rf o) = va_rf o ∧ fits ty (va_rf o) = true := by
  rcases h with ⟨n, rfl⟩ | ⟨u, rfl⟩ <;> cases o <;> exact ⟨rfl, rfl⟩
theorem tyfit_ok {t : Nat} {ty : FieldType} (h : tyfitB t ty = true) {A : AB} {z : Int} (hz : t = 2 → z = 0 ∨ z = 1) : narrow ty (fV A t z) = fV A t z ∧ fits ty (fV A t z) = true := by
  match t, ty, h with
  | 0, .int, _ => exact ⟨rfl, rfl⟩
  | 1, .long, _ => exact ⟨rfl, rfl⟩
  | 2, .boolean, _ => rcases hz rfl with rfl | rfl <;> exact ⟨rfl, rfl⟩
  | _ + 3, .object n, _ => exact va_rf_fit (Or.inl ⟨n, rfl⟩)
  | _ + 3, .array n, _ => exact va_rf_fit (Or.inr ⟨n, rfl⟩)
/-- what default a place of that kind has -/
def dfl (t : Nat) : Int := if 3 ≤ t then -1 else 0
theorem tyfit_dfl {t : Nat} {ty : FieldType} (h : tyfitB t ty = true) {A : AB} : defaultValue ty = fV A t (dfl t) := by
  match t, ty, h with
  | 0, .int, _ => rfl
  | 1, .long, _ => rfl
  | 2, .boolean, _ => rfl
  | _ + 3, .object n, _ => rfl
  | _ + 3, .array n, _ => rfl
theorem uws_in (C : String) (T : u_T) (N : Nat) (h : (u_ws C T N).all (fun w => decide (w ∈ lw_tbl) && goodWord w) = true) : ∀ w ∈ u_ws C T N, w ∈ WA := fun w hw => by
  have h1 := List.all_eq_true.mp h w hw
  simp only [Bool.and_eq_true, decide_eq_true_eq] at h1
  exact List.mem_filter.mpr ⟨List.mem_append_right _ h1.1, h1.2⟩
theorem uws0 : ∀ w ∈ u_ws RX0 TX0 7, w ∈ WA := uws_in _ _ _ (by decide +kernel)
theorem uws1 : ∀ w ∈ u_ws RX1 TX1 4, w ∈ WA := uws_in _ _ _ (by decide +kernel)
theorem uws2 : ∀ w ∈ u_ws RX2 TX2 2, w ∈ WA := uws_in _ _ _ (by decide +kernel)
theorem uws3 : ∀ w ∈ u_ws RX3 TX3 11, w ∈ WA := uws_in _ _ _ (by decide +kernel)
theorem uws4 : ∀ w ∈ u_ws RX4 TX4 6, w ∈ WA := uws_in _ _ _ (by decide +kernel)
theorem uws5 : ∀ w ∈ u_ws RX5 TX5 4, w ∈ WA := uws_in _ _ _ (by decide +kernel)
theorem uws6 : ∀ w ∈ u_ws RX7 TX7 7, w ∈ WA := uws_in _ _ _ (by decide +kernel)
theorem KF (k : Nat) (q : vw_C) (h : vwCl[k]? = some q) : k < 8 ∧ q.2.2 = nF k ∧ (∀ w ∈ u_ws q.1 q.2.1 q.2.2, w ∈ WA) ∧ ∃ ty : Nat → FieldType, (∀ j, j < q.2.2 → parseFieldDescriptor (q.2.1 j).2.2.1 = some (ty j)) ∧ (∀ a, a < q.2.2 → ∀ b, b < q.2.2 → a ≠ b → (q.2.1 a).2.1 ≠ (q.2.1 b).2.1) ∧ ∀ j, j < q.2.2 → tyfitB (fT k j) (ty j) = true := by
  match k, h with
  | 0, h => cases h; exact ⟨by decide, rfl, uws0, tyX0, tyX0_ok, nmX0, by decide +kernel⟩
  | 1, h => cases h; exact ⟨by decide, rfl, uws1, tyX1, tyX1_ok, nmX1, by decide +kernel⟩
  | 2, h => cases h; exact ⟨by decide, rfl, uws2, tyX2, tyX2_ok, nmX2, by decide +kernel⟩
  | 3, h => cases h; exact ⟨by decide, rfl, uws3, tyX3, tyX3_ok, nmX3, by decide +kernel⟩
  | 4, h => cases h; exact ⟨by decide, rfl, uws4, tyX4, tyX4_ok, nmX4, by decide +kernel⟩
  | 5, h => cases h; exact ⟨by decide, rfl, uws5, tyX5, tyX5_ok, nmX5, by decide +kernel⟩
  | 6, h => cases h; exact ⟨by decide, rfl, uws6, tyX7, tyX7_ok, nmX7, by decide +kernel⟩
  | k + 7, h => simp [vwCl] at h
/-- a field as a class names it -/
def FG (own : String) (idx k f : Nat) : Prop := ∃ (C ref : String) (T : u_T) (N : Nat), vwCl[k]? = some (C, T, N) ∧ f < N ∧ Cond.fieldLink own idx ref (T f).2.1 (T f).2.2.1 ∈ WA ∧ ((T f).1 = ref ∨ Cond.sameField ref (T f).1 (T f).2.1 (T f).2.2.1 ∈ WA)
theorem FG.lt {own : String} {idx k f : Nat} (h : FG own idx k f) : k < 8 ∧ f < nF k ∧ 32 * k + f < 256 ∧ tyC (32 * k + f) = fT k f ∧ (32 * k + f) / 32 = k := by
  obtain ⟨C, ref, T, N, h1, h2, -, -⟩ := h
  obtain ⟨a, b, -⟩ := KF k _ h1
  have hf : f < nF k := by rw [← b]; exact h2
  have h26 := nF_lt k
  have hd : (32 * k + f) / 32 = k := by omega
  refine ⟨a, hf, by omega, ?_, hd⟩
  unfold tyC
  rw [hd, if_pos a, show (32 * k + f) % 32 = f by omega]
theorem vR_ref {A : AB} {k : Nat} {z : Int} (h : 0 ≤ z) : vR A k z = .ref (A.1 k z) := by
  unfold vR rfo
  rw [if_neg (by omega)]
  rfl
theorem cellV_o {G : GT} {A : AB} {S : ST} {k : Nat} {z : Int} (h : k < 8) : cellV G A S k z = .inr (k, oFs A S k z) := by
  unfold cellV
  rw [if_pos h]
theorem cellV_a {G : GT} {A : AB} {S : ST} {k : Nat} {z : Int} (h : 8 ≤ k) : cellV G A S k z = aCl G A S k := by
  unfold cellV
  rw [if_neg (by omega)]
theorem r_getf {G : GT} {l : Launch} {R : Room} {cc : ByteArray} {nL : Nat} {own mn : String} {tb : List ExceptionTableEntry} {J : JT} {X : XT} (C : Cx G l R cc nL own mn tb J X) {pc : Nat} {lv : List (Option Value)} {st : List Value} {S : ST} {A : AB} {k n : Nat}
    {idx kd f : Nat} {z : Int} (d : decode cc pc = .ok (.getfield idx, 3)) (hf : FG own idx kd f) (hz : lv1 A kd z) (kk : rL (S (32 * kd + f) z) ∧ (fT kd f = 0 → rI (S (32 * kd + f) z)) ∧ (fT kd f = 2 → S (32 * kd + f) z = 0 ∨ S (32 * kd + f) z = 1) ∧ (3 ≤ fT kd f → S (32 * kd + f) z < A.2 (fT kd f - 3)) → J (pc + 3) lv (fV A (fT kd f) (S (32 * kd + f) z) :: st) S A k n) : J pc lv (vR A kd z :: st) S A k n := by
  obtain ⟨p, e, s, m, args, below, meth, c, Al, Q, rfl, rfl, hx, hb, hml, hown, hts, hG, hAl, hfl, hmn, htb⟩ := C
  intro H locs ls hl hw hs
  have hf9 := hf.lt
  obtain ⟨Cn, ref, T, N, h1, h2, h3, h4⟩ := hf
  have hKF := KF kd _ h1
  rw [vR_ref hz.1]
  have hwt := hw.wt
  have hw' := hw
  obtain ⟨ws, g1, g2, hP, hD, hA, hW⟩ := hw
  obtain ⟨q0, hq⟩ := HW.at (Al := Al) (H := H) g1 hz
  rw [cellV_o hKF.1] at hq
  have hwc := hW (32 * kd + f) z
  rw [hf9.2.2.2.1] at hwc
  refine va_get (fs := oFs A S kd z) hx hb hts hKF.2.2.1 hown hG.1 hP q0 hq h1 f h2 (hts _ h3) ?_ (oFs_get hf9.2.1) d (kk hwc H locs ls hl hw' hs)
  intro x hx9
  rcases h4 with h4 | h4
  · rw [← h4]; exact hx9
  · exact u_same (hts _ h4) x hx9
theorem r_putf {G : GT} {l : Launch} {R : Room} {cc : ByteArray} {nL : Nat} {own mn : String} {tb : List ExceptionTableEntry} {J : JT} {X : XT} (C : Cx G l R cc nL own mn tb J X) {pc : Nat} {lv : List (Option Value)} {st : List Value} {S : ST} {A : AB} {k n : Nat}
    {idx kd f : Nat} {z v : Int} (d : decode cc pc = .ok (.putfield idx, 3)) (hf : FG own idx kd f) (hz : lv1 A kd z) (hfin : ∀ q : vw_C, vwCl[kd]? = some q → (q.2.1 f).2.2.2 = false ∨ ((q.2.1 f).2.2.2 = true ∧ mn = "<init>" ∧ (q.2.1 f).1 = own)) (hv1 : rL v) (hv2 : fT kd f = 0 → rI v) (hv3 : fT kd f = 2 → v = 0 ∨ v = 1) (hv4 : 3 ≤ fT kd f → v < A.2 (fT kd f - 3)) (kk : J (pc + 3) lv st (upS S (32 * kd + f) z v) A k n) : J pc lv (fV A (fT kd f) v :: vR A kd z :: st) S A k n := by
  obtain ⟨p, e, s, m, args, below, meth, c, Al, Q, rfl, rfl, hx, hb, hml, hown, hts, hG, hAl, hfl, hmn, htb⟩ := C
  intro H locs ls hl hw hs
  have hf9 := hf.lt
  obtain ⟨Cn, ref, T, N, h1, h2, h3, h4⟩ := hf
  obtain ⟨k1, k2, k3, ty, k4, k5, k6⟩ := KF kd _ h1
  rw [vR_ref hz.1]
  obtain ⟨ws, g1, g2, hP, hD, hA, hW⟩ := hw
  obtain ⟨q0, hq⟩ := HW.at (Al := Al) (H := H) g1 hz
  have hq' := hq
  rw [cellV_o k1] at hq
  have hto := tyfit_ok (k6 f h2) (A := A) hv3
  have hsame : ∀ x, s.fieldFound? (T f).1 (T f).2.1 (T f).2.2.1 = some x → s.fieldFound? ref (T f).2.1 (T f).2.2.1 = some x := by
    intro x hx9
    rcases h4 with h4 | h4
    · rw [← h4]; exact hx9
    · exact u_same (hts _ h4) x hx9
  have fin : ∀ (H1 : Heap) (locs1 : List Loc), va_P G.1 vwCl (ws.set q0 (A.1 kd z, .inr (kd, (oFs A S kd z).set f (fV A (fT kd f) v)))) H1 → va_D Al (ws.set q0 (A.1 kd z, .inr (kd, (oFs A S kd z).set f (fV A (fT kd f) v)))) → va_S Al s.heap H1 locs1 → W p l e R s m args below meth c H1 locs1 k n Q (F0 m (pc + 3) ls st) := by
    intro H1 locs1 hP1 hD1 hS1
    rw [oFs_set hf9.2.1, ← cellV_o (G := G) k1] at hP1 hD1
    refine kk H1 locs1 ls hl (HW.set (H := H) g1 g2 hA hD hz hq' (fun k' z' hl' hne => cellV_ne fun hc => ?_) (hW.up hv1 (fun q => hv2 (by rw [← hf9.2.2.2.1]; exact q)) (fun q => hv3 (by rw [← hf9.2.2.2.1]; exact q)) (fun q => ?_)) hP1 hD1) hS1
    · rw [hf9.2.2.2.2] at hc
      subst hc
      exact ⟨fun q => hne ⟨rfl, q⟩, k1⟩
    · rw [hf9.2.2.2.1] at q ⊢
      exact hv4 q
  rcases hfin _ h1 with hfin | ⟨hfin, hin, hdc⟩
  · exact va_put (fs := oFs A S kd z) hx hb hts k3 ty k4 k5 hown hG.1 hP hD hs q0 hq h1 f h2 (hts _ h3) hsame hfin (k4 f h2) hto.1 hto.2 (by rw [oFs_len]; exact hf9.2.1) d fin
  · exact va_putF (fs := oFs A S kd z) hx hb hts k3 ty k4 k5 hown hG.1 hP hD hs q0 hq h1 f h2 (hts _ h3) hsame hfin (hmn.trans hin) hdc (k4 f h2) hto.1 hto.2 (by rw [oFs_len]; exact hf9.2.1) d fin
