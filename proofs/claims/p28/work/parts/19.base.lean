/-! branches on a boolean, what the reference's object is; its small methods -/
theorem catLe {rest : List Value} (h : rest.length ≤ 4) : (rest.map fun v => v.category).sum ≤ 8 := by
  have key : ∀ l : List Value, (l.map fun v => v.category).sum ≤ 2 * l.length := by
    intro l
    induction l with
    | nil => exact Nat.le_refl _
    | cons v t ih =>
      rw [List.map_cons, List.sum_cons, List.length_cons]
      rcases lv_cat v with h | h <;> omega
  have := key rest
  omega
noncomputable def b2i (p : Prop) : Int := @ite Int p (Classical.propDecidable p) 1 0
noncomputable def cI (p : Prop) (a b : Int) : Int := @ite Int p (Classical.propDecidable p) a b
theorem cI_t {p : Prop} {a b : Int} (h : p) : cI p a b = a := by unfold cI; rw [if_pos h]
theorem cI_f {p : Prop} {a b : Int} (h : ¬ p) : cI p a b = b := by unfold cI; rw [if_neg h]
theorem b2i_t {p : Prop} (h : p) : b2i p = 1 := by unfold b2i; rw [if_pos h]
theorem b2i_f {p : Prop} (h : ¬ p) : b2i p = 0 := by unfold b2i; rw [if_neg h]
theorem e1t {p : Prop} (h : p) : 1 = b2i p := (b2i_t h).symm
theorem e0f {p : Prop} (h : ¬ p) : 0 = b2i p := (b2i_f h).symm
theorem b2i_01 (p : Prop) : b2i p = 0 ∨ b2i p = 1 := by unfold b2i; split <;> omega
theorem b2i_r (p : Prop) : rI (b2i p) := rI_b (b2i_01 p)
theorem b2i_0 {p : Prop} : b2i p = 0 ↔ ¬ p := by
  by_cases h : p
  · rw [b2i_t h]; exact ⟨fun q => by omega, fun q => absurd h q⟩
  · rw [b2i_f h]; exact ⟨fun _ => h, fun _ => rfl⟩
theorem b2i_iff {p q : Prop} (h : p ↔ q) : b2i p = b2i q := by
  by_cases hp : p
  · rw [b2i_t hp, b2i_t (h.mp hp)]
  · rw [b2i_f hp, b2i_f (fun hq => hp (h.mpr hq))]
/-! sums and lists -/
def sumN (f : Int → Int) : Nat → Int
  | 0 => 0
  | n + 1 => sumN f n + f n
def sumI (f : Int → Int) (i : Int) : Int := sumN f i.toNat
theorem sumI_0 (f : Int → Int) : sumI f 0 = 0 := rfl
theorem toN_s {i : Int} (h : 0 ≤ i) : (i + 1).toNat = i.toNat + 1 := by omega
theorem sumI_s (f : Int → Int) {i : Int} (h : 0 ≤ i) : sumI f (i + 1) = sumI f i + f i := by
  unfold sumI
  rw [toN_s h]
  show sumN f i.toNat + f (i.toNat : Int) = _
  rw [Int.toNat_of_nonneg h]
theorem sumI_b {f : Int → Int} {B : Int} (hB : ∀ m, 0 ≤ m → 0 ≤ f m ∧ f m ≤ B) : ∀ (n : Nat), 0 ≤ sumN f n ∧ sumN f n ≤ n * B
  | 0 => ⟨Int.le_refl _, by simp [sumN]⟩
  | n + 1 => by
    obtain ⟨h1, h2⟩ := sumI_b hB n
    obtain ⟨h3, h4⟩ := hB n (by omega)
    refine ⟨by show 0 ≤ sumN f n + f n; omega, ?_⟩
    show sumN f n + f n ≤ ((n + 1 : Nat) : Int) * B
    have : ((n + 1 : Nat) : Int) * B = (n : Int) * B + B := by rw [Int.natCast_add, Int.add_mul]; simp
    omega
def dlt (kd qt : Int → Int) (m : Int) : Int := if kd m = 0 then qt m else if kd m = 1 then -qt m else 0
def chg (kd it qt : Int → Int) (i m : Int) : Int := if it m = i then dlt kd qt m else 0
def tks (kd it : Int → Int) (i m : Int) : Prop := it m = i ∧ (kd m = 1 ∨ kd m = 2)
def ins (dy : Int → Int) (m : Int) : List Int → List Int
  | [] => [m]
  | x :: t => if dy m < dy x then m :: x :: t else x :: ins dy m t
def led (dy gn : Int → Int) : Nat → List Int
  | 0 => []
  | n + 1 => if gn n = 0 then ins dy n (led dy gn n) else led dy gn n
def srt (dy : Int → Int) : List Int → Prop
  | [] => True
  | x :: t => (∀ y ∈ t, dy x ≤ dy y) ∧ srt dy t
def hs (f : Int → Int) : List Int → Int
  | [] => 0
  | x :: t => f x + hs f t
def vld (f q : Int → Int) (tk : Int → Prop) : Int → List Int → Prop
  | _, [] => True
  | u, x :: t => (tk x → q x ≤ u) ∧ vld f q tk (u + f x) t
theorem ins_split {dy : Int → Int} {m : Int} : ∀ (a b : List Int), (∀ x ∈ a, dy x ≤ dy m) → (∀ x ∈ b, dy m < dy x) → ins dy m (a ++ b) = a ++ m :: b
  | [], [], _, _ => rfl
  | [], y :: t, _, hb => by
    show (if dy m < dy y then m :: y :: t else y :: ins dy m t) = m :: y :: t
    rw [if_pos (hb y List.mem_cons_self)]
  | x :: t, b, ha, hb => by
    show (if dy m < dy x then m :: x :: (t ++ b) else x :: ins dy m (t ++ b)) = x :: (t ++ m :: b)
    rw [if_neg (by have := ha x List.mem_cons_self; omega), ins_split t b (fun y hy => ha y (List.mem_cons_of_mem _ hy)) hb]
theorem ins_mem {dy : Int → Int} {m y : Int} : ∀ (l : List Int), y ∈ ins dy m l ↔ y = m ∨ y ∈ l
  | [] => by show y ∈ [m] ↔ _; simp
  | x :: t => by
    show y ∈ (if dy m < dy x then m :: x :: t else x :: ins dy m t) ↔ _
    split
    · simp
    · rw [List.mem_cons, ins_mem t, List.mem_cons]
      constructor
      · rintro (h | h | h)
        · exact Or.inr (Or.inl h)
        · exact Or.inl h
        · exact Or.inr (Or.inr h)
      · rintro (h | h | h)
        · exact Or.inr (Or.inl h)
        · exact Or.inl h
        · exact Or.inr (Or.inr h)
theorem srt_ins {dy : Int → Int} {m : Int} : ∀ (l : List Int), srt dy l → srt dy (ins dy m l)
  | [], _ => ⟨fun y h => (by cases h), trivial⟩
  | x :: t, ⟨h1, h2⟩ => by
    show srt dy (if dy m < dy x then m :: x :: t else x :: ins dy m t)
    split
    next h =>
      refine ⟨fun y hy => ?_, h1, h2⟩
      rcases List.mem_cons.mp hy with rfl | hy
      · omega
      · have := h1 y hy; omega
    next h =>
      refine ⟨fun y hy => ?_, srt_ins t h2⟩
      rcases (ins_mem t).mp hy with rfl | hy
      · omega
      · exact h1 y hy
theorem ins_len {dy : Int → Int} {m : Int} : ∀ (l : List Int), (ins dy m l).length = l.length + 1
  | [] => rfl
  | x :: t => by
    show (if dy m < dy x then m :: x :: t else x :: ins dy m t).length = _
    split
    · rfl
    · rw [List.length_cons, ins_len t, List.length_cons]
theorem led_srt (dy gn : Int → Int) : ∀ n, srt dy (led dy gn n)
  | 0 => trivial
  | n + 1 => by
    show srt dy (if gn n = 0 then ins dy n (led dy gn n) else led dy gn n)
    split
    · exact srt_ins _ (led_srt dy gn n)
    · exact led_srt dy gn n
theorem led_mem (dy gn : Int → Int) {y : Int} : ∀ n : Nat, y ∈ led dy gn n ↔ (0 ≤ y ∧ y < n) ∧ gn y = 0
  | 0 => by show y ∈ ([] : List Int) ↔ _; simp; omega
  | n + 1 => by
    show y ∈ (if gn n = 0 then ins dy n (led dy gn n) else led dy gn n) ↔ _
    split
    next h =>
      rw [ins_mem, led_mem dy gn n]
      constructor
      · rintro (rfl | ⟨h1, h2⟩)
        · exact ⟨by omega, h⟩
        · exact ⟨by omega, h2⟩
      · rintro ⟨h1, h2⟩
        by_cases e : y = n
        · exact Or.inl e
        · exact Or.inr ⟨by omega, h2⟩
    next h =>
      rw [led_mem dy gn n]
      constructor
      · rintro ⟨h1, h2⟩; exact ⟨by omega, h2⟩
      · rintro ⟨h1, h2⟩
        refine ⟨⟨h1.1, ?_⟩, h2⟩
        by_cases e : y = n
        · subst e; exact absurd h2 h
        · omega
theorem led_len (dy gn : Int → Int) : ∀ n : Nat, (led dy gn n).length ≤ n
  | 0 => Nat.le_refl _
  | n + 1 => by
    show (if gn n = 0 then ins dy n (led dy gn n) else led dy gn n).length ≤ _
    have := led_len dy gn n
    split
    · rw [ins_len]; omega
    · omega
theorem srt_app {dy : Int → Int} : ∀ (a b : List Int), srt dy (a ++ b) → srt dy a ∧ srt dy b ∧ ∀ x ∈ a, ∀ y ∈ b, dy x ≤ dy y
  | [], b, h => ⟨trivial, h, fun x hx => by cases hx⟩
  | x :: t, b, ⟨h1, h2⟩ => by
    obtain ⟨g1, g2, g3⟩ := srt_app t b h2
    refine ⟨⟨fun y hy => h1 y (List.mem_append_left _ hy), g1⟩, g2, fun z hz y hy => ?_⟩
    rcases List.mem_cons.mp hz with rfl | hz
    · exact h1 y (List.mem_append_right _ hy)
    · exact g3 z hz y hy
theorem rb_ifeq {G : GT} {l : Launch} {R : Room} {cc : ByteArray} {nL : Nat} {own mn : String} {tb : List ExceptionTableEntry} {J : JT} {X : XT} (C : Cx G l R cc nL own mn tb J X) {pc : Nat} {lv : List (Option Value)} {st : List Value} {S : ST} {A : AB} {k n : Nat} {p : Prop} {off : Int} {tgt : Nat} (d : decode cc pc = .ok (.ifCond .eq off, 3)) (ht : (pc : Int) + off = (tgt : Int)) (kt : ¬ p → J tgt lv st S A k n) (kf : p → J (pc + 3) lv st S A k n) : J pc lv (vI (b2i p) :: st) S A k n := r_ifeq C d ht (b2i_r p) (fun h => kt (b2i_0.mp h)) (fun h => kf (Classical.byContradiction fun q => h (b2i_0.mpr q)))
theorem rb_ifne {G : GT} {l : Launch} {R : Room} {cc : ByteArray} {nL : Nat} {own mn : String} {tb : List ExceptionTableEntry} {J : JT} {X : XT} (C : Cx G l R cc nL own mn tb J X) {pc : Nat} {lv : List (Option Value)} {st : List Value} {S : ST} {A : AB} {k n : Nat} {p : Prop} {off : Int} {tgt : Nat} (d : decode cc pc = .ok (.ifCond .ne off, 3)) (ht : (pc : Int) + off = (tgt : Int)) (kt : p → J tgt lv st S A k n) (kf : ¬ p → J (pc + 3) lv st S A k n) : J pc lv (vI (b2i p) :: st) S A k n := r_ifne C d ht (b2i_r p) (fun h => kt (Classical.byContradiction fun q => h (b2i_0.mpr q))) (fun h => kf (b2i_0.mp h))
/-- nothing but these codes has changed -/
def Fr (cs : List Nat) (S S' : ST) : Prop := ∀ (c : Nat) (z : Int), c ∉ cs → S' c z = S c z
theorem Fr.rf {cs : List Nat} {S : ST} : Fr cs S S := fun _ _ _ => rfl
theorem Fr.tr {cs : List Nat} {S S' S'' : ST} (h1 : Fr cs S S') (h2 : Fr cs S' S'') : Fr cs S S'' := fun c z h => (h2 c z h).trans (h1 c z h)
theorem Fr.up {cs : List Nat} {S : ST} {c : Nat} {z v : Int} (h : c ∈ cs) : Fr cs S (upS S c z v) := fun c' z' h' => upS_c S v (fun e => h' (e ▸ h))
theorem Fr.sub {cs cs' : List Nat} {S S' : ST} (h : Fr cs S S') (hs : ∀ c ∈ cs, c ∈ cs') : Fr cs' S S' := fun c z h' => h c z (fun q => h' (hs c q))
/-! tests over a stretch; the order's list in the array -/
def allR (a i : Int) (Q : Int → Prop) : Prop := ∀ m, a ≤ m → m < i → Q m
def exR (a i : Int) (Q : Int → Prop) : Prop := ∃ m, a ≤ m ∧ m < i ∧ Q m
theorem allR_s {a i : Int} {Q : Int → Prop} (h : a ≤ i) : allR a (i + 1) Q ↔ allR a i Q ∧ Q i := by
  constructor
  · intro q
    exact ⟨fun m h1 h2 => q m h1 (by omega), q i h (by omega)⟩
  · rintro ⟨q1, q2⟩ m h1 h2
    by_cases e : m = i
    · subst e; exact q2
    · exact q1 m h1 (by omega)
theorem exR_s {a i : Int} {Q : Int → Prop} (h : a ≤ i) : exR a (i + 1) Q ↔ exR a i Q ∨ Q i := by
  constructor
  · rintro ⟨m, h1, h2, h3⟩
    by_cases e : m = i
    · subst e; exact Or.inr h3
    · exact Or.inl ⟨m, h1, by omega, h3⟩
  · rintro (⟨m, h1, h2, h3⟩ | h3)
    · exact ⟨m, h1, by omega, h3⟩
    · exact ⟨i, h, by omega, h3⟩
theorem acc_t {Q : Int → Prop} {a i acc : Int} (h : acc = b2i (allR a i Q)) (h0 : a ≤ i) (hne : ¬ acc = 0) (hq : Q i) : (1 : Int) = b2i (allR a (i + 1) Q) := by
  refine (b2i_t ((allR_s h0).mpr ⟨?_, hq⟩)).symm
  exact Classical.byContradiction fun q => hne (h.trans (b2i_f q))
theorem acc_f1 {Q : Int → Prop} {a i acc : Int} (h : acc = b2i (allR a i Q)) (h0 : a ≤ i) (hz : acc = 0) : (0 : Int) = b2i (allR a (i + 1) Q) :=
  (b2i_f fun q => (b2i_0.mp (h.symm.trans hz)) ((allR_s h0).mp q).1).symm
theorem acc_f2 {Q : Int → Prop} {a i : Int} (h0 : a ≤ i) (hq : ¬ Q i) : (0 : Int) = b2i (allR a (i + 1) Q) := (b2i_f fun q => hq ((allR_s h0).mp q).2).symm
theorem acx_t1 {Q : Int → Prop} {a i acc : Int} (h : acc = b2i (exR a i Q)) (h0 : a ≤ i) (hne : ¬ acc = 0) : (1 : Int) = b2i (exR a (i + 1) Q) := by
  refine (b2i_t ((exR_s h0).mpr (Or.inl ?_))).symm
  exact Classical.byContradiction fun q => hne (h.trans (b2i_f q))
theorem acx_t2 {Q : Int → Prop} {a i : Int} (h0 : a ≤ i) (hq : Q i) : (1 : Int) = b2i (exR a (i + 1) Q) := (b2i_t ((exR_s h0).mpr (Or.inr hq))).symm
theorem acx_f {Q : Int → Prop} {a i acc : Int} (h : acc = b2i (exR a i Q)) (h0 : a ≤ i) (hz : acc = 0) (hq : ¬ Q i) : (0 : Int) = b2i (exR a (i + 1) Q) := by
  refine (b2i_f fun q => ?_).symm
  rcases (exR_s h0).mp q with q | q
  · exact (b2i_0.mp (h.symm.trans hz)) q
  · exact hq q
theorem allR_0 {a : Int} {Q : Int → Prop} : (1 : Int) = b2i (allR a a Q) := (b2i_t fun m h1 h2 => by omega).symm
theorem exR_0 {a : Int} {Q : Int → Prop} : (0 : Int) = b2i (exR a a Q) := (b2i_f fun ⟨m, h1, h2, _⟩ => by omega).symm
def LD (S : ST) (L : List Int) : Prop := S 236 0 = L.length ∧ ∀ (i : Nat) (x : Int), L[i]? = some x → S 672 i = x
theorem LD.at {S : ST} {a t : List Int} {x : Int} (h : LD S (a ++ x :: t)) : S 672 (a.length : Int) = x := h.2 a.length x (by simp)
theorem LD.fr {S S' : ST} {L : List Int} {cs : List Nat} (h : LD S L) (hF : Fr cs S S') (h1 : 236 ∉ cs) (h2 : 672 ∉ cs) : LD S' L := ⟨(hF _ _ h1).trans h.1, fun i x hx => (hF _ _ h2).trans (h.2 i x hx)⟩
theorem list_last {α : Type} (a : List α) (h : 0 < a.length) : ∃ a' y, a = a' ++ [y] := by
  rcases List.eq_nil_or_concat a with rfl | ⟨a', y, e⟩
  · simp at h
  · exact ⟨a', y, by rw [e, List.concat_eq_append]⟩
theorem hs_app (f : Int → Int) : ∀ (a b : List Int), hs f (a ++ b) = hs f a + hs f b
  | [], b => by show hs f b = 0 + hs f b; omega
  | x :: t, b => by show f x + hs f (t ++ b) = f x + hs f t + hs f b; rw [hs_app f t b]; omega
theorem hs_one (f : Int → Int) (a : List Int) (x : Int) : hs f (a ++ [x]) = hs f a + f x := by rw [hs_app]; show _ + (f x + 0) = _; omega
theorem hs_b {f : Int → Int} {B : Int} : ∀ (l : List Int), (∀ x ∈ l, -B ≤ f x ∧ f x ≤ B) → -(B * l.length) ≤ hs f l ∧ hs f l ≤ B * l.length
  | [], _ => by show -(B * ((0 : Nat) : Int)) ≤ 0 ∧ 0 ≤ B * ((0 : Nat) : Int); simp
  | x :: t, h => by
    obtain ⟨h1, h2⟩ := hs_b t (fun y hy => h y (List.mem_cons_of_mem _ hy))
    obtain ⟨h3, h4⟩ := h x List.mem_cons_self
    have e : B * ((x :: t).length : Int) = B * (t.length : Int) + B := by rw [List.length_cons, Int.natCast_add, Int.mul_add]; simp
    show -(B * ((x :: t).length : Int)) ≤ f x + hs f t ∧ f x + hs f t ≤ B * ((x :: t).length : Int)
    omega
theorem chg_b {kd it qt : Int → Int} {i m : Int} (h : 0 ≤ qt m ∧ qt m ≤ 1000) : -1000 ≤ chg kd it qt i m ∧ chg kd it qt i m ≤ 1000 := by
  unfold chg dlt
  split
  · split
    · omega
    · split <;> omega
  · omega
theorem r_gS {J : JT} {pc : Nat} {lv : List (Option Value)} {st : List Value} {T : ST} {A : AB} {k n : Nat} (h : ∀ S' : ST, S' = T → J pc lv st S' A k n) : J pc lv st T A k n := h T rfl
/-- a function with one value replaced -/
def fu (f : Int → Int) (n v : Int) : Int → Int := fun m => if m = n then v else f m
theorem fu_self (f : Int → Int) (n v : Int) : fu f n v n = v := by unfold fu; rw [if_pos rfl]
theorem fu_ne (f : Int → Int) {n m : Int} (v : Int) (h : m ≠ n) : fu f n v m = f m := by unfold fu; rw [if_neg h]
theorem upS_fu (S : ST) (c : Nat) (z v : Int) : upS S c z v c = fu (S c) z v := by
  funext m
  unfold upS fu
  by_cases h : m = z
  · rw [if_pos ⟨rfl, h⟩, if_pos h]
  · rw [if_neg (fun q => h q.2), if_neg h]
theorem upS_fn (S : ST) {c c' : Nat} (z v : Int) (h : c' ≠ c) : upS S c z v c' = S c' := by
  funext m
  exact upS_c S v h
theorem Fr.fn {cs : List Nat} {S S' : ST} (h : Fr cs S S') {c : Nat} (hc : c ∉ cs) : S' c = S c := funext fun z => h c z hc
