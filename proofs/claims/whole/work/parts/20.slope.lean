/-! slopes as threes (u, v, w), w above 0: u / w and v / w -/
abbrev Tr : Type := Int × Int × Int
def teq (s t : Tr) : Prop := s.1 * t.2.2 = t.1 * s.2.2 ∧ s.2.1 * t.2.2 = t.2.1 * s.2.2
def tlt (s t : Tr) : Prop := s.1 * t.2.2 < t.1 * s.2.2 ∨ (s.1 * t.2.2 = t.1 * s.2.2 ∧ s.2.1 * t.2.2 < t.2.1 * s.2.2)
theorem fr_id (a b c d e f : Int) : d * (a * f - e * b) = f * (a * d - c * b) + b * (c * f - e * d) := by grind
theorem ps_l {a t : Int} (h : 0 < a) (h2 : a * t ≤ 0) : t ≤ 0 := by
  by_cases q : 0 < t
  · have := Int.mul_pos h q; omega
  · omega
theorem ps_n {a t : Int} (h : 0 < a) (h2 : a * t < 0) : t < 0 := by
  by_cases q : 0 ≤ t
  · have := Int.mul_nonneg (Int.le_of_lt h) q; omega
  · omega
theorem mn_l {a t : Int} (h : 0 < a) (h2 : t ≤ 0) : a * t ≤ 0 := by
  have := Int.mul_nonneg (Int.le_of_lt h) (show 0 ≤ -t by omega)
  rw [Int.mul_neg] at this
  omega
theorem mn_n {a t : Int} (h : 0 < a) (h2 : t < 0) : a * t < 0 := Int.mul_neg_of_pos_of_neg h h2
theorem fr_le {a b c d e f : Int} (hb : 0 < b) (hd : 0 < d) (hf : 0 < f) (h1 : a * d ≤ c * b) (h2 : c * f ≤ e * d) : a * f ≤ e * b := by
  have i := fr_id a b c d e f
  have m1 := mn_l hf (show a * d - c * b ≤ 0 by omega)
  have m2 := mn_l hb (show c * f - e * d ≤ 0 by omega)
  have := ps_l hd (show d * (a * f - e * b) ≤ 0 by omega)
  omega
theorem fr_lt1 {a b c d e f : Int} (hb : 0 < b) (hd : 0 < d) (hf : 0 < f) (h1 : a * d < c * b) (h2 : c * f ≤ e * d) : a * f < e * b := by
  have i := fr_id a b c d e f
  have m1 := mn_n hf (show a * d - c * b < 0 by omega)
  have m2 := mn_l hb (show c * f - e * d ≤ 0 by omega)
  have := ps_n hd (show d * (a * f - e * b) < 0 by omega)
  omega
theorem fr_lt2 {a b c d e f : Int} (hb : 0 < b) (hd : 0 < d) (hf : 0 < f) (h1 : a * d ≤ c * b) (h2 : c * f < e * d) : a * f < e * b := by
  have i := fr_id a b c d e f
  have m1 := mn_l hf (show a * d - c * b ≤ 0 by omega)
  have m2 := mn_n hb (show c * f - e * d < 0 by omega)
  have := ps_n hd (show d * (a * f - e * b) < 0 by omega)
  omega
theorem fr_eq {a b c d e f : Int} (hb : 0 < b) (hd : 0 < d) (hf : 0 < f) (h1 : a * d = c * b) (h2 : c * f = e * d) : a * f = e * b := by
  have q1 := fr_le hb hd hf (Int.le_of_eq h1) (Int.le_of_eq h2)
  have q2 := fr_le hf hd hb (Int.le_of_eq h2.symm) (Int.le_of_eq h1.symm)
  omega
theorem teq.rf (s : Tr) : teq s s := ⟨rfl, rfl⟩
theorem teq.sy {s t : Tr} (h : teq s t) : teq t s := ⟨h.1.symm, h.2.symm⟩
theorem teq.tr {s t r : Tr} (hs : 0 < s.2.2) (ht : 0 < t.2.2) (hr : 0 < r.2.2) (h1 : teq s t) (h2 : teq t r) : teq s r := ⟨fr_eq hs ht hr h1.1 h2.1, fr_eq hs ht hr h1.2 h2.2⟩
theorem tlt.tr {s t r : Tr} (hs : 0 < s.2.2) (ht : 0 < t.2.2) (hr : 0 < r.2.2) (h1 : tlt s t) (h2 : tlt t r) : tlt s r := by
  rcases h1 with h1 | ⟨h1, h3⟩
  · rcases h2 with h2 | ⟨h2, h4⟩
    · exact Or.inl (fr_lt1 hs ht hr h1 (Int.le_of_lt h2))
    · exact Or.inl (fr_lt1 hs ht hr h1 (Int.le_of_eq h2))
  · rcases h2 with h2 | ⟨h2, h4⟩
    · exact Or.inl (fr_lt2 hs ht hr (Int.le_of_eq h1) h2)
    · exact Or.inr ⟨fr_eq hs ht hr h1 h2, fr_lt1 hs ht hr h3 (Int.le_of_lt h4)⟩
theorem tlt.el {s t r : Tr} (hs : 0 < s.2.2) (ht : 0 < t.2.2) (hr : 0 < r.2.2) (h1 : teq s t) (h2 : tlt t r) : tlt s r := by
  rcases h2 with h2 | ⟨h2, h4⟩
  · exact Or.inl (fr_lt2 hs ht hr (Int.le_of_eq h1.1) h2)
  · exact Or.inr ⟨fr_eq hs ht hr h1.1 h2, fr_lt2 hs ht hr (Int.le_of_eq h1.2) h4⟩
theorem tlt.er {s t r : Tr} (hs : 0 < s.2.2) (ht : 0 < t.2.2) (hr : 0 < r.2.2) (h1 : tlt s t) (h2 : teq t r) : tlt s r := by
  rcases h1 with h1 | ⟨h1, h3⟩
  · exact Or.inl (fr_lt1 hs ht hr h1 (Int.le_of_eq h2.1))
  · exact Or.inr ⟨fr_eq hs ht hr h1 h2.1, fr_lt1 hs ht hr h3 (Int.le_of_eq h2.2)⟩
theorem tlt.ne {s t : Tr} (h : tlt s t) : ¬ teq s t := fun q => by
  rcases h with h | ⟨h, h3⟩
  · have := q.1; omega
  · have := q.2; omega
theorem tlt.as {s t : Tr} (h : tlt s t) (h2 : tlt t s) : False := by
  rcases h with h | ⟨h, h3⟩ <;> rcases h2 with h2 | ⟨h2, h4⟩ <;> omega
theorem t3 (s t : Tr) : tlt s t ∨ teq s t ∨ tlt t s := by
  unfold tlt teq
  by_cases q1 : s.1 * t.2.2 < t.1 * s.2.2
  · exact Or.inl (Or.inl q1)
  by_cases q2 : t.1 * s.2.2 < s.1 * t.2.2
  · exact Or.inr (Or.inr (Or.inl q2))
  by_cases q3 : s.2.1 * t.2.2 < t.2.1 * s.2.2
  · exact Or.inl (Or.inr ⟨by omega, q3⟩)
  by_cases q4 : t.2.1 * s.2.2 < s.2.1 * t.2.2
  · exact Or.inr (Or.inr (Or.inr ⟨by omega, q4⟩))
  · exact Or.inr (Or.inl ⟨by omega, by omega⟩)
/-! sorted lists of slopes -/
def tsr (τ : Nat → Tr) (m : Nat) : Prop := (∀ i, i < m → 0 < (τ i).2.2) ∧ ∀ i j, i < j → j < m → tlt (τ i) (τ j)
theorem tsr.inj {τ : Nat → Tr} {m : Nat} (h : tsr τ m) {i j : Nat} (hi : i < m) (hj : j < m) (e : teq (τ i) (τ j)) : i = j := by
  rcases Nat.lt_trichotomy i j with q | q | q
  · exact absurd e (h.2 i j q hj).ne
  · exact q
  · exact absurd e.sy (h.2 j i q hi).ne
theorem mono_le {f : Nat → Nat} {m : Nat} (h : ∀ i j, i < j → j < m → f i < f j) : ∀ i, i < m → i ≤ f i
  | 0, _ => by omega
  | i + 1, hi => by
    have := mono_le h i (by omega)
    have := h i (i + 1) (by omega) hi
    omega
theorem mono_ge {f : Nat → Nat} {m M : Nat} (h : ∀ i j, i < j → j < m → f i < f j) (hM : ∀ i, i < m → f i < M) : ∀ d i, i + d + 1 = m → f i + d + 1 ≤ M
  | 0, i, hi => by have := hM i (by omega); omega
  | d + 1, i, hi => by
    have := mono_ge h hM d (i + 1) (by omega)
    have := h i (i + 1) (by omega) (by omega)
    omega
theorem tsr_map {τ σ : Nat → Tr} {m k : Nat} (h1 : tsr τ m) (h2 : tsr σ k) (h : ∀ i, i < m → ∃ j, j < k ∧ teq (τ i) (σ j)) : ∃ f : Nat → Nat, (∀ i, i < m → f i < k ∧ teq (τ i) (σ (f i))) ∧ ∀ i j, i < j → j < m → f i < f j := by
  have w : ∀ i : Nat, ∃ j : Nat, i < m → j < k ∧ teq (τ i) (σ j) := fun i => by
    by_cases q : i < m
    · obtain ⟨j, a⟩ := h i q; exact ⟨j, fun _ => a⟩
    · exact ⟨0, fun z => absurd z q⟩
  refine ⟨fun i => Classical.choose (w i), fun i hi => Classical.choose_spec (w i) hi, fun i j hij hj => ?_⟩
  have a := Classical.choose_spec (w i) (by omega)
  have b := Classical.choose_spec (w j) hj
  show Classical.choose (w i) < Classical.choose (w j)
  generalize Classical.choose (w i) = x at *
  generalize Classical.choose (w j) = y at *
  have p1 := h1.1 i (by omega)
  have p2 := h1.1 j hj
  have p3 := h2.1 x a.1
  have p4 := h2.1 y b.1
  have l := (h1.2 i j hij hj)
  have l2 : tlt (σ x) (σ y) := tlt.er p3 p2 p4 (tlt.el p3 p1 p2 a.2.sy l) b.2
  rcases Nat.lt_trichotomy x y with q | q | q
  · exact q
  · subst q; exact absurd (teq.rf _) l2.ne
  · exact (l2.as (h2.2 y x q a.1)).elim
/-- two sorted lists of the same slopes are alike -/
theorem tsr_same {τ σ : Nat → Tr} {m k : Nat} (h1 : tsr τ m) (h2 : tsr σ k) (ha : ∀ i, i < m → ∃ j, j < k ∧ teq (τ i) (σ j)) (hb : ∀ j, j < k → ∃ i, i < m ∧ teq (σ j) (τ i)) : m = k ∧ ∀ i, i < m → teq (τ i) (σ i) := by
  obtain ⟨f, f1, f2⟩ := tsr_map h1 h2 ha
  obtain ⟨g, g1, g2⟩ := tsr_map h2 h1 hb
  have e : m = k := by
    by_cases q : m = 0
    · by_cases q2 : k = 0
      · omega
      · have := (g1 0 (by omega)).1; omega
    · have a := (f1 (m - 1) (by omega)).1
      have b := mono_le f2 (m - 1) (by omega)
      have a2 := (g1 (k - 1) (by omega)).1
      have b2 := mono_le g2 (k - 1) (by omega)
      omega
  refine ⟨e, fun i hi => ?_⟩
  have a := mono_le f2 i hi
  have b := mono_ge f2 (fun j hj => (f1 j hj).1) (m - 1 - i) i (by omega)
  have c : f i = i := by omega
  have := (f1 i hi).2
  rw [c] at this
  exact this
/-! low points -/
def lwm (f : Nat → Int) (n k : Nat) : Prop := k < n ∧ ∀ j, j < n → f k ≤ f j
theorem bt_tb (T k : Nat) : bt T k ↔ T.testBit k = true := by
  unfold bt
  rw [Nat.testBit_eq_decide_div_mod_eq, decide_eq_true_eq]
theorem bt_or (T U k : Nat) : bt (T ||| U) k ↔ bt T k ∨ bt U k := by
  rw [bt_tb, bt_tb, bt_tb, Nat.testBit_or, Bool.or_eq_true]
theorem bt_2 (n k : Nat) : bt (2 ^ n) k ↔ k = n := by
  rw [bt_tb, Nat.testBit_two_pow, decide_eq_true_eq]
  exact eq_comm
theorem bt_0 (k : Nat) : ¬ bt 0 k := by rw [bt_tb, Nat.zero_testBit]; decide
theorem bt_ext {T U : Nat} (h : ∀ k, bt T k ↔ bt U k) : T = U := by
  apply Nat.eq_of_testBit_eq
  intro k
  have := h k
  rw [bt_tb, bt_tb] at this
  exact Bool.eq_iff_iff.mpr this
theorem bo_low_ok (f : Nat → Int) : ∀ n, 0 < n → (∀ j, j < n → (bo_low f n).2 ≤ f j) ∧ (∃ j, j < n ∧ f j = (bo_low f n).2) ∧ ∀ k, bt (bo_low f n).1 k ↔ k < n ∧ f k = (bo_low f n).2
  | 0, h => by omega
  | n + 1, _ => by
    by_cases q0 : n = 0
    · subst q0
      rw [show bo_low f 1 = (2 ^ 0, f 0) from by rw [bo_low, if_pos (Or.inl (show (bo_low f 0).1 = 0 from rfl))]]
      refine ⟨fun j hj => by rw [show j = 0 by omega]; exact Int.le_refl _, ⟨0, by omega, rfl⟩, fun k => ?_⟩
      rw [bt_2]
      constructor
      · rintro rfl; exact ⟨by omega, rfl⟩
      · intro z; omega
    · obtain ⟨a1, ⟨j0, a2, a3⟩, a4⟩ := bo_low_ok f n (by omega)
      have hne : ¬ (bo_low f n).1 = 0 := fun z => by
        have := (a4 j0).mpr ⟨a2, a3⟩
        rw [z] at this
        exact bt_0 _ this
      by_cases q1 : f n < (bo_low f n).2
      · rw [show bo_low f (n + 1) = (2 ^ n, f n) from by rw [bo_low, if_pos (Or.inr q1)]]
        refine ⟨fun j hj => ?_, ⟨n, by omega, rfl⟩, fun k => ?_⟩
        · show f n ≤ f j
          by_cases c : j = n
          · subst c; exact Int.le_refl _
          · have := a1 j (by omega); omega
        · show bt (2 ^ n) k ↔ k < n + 1 ∧ f k = f n
          rw [bt_2]
          constructor
          · rintro rfl; exact ⟨by omega, rfl⟩
          · rintro ⟨z1, z2⟩
            by_cases c : k = n
            · exact c
            · have := a1 k (by omega); omega
      · by_cases q2 : f n = (bo_low f n).2
        · rw [show bo_low f (n + 1) = ((bo_low f n).1 ||| 2 ^ n, (bo_low f n).2) from by rw [bo_low, if_neg (by omega), if_pos q2]]
          refine ⟨fun j hj => ?_, ⟨j0, by omega, a3⟩, fun k => ?_⟩
          · show (bo_low f n).2 ≤ f j
            by_cases c : j = n
            · subst c; omega
            · exact a1 j (by omega)
          · show bt ((bo_low f n).1 ||| 2 ^ n) k ↔ k < n + 1 ∧ f k = (bo_low f n).2
            rw [bt_or, bt_2, a4]
            constructor
            · rintro (z | rfl)
              · exact ⟨by omega, z.2⟩
              · exact ⟨by omega, q2⟩
            · rintro ⟨z1, z2⟩
              by_cases c : k = n
              · exact Or.inr c
              · exact Or.inl ⟨by omega, z2⟩
        · rw [show bo_low f (n + 1) = bo_low f n from by rw [bo_low, if_neg (by omega), if_neg q2]]
          refine ⟨fun j hj => ?_, ⟨j0, by omega, a3⟩, fun k => ?_⟩
          · by_cases c : j = n
            · subst c; omega
            · exact a1 j (by omega)
          · rw [a4]
            constructor
            · rintro ⟨z1, z2⟩; exact ⟨by omega, z2⟩
            · rintro ⟨z1, z2⟩
              by_cases c : k = n
              · subst c; omega
              · exact ⟨by omega, z2⟩
theorem bo_low_bt (f : Nat → Int) (n k : Nat) : bt (bo_low f n).1 k ↔ lwm f n k := by
  by_cases q : n = 0
  · subst q
    constructor
    · intro z; exact absurd z (bt_0 k)
    · intro z; exact absurd z.1 (by omega)
  · obtain ⟨a1, ⟨j0, a2, a3⟩, a4⟩ := bo_low_ok f n (by omega)
    rw [a4]
    constructor
    · rintro ⟨z1, z2⟩; exact ⟨z1, fun j hj => by rw [z2]; exact a1 j hj⟩
    · rintro ⟨z1, z2⟩; exact ⟨z1, by have := z2 j0 a2; have := a1 k z1; omega⟩
theorem lwm_ex (f : Nat → Int) (n : Nat) (h : 0 < n) : ∃ k, lwm f n k := by
  obtain ⟨a1, ⟨j0, a2, a3⟩, a4⟩ := bo_low_ok f n h
  exact ⟨j0, a2, fun j hj => by rw [a3]; exact a1 j hj⟩
abbrev th (X Y V : Nat → Int) (t : Tr) : Nat → Int := bo_h X Y V t.1 t.2.1 t.2.2
theorem th_scale {X Y V : Nat → Int} {s t : Tr} (e : teq s t) (k : Nat) : t.2.2 * th X Y V s k = s.2.2 * th X Y V t k := by
  unfold th bo_h
  have e1 := e.1
  have e2 := e.2
  have : t.2.2 * (s.2.2 * V k + s.1 * X k + s.2.1 * Y k) = t.2.2 * s.2.2 * V k + (s.1 * t.2.2) * X k + (s.2.1 * t.2.2) * Y k := by grind
  rw [this, e1, e2]
  grind
theorem lwm_teq {X Y V : Nat → Int} {s t : Tr} (hs : 0 < s.2.2) (ht : 0 < t.2.2) (e : teq s t) {n k : Nat} (h : lwm (th X Y V s) n k) : lwm (th X Y V t) n k := by
  refine ⟨h.1, fun j hj => ?_⟩
  have a := h.2 j hj
  have e1 := th_scale (X := X) (Y := Y) (V := V) e k
  have e2 := th_scale (X := X) (Y := Y) (V := V) e j
  have m := Int.mul_le_mul_of_nonneg_left a (Int.le_of_lt ht)
  rw [e1, e2] at m
  exact Int.le_of_mul_le_mul_left m hs
theorem low_teq {X Y V : Nat → Int} {s t : Tr} (hs : 0 < s.2.2) (ht : 0 < t.2.2) (e : teq s t) (n : Nat) : (bo_low (th X Y V s) n).1 = (bo_low (th X Y V t) n).1 := bt_ext fun k => by
  rw [bo_low_bt, bo_low_bt]
  exact ⟨lwm_teq hs ht e, lwm_teq ht hs e.sy⟩
/-- the slope of a cell: three sums of low points that are not on one line -/
def CS (X Y V : Nat → Int) (n : Nat) (X2 Y2 V2 : Nat → Int) (n2 : Nat) (t : Tr) : Prop := 0 < t.2.2 ∧ ∃ i1 i2 i3 j1 j2 j3, (lwm (th X Y V t) n i1 ∧ lwm (th X Y V t) n i2 ∧ lwm (th X Y V t) n i3) ∧ (lwm (th X2 Y2 V2 t) n2 j1 ∧ lwm (th X2 Y2 V2 t) n2 j2 ∧ lwm (th X2 Y2 V2 t) n2 j3) ∧ tu (X i1 + X2 j1) (Y i1 + Y2 j1) (X i2 + X2 j2) (Y i2 + Y2 j2) (X i3 + X2 j3) (Y i3 + Y2 j3) ≠ 0
theorem CS.teq {X Y V : Nat → Int} {n : Nat} {X2 Y2 V2 : Nat → Int} {n2 : Nat} {s t : Tr} (h : CS X Y V n X2 Y2 V2 n2 s) (ht : 0 < t.2.2) (e : teq s t) : CS X Y V n X2 Y2 V2 n2 t := by
  obtain ⟨hs, i1, i2, i3, j1, j2, j3, ⟨a1, a2, a3⟩, ⟨b1, b2, b3⟩, c⟩ := h
  exact ⟨ht, i1, i2, i3, j1, j2, j3, ⟨lwm_teq hs ht e a1, lwm_teq hs ht e a2, lwm_teq hs ht e a3⟩, ⟨lwm_teq hs ht e b1, lwm_teq hs ht e b2, lwm_teq hs ht e b3⟩, c⟩
