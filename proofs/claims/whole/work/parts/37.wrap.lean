/-! going round a hull point by point -/
def half (S : Int → Int → Prop) (x0 y0 : Int) : Prop := ∃ α β : Int, ∀ x y, S x y → ¬ (x = x0 ∧ y = y0) → 0 < α * (x - x0) + β * (y - y0)
def dst (x0 y0 x1 y1 : Int) : Int := (x0 - x1) * (x0 - x1) + (y0 - y1) * (y0 - y1)
theorem cr_id (α β a1 a2 b1 b2 c1 c2 : Int) : (α * b1 + β * b2) * (a1 * c2 - a2 * c1) = (α * c1 + β * c2) * (a1 * b2 - a2 * b1) + (α * a1 + β * a2) * (b1 * c2 - b2 * c1) := by grind
theorem ps_ge {a t : Int} (h : 0 < a) (h2 : 0 ≤ a * t) : 0 ≤ t := by
  have := ps_l (t := -t) h (by rw [Int.mul_neg]; omega)
  omega
theorem ps_gt {a t : Int} (h : 0 < a) (h2 : 0 < a * t) : 0 < t := by
  have := ps_n (t := -t) h (by rw [Int.mul_neg]; omega)
  omega
theorem ps_eq {a t : Int} (h : 0 < a) (h2 : a * t = 0) : t = 0 := by
  have h3 := ps_l (t := t) h (by omega)
  have h4 := ps_ge (t := t) h (by omega)
  omega
/-- of three ways into one half plane: left of left is left -/
theorem tu_tr {α β x0 y0 xa ya xb yb xc yc : Int} (hb : 0 < α * (xb - x0) + β * (yb - y0)) (hc : 0 < α * (xc - x0) + β * (yc - y0)) (ha : 0 < α * (xa - x0) + β * (ya - y0)) (h1 : 0 ≤ tu x0 y0 xa ya xb yb) (h2 : 0 ≤ tu x0 y0 xb yb xc yc) : 0 ≤ tu x0 y0 xa ya xc yc ∧ (tu x0 y0 xa ya xc yc = 0 → tu x0 y0 xa ya xb yb = 0 ∧ tu x0 y0 xb yb xc yc = 0) := by
  have e := cr_id α β (xa - x0) (ya - y0) (xb - x0) (yb - y0) (xc - x0) (yc - y0)
  unfold tu at *
  have p1 := Int.mul_nonneg (Int.le_of_lt hc) h1
  have p2 := Int.mul_nonneg (Int.le_of_lt ha) h2
  refine ⟨ps_ge hb (by omega), fun z => ?_⟩
  rw [z, Int.mul_zero] at e
  exact ⟨ps_eq hc (by omega), ps_eq ha (by omega)⟩
theorem par_id (α β k1 k2 a1 a2 b1 b2 : Int) : (k1 * a1 + k2 * a2) * (α * b1 + β * b2) - (k1 * b1 + k2 * b2) * (α * a1 + β * a2) = (k1 * β - k2 * α) * (a1 * b2 - a2 * b1) := by grind
theorem sq_le {A B : Int} (hA : 0 < A) (hB : 0 < B) (h : A * A ≤ B * B) : A ≤ B := by
  by_cases c : A ≤ B
  · exact c
  · have h1 : B * B < A * B := Int.mul_lt_mul_of_pos_right (by omega) hB
    have h2 : A * B < A * A := Int.mul_lt_mul_of_pos_left (by omega) hA
    omega
theorem mul_self_nonneg' (x : Int) : 0 ≤ x * x := by
  by_cases c : 0 ≤ x
  · exact Int.mul_nonneg c c
  · have := Int.mul_nonneg (show 0 ≤ -x by omega) (show 0 ≤ -x by omega)
    rw [Int.neg_mul_neg] at this; exact this
/-- on one way, the nearer one lies between -/
theorem btw {α β k1 k2 a1 a2 b1 b2 : Int} (ha : 0 < α * a1 + β * a2) (hb : 0 < α * b1 + β * b2) (hc : a1 * b2 - a2 * b1 = 0) (hd : a1 * a1 + a2 * a2 ≤ b1 * b1 + b2 * b2) : (0 ≤ k1 * a1 + k2 * a2 ∧ k1 * a1 + k2 * a2 ≤ k1 * b1 + k2 * b2) ∨ (k1 * b1 + k2 * b2 ≤ k1 * a1 + k2 * a2 ∧ k1 * a1 + k2 * a2 ≤ 0) := by
  have e1 := par_id α β k1 k2 a1 a2 b1 b2
  have e2 := par_id α β 1 0 a1 a2 b1 b2
  have e3 := par_id α β 0 1 a1 a2 b1 b2
  rw [hc, Int.mul_zero] at e1 e2 e3
  generalize eA : α * a1 + β * a2 = A at *
  generalize eB : α * b1 + β * b2 = B at *
  have f1 : a1 * B = b1 * A := by simp only [Int.one_mul, Int.zero_mul, Int.add_zero] at e2; omega
  have f2 : a2 * B = b2 * A := by simp only [Int.one_mul, Int.zero_mul, Int.zero_add] at e3; omega
  have g : (a1 * a1 + a2 * a2) * (B * B) = (b1 * b1 + b2 * b2) * (A * A) := by
    have q1 : a1 * B * (a1 * B) = b1 * A * (b1 * A) := by rw [f1]
    have q2 : a2 * B * (a2 * B) = b2 * A * (b2 * A) := by rw [f2]
    grind
  have hn : 0 < b1 * b1 + b2 * b2 := by
    have s1 := mul_self_nonneg' b1
    have s2 := mul_self_nonneg' b2
    by_cases z : b1 * b1 + b2 * b2 = 0
    · exfalso
      have z1 : b1 * b1 = 0 := by omega
      have z2 : b2 * b2 = 0 := by omega
      have z1 : b1 = 0 := by rcases Int.mul_eq_zero.mp z1 with q | q <;> exact q
      have z2 : b2 = 0 := by rcases Int.mul_eq_zero.mp z2 with q | q <;> exact q
      rw [z1, z2, Int.mul_zero, Int.mul_zero] at eB
      omega
    · omega
  have hAB : A ≤ B := by
    refine sq_le ha hb ?_
    by_cases c : A * A ≤ B * B
    · exact c
    · exfalso
      have h1 : (b1 * b1 + b2 * b2) * (B * B) < (b1 * b1 + b2 * b2) * (A * A) := Int.mul_lt_mul_of_pos_left (by omega) hn
      have h2 : (a1 * a1 + a2 * a2) * (B * B) ≤ (b1 * b1 + b2 * b2) * (B * B) := Int.mul_le_mul_of_nonneg_right hd (Int.mul_nonneg (by omega) (by omega))
      omega
  generalize k1 * a1 + k2 * a2 = x at *
  generalize k1 * b1 + k2 * b2 = y at *
  have e : B * x = A * y := by rw [Int.mul_comm B x, Int.mul_comm A y]; omega
  by_cases c : 0 ≤ y
  · have h1 := Int.mul_nonneg (Int.le_of_lt ha) c
    have h2 : A * y ≤ B * y := Int.mul_le_mul_of_nonneg_right hAB c
    have h3 := ps_ge (t := x) hb (by omega)
    have h4 := ps_ge (t := y - x) hb (by rw [Int.mul_sub]; omega)
    omega
  · have h1 := mn_l (t := y) ha (by omega)
    have h2 : A * (-y) ≤ B * (-y) := Int.mul_le_mul_of_nonneg_right hAB (by omega)
    rw [Int.mul_neg, Int.mul_neg] at h2
    have h3 := ps_l (t := x) hb (by omega)
    have h4 := ps_ge (t := x - y) hb (by rw [Int.mul_sub]; omega)
    omega
theorem ky_ne {x y x1 y1 : Int} (h1 : 0 ≤ x ∧ x ≤ 84) (h2 : 0 ≤ x1 ∧ x1 ≤ 84) (h : ky x y = ky x1 y1) : x = x1 ∧ y = y1 := by unfold ky at h; omega
theorem half_lo {S : Int → Int → Prop} (hr : rng S) {cx cy : Nat → Int} {cn : Nat} (H : hull S cx cy cn) : half S (cx 0) (cy 0) := ⟨1, 1000, fun x y hs hne => by
  have h0 := H.1 x y hs
  have h1 := H.2.2.1 x y hs
  have h2 := hr x y hs
  have h3 := hr _ _ (H.2.1 0 h0)
  unfold ky at h1
  omega⟩
theorem half_nx {S : Int → Int → Prop} (hr : rng S) {x0 y0 x1 y1 : Int} (H : nxt S x0 y0 x1 y1) : half S x1 y1 := by
  refine ⟨-20000 * (y1 - y0) - (x1 - x0), 20000 * (x1 - x0) - (y1 - y0), fun x y hs hne => ?_⟩
  obtain ⟨s0, s1, hk, hall⟩ := H
  have r0 := hr _ _ s0
  have r1 := hr _ _ s1
  have r2 := hr _ _ hs
  have ht := hall x y hs
  have e : (-20000 * (y1 - y0) - (x1 - x0)) * (x - x1) + (20000 * (x1 - x0) - (y1 - y0)) * (y - y1) = 20000 * tu x0 y0 x1 y1 x y - ((x1 - x0) * (x - x1) + (y1 - y0) * (y - y1)) := by unfold tu; grind
  rw [e]
  have b1 := mb2 (u := x1 - x0) (x := x - x1) (U := 84) (M := 84) (by omega) (by omega)
  have b2 := mb2 (u := y1 - y0) (x := y - y1) (U := 84) (M := 84) (by omega) (by omega)
  by_cases c : tu x0 y0 x1 y1 x y = 0
  · have hb := ht.2 c
    have p := par_id 1 1000 (x1 - x0) (y1 - y0) (x - x1) (y - y1) (x1 - x0) (y1 - y0)
    have z : (x - x1) * (y1 - y0) - (y - y1) * (x1 - x0) = 0 := by unfold tu at c; grind
    rw [z, Int.mul_zero] at p
    have n1 := mul_self_nonneg' (x1 - x0)
    have n2 := mul_self_nonneg' (y1 - y0)
    have hN : 0 < (x1 - x0) * (x1 - x0) + (y1 - y0) * (y1 - y0) := by
      by_cases q : (x1 - x0) * (x1 - x0) + (y1 - y0) * (y1 - y0) = 0
      · exfalso
        have z1 : (x1 - x0) * (x1 - x0) = 0 := by omega
        have z2 : (y1 - y0) * (y1 - y0) = 0 := by omega
        have z1 : x1 - x0 = 0 := by rcases Int.mul_eq_zero.mp z1 with q | q <;> exact q
        have z2 : y1 - y0 = 0 := by rcases Int.mul_eq_zero.mp z2 with q | q <;> exact q
        unfold ky at hk; omega
      · omega
    generalize (x1 - x0) * (x1 - x0) + (y1 - y0) * (y1 - y0) = N at *
    generalize hD : (x1 - x0) * (x - x1) + (y1 - y0) * (y - y1) = D at *
    have hD2 : D * (1 * (x1 - x0) + 1000 * (y1 - y0)) = N * (1 * (x - x1) + 1000 * (y - y1)) := by omega
    have hne2 : ky x y ≠ ky x1 y1 := fun q => hne (ky_ne r2.1 r1.1 q)
    unfold ky at hk hb hne2
    have : D < 0 := by
      by_cases q : 0 < 1 * (x1 - x0) + 1000 * (y1 - y0)
      · have k1 := mn_n (t := 1 * (x - x1) + 1000 * (y - y1)) hN (by omega)
        rw [← hD2, Int.mul_comm] at k1
        exact ps_n q k1
      · have k1 : 0 < N * (1 * (x - x1) + 1000 * (y - y1)) := Int.mul_pos hN (by omega)
        rw [← hD2, Int.mul_comm, ← Int.neg_mul_neg] at k1
        have := ps_gt (a := -(1 * (x1 - x0) + 1000 * (y1 - y0))) (t := -D) (by omega) k1
        omega
    omega
  · omega
theorem half_all {S : Int → Int → Prop} (hr : rng S) {cx cy : Nat → Int} {cn : Nat} (H : hull S cx cy cn) (h2 : 2 ≤ cn) : ∀ e, e < cn → half S (cx e) (cy e)
  | 0, _ => half_lo hr H
  | e + 1, he => by
    have := H.2.2.2.2.1 h2 e (by omega)
    unfold nxi at this
    rw [if_pos he] at this
    exact half_nx hr this
theorem hull_inj {S : Int → Int → Prop} (hr : rng S) {cx cy : Nat → Int} {cn : Nat} (H : hull S cx cy cn) : inj2 cx cy cn := by
  have key : ∀ i j, i < j → j < cn → cx i = cx j → cy i = cy j → False := fun i j hij hj e1 e2 => by
    have hn := H.2.2.2.2.1 (by omega)
    have st : ∀ t, j + t < cn → cx (i + t) = cx (j + t) ∧ cy (i + t) = cy (j + t) := fun t => by
      induction t with
      | zero => intro _; exact ⟨e1, e2⟩
      | succ t ih =>
        intro ht
        have q := ih (by omega)
        have n1 := hn (i + t) (by omega)
        have n2 := hn (j + t) (by omega)
        unfold nxi at n1 n2
        rw [if_pos (by omega)] at n1 n2
        rw [q.1, q.2] at n1
        exact nxt_uniq hr n1 n2
    have q := st (cn - 1 - j) (by omega)
    have n1 := hn (i + (cn - 1 - j)) (by omega)
    have n2 := hn (j + (cn - 1 - j)) (by omega)
    unfold nxi at n1 n2
    rw [if_pos (by omega)] at n1
    rw [if_neg (by omega)] at n2
    rw [q.1, q.2] at n1
    exact H.2.2.2.2.2 (i + (cn - 1 - j) + 1) (by omega) (by omega) (nxt_uniq hr n1 n2)
  intro i j hi hj e1 e2
  rcases Nat.lt_trichotomy i j with q | q | q
  · exact (key i j q hj e1 e2).elim
  · exact q
  · exact (key j i q hi e1.symm e2.symm).elim
theorem rng_pin {xs ys : Nat → Int} {pt : Nat} (h : rg_rg xs ys pt) : rng (pin xs ys pt) := fun x y ⟨i, hi, e1, e2⟩ => by rw [← e1, ← e2]; exact h i hi
theorem hC_ok {S : Int → Int → Prop} {xs ys : Nat → Int} {pt : Nat} (h : rg_rg xs ys pt) (e : pin xs ys pt = S) : hull S (hC S).2.1 (hC S).2.2 (hC S).1 := by
  obtain ⟨q, hq⟩ := hull_exists xs ys pt h
  rw [e] at hq
  exact Classical.epsilon_spec (p := fun q : Nat × (Nat → Int) × (Nat → Int) => hull S q.2.1 q.2.2 q.1) ⟨q, hq⟩
/-! the scan for the next corner -/
def best (xs ys : Nat → Int) (f c j : Nat) : Prop := j < c ∧ j ≠ f ∧ ∀ i, i < c → i ≠ f → 0 ≤ tu (xs f) (ys f) (xs j) (ys j) (xs i) (ys i) ∧ (tu (xs f) (ys f) (xs j) (ys j) (xs i) (ys i) = 0 → dst (xs f) (ys f) (xs i) (ys i) ≤ dst (xs f) (ys f) (xs j) (ys j))
theorem tu_self (x0 y0 x1 y1 : Int) : tu x0 y0 x1 y1 x1 y1 = 0 := by unfold tu; grind
theorem best_skip {xs ys : Nat → Int} {f j : Nat} (h : best xs ys f f j) : best xs ys f (f + 1) j := ⟨by have := h.1; omega, h.2.1, fun i hi hne => h.2.2 i (by omega) hne⟩
theorem best_first {xs ys : Nat → Int} {f c : Nat} (hc : c ≠ f) (h : ∀ i, i < c → i = f) : best xs ys f (c + 1) c := ⟨by omega, hc, fun i hi hne => by
  have : i = c := by
    by_cases q : i = c
    · exact q
    · exact absurd (h i (by omega)) hne
  subst this
  rw [tu_self]; exact ⟨Int.le_refl _, fun _ => Int.le_refl _⟩⟩
theorem best_keep {xs ys : Nat → Int} {f c j : Nat} (h : best xs ys f c j) (hk : 0 < tu (xs f) (ys f) (xs j) (ys j) (xs c) (ys c) ∨ (tu (xs f) (ys f) (xs j) (ys j) (xs c) (ys c) = 0 ∧ dst (xs f) (ys f) (xs c) (ys c) ≤ dst (xs f) (ys f) (xs j) (ys j))) : best xs ys f (c + 1) j := ⟨by have := h.1; omega, h.2.1, fun i hi hne => by
  by_cases q : i = c
  · subst q
    rcases hk with z | z
    · exact ⟨by omega, fun w => by omega⟩
    · exact ⟨by omega, fun _ => z.2⟩
  · exact h.2.2 i (by omega) hne⟩
theorem best_new {S : Int → Int → Prop} {xs ys : Nat → Int} {pt f c j : Nat} (hi : inj2 xs ys pt) (e : pin xs ys pt = S) (hh : half S (xs f) (ys f)) (hf : f < pt) (hc : c < pt) (hcf : c ≠ f) (h : best xs ys f c j) (hk : tu (xs f) (ys f) (xs j) (ys j) (xs c) (ys c) < 0 ∨ (tu (xs f) (ys f) (xs j) (ys j) (xs c) (ys c) = 0 ∧ dst (xs f) (ys f) (xs j) (ys j) < dst (xs f) (ys f) (xs c) (ys c))) : best xs ys f (c + 1) c := by
  obtain ⟨α, β, hp⟩ := hh
  have pos : ∀ i, i < pt → i ≠ f → 0 < α * (xs i - xs f) + β * (ys i - ys f) := fun i hi2 hne => hp _ _ (by rw [← e]; exact ⟨i, hi2, rfl, rfl⟩) (fun z => hne (hi i f hi2 hf z.1 z.2))
  have hj := h.1
  refine ⟨by omega, hcf, fun i hi2 hne => ?_⟩
  by_cases q : i = c
  · subst q; rw [tu_self]; exact ⟨Int.le_refl _, fun _ => Int.le_refl _⟩
  · have a1 := h.2.2 i (by omega) hne
    have sw := tu_sw (xs f) (ys f) (xs c) (ys c) (xs j) (ys j)
    have tr := tu_tr (pos j (by omega) h.2.1) (pos i (by omega) hne) (pos c hc hcf) (show 0 ≤ tu (xs f) (ys f) (xs c) (ys c) (xs j) (ys j) by omega) a1.1
    refine ⟨tr.1, fun z => ?_⟩
    have w := tr.2 z
    have := a1.2 w.2
    omega
theorem best_nxt {S : Int → Int → Prop} {xs ys : Nat → Int} {pt f j : Nat} (hi : inj2 xs ys pt) (e : pin xs ys pt = S) (hr : rg_rg xs ys pt) (hh : half S (xs f) (ys f)) (hf : f < pt) (h : best xs ys f pt j) : nxt S (xs f) (ys f) (xs j) (ys j) := by
  obtain ⟨α, β, hp⟩ := hh
  have pos : ∀ i, i < pt → i ≠ f → 0 < α * (xs i - xs f) + β * (ys i - ys f) := fun i hi2 hne => hp _ _ (by rw [← e]; exact ⟨i, hi2, rfl, rfl⟩) (fun z => hne (hi i f hi2 hf z.1 z.2))
  have hj := h.1
  refine ⟨by rw [← e]; exact ⟨f, hf, rfl, rfl⟩, by rw [← e]; exact ⟨j, hj, rfl, rfl⟩, fun z => h.2.1 (by have := ky_ne (hr f hf).1 (hr j hj).1 z; exact (hi f j hf hj this.1 this.2).symm), fun x y hs => ?_⟩
  rw [← e] at hs
  obtain ⟨i, hi2, rfl, rfl⟩ := hs
  by_cases q : i = f
  · subst q
    have : tu (xs i) (ys i) (xs j) (ys j) (xs i) (ys i) = 0 := by unfold tu; grind
    rw [this]
    refine ⟨Int.le_refl _, fun _ => ?_⟩
    unfold ky; omega
  · have a1 := h.2.2 i hi2 q
    refine ⟨a1.1, fun z => ?_⟩
    have d := a1.2 z
    have b := btw (α := α) (β := β) (k1 := 1) (k2 := 1000) (a1 := xs i - xs f) (a2 := ys i - ys f) (b1 := xs j - xs f) (b2 := ys j - ys f) (pos i hi2 q) (pos j hj h.2.1) (by unfold tu at z; grind) (by unfold dst at d; grind)
    unfold ky; omega
