/-! Points in the plane: turns, chains, hulls -/
def tn (px py : Nat → Int) (i j k : Nat) : Int := (px j - px i) * (py k - py i) - (py j - py i) * (px k - px i)
def kp (px py : Nat → Int) (A B : Int) (i : Nat) : Int := A * px i + B * py i
theorem ps_r {a t : Int} (h : 0 < a) (h2 : 0 ≤ a * t) : 0 ≤ t := by
  by_cases q : t < 0
  · have := Int.mul_neg_of_pos_of_neg h q
    omega
  · omega
theorem ps_a {a b c d : Int} (h1 : 0 ≤ a) (h2 : 0 ≤ b) (h3 : 0 ≤ c) (h4 : 0 ≤ d) : 0 ≤ a * b + c * d := by
  have := Int.mul_nonneg h1 h2
  have := Int.mul_nonneg h3 h4
  omega
section TN
variable (px py : Nat → Int) (A B : Int)
theorem tn_sw (i j k : Nat) : tn px py i j k = -tn px py i k j := by unfold tn; grind
theorem tn_ro (i j k : Nat) : tn px py i j k = tn px py j k i := by unfold tn; grind
theorem tn_ii (i j : Nat) : tn px py i j j = 0 := by unfold tn; grind
theorem tn_ij (i j : Nat) : tn px py i j i = 0 := by unfold tn; grind
theorem tn_1 (s t i j : Nat) : (kp px py A B i - kp px py A B t) * tn px py s i j = (kp px py A B i - kp px py A B j) * tn px py s i t + (kp px py A B i - kp px py A B s) * tn px py t i j := by unfold tn kp; grind
theorem tn_2 (s t i j : Nat) : (kp px py A B t - kp px py A B s) * tn px py s i j = (kp px py A B i - kp px py A B s) * tn px py s t j + (kp px py A B j - kp px py A B s) * tn px py s i t := by unfold tn kp; grind
theorem tn_3 (q s t i : Nat) : (kp px py A B t - kp px py A B s) * tn px py q s i = (kp px py A B i - kp px py A B s) * tn px py q s t + (kp px py A B s - kp px py A B q) * tn px py s t i := by unfold tn kp; grind
theorem tn_4 (s t i j : Nat) : (kp px py A B t - kp px py A B s) * tn px py t i j = (kp px py A B i - kp px py A B t) * tn px py s t j + (kp px py A B t - kp px py A B j) * tn px py s t i := by unfold tn kp; grind
end TN

/-- a chain over the points S: from the first of them, rising by A x + B y, turning left at each, all of S to its left -/
def ch_ok (px py : Nat → Int) (A B : Int) (S : Nat → Prop) (rk : Nat → Nat) (r : Nat → Nat) (lo cn : Nat) : Prop :=
  lo < cn ∧ (∀ e, lo ≤ e → e < cn → S (r e)) ∧ (∀ e, lo ≤ e → e + 1 < cn → kp px py A B (r e) < kp px py A B (r (e + 1))) ∧ (∀ e, lo ≤ e → e + 2 < cn → 0 < tn px py (r e) (r (e + 1)) (r (e + 2))) ∧ (∀ e j, lo ≤ e → e + 1 < cn → S j → 0 ≤ tn px py (r e) (r (e + 1)) j) ∧ (∀ j, S j → kp px py A B (r lo) ≤ kp px py A B j) ∧ (∀ e, lo ≤ e → e < cn → e - lo ≤ rk (r e))
/-- while the way to i is sought: what stands behind the top lies to the left of the way from the top to i -/
def ch_pop (px py : Nat → Int) (A B : Int) (S : Nat → Prop) (rk : Nat → Nat) (r : Nat → Nat) (lo cn i : Nat) : Prop :=
  ch_ok px py A B S rk r lo cn ∧ ∀ j, S j → kp px py A B (r (cn - 1)) ≤ kp px py A B j → 0 ≤ tn px py (r (cn - 1)) i j
section CH
variable {px py : Nat → Int} {A B : Int} {S : Nat → Prop} {rk r : Nat → Nat} {lo cn i : Nat}
theorem ch_ok.sub (h : ch_ok px py A B S rk r lo cn) {cn2 : Nat} (h1 : lo < cn2) (h2 : cn2 ≤ cn) : ch_ok px py A B S rk r lo cn2 := by
  obtain ⟨a1, a2, a3, a4, a5, a6, a7⟩ := h
  exact ⟨h1, fun e q1 q2 => a2 e q1 (by omega), fun e q1 q2 => a3 e q1 (by omega), fun e q1 q2 => a4 e q1 (by omega), fun e j q1 q2 => a5 e j q1 (by omega), a6, fun e q1 q2 => a7 e q1 (by omega)⟩
theorem ch_pop.start (h : ch_ok px py A B S rk r lo cn) (hl : ∀ j, S j → kp px py A B (r (cn - 1)) ≤ kp px py A B j → j = r (cn - 1)) : ch_pop px py A B S rk r lo cn i := ⟨h, fun j hj hk => by rw [hl j hj hk, tn_ij]; omega⟩
theorem ch_pop.pop (h : ch_pop px py A B S rk r lo cn i) (hi : ∀ j, S j → kp px py A B j < kp px py A B i) (hc : lo + 1 < cn) (ht : ¬ 0 < tn px py (r (cn - 2)) (r (cn - 1)) i) : ch_pop px py A B S rk r lo (cn - 1) i := by
  obtain ⟨ho, hp⟩ := h
  refine ⟨ho.sub (by omega) (by omega), fun j hj hk => ?_⟩
  obtain ⟨a1, a2, a3, a4, a5, a6, a7⟩ := ho
  have e1 : cn - 1 - 1 = cn - 2 := by omega
  have e2 : cn - 2 + 1 = cn - 1 := by omega
  rw [e1] at hk ⊢
  have m1 := a3 (cn - 2) (by omega) (by omega)
  rw [e2] at m1
  have m2 := a5 (cn - 2) j (by omega) (by omega) hj
  rw [e2] at m2
  have s1 := a2 (cn - 2) (by omega) (by omega)
  have s2 := a2 (cn - 1) (by omega) (by omega)
  generalize r (cn - 2) = s at *
  generalize r (cn - 1) = t at *
  have k1 := hi s s1
  have k2 := hi t s2
  have k3 := hi j hj
  have w1 := tn_sw px py s t i
  by_cases q : kp px py A B t ≤ kp px py A B j
  · have := hp j hj q
    exact ps_r (a := kp px py A B i - kp px py A B t) (by omega) (by rw [tn_1]; exact ps_a (by omega) (by omega) (by omega) (by omega))
  · exact ps_r (a := kp px py A B t - kp px py A B s) (by omega) (by rw [tn_2 px py A B s t i j]; exact ps_a (by omega) (by omega) (by omega) (by omega))
theorem ch_pop.push (h : ch_pop px py A B S rk r lo cn i) (hi : ∀ j, S j → kp px py A B j < kp px py A B i) (hrk : ∀ j, S j → rk j < rk i) (ht : lo + 1 < cn → 0 < tn px py (r (cn - 2)) (r (cn - 1)) i) {r2 : Nat → Nat} (hr : ∀ e, e < cn → r2 e = r e) (hrn : r2 cn = i) {S2 : Nat → Prop} (hS : ∀ j, S2 j ↔ S j ∨ j = i) : ch_ok px py A B S2 rk r2 lo (cn + 1) := by
  obtain ⟨⟨a1, a2, a3, a4, a5, a6, a7⟩, hp⟩ := h
  -- i lies to the left of each edge
  have left : ∀ d e, lo ≤ e → e + 1 < cn → e + 2 + d = cn → 0 ≤ tn px py (r e) (r (e + 1)) i := by
    intro d
    induction d with
    | zero =>
      intro e q1 q2 q3
      have e1 : e = cn - 2 := by omega
      subst e1
      have := ht (by omega)
      rw [show cn - 2 + 1 = cn - 1 by omega]
      omega
    | succ d ih =>
      intro e q1 q2 q3
      have m1 := ih (e + 1) (by omega) (by omega) (by omega)
      have m2 := a4 e q1 (by omega)
      rw [show e + 2 = e + 1 + 1 by omega] at m2
      have m3 := a3 e q1 q2
      have m4 := a3 (e + 1) (by omega) (by omega)
      have k1 := hi _ (a2 (e + 1) (by omega) (by omega))
      exact ps_r (a := kp px py A B (r (e + 1 + 1)) - kp px py A B (r (e + 1))) (by omega) (by rw [tn_3]; exact ps_a (by omega) (by omega) (by omega) (by omega))
  have hlast : ∀ j, S j → 0 ≤ tn px py (r (cn - 1)) i j := by
    intro j hj
    by_cases q : kp px py A B (r (cn - 1)) ≤ kp px py A B j
    · exact hp j hj q
    · have hc : lo + 1 < cn := by
        by_cases hc : lo + 1 < cn
        · exact hc
        · have := a6 j hj
          rw [show cn - 1 = lo by omega] at q
          omega
      have m1 := a3 (cn - 2) (by omega) (by omega)
      have m2 := a5 (cn - 2) j (by omega) (by omega) hj
      rw [show cn - 2 + 1 = cn - 1 by omega] at m1 m2
      have m3 := ht hc
      have k1 := hi _ (a2 (cn - 1) (by omega) (by omega))
      exact ps_r (a := kp px py A B (r (cn - 1)) - kp px py A B (r (cn - 2))) (by omega) (by rw [tn_4]; exact ps_a (by omega) (by omega) (by omega) (by omega))
  have ht2 := hi _ (a2 (cn - 1) (by omega) (by omega))
  refine ⟨by omega, fun e q1 q2 => ?_, fun e q1 q2 => ?_, fun e q1 q2 => ?_, fun e j q1 q2 hj => ?_, fun j hj => ?_, fun e q1 q2 => ?_⟩
  · by_cases q : e < cn
    · rw [hr e q]; exact (hS _).mpr (Or.inl (a2 e q1 q))
    · rw [show e = cn by omega, hrn]; exact (hS _).mpr (Or.inr rfl)
  · rw [hr e (by omega)]
    by_cases q : e + 1 < cn
    · rw [hr _ q]; exact a3 e q1 q
    · rw [show e + 1 = cn by omega, hrn, show e = cn - 1 by omega]; exact ht2
  · rw [hr e (by omega), hr (e + 1) (by omega)]
    by_cases q : e + 2 < cn
    · rw [hr _ q]; exact a4 e q1 q
    · rw [show e + 2 = cn by omega, hrn, show e = cn - 2 by omega, show cn - 2 + 1 = cn - 1 by omega]
      exact ht (by omega)
  · rw [hr e (by omega)]
    by_cases q : e + 1 < cn
    · rw [hr _ q]
      rcases (hS j).mp hj with hj | hj
      · exact a5 e j q1 q hj
      · subst hj; exact left (cn - 2 - e) e q1 q (by omega)
    · rw [show e + 1 = cn by omega, hrn, show e = cn - 1 by omega]
      rcases (hS j).mp hj with hj | hj
      · exact hlast j hj
      · subst hj; rw [tn_ii]; omega
  · rw [hr lo a1]
    rcases (hS j).mp hj with hj | hj
    · exact a6 j hj
    · subst hj; have := hi _ (a2 lo (by omega) a1); omega
  · by_cases q : e < cn
    · rw [hr e q]; exact a7 e q1 q
    · rw [show e = cn by omega, hrn]
      have b1 := a7 (cn - 1) (by omega) (by omega)
      have b2 := hrk _ (a2 (cn - 1) (by omega) (by omega))
      omega
/-- the first point alone -/
theorem ch_one (hr : r lo = i) (hS : ∀ j, S j ↔ j = i) : ch_ok px py A B S rk r lo (lo + 1) := by
  refine ⟨by omega, fun e q1 q2 => ?_, fun e q1 q2 => by omega, fun e q1 q2 => by omega, fun e j q1 q2 => by omega, fun j hj => ?_, fun e q1 q2 => by omega⟩
  · rw [show e = lo by omega, hr]; exact (hS i).mpr rfl
  · rw [hr, (hS j).mp hj]; omega
/-- j is next behind i, as one goes round the points S: all are to the left, or between them -/
def nx_ok (px py : Nat → Int) (S : Nat → Prop) (i j : Nat) : Prop := S i ∧ S j ∧ kp px py 1 1000 i ≠ kp px py 1 1000 j ∧ ∀ k, S k → 0 ≤ tn px py i j k ∧ (tn px py i j k = 0 → (kp px py 1 1000 i ≤ kp px py 1 1000 k ∧ kp px py 1 1000 k ≤ kp px py 1 1000 j) ∨ (kp px py 1 1000 j ≤ kp px py 1 1000 k ∧ kp px py 1 1000 k ≤ kp px py 1 1000 i))
theorem ch_edge (h : ch_ok px py A B S rk r lo cn) (hl : ∀ j, S j → kp px py A B j ≤ kp px py A B (r (cn - 1))) {e k : Nat} (h1 : lo ≤ e) (h2 : e + 1 < cn) (hk : S k) (hz : tn px py (r e) (r (e + 1)) k = 0) : kp px py A B (r e) ≤ kp px py A B k ∧ kp px py A B k ≤ kp px py A B (r (e + 1)) := by
  obtain ⟨a1, a2, a3, a4, a5, a6, a7⟩ := h
  have m1 := a3 e h1 h2
  constructor
  · by_cases q : lo < e
    · have m2 := a3 (e - 1) (by omega) (by omega)
      have m3 := a4 (e - 1) (by omega) (by omega)
      have m4 := a5 (e - 1) k (by omega) (by omega) hk
      rw [show e - 1 + 1 = e by omega] at m2 m3 m4
      rw [show e - 1 + 2 = e + 1 by omega] at m3
      have t4 := tn_4 px py A B (r (e - 1)) (r e) (r (e + 1)) k
      rw [hz, Int.mul_zero] at t4
      by_cases q2 : kp px py A B k < kp px py A B (r e)
      · have b1 := Int.mul_nonneg (show 0 ≤ kp px py A B (r (e + 1)) - kp px py A B (r e) by omega) m4
        have b2 := Int.mul_pos (show 0 < kp px py A B (r e) - kp px py A B k by omega) m3
        omega
      · omega
    · rw [show e = lo by omega]; exact a6 k hk
  · by_cases q : e + 2 < cn
    · have m2 := a3 (e + 1) (by omega) (by omega)
      have m3 := a4 e h1 q
      have m4 := a5 (e + 1) k (by omega) (by omega) hk
      rw [show e + 1 + 1 = e + 2 by omega] at m2 m4
      have t4 := tn_4 px py A B (r e) (r (e + 1)) (r (e + 2)) k
      rw [hz, Int.mul_zero] at t4
      by_cases q2 : kp px py A B (r (e + 1)) < kp px py A B k
      · have b1 := Int.mul_pos (show 0 < kp px py A B k - kp px py A B (r (e + 1)) by omega) m3
        have b2 := Int.mul_nonneg (show 0 ≤ kp px py A B (r (e + 1)) - kp px py A B (r e) by omega) m4
        have b3 : (kp px py A B (r (e + 1)) - kp px py A B k) * tn px py (r e) (r (e + 1)) (r (e + 2)) = -((kp px py A B k - kp px py A B (r (e + 1))) * tn px py (r e) (r (e + 1)) (r (e + 2))) := by grind
        omega
      · omega
    · have := hl k hk
      rw [show cn - 1 = e + 1 by omega] at this
      exact this
end CH

/-- the corners of the first sz points, by their numbers -/
def hl_ok (px py : Nat → Int) (sz : Nat) (r : Nat → Nat) (cn : Nat) : Prop := (sz = 0 → cn = 0) ∧ (sz = 1 → cn = 1 ∧ r 0 = 0) ∧ (2 ≤ sz → 2 ≤ cn ∧ r 0 = 0 ∧ (∀ e, e < cn → nx_ok px py (fun i => i < sz) (r e) (if e + 1 < cn then r (e + 1) else r 0)) ∧ (∀ e, 0 < e → e < cn → r e ≠ 0))
theorem kp_neg (px py : Nat → Int) (i : Nat) : kp px py (-1) (-1000) i = -kp px py 1 1000 i := by unfold kp; omega
theorem hl_join {px py : Nat → Int} {sz top cn : Nat} {r : Nat → Nat} {rk rk2 : Nat → Nat} (hs : 2 ≤ sz) (hk : ∀ i j, i < j → j < sz → kp px py 1 1000 i < kp px py 1 1000 j) (h1 : ch_ok px py 1 1000 (fun i => i < sz) rk r 0 top) (e0 : r 0 = 0) (e1 : r (top - 1) = sz - 1) (h2 : ch_ok px py (-1) (-1000) (fun i => i < sz) rk2 r (top - 1) cn) (e2 : r (cn - 1) = 0) : hl_ok px py sz r (cn - 1) := by
  have ht : 2 ≤ top := by
    have := h1.1
    by_cases q : top = 1
    · subst q; rw [e0] at e1; omega
    · omega
  have hle : ∀ j, j < sz → kp px py 1 1000 j ≤ kp px py 1 1000 (sz - 1) := fun j hj => by
    by_cases q : j = sz - 1
    · subst q; omega
    · have := hk j (sz - 1) (by omega) (by omega); omega
  have hge : ∀ j, j < sz → kp px py 1 1000 0 ≤ kp px py 1 1000 j := fun j hj => by
    by_cases q : j = 0
    · subst q; omega
    · have := hk 0 j (by omega) (by omega); omega
  have hcn : top < cn := by
    have := h2.1
    by_cases q : cn = top
    · subst q; rw [e1] at e2; omega
    · omega
  have n1 : ∀ e, e + 1 < top → nx_ok px py (fun i => i < sz) (r e) (r (e + 1)) := fun e he => by
    have m := h1.2.2.1 e (by omega) he
    refine ⟨h1.2.1 e (by omega) (by omega), h1.2.1 (e + 1) (by omega) he, by omega, fun k hk1 => ⟨h1.2.2.2.2.1 e k (by omega) he hk1, fun hz => Or.inl ?_⟩⟩
    exact ch_edge h1 (fun j hj => by rw [e1]; exact hle j hj) (by omega) he hk1 hz
  have n2 : ∀ e, top - 1 ≤ e → e + 1 < cn → nx_ok px py (fun i => i < sz) (r e) (r (e + 1)) := fun e he1 he => by
    have m := h2.2.2.1 e he1 he
    rw [kp_neg, kp_neg] at m
    refine ⟨h2.2.1 e he1 (by omega), h2.2.1 (e + 1) (by omega) he, by omega, fun k hk1 => ⟨h2.2.2.2.2.1 e k he1 he hk1, fun hz => Or.inr ?_⟩⟩
    have := ch_edge h2 (fun j hj => by rw [e2, kp_neg, kp_neg]; have := hge j hj; omega) he1 he hk1 hz
    simp only [kp_neg] at this
    omega
  refine ⟨fun h => by omega, fun h => by omega, fun _ => ⟨by omega, e0, fun e he => ?_, fun e h3 h4 => ?_⟩⟩
  · have hn : nx_ok px py (fun i => i < sz) (r e) (r (e + 1)) := by
      by_cases q : e + 1 < top
      · exact n1 e q
      · exact n2 e (by omega) (by omega)
    by_cases q : e + 1 < cn - 1
    · rw [if_pos q]; exact hn
    · rw [if_neg q, e0]
      rw [show e + 1 = cn - 1 by omega, e2] at hn
      exact hn
  · intro hz
    by_cases q : e < top
    · have mono : ∀ d, d + 1 ≤ e → kp px py 1 1000 (r 0) < kp px py 1 1000 (r (d + 1)) := by
        intro d
        induction d with
        | zero => intro _; exact h1.2.2.1 0 (by omega) (by omega)
        | succ d ih => intro hd; have := ih (by omega); have := h1.2.2.1 (d + 1) (by omega) (by omega); omega
      have := mono (e - 1) (by omega)
      rw [show e - 1 + 1 = e by omega, hz, e0] at this
      omega
    · have mono : ∀ d, e + d + 1 ≤ cn - 1 → kp px py 1 1000 (r (e + d + 1)) < kp px py 1 1000 (r e) := by
        intro d
        induction d with
        | zero => intro _; have := h2.2.2.1 e (by omega) (by omega); rw [kp_neg, kp_neg] at this; rw [Nat.add_zero]; omega
        | succ d ih => intro hd; have := ih (by omega); have := h2.2.2.1 (e + d + 1) (by omega) (by omega); rw [kp_neg, kp_neg] at this; rw [show e + (d + 1) + 1 = e + d + 1 + 1 by omega]; omega
      have := mono (cn - 2 - e) (by omega)
      rw [show e + (cn - 2 - e) + 1 = cn - 1 by omega, e2, hz] at this
      omega
/-! that there is such a chain -/
theorem ch_down {px py : Nat → Int} {A B : Int} {S : Nat → Prop} {rk r : Nat → Nat} {lo i : Nat} (hi : ∀ j, S j → kp px py A B j < kp px py A B i) : ∀ (d cn : Nat), cn = lo + 1 + d → ch_pop px py A B S rk r lo cn i → ∃ cn2, cn2 ≤ cn ∧ ch_pop px py A B S rk r lo cn2 i ∧ (lo + 1 < cn2 → 0 < tn px py (r (cn2 - 2)) (r (cn2 - 1)) i)
  | 0, cn, hc, h => ⟨cn, Nat.le_refl _, h, fun q => by omega⟩
  | d + 1, cn, hc, h => by
    by_cases q : 0 < tn px py (r (cn - 2)) (r (cn - 1)) i
    · exact ⟨cn, Nat.le_refl _, h, fun _ => q⟩
    · obtain ⟨c2, a1, a2, a3⟩ := ch_down hi d (cn - 1) (by omega) (h.pop hi (by omega) q)
      exact ⟨c2, by omega, a2, a3⟩
theorem ch_next {px py : Nat → Int} {A B : Int} {S S2 : Nat → Prop} {rk r : Nat → Nat} {lo cn i : Nat} (h : ch_ok px py A B S rk r lo cn) (hl : ∀ j, S j → kp px py A B (r (cn - 1)) ≤ kp px py A B j → j = r (cn - 1)) (hi : ∀ j, S j → kp px py A B j < kp px py A B i) (hrk : ∀ j, S j → rk j < rk i) (hS : ∀ j, S2 j ↔ S j ∨ j = i) : ∃ r2 cn2, ch_ok px py A B S2 rk r2 lo cn2 ∧ r2 (cn2 - 1) = i ∧ ∀ e, e ≤ lo → r2 e = r e := by
  obtain ⟨c2, a1, a2, a3⟩ := ch_down hi (cn - lo - 1) cn (by have := h.1; omega) (ch_pop.start (i := i) h hl)
  have hlo := a2.1.1
  refine ⟨fun e => if e < c2 then r e else i, c2 + 1, a2.push hi hrk a3 (fun e he => if_pos he) (if_neg (by omega)) hS, ?_, fun e he => if_pos (by omega)⟩
  show (if c2 + 1 - 1 < c2 then _ else i) = i
  rw [if_neg (by omega)]
theorem ch_up {px py : Nat → Int} (sz : Nat) (hk : ∀ i j, i < j → j < sz → kp px py 1 1000 i < kp px py 1 1000 j) : ∀ n, n < sz → ∃ r cn, ch_ok px py 1 1000 (fun i => i < n + 1) (fun i => i) r 0 cn ∧ r 0 = 0 ∧ r (cn - 1) = n
  | 0, h => ⟨fun _ => 0, 1, ch_one (i := 0) rfl (fun j => by omega), rfl, rfl⟩
  | n + 1, h => by
    obtain ⟨r, cn, h1, h2, h3⟩ := ch_up sz hk n (by omega)
    obtain ⟨r2, c2, g1, g2, g3⟩ := ch_next (S2 := fun i => i < n + 1 + 1) (i := n + 1) h1 (fun j hj hk2 => by
      rw [h3] at hk2 ⊢
      by_cases q : j < n
      · have := hk j n q (by omega); omega
      · have : j < n + 1 := hj; omega) (fun j hj => hk j (n + 1) hj h) (fun j hj => hj) (fun j => by omega)
    exact ⟨r2, c2, g1, by rw [g3 0 (by omega)]; exact h2, g2⟩
theorem ch_dn {px py : Nat → Int} (sz lo : Nat) (r0 : Nat → Nat) (hr0 : r0 lo = sz - 1) (hk : ∀ i j, i < j → j < sz → kp px py 1 1000 i < kp px py 1 1000 j) : ∀ n, n < sz → ∃ r cn, ch_ok px py (-1) (-1000) (fun i => sz - 1 - n ≤ i ∧ i < sz) (fun i => sz - 1 - i) r lo cn ∧ (∀ e, e ≤ lo → r e = r0 e) ∧ r (cn - 1) = sz - 1 - n
  | 0, h => ⟨r0, lo + 1, ch_one (i := sz - 1) hr0 (fun j => by omega), fun _ _ => rfl, by rw [show lo + 1 - 1 = lo by omega, hr0]; omega⟩
  | n + 1, h => by
    obtain ⟨r, cn, h1, h2, h3⟩ := ch_dn sz lo r0 hr0 hk n (by omega)
    obtain ⟨r2, c2, g1, g2, g3⟩ := ch_next (S2 := fun i => sz - 1 - (n + 1) ≤ i ∧ i < sz) (i := sz - 1 - (n + 1)) h1 (fun j hj hk2 => by
      rw [h3] at hk2 ⊢
      rw [kp_neg, kp_neg] at hk2
      by_cases q : sz - 1 - n < j
      · have := hk _ j q hj.2; omega
      · omega) (fun j hj => by rw [kp_neg, kp_neg]; have := hk (sz - 1 - (n + 1)) j (by omega) hj.2; omega) (fun j hj => by show sz - 1 - j < sz - 1 - (sz - 1 - (n + 1)); omega) (fun j => by omega)
    exact ⟨r2, c2, g1, fun e he => by rw [g3 e he]; exact h2 e he, g2⟩
theorem hl_exists {px py : Nat → Int} (sz : Nat) (hk : ∀ i j, i < j → j < sz → kp px py 1 1000 i < kp px py 1 1000 j) : ∃ r cn, hl_ok px py sz r cn := by
  by_cases h0 : sz = 0
  · exact ⟨fun _ => 0, 0, fun _ => rfl, fun h => by omega, fun h => by omega⟩
  by_cases h1 : sz = 1
  · exact ⟨fun _ => 0, 1, fun h => by omega, fun _ => ⟨rfl, rfl⟩, fun h => by omega⟩
  obtain ⟨r, top, a1, a2, a3⟩ := ch_up sz hk (sz - 1) (by omega)
  have ht := a1.1
  obtain ⟨r2, cn, b1, b2, b3⟩ := ch_dn sz (top - 1) r a3 hk (sz - 1) (by omega)
  have a1' : ch_ok px py 1 1000 (fun i => i < sz) (fun i => i) r2 0 top := by
    obtain ⟨c1, c2, c3, c4, c5, c6, c7⟩ := a1
    have E : ∀ e, e < top → r2 e = r e := fun e he => b2 e (by omega)
    refine ⟨c1, fun e q1 q2 => ?_, fun e q1 q2 => ?_, fun e q1 q2 => ?_, fun e j q1 q2 hj => ?_, fun j hj => ?_, fun e q1 q2 => ?_⟩
    · rw [E e q2]; have := c2 e q1 q2; show _ < sz; omega
    · rw [E e (by omega), E _ q2]; exact c3 e q1 q2
    · rw [E e (by omega), E _ (by omega), E _ q2]; exact c4 e q1 q2
    · rw [E e (by omega), E _ q2]; exact c5 e j q1 q2 (by show j < sz - 1 + 1; have : j < sz := hj; omega)
    · rw [E 0 c1]; exact c6 j (by show j < sz - 1 + 1; have : j < sz := hj; omega)
    · rw [E e q2]; exact c7 e q1 q2
  have b1' : ch_ok px py (-1) (-1000) (fun i => i < sz) (fun i => sz - 1 - i) r2 (top - 1) cn := by
    obtain ⟨c1, c2, c3, c4, c5, c6, c7⟩ := b1
    exact ⟨c1, fun e q1 q2 => (c2 e q1 q2).2, c3, c4, fun e j q1 q2 hj => c5 e j q1 q2 ⟨by omega, hj⟩, fun j hj => c6 j ⟨by omega, hj⟩, c7⟩
  exact ⟨r2, cn - 1, hl_join (by omega) hk a1' (by rw [b2 0 (by omega)]; exact a2) (by rw [b2 _ (Nat.le_refl _)]; exact a3) b1' (by rw [b3]; omega)⟩
