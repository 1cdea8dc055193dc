/-! the slopes that pairs and threes of sums tell -/
theorem cs93 {X Y V : Nat → Int} {n : Nat} {X2 Y2 V2 : Nat → Int} {n2 : Nat} (ho : bo_ok X Y V n) (ho2 : bo_ok X2 Y2 V2 n2) {τ : Nat → Tr} {m : Nat} (hc : ∀ i, i < m → CS X Y V n X2 Y2 V2 n2 (τ i)) (hd : ∀ i j, i < m → j < m → teq (τ i) (τ j) → i = j) : m ≤ 93 := by
  have hn := ho.1
  have hn2 := ho2.1
  refine bound93 (px := fun s => X (s / 7) + X2 (s % 7)) (py := fun s => Y (s / 7) + Y2 (s % 7)) (pw := fun s => V (s / 7) + V2 (s % 7)) (vs := fun s => s / 7 < n ∧ s % 7 < n2) (fun s _ h => ?_) (τ := τ) (fun i hi => (hc i hi).1) (fun i hi => ?_) hd
  · have a := ho.2 (s / 7) h.1
    have b := ho2.2 (s % 7) h.2
    show 0 ≤ X (s / 7) + X2 (s % 7) ∧ X (s / 7) + X2 (s % 7) ≤ 24
    omega
  · obtain ⟨hw, i1, i2, i3, j1, j2, j3, ⟨a1, a2, a3⟩, ⟨b1, b2, b3⟩, c⟩ := hc i hi
    have L : ∀ i0 j0, lwm (th X Y V (τ i)) n i0 → lwm (th X2 Y2 V2 (τ i)) n2 j0 → (7 * i0 + j0) / 7 = i0 ∧ (7 * i0 + j0) % 7 = j0 ∧ lsp (fun s => X (s / 7) + X2 (s % 7)) (fun s => Y (s / 7) + Y2 (s % 7)) (fun s => V (s / 7) + V2 (s % 7)) (fun s => s / 7 < n ∧ s % 7 < n2) (τ i) (7 * i0 + j0) := fun i0 j0 h1 h2 => by
      have p1 := h1.1
      have p2 := h2.1
      have e1 : (7 * i0 + j0) / 7 = i0 := by omega
      have e2 : (7 * i0 + j0) % 7 = j0 := by omega
      refine ⟨e1, e2, by omega, by dsimp only; rw [e1, e2]; exact ⟨p1, p2⟩, fun r _ hv => ?_⟩
      have q1 := h1.2 _ hv.1
      have q2 := h2.2 _ hv.2
      unfold hs
      dsimp only
      rw [e1, e2]
      unfold th bo_h at q1 q2
      have s1 : (τ i).2.2 * (V i0 + V2 j0) + (τ i).1 * (X i0 + X2 j0) + (τ i).2.1 * (Y i0 + Y2 j0) = ((τ i).2.2 * V i0 + (τ i).1 * X i0 + (τ i).2.1 * Y i0) + ((τ i).2.2 * V2 j0 + (τ i).1 * X2 j0 + (τ i).2.1 * Y2 j0) := by grind
      have s2 : (τ i).2.2 * (V (r / 7) + V2 (r % 7)) + (τ i).1 * (X (r / 7) + X2 (r % 7)) + (τ i).2.1 * (Y (r / 7) + Y2 (r % 7)) = ((τ i).2.2 * V (r / 7) + (τ i).1 * X (r / 7) + (τ i).2.1 * Y (r / 7)) + ((τ i).2.2 * V2 (r % 7) + (τ i).1 * X2 (r % 7) + (τ i).2.1 * Y2 (r % 7)) := by grind
      rw [s1, s2]
      omega
    obtain ⟨e1, f1, g1⟩ := L i1 j1 a1 b1
    obtain ⟨e2, f2, g2⟩ := L i2 j2 a2 b2
    obtain ⟨e3, f3, g3⟩ := L i3 j3 a3 b3
    refine ⟨_, _, _, g1, g2, g3, ?_⟩
    unfold tp
    simp only [e1, f1, e2, f2, e3, f3]
    exact c
/-- the slope at which both differences have no height -/
def pr3 (x1 y1 w1 x2 y2 w2 : Int) : Tr := if x1 * y2 - x2 * y1 < 0 then (-1 * (w2 * y1 - w1 * y2), -1 * (w1 * x2 - w2 * x1), -1 * (x1 * y2 - x2 * y1)) else (1 * (w2 * y1 - w1 * y2), 1 * (w1 * x2 - w2 * x1), 1 * (x1 * y2 - x2 * y1))
theorem pr3_pos {x1 y1 w1 x2 y2 w2 : Int} (h : x1 * y2 - x2 * y1 ≠ 0) : 0 < (pr3 x1 y1 w1 x2 y2 w2).2.2 := by
  unfold pr3; split
  · show 0 < -1 * _; omega
  · show 0 < 1 * _; omega
theorem pr3_teq {x1 y1 w1 x2 y2 w2 : Int} {t : Tr} (e1 : t.2.2 * w1 + t.1 * x1 + t.2.1 * y1 = 0) (e2 : t.2.2 * w2 + t.1 * x2 + t.2.1 * y2 = 0) : teq t (pr3 x1 y1 w1 x2 y2 w2) := by
  have a : t.1 * (x1 * y2 - x2 * y1) = (w2 * y1 - w1 * y2) * t.2.2 := by
    have : t.1 * (x1 * y2 - x2 * y1) - (w2 * y1 - w1 * y2) * t.2.2 = y2 * (t.2.2 * w1 + t.1 * x1 + t.2.1 * y1) - y1 * (t.2.2 * w2 + t.1 * x2 + t.2.1 * y2) := by grind
    rw [e1, e2] at this; omega
  have b : t.2.1 * (x1 * y2 - x2 * y1) = (w1 * x2 - w2 * x1) * t.2.2 := by
    have : t.2.1 * (x1 * y2 - x2 * y1) - (w1 * x2 - w2 * x1) * t.2.2 = x1 * (t.2.2 * w2 + t.1 * x2 + t.2.1 * y2) - x2 * (t.2.2 * w1 + t.1 * x1 + t.2.1 * y1) := by grind
    rw [e1, e2] at this; omega
  unfold pr3
  split
  · refine ⟨?_, ?_⟩
    · show t.1 * (-1 * (x1 * y2 - x2 * y1)) = -1 * (w2 * y1 - w1 * y2) * t.2.2
      grind
    · show t.2.1 * (-1 * (x1 * y2 - x2 * y1)) = -1 * (w1 * x2 - w2 * x1) * t.2.2
      grind
  · refine ⟨?_, ?_⟩
    · show t.1 * (1 * (x1 * y2 - x2 * y1)) = 1 * (w2 * y1 - w1 * y2) * t.2.2
      grind
    · show t.2.1 * (1 * (x1 * y2 - x2 * y1)) = 1 * (w1 * x2 - w2 * x1) * t.2.2
      grind
/-- two low points of a body: their difference has no height -/
theorem lwm_dif {X Y V : Nat → Int} {t : Tr} {n i j : Nat} (h1 : lwm (th X Y V t) n i) (h2 : lwm (th X Y V t) n j) : t.2.2 * (V j - V i) + t.1 * (X j - X i) + t.2.1 * (Y j - Y i) = 0 := by
  have a := h1.2 j h2.1
  have b := h2.2 i h1.1
  unfold th bo_h at a b
  have : t.2.2 * (V j - V i) + t.1 * (X j - X i) + t.2.1 * (Y j - Y i) = (t.2.2 * V j + t.1 * X j + t.2.1 * Y j) - (t.2.2 * V i + t.1 * X i + t.2.1 * Y i) := by grind
  omega
section CND
variable {X Y V : Nat → Int} {n : Nat} {X2 Y2 V2 : Nat → Int} {n2 : Nat} {t : Tr}
theorem cs_AA (ht : 0 < t.2.2) (hn : 0 < n2) {i j k : Nat} (h1 : lwm (th X Y V t) n i) (h2 : lwm (th X Y V t) n j) (h3 : lwm (th X Y V t) n k) (hc : (X j - X i) * (Y k - Y i) - (X k - X i) * (Y j - Y i) ≠ 0) : CS X Y V n X2 Y2 V2 n2 t := by
  obtain ⟨l, hl⟩ := lwm_ex (th X2 Y2 V2 t) n2 hn
  refine ⟨ht, i, j, k, l, l, l, ⟨h1, h2, h3⟩, ⟨hl, hl, hl⟩, fun z => hc ?_⟩
  unfold tu at z
  grind
theorem cs_BB (ht : 0 < t.2.2) (hn : 0 < n) {i j k : Nat} (h1 : lwm (th X2 Y2 V2 t) n2 i) (h2 : lwm (th X2 Y2 V2 t) n2 j) (h3 : lwm (th X2 Y2 V2 t) n2 k) (hc : (X2 j - X2 i) * (Y2 k - Y2 i) - (X2 k - X2 i) * (Y2 j - Y2 i) ≠ 0) : CS X Y V n X2 Y2 V2 n2 t := by
  obtain ⟨l, hl⟩ := lwm_ex (th X Y V t) n hn
  refine ⟨ht, l, l, l, i, j, k, ⟨hl, hl, hl⟩, ⟨h1, h2, h3⟩, fun z => hc ?_⟩
  unfold tu at z
  grind
theorem cs_AB (ht : 0 < t.2.2) {i j k l : Nat} (h1 : lwm (th X Y V t) n i) (h2 : lwm (th X Y V t) n j) (h3 : lwm (th X2 Y2 V2 t) n2 k) (h4 : lwm (th X2 Y2 V2 t) n2 l) (hc : (X j - X i) * (Y2 l - Y2 k) - (X2 l - X2 k) * (Y j - Y i) ≠ 0) : CS X Y V n X2 Y2 V2 n2 t := by
  refine ⟨ht, i, j, i, k, k, l, ⟨h1, h2, h1⟩, ⟨h3, h3, h4⟩, fun z => hc ?_⟩
  unfold tu at z
  grind
/-- three numbers in their order -/
theorem ord3 {P : Nat → Prop} {c : Nat → Nat → Nat → Int} (hs1 : ∀ i j k, c i j k = -c i k j) (hs2 : ∀ i j k, c i j k = c j k i) (hz : ∀ i j, c i i j = 0) {i j k : Nat} (h1 : P i) (h2 : P j) (h3 : P k) (hc : c i j k ≠ 0) : ∃ a b d, a < b ∧ b < d ∧ P a ∧ P b ∧ P d ∧ c a b d ≠ 0 := by
  have n1 : i ≠ j := fun e => hc (by rw [e]; exact hz _ _)
  have n2 : j ≠ k := fun e => hc (by rw [e, hs2]; exact hz _ _)
  have n3 : i ≠ k := fun e => hc (by rw [hs1, e, hz]; rfl)
  have a1 := hs1 i j k
  have a2 := hs2 i j k
  have a3 := hs2 j k i
  have a4 := hs2 i k j
  have a5 := hs2 k j i
  by_cases c1 : i < j
  · by_cases c2 : j < k
    · exact ⟨i, j, k, c1, c2, h1, h2, h3, hc⟩
    · by_cases c3 : i < k
      · exact ⟨i, k, j, c3, by omega, h1, h3, h2, by omega⟩
      · exact ⟨k, i, j, by omega, c1, h3, h1, h2, by omega⟩
  · by_cases c2 : i < k
    · exact ⟨j, i, k, by omega, c2, h2, h1, h3, by omega⟩
    · by_cases c3 : j < k
      · exact ⟨j, k, i, c3, by omega, h2, h3, h1, by omega⟩
      · exact ⟨k, j, i, by omega, by omega, h3, h2, h1, by omega⟩
theorem cs_find (h : CS X Y V n X2 Y2 V2 n2 t) : (∃ i j k, i < j ∧ j < k ∧ lwm (th X Y V t) n i ∧ lwm (th X Y V t) n j ∧ lwm (th X Y V t) n k ∧ (X j - X i) * (Y k - Y i) - (X k - X i) * (Y j - Y i) ≠ 0) ∨ (∃ i j k, i < j ∧ j < k ∧ lwm (th X2 Y2 V2 t) n2 i ∧ lwm (th X2 Y2 V2 t) n2 j ∧ lwm (th X2 Y2 V2 t) n2 k ∧ (X2 j - X2 i) * (Y2 k - Y2 i) - (X2 k - X2 i) * (Y2 j - Y2 i) ≠ 0) ∨ ∃ i j k l, i < j ∧ k < l ∧ lwm (th X Y V t) n i ∧ lwm (th X Y V t) n j ∧ lwm (th X2 Y2 V2 t) n2 k ∧ lwm (th X2 Y2 V2 t) n2 l ∧ (X j - X i) * (Y2 l - Y2 k) - (X2 l - X2 k) * (Y j - Y i) ≠ 0 := by
  obtain ⟨ht, i1, i2, i3, j1, j2, j3, ⟨a1, a2, a3⟩, ⟨b1, b2, b3⟩, hc⟩ := h
  have T : ∀ (U W : Nat → Int) (P : Nat → Prop) (i j k : Nat), P i → P j → P k → (U j - U i) * (W k - W i) - (U k - U i) * (W j - W i) ≠ 0 → ∃ a b d, a < b ∧ b < d ∧ P a ∧ P b ∧ P d ∧ (U b - U a) * (W d - W a) - (U d - U a) * (W b - W a) ≠ 0 := fun U W P i j k p1 p2 p3 p4 =>
    ord3 (P := P) (c := fun i j k => (U j - U i) * (W k - W i) - (U k - U i) * (W j - W i)) (fun i j k => by grind) (fun i j k => by grind) (fun i j => by grind) p1 p2 p3 p4
  have Q : ∀ (i j k l : Nat), lwm (th X Y V t) n i → lwm (th X Y V t) n j → lwm (th X2 Y2 V2 t) n2 k → lwm (th X2 Y2 V2 t) n2 l → (X j - X i) * (Y2 l - Y2 k) - (X2 l - X2 k) * (Y j - Y i) ≠ 0 → ∃ i j k l, i < j ∧ k < l ∧ lwm (th X Y V t) n i ∧ lwm (th X Y V t) n j ∧ lwm (th X2 Y2 V2 t) n2 k ∧ lwm (th X2 Y2 V2 t) n2 l ∧ (X j - X i) * (Y2 l - Y2 k) - (X2 l - X2 k) * (Y j - Y i) ≠ 0 := fun i j k l p1 p2 p3 p4 p5 => by
    have m1 : i ≠ j := fun e => p5 (by rw [e]; grind)
    have m2 : k ≠ l := fun e => p5 (by rw [e]; grind)
    by_cases c1 : i < j <;> by_cases c2 : k < l
    · exact ⟨i, j, k, l, c1, c2, p1, p2, p3, p4, p5⟩
    · exact ⟨i, j, l, k, c1, by omega, p1, p2, p4, p3, fun z => p5 (by grind)⟩
    · exact ⟨j, i, k, l, by omega, c2, p2, p1, p3, p4, fun z => p5 (by grind)⟩
    · exact ⟨j, i, l, k, by omega, by omega, p2, p1, p4, p3, fun z => p5 (by grind)⟩
  by_cases q1 : (X i2 - X i1) * (Y i3 - Y i1) - (X i3 - X i1) * (Y i2 - Y i1) = 0
  · by_cases q2 : (X2 j2 - X2 j1) * (Y2 j3 - Y2 j1) - (X2 j3 - X2 j1) * (Y2 j2 - Y2 j1) = 0
    · by_cases q3 : (X i2 - X i1) * (Y2 j3 - Y2 j1) - (X2 j3 - X2 j1) * (Y i2 - Y i1) = 0
      · by_cases q4 : (X i3 - X i1) * (Y2 j2 - Y2 j1) - (X2 j2 - X2 j1) * (Y i3 - Y i1) = 0
        · exfalso
          apply hc
          unfold tu
          have : (X i2 + X2 j2 - (X i1 + X2 j1)) * (Y i3 + Y2 j3 - (Y i1 + Y2 j1)) - (Y i2 + Y2 j2 - (Y i1 + Y2 j1)) * (X i3 + X2 j3 - (X i1 + X2 j1)) = ((X i2 - X i1) * (Y i3 - Y i1) - (X i3 - X i1) * (Y i2 - Y i1)) + ((X2 j2 - X2 j1) * (Y2 j3 - Y2 j1) - (X2 j3 - X2 j1) * (Y2 j2 - Y2 j1)) + ((X i2 - X i1) * (Y2 j3 - Y2 j1) - (X2 j3 - X2 j1) * (Y i2 - Y i1)) - ((X i3 - X i1) * (Y2 j2 - Y2 j1) - (X2 j2 - X2 j1) * (Y i3 - Y i1)) := by grind
          rw [this, q1, q2, q3, q4]; rfl
        · exact Or.inr (Or.inr (Q i1 i3 j1 j2 a1 a3 b1 b2 q4))
      · exact Or.inr (Or.inr (Q i1 i2 j1 j3 a1 a2 b1 b3 q3))
    · exact Or.inr (Or.inl (T X2 Y2 _ j1 j2 j3 b1 b2 b3 q2))
  · exact Or.inl (T X Y _ i1 i2 i3 a1 a2 a3 q1)
end CND
/-! fractions in lowest terms -/
def fU (u w : Int) : Int := u.tdiv (Nat.gcd u.natAbs w.natAbs : Int)
def fL (u w : Int) : Int := w.tdiv (Nat.gcd u.natAbs w.natAbs : Int)
theorem f_ok {u w : Int} (hw : 0 < w) : 0 < (Nat.gcd u.natAbs w.natAbs : Int) ∧ u = (Nat.gcd u.natAbs w.natAbs : Int) * fU u w ∧ w = (Nat.gcd u.natAbs w.natAbs : Int) * fL u w ∧ 0 < fL u w ∧ Nat.gcd (fU u w).natAbs (fL u w).natAbs = 1 := by
  have g0 : 0 < Nat.gcd u.natAbs w.natAbs := Nat.gcd_pos_of_pos_right _ (by omega)
  have d1 : (Nat.gcd u.natAbs w.natAbs : Int) ∣ u := Int.ofNat_dvd_left.mpr (Nat.gcd_dvd_left _ _)
  have d2 : (Nat.gcd u.natAbs w.natAbs : Int) ∣ w := Int.ofNat_dvd_left.mpr (Nat.gcd_dvd_right _ _)
  have e1 : u = (Nat.gcd u.natAbs w.natAbs : Int) * fU u w := (Int.mul_tdiv_cancel' d1).symm
  have e2 : w = (Nat.gcd u.natAbs w.natAbs : Int) * fL u w := (Int.mul_tdiv_cancel' d2).symm
  have p : 0 < fL u w := by
    by_cases q : 0 < fL u w
    · exact q
    · have := mn_l (show 0 < (Nat.gcd u.natAbs w.natAbs : Int) by omega) (show fL u w ≤ 0 by omega)
      omega
  refine ⟨by omega, e1, e2, p, ?_⟩
  have n1 : u.natAbs = Nat.gcd u.natAbs w.natAbs * (fU u w).natAbs := by
    have := congrArg Int.natAbs e1
    rw [Int.natAbs_mul, Int.natAbs_natCast] at this
    exact this
  have n2 : w.natAbs = Nat.gcd u.natAbs w.natAbs * (fL u w).natAbs := by
    have := congrArg Int.natAbs e2
    rw [Int.natAbs_mul, Int.natAbs_natCast] at this
    exact this
  have n3 : Nat.gcd u.natAbs w.natAbs = Nat.gcd u.natAbs w.natAbs * Nat.gcd (fU u w).natAbs (fL u w).natAbs := by
    rw [← Nat.gcd_mul_left, ← n1, ← n2]
  generalize Nat.gcd u.natAbs w.natAbs = g at *
  exact Nat.eq_of_mul_eq_mul_left g0 (by omega)
theorem f_same {u w u2 w2 : Int} (hw : 0 < w) (hw2 : 0 < w2) (e : u * w2 = u2 * w) : fU u w = fU u2 w2 ∧ fL u w = fL u2 w2 := by
  obtain ⟨g0, e1, e2, p, c⟩ := f_ok (u := u) hw
  obtain ⟨h0, f1, f2, q, d⟩ := f_ok (u := u2) hw2
  generalize (Nat.gcd u.natAbs w.natAbs : Int) = g at *
  generalize (Nat.gcd u2.natAbs w2.natAbs : Int) = k at *
  generalize fU u w = a at *
  generalize fL u w = b at *
  generalize fU u2 w2 = a2 at *
  generalize fL u2 w2 = b2 at *
  have m : a * b2 = a2 * b := by
    rw [e1, f2, f1, e2] at e
    have z : (g * k) * (a * b2 - a2 * b) = 0 := by
      have : (g * k) * (a * b2 - a2 * b) = g * a * (k * b2) - k * a2 * (g * b) := by grind
      rw [this, e]; omega
    rcases Int.mul_eq_zero.mp z with z | z
    · have := Int.mul_pos g0 h0; omega
    · omega
  have mN : a.natAbs * b2.natAbs = a2.natAbs * b.natAbs := by rw [← Int.natAbs_mul, ← Int.natAbs_mul, m]
  have k1 : b.natAbs ∣ b2.natAbs := by
    have cp : Nat.Coprime b.natAbs a.natAbs := by unfold Nat.Coprime; rw [Nat.gcd_comm]; exact c
    exact cp.dvd_of_dvd_mul_left (show b.natAbs ∣ a.natAbs * b2.natAbs by rw [mN]; exact Nat.dvd_mul_left _ _)
  have k2 : b2.natAbs ∣ b.natAbs := by
    have cp : Nat.Coprime b2.natAbs a2.natAbs := by unfold Nat.Coprime; rw [Nat.gcd_comm]; exact d
    exact cp.dvd_of_dvd_mul_left (show b2.natAbs ∣ a2.natAbs * b.natAbs by rw [← mN]; exact Nat.dvd_mul_left _ _)
  have k3 := Nat.dvd_antisymm k1 k2
  have eb : b = b2 := by omega
  subst eb
  refine ⟨?_, rfl⟩
  have z : b * (a - a2) = 0 := by
    have : b * (a - a2) = a * b - a2 * b := by grind
    omega
  rcases Int.mul_eq_zero.mp z with z | z <;> omega
/-- comparing fractions in lowest terms -/
theorem f_lt {u w u2 w2 : Int} (hw : 0 < w) (hw2 : 0 < w2) : (fU u w * fL u2 w2 < fU u2 w2 * fL u w ↔ u * w2 < u2 * w) ∧ (fU u w * fL u2 w2 = fU u2 w2 * fL u w ↔ u * w2 = u2 * w) := by
  obtain ⟨g0, e1, e2, p, c⟩ := f_ok (u := u) hw
  obtain ⟨h0, f1, f2, q, d⟩ := f_ok (u := u2) hw2
  generalize (Nat.gcd u.natAbs w.natAbs : Int) = g at *
  generalize (Nat.gcd u2.natAbs w2.natAbs : Int) = k at *
  generalize fU u w = a at *
  generalize fL u w = b at *
  generalize fU u2 w2 = a2 at *
  generalize fL u2 w2 = b2 at *
  have gk := Int.mul_pos g0 h0
  have id : u * w2 - u2 * w = (g * k) * (a * b2 - a2 * b) := by rw [e1, e2, f1, f2]; grind
  refine ⟨⟨fun z => ?_, fun z => ?_⟩, ⟨fun z => ?_, fun z => ?_⟩⟩
  · have := mn_n gk (show a * b2 - a2 * b < 0 by omega); omega
  · have := ps_n gk (show (g * k) * (a * b2 - a2 * b) < 0 by omega); omega
  · have : a * b2 - a2 * b = 0 := by omega
    rw [this, Int.mul_zero] at id; omega
  · have z2 : (g * k) * (a * b2 - a2 * b) = 0 := by omega
    rcases Int.mul_eq_zero.mp z2 with z3 | z3 <;> omega
