/-! The hull of a set of points of whole numbers from 0 to 84, by coordinates -/
def tu (x0 y0 x1 y1 x2 y2 : Int) : Int := (x1 - x0) * (y2 - y0) - (y1 - y0) * (x2 - x0)
def ky (x y : Int) : Int := x + 1000 * y
def rng (S : Int → Int → Prop) : Prop := ∀ x y, S x y → (0 ≤ x ∧ x ≤ 84) ∧ (0 ≤ y ∧ y ≤ 84)
def nxt (S : Int → Int → Prop) (x0 y0 x1 y1 : Int) : Prop := S x0 y0 ∧ S x1 y1 ∧ ky x0 y0 ≠ ky x1 y1 ∧ ∀ x y, S x y → 0 ≤ tu x0 y0 x1 y1 x y ∧ (tu x0 y0 x1 y1 x y = 0 → (ky x0 y0 ≤ ky x y ∧ ky x y ≤ ky x1 y1) ∨ (ky x1 y1 ≤ ky x y ∧ ky x y ≤ ky x0 y0))
def nxi (cn i : Nat) : Nat := if i + 1 < cn then i + 1 else 0
def hull (S : Int → Int → Prop) (cx cy : Nat → Int) (cn : Nat) : Prop :=
  (∀ x y, S x y → 0 < cn) ∧ (∀ e, e < cn → S (cx e) (cy e)) ∧ (∀ x y, S x y → ky (cx 0) (cy 0) ≤ ky x y) ∧ (cn = 1 → ∀ x y, S x y → x = cx 0 ∧ y = cy 0) ∧ (2 ≤ cn → ∀ e, e < cn → nxt S (cx e) (cy e) (cx (nxi cn e)) (cy (nxi cn e))) ∧ (∀ e, 0 < e → e < cn → ¬ (cx e = cx 0 ∧ cy e = cy 0))
theorem tu_sw (x0 y0 x1 y1 x2 y2 : Int) : tu x0 y0 x1 y1 x2 y2 = -tu x0 y0 x2 y2 x1 y1 := by unfold tu; grind
theorem nxt_uniq {S : Int → Int → Prop} (hr : rng S) {x0 y0 x1 y1 x2 y2 : Int} (h1 : nxt S x0 y0 x1 y1) (h2 : nxt S x0 y0 x2 y2) : x1 = x2 ∧ y1 = y2 := by
  obtain ⟨a1, a2, a3, a4⟩ := h1
  obtain ⟨b1, b2, b3, b4⟩ := h2
  have c1 := a4 x2 y2 b2
  have c2 := b4 x1 y1 a2
  have r0 := hr _ _ a1
  have r1 := hr _ _ a2
  have r2 := hr _ _ b2
  have sw := tu_sw x0 y0 x1 y1 x2 y2
  have z1 := c1.2 (by omega)
  have z2 := c2.2 (by omega)
  unfold ky at *
  omega
theorem hull_uniq {S : Int → Int → Prop} (hr : rng S) {cx cy dx dy : Nat → Int} {cn dn : Nat} (h1 : hull S cx cy cn) (h2 : hull S dx dy dn) : cn = dn ∧ ∀ e, e < cn → cx e = dx e ∧ cy e = dy e := by
  obtain ⟨a1, a2, a3, a4, a5, a6⟩ := h1
  obtain ⟨b1, b2, b3, b4, b5, b6⟩ := h2
  by_cases c0 : cn = 0
  · by_cases d0 : dn = 0
    · exact ⟨by omega, fun e he => by omega⟩
    · have := a1 _ _ (b2 0 (by omega)); omega
  have d0 : 0 < dn := b1 _ _ (a2 0 (by omega))
  have f0 : cx 0 = dx 0 ∧ cy 0 = dy 0 := by
    have q1 := a3 _ _ (b2 0 d0)
    have q2 := b3 _ _ (a2 0 (by omega))
    have r1 := hr _ _ (a2 0 (by omega))
    have r2 := hr _ _ (b2 0 d0)
    unfold ky at *
    omega
  by_cases c1 : cn = 1
  · have d1 : dn = 1 := by
      by_cases d1 : dn = 1
      · exact d1
      · have q := b5 (by omega) 0 d0
        have w1 := a4 c1 _ _ q.1
        have w2 := a4 c1 _ _ q.2.1
        have w3 := q.2.2.1
        rw [w1.1, w1.2, w2.1, w2.2] at w3
        exact absurd rfl w3
    exact ⟨by omega, fun e he => by rw [show e = 0 by omega]; exact f0⟩
  have d2 : 2 ≤ dn := by
    by_cases d1 : dn = 1
    · have q := a5 (by omega) 0 (by omega)
      have w1 := b4 d1 _ _ q.1
      have w2 := b4 d1 _ _ q.2.1
      have w3 := q.2.2.1
      rw [w1.1, w1.2, w2.1, w2.2] at w3
      exact absurd rfl w3
    · omega
  have main : ∀ e, e < cn → e < dn ∧ cx e = dx e ∧ cy e = dy e := by
    intro e
    induction e with
    | zero => intro _; exact ⟨d0, f0⟩
    | succ e ih =>
      intro he
      obtain ⟨g1, g2, g3⟩ := ih (by omega)
      have n1 := a5 (by omega) e (by omega)
      have n2 := b5 d2 e g1
      rw [← g2, ← g3] at n2
      have u := nxt_uniq hr n1 n2
      rw [show nxi cn e = e + 1 from if_pos he] at u
      by_cases q : e + 1 < dn
      · rw [show nxi dn e = e + 1 from if_pos q] at u
        exact ⟨q, u⟩
      · rw [show nxi dn e = 0 from if_neg q, ← f0.1, ← f0.2] at u
        exact absurd u (a6 (e + 1) (by omega) he)
  refine ⟨?_, fun e he => (main e he).2⟩
  have m1 := (main (cn - 1) (by omega)).1
  by_cases q : cn = dn
  · exact q
  · exfalso
    obtain ⟨g1, g2, g3⟩ := main (cn - 1) (by omega)
    have n1 := a5 (by omega) (cn - 1) (by omega)
    have n2 := b5 d2 (cn - 1) g1
    rw [← g2, ← g3] at n2
    have u := nxt_uniq hr n1 n2
    rw [show nxi cn (cn - 1) = 0 from if_neg (by omega), show nxi dn (cn - 1) = cn - 1 + 1 from if_pos (by omega)] at u
    rw [f0.1, f0.2] at u
    exact b6 (cn - 1 + 1) (by omega) (by omega) ⟨u.1.symm, u.2.symm⟩
/-! sorted points -/
def srt (px py : Nat → Int) (sz : Nat) : Prop := ∀ i j, i < j → j < sz → ky (px i) (py i) < ky (px j) (py j)
def pin (px py : Nat → Int) (sz : Nat) (x y : Int) : Prop := ∃ i, i < sz ∧ px i = x ∧ py i = y
theorem ins_ok {px py qx qy : Nat → Int} {sz at1 : Nat} {x y : Int} (hs : srt px py sz) (ha : at1 ≤ sz) (h1 : ∀ i, i < at1 → ky (px i) (py i) < ky x y) (h2 : ∀ i, at1 ≤ i → i < sz → ky x y < ky (px i) (py i)) (g1 : ∀ i, i < at1 → qx i = px i ∧ qy i = py i) (g2 : qx at1 = x ∧ qy at1 = y) (g3 : ∀ i, at1 < i → i ≤ sz → qx i = px (i - 1) ∧ qy i = py (i - 1)) : srt qx qy (sz + 1) ∧ ∀ u v, pin qx qy (sz + 1) u v ↔ pin px py sz u v ∨ (u = x ∧ v = y) := by
  constructor
  · intro i j hij hj
    by_cases c1 : j < at1
    · rw [(g1 i (by omega)).1, (g1 i (by omega)).2, (g1 j c1).1, (g1 j c1).2]; exact hs i j hij (by omega)
    by_cases c2 : j = at1
    · subst c2; rw [g2.1, g2.2, (g1 i hij).1, (g1 i hij).2]; exact h1 i hij
    rw [(g3 j (by omega) (by omega)).1, (g3 j (by omega) (by omega)).2]
    by_cases c3 : i < at1
    · rw [(g1 i c3).1, (g1 i c3).2]; exact hs i (j - 1) (by omega) (by omega)
    by_cases c4 : i = at1
    · subst c4; rw [g2.1, g2.2]; exact h2 (j - 1) (by omega) (by omega)
    rw [(g3 i (by omega) (by omega)).1, (g3 i (by omega) (by omega)).2]
    exact hs (i - 1) (j - 1) (by omega) (by omega)
  · intro u v
    constructor
    · rintro ⟨i, hi, e1, e2⟩
      by_cases c1 : i < at1
      · exact Or.inl ⟨i, by omega, by rw [← (g1 i c1).1]; exact e1, by rw [← (g1 i c1).2]; exact e2⟩
      by_cases c2 : i = at1
      · subst c2; exact Or.inr ⟨by rw [← e1]; exact g2.1, by rw [← e2]; exact g2.2⟩
      · exact Or.inl ⟨i - 1, by omega, by rw [← (g3 i (by omega) (by omega)).1]; exact e1, by rw [← (g3 i (by omega) (by omega)).2]; exact e2⟩
    · rintro (⟨i, hi, e1, e2⟩ | ⟨e1, e2⟩)
      · by_cases c1 : i < at1
        · exact ⟨i, by omega, by rw [(g1 i c1).1]; exact e1, by rw [(g1 i c1).2]; exact e2⟩
        · refine ⟨i + 1, by omega, ?_, ?_⟩
          · rw [(g3 (i + 1) (by omega) (by omega)).1]; exact e1
          · rw [(g3 (i + 1) (by omega) (by omega)).2]; exact e2
      · exact ⟨at1, by omega, by rw [g2.1]; exact e1.symm, by rw [g2.2]; exact e2.symm⟩
/-- a place for a key among sorted ones -/
theorem srt_place {px py : Nat → Int} {sz : Nat} (hs : srt px py sz) (K : Int) : ∃ at1, at1 ≤ sz ∧ (∀ i, i < at1 → ky (px i) (py i) ≤ K) ∧ (∀ i, at1 ≤ i → i < sz → K < ky (px i) (py i)) := by
  induction sz with
  | zero => exact ⟨0, by omega, fun i hi => by omega, fun i h1 h2 => by omega⟩
  | succ sz ih =>
    obtain ⟨k, a1, a2, a3⟩ := ih (fun i j h1 h2 => hs i j h1 (by omega))
    by_cases q : ky (px sz) (py sz) ≤ K
    · refine ⟨sz + 1, by omega, fun i hi => ?_, fun i h1 h2 => by omega⟩
      by_cases c : i = sz
      · subst c; exact q
      · have := hs i sz (by omega) (by omega); omega
    · refine ⟨k, by omega, a2, fun i h1 h2 => ?_⟩
      by_cases c : i = sz
      · subst c; omega
      · exact a3 i h1 (by omega)
theorem srt_exists (qx qy : Nat → Int) : ∀ m, (∀ i, i < m → (0 ≤ qx i ∧ qx i ≤ 84) ∧ (0 ≤ qy i ∧ qy i ≤ 84)) → ∃ px py sz, srt px py sz ∧ ∀ x y, pin px py sz x y ↔ pin qx qy m x y
  | 0, _ => ⟨qx, qy, 0, fun i j h1 h2 => by omega, fun x y => Iff.rfl⟩
  | m + 1, hr => by
    obtain ⟨px, py, sz, h1, h2⟩ := srt_exists qx qy m (fun i hi => hr i (by omega))
    have hm : ∀ x y, pin qx qy (m + 1) x y ↔ pin qx qy m x y ∨ (x = qx m ∧ y = qy m) := by
      intro x y
      constructor
      · rintro ⟨i, hi, e1, e2⟩
        by_cases c : i = m
        · subst c; exact Or.inr ⟨e1.symm, e2.symm⟩
        · exact Or.inl ⟨i, by omega, e1, e2⟩
      · rintro (⟨i, hi, e1, e2⟩ | ⟨e1, e2⟩)
        · exact ⟨i, by omega, e1, e2⟩
        · exact ⟨m, by omega, e1.symm, e2.symm⟩
    by_cases c : pin qx qy m (qx m) (qy m)
    · exact ⟨px, py, sz, h1, fun x y => by
        rw [hm, h2]
        constructor
        · exact Or.inl
        · rintro (q | ⟨rfl, rfl⟩)
          · exact q
          · exact c⟩
    · obtain ⟨k, a1, a2, a3⟩ := srt_place h1 (ky (qx m) (qy m))
      have hk : ∀ i, i < k → ky (px i) (py i) < ky (qx m) (qy m) := fun i hi => by
        have q1 := a2 i hi
        by_cases q : ky (px i) (py i) = ky (qx m) (qy m)
        · exfalso
          have q3 : pin qx qy m (px i) (py i) := (h2 _ _).mp ⟨i, by omega, rfl, rfl⟩
          obtain ⟨j, j1, j2, j3⟩ := q3
          have r1 := hr j (by omega)
          have r2 := hr m (by omega)
          rw [j2, j3] at r1
          unfold ky at q
          exact c ⟨j, j1, by omega, by omega⟩
        · omega
      have := ins_ok (qx := fun i => if i < k then px i else if i = k then qx m else px (i - 1)) (qy := fun i => if i < k then py i else if i = k then qy m else py (i - 1)) h1 a1 hk a3 (fun i hi => by simp [hi]) (by simp) (fun i h1 h2 => by simp [show ¬ i < k by omega, show ¬ i = k by omega])
      exact ⟨_, _, sz + 1, this.1, fun x y => by rw [this.2, hm, h2]⟩
theorem kp_ky (px py : Nat → Int) (i : Nat) : kp px py 1 1000 i = ky (px i) (py i) := by unfold kp ky; omega
/-- the corners by number give the hull -/
theorem hl_hull {px py : Nat → Int} {sz cn : Nat} {r : Nat → Nat} (hs : srt px py sz) (h : hl_ok px py sz r cn) : hull (pin px py sz) (fun e => px (r e)) (fun e => py (r e)) cn := by
  obtain ⟨a0, a1, a2⟩ := h
  have key0 : ∀ x y, pin px py sz x y → ky (px 0) (py 0) ≤ ky x y := by
    rintro x y ⟨i, hi, rfl, rfl⟩
    by_cases c : i = 0
    · subst c; omega
    · have := hs 0 i (by omega) hi; omega
  have pos : ∀ x y, pin px py sz x y → 0 < sz := by rintro x y ⟨i, hi, -⟩; omega
  by_cases c0 : sz = 0
  · have := a0 c0
    subst this
    exact ⟨fun x y q => by have := pos x y q; omega, fun e he => by omega, fun x y q => by have := pos x y q; omega, fun h => by omega, fun h => by omega, fun e h1 h2 => by omega⟩
  by_cases c1 : sz = 1
  · obtain ⟨rfl, e0⟩ := a1 c1
    refine ⟨fun x y q => by omega, fun e he => ?_, fun x y q => ?_, fun _ x y q => ?_, fun h => by omega, fun e h1 h2 => by omega⟩
    · rw [show e = 0 by omega]; exact ⟨r 0, by omega, rfl, rfl⟩
    · show ky (px (r 0)) (py (r 0)) ≤ _; rw [e0]; exact key0 x y q
    · obtain ⟨i, hi, rfl, rfl⟩ := q
      show px i = px (r 0) ∧ py i = py (r 0)
      rw [show i = 0 by omega, e0]
      exact ⟨rfl, rfl⟩
  obtain ⟨b1, b2, b3, b4⟩ := a2 (by omega)
  refine ⟨fun x y q => by omega, fun e he => ⟨r e, (b3 e he).1, rfl, rfl⟩, fun x y q => ?_, fun h => by omega, fun _ e he => ?_, fun e h1 h2 q => ?_⟩
  · show ky (px (r 0)) (py (r 0)) ≤ _; rw [b2]; exact key0 x y q
  · have := b3 e he
    have e9 : (if e + 1 < cn then r (e + 1) else r 0) = r (nxi cn e) := by unfold nxi; split <;> rfl
    rw [e9] at this
    obtain ⟨q1, q2, q3, q4⟩ := this
    refine ⟨⟨_, q1, rfl, rfl⟩, ⟨_, q2, rfl, rfl⟩, by rw [kp_ky, kp_ky] at q3; exact q3, ?_⟩
    rintro x y ⟨i, hi, rfl, rfl⟩
    have := q4 i hi
    simp only [kp_ky] at this
    exact this
  · have r1 := (b3 e h2).1
    have := b4 e h1 h2
    have r1' : r e < sz := r1
    have := hs 0 (r e) (by omega) r1'
    have q' : px (r e) = px (r 0) ∧ py (r e) = py (r 0) := q
    rw [b2] at q'
    rw [q'.1, q'.2] at this
    omega
theorem hull_exists (qx qy : Nat → Int) (m : Nat) (hr : ∀ i, i < m → (0 ≤ qx i ∧ qx i ≤ 84) ∧ (0 ≤ qy i ∧ qy i ≤ 84)) : ∃ q : Nat × (Nat → Int) × (Nat → Int), hull (pin qx qy m) q.2.1 q.2.2 q.1 := by
  obtain ⟨px, py, sz, h1, h2⟩ := srt_exists qx qy m hr
  obtain ⟨r, cn, h3⟩ := hl_exists (px := px) (py := py) sz (fun i j a b => by rw [kp_ky, kp_ky]; exact h1 i j a b)
  have e : pin px py sz = pin qx qy m := by funext x y; exact propext (h2 x y)
  exact ⟨(cn, _, _), e ▸ hl_hull h1 h3⟩
/-- the corners of S: how many, and where -/
noncomputable def hC (S : Int → Int → Prop) : Nat × (Nat → Int) × (Nat → Int) := Classical.epsilon (fun q => hull S q.2.1 q.2.2 q.1)
def arS (cx cy : Nat → Int) (cn : Nat) : Nat → Int
  | 0 => 0
  | i + 1 => arS cx cy cn i + (cx i * cy (nxi cn i) - cx (nxi cn i) * cy i)
noncomputable def hA (S : Int → Int → Prop) : Int := arS (hC S).2.1 (hC S).2.2 (hC S).1 (hC S).1
theorem hC_is {S : Int → Int → Prop} (hr : rng S) {cx cy : Nat → Int} {cn : Nat} (h : hull S cx cy cn) : cn = (hC S).1 ∧ ∀ e, e < cn → cx e = (hC S).2.1 e ∧ cy e = (hC S).2.2 e :=
  hull_uniq hr h (Classical.epsilon_spec (p := fun q : Nat × (Nat → Int) × (Nat → Int) => hull S q.2.1 q.2.2 q.1) ⟨(cn, cx, cy), h⟩)
theorem arS_congr {cx cy dx dy : Nat → Int} {cn : Nat} (h : ∀ e, e < cn → cx e = dx e ∧ cy e = dy e) : ∀ i, i ≤ cn → arS cx cy cn i = arS dx dy cn i
  | 0, _ => rfl
  | i + 1, hi => by
    have hn : nxi cn i < cn := by unfold nxi; split <;> omega
    rw [arS, arS, arS_congr h i (by omega), (h i (by omega)).1, (h i (by omega)).2, (h _ hn).1, (h _ hn).2]
theorem hA_is {S : Int → Int → Prop} (hr : rng S) {cx cy : Nat → Int} {cn : Nat} (h : hull S cx cy cn) : arS cx cy cn cn = hA S := by
  obtain ⟨e, g⟩ := hC_is hr h
  unfold hA
  rw [← e]
  exact arS_congr g cn (Nat.le_refl _)
theorem hull_congr {S S2 : Int → Int → Prop} (h : ∀ x y, S x y ↔ S2 x y) : S = S2 := by funext x y; exact propext (h x y)
