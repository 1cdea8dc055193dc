/-! at most 93 cells -/
theorem ex_min (P : Nat → Prop) (f : Nat → Int) : ∀ N, (∃ s, s < N ∧ P s) → ∃ a, a < N ∧ P a ∧ ∀ s, s < N → P s → f a ≤ f s
  | 0, h => by obtain ⟨s, h1, _⟩ := h; omega
  | N + 1, h => by
    by_cases q : ∃ s, s < N ∧ P s
    · obtain ⟨a, a1, a2, a3⟩ := ex_min P f N q
      by_cases q2 : P N ∧ f N < f a
      · exact ⟨N, by omega, q2.1, fun s h1 h2 => by
          by_cases c : s = N
          · subst c; exact Int.le_refl _
          · have := a3 s (by omega) h2; have := q2.2; omega⟩
      · exact ⟨a, by omega, a2, fun s h1 h2 => by
          by_cases c : s = N
          · subst c
            by_cases c2 : f s < f a
            · exact absurd ⟨h2, c2⟩ q2
            · omega
          · exact a3 s (by omega) h2⟩
    · obtain ⟨s, h1, h2⟩ := h
      have e : s = N := by
        by_cases c : s = N
        · exact c
        · exact absurd ⟨s, by omega, h2⟩ q
      subst e
      exact ⟨s, by omega, h2, fun s' h3 h4 => by
        by_cases c : s' = s
        · subst c; exact Int.le_refl _
        · exact absurd ⟨s', by omega, h4⟩ q⟩
section BD
variable {px py pw : Nat → Int} {vs : Nat → Prop}
/-- 25 y + x: another for each point -/
def l25 (px py : Nat → Int) (s : Nat) : Int := px s + 25 * py s
def hs (px py pw : Nat → Int) (t : Tr) (s : Nat) : Int := t.2.2 * pw s + t.1 * px s + t.2.1 * py s
def lsp (px py pw : Nat → Int) (vs : Nat → Prop) (t : Tr) (s : Nat) : Prop := s < 49 ∧ vs s ∧ ∀ r, r < 49 → vs r → hs px py pw t s ≤ hs px py pw t r
abbrev tp (px py : Nat → Int) (a c s : Nat) : Int := tu (px a) (py a) (px c) (py c) (px s) (py s)
theorem id_line (a c s1 s2 s3 : Nat) : (l25 px py c - l25 px py a) * tp px py s1 s2 s3 = (l25 px py s2 - l25 px py s1) * (tp px py a c s3 - tp px py a c s1) - (tp px py a c s2 - tp px py a c s1) * (l25 px py s3 - l25 px py s1) := by unfold l25 tp tu; grind
theorem id_aff (al be ga : Int) (a b c : Nat) : (l25 px py c - l25 px py b) * (al * px a + be * py a + ga) + (l25 px py b - l25 px py a) * (al * px c + be * py c + ga) = (l25 px py c - l25 px py a) * (al * px b + be * py b + ga) + tp px py a c b * (25 * al - be) := by unfold l25 tp tu; grind
/-- a cell's middle corner, and on which side its far line lies -/
def mid (px py pw : Nat → Int) (vs : Nat → Prop) (t : Tr) (a b c : Nat) : Prop := lsp px py pw vs t a ∧ lsp px py pw vs t b ∧ lsp px py pw vs t c ∧ l25 px py a < l25 px py b ∧ l25 px py b < l25 px py c ∧ tp px py a c b ≠ 0
theorem mid_ex (hr : ∀ s, s < 49 → vs s → 0 ≤ px s ∧ px s ≤ 24) {t : Tr} {s1 s2 s3 : Nat} (h1 : lsp px py pw vs t s1) (h2 : lsp px py pw vs t s2) (h3 : lsp px py pw vs t s3) (hn : tp px py s1 s2 s3 ≠ 0) : ∃ a b c, mid px py pw vs t a b c := by
  obtain ⟨a, a1, a2, a3⟩ := ex_min (lsp px py pw vs t) (l25 px py) 49 ⟨s1, h1.1, h1⟩
  obtain ⟨c, c1, c2, c3⟩ := ex_min (lsp px py pw vs t) (fun s => -l25 px py s) 49 ⟨s1, h1.1, h1⟩
  have loc : ∀ s r, lsp px py pw vs t s → lsp px py pw vs t r → l25 px py s = l25 px py r → px s = px r ∧ py s = py r := fun s r q1 q2 e => by
    have r1 := hr s q1.1 q1.2.1
    have r2 := hr r q2.1 q2.2.1
    unfold l25 at e
    omega
  have key : ¬ (tp px py a c s1 = 0 ∧ tp px py a c s2 = 0 ∧ tp px py a c s3 = 0) := fun ⟨z1, z2, z3⟩ => by
    have i := id_line (px := px) (py := py) a c s1 s2 s3
    rw [z1, z2, z3, Int.sub_self, Int.mul_zero, Int.zero_mul, Int.sub_self] at i
    rcases Int.mul_eq_zero.mp i with i | i
    · have e1 := a3 s1 h1.1 h1
      have e2 := a3 s2 h2.1 h2
      have e3 := a3 s3 h3.1 h3
      have f1 := c3 s1 h1.1 h1
      have f2 := c3 s2 h2.1 h2
      have f3 := c3 s3 h3.1 h3
      have g1 := loc s1 s2 h1 h2 (by omega)
      apply hn
      unfold tp tu
      rw [g1.1, g1.2]
      grind
    · exact hn i
  have ex : ∃ b, lsp px py pw vs t b ∧ tp px py a c b ≠ 0 := by
    by_cases z1 : tp px py a c s1 = 0
    · by_cases z2 : tp px py a c s2 = 0
      · by_cases z3 : tp px py a c s3 = 0
        · exact absurd ⟨z1, z2, z3⟩ key
        · exact ⟨s3, h3, z3⟩
      · exact ⟨s2, h2, z2⟩
    · exact ⟨s1, h1, z1⟩
  obtain ⟨b, b1, b2⟩ := ex
  have e1 := a3 b b1.1 b1
  have e2 := c3 b b1.1 b1
  refine ⟨a, b, c, a2, b1, c2, ?_, ?_, b2⟩
  · by_cases q : l25 px py a = l25 px py b
    · have g := loc a b a2 b1 q
      exact absurd (by unfold tp tu; rw [g.1, g.2]; grind) b2
    · omega
  · by_cases q : l25 px py b = l25 px py c
    · have g := loc b c b1 c2 q
      exact absurd (by unfold tp tu; rw [g.1, g.2]; grind) b2
    · omega
/-- two slopes with one middle corner and one side are one -/
theorem mid_inj {t r : Tr} (ht : 0 < t.2.2) (hr : 0 < r.2.2) {a b c a2 c2 : Nat} (h1 : mid px py pw vs t a b c) (h2 : mid px py pw vs r a2 b c2) (hsd : 0 < tp px py a c b ↔ 0 < tp px py a2 c2 b) : teq t r := by
  obtain ⟨la, lb, lc, k1, k2, nz⟩ := h1
  obtain ⟨la2, lb2, lc2, k3, k4, nz2⟩ := h2
  -- the difference of both heights, each times the other's w: an affine function that is 0 at b
  generalize hal : r.2.2 * t.1 - t.2.2 * r.1 = al
  generalize hbe : r.2.2 * t.2.1 - t.2.2 * r.2.1 = be
  generalize hga : -(r.2.2 * hs px py pw t b - t.2.2 * hs px py pw r b) = ga
  have E : ∀ s, al * px s + be * py s + ga = r.2.2 * (hs px py pw t s - hs px py pw t b) - t.2.2 * (hs px py pw r s - hs px py pw r b) := fun s => by
    rw [← hal, ← hbe, ← hga]; unfold hs; grind
  have Eb : al * px b + be * py b + ga = 0 := by rw [E b, Int.sub_self, Int.sub_self, Int.mul_zero, Int.mul_zero, Int.sub_self]
  have low : ∀ s, lsp px py pw vs t s → al * px s + be * py s + ga ≤ 0 := fun s q => by
    have e1 : hs px py pw t s - hs px py pw t b = 0 := by have := q.2.2 b lb.1 lb.2.1; have := lb.2.2 s q.1 q.2.1; omega
    have e2 := Int.mul_nonneg (Int.le_of_lt ht) (show 0 ≤ hs px py pw r s - hs px py pw r b by have := lb2.2.2 s q.1 q.2.1; omega)
    rw [E s, e1, Int.mul_zero]; omega
  have hig : ∀ s, lsp px py pw vs r s → 0 ≤ al * px s + be * py s + ga := fun s q => by
    have e1 : hs px py pw r s - hs px py pw r b = 0 := by have := q.2.2 b lb2.1 lb2.2.1; have := lb2.2.2 s q.1 q.2.1; omega
    have e2 := Int.mul_nonneg (Int.le_of_lt hr) (show 0 ≤ hs px py pw t s - hs px py pw t b by have := lb.2.2 s q.1 q.2.1; omega)
    rw [E s, e1, Int.mul_zero]; omega
  have i1 := id_aff (px := px) (py := py) al be ga a b c
  have i2 := id_aff (px := px) (py := py) al be ga a2 b c2
  rw [Eb, Int.mul_zero, Int.zero_add] at i1 i2
  have m1 := mn_l (show 0 < l25 px py c - l25 px py b by omega) (low a la)
  have m2 := mn_l (show 0 < l25 px py b - l25 px py a by omega) (low c lc)
  have m3 := Int.mul_nonneg (show 0 ≤ l25 px py c2 - l25 px py b by omega) (hig a2 la2)
  have m4 := Int.mul_nonneg (show 0 ≤ l25 px py b - l25 px py a2 by omega) (hig c2 lc2)
  have d0 : 25 * al - be = 0 := by
    have w1 : tp px py a c b * (25 * al - be) ≤ 0 := by omega
    have w2 : 0 ≤ tp px py a2 c2 b * (25 * al - be) := by omega
    by_cases q : 0 < tp px py a c b
    · have q2 := hsd.mp q
      have := ps_l q w1
      have := ps_r q2 w2
      omega
    · have q2 : tp px py a2 c2 b < 0 := by
        by_cases q3 : 0 < tp px py a2 c2 b
        · exact absurd (hsd.mpr q3) q
        · omega
      have := ps_r (a := -tp px py a c b) (t := 25 * al - be) (by omega) (by rw [Int.neg_mul]; omega)
      have := ps_l (a := -tp px py a2 c2 b) (t := 25 * al - be) (by omega) (by rw [Int.neg_mul]; omega)
      omega
  rw [d0, Int.mul_zero] at i1
  have ea : al * px a + be * py a + ga = 0 := by
    have : (l25 px py c - l25 px py b) * (al * px a + be * py a + ga) = 0 := by omega
    rcases Int.mul_eq_zero.mp this with z | z
    · omega
    · exact z
  have ec : al * px c + be * py c + ga = 0 := by
    have : (l25 px py b - l25 px py a) * (al * px c + be * py c + ga) = 0 := by omega
    rcases Int.mul_eq_zero.mp this with z | z
    · omega
    · exact z
  have z1 : tp px py a c b * al = 0 := by
    have : tp px py a c b * al = (py b - py a) * ((al * px c + be * py c + ga) - (al * px a + be * py a + ga)) - (py c - py a) * ((al * px b + be * py b + ga) - (al * px a + be * py a + ga)) := by unfold tp tu; grind
    rw [this, ea, ec, Eb]; simp
  have z2 : al = 0 := by
    rcases Int.mul_eq_zero.mp z1 with z | z
    · exact absurd z nz
    · exact z
  have z3 : be = 0 := by omega
  have c1 := Int.mul_comm t.2.2 r.1
  have c2 := Int.mul_comm r.2.2 t.1
  have c3 := Int.mul_comm t.2.2 r.2.1
  have c4 := Int.mul_comm r.2.2 t.2.1
  exact ⟨by omega, by omega⟩
theorem bound93 (hr : ∀ s, s < 49 → vs s → 0 ≤ px s ∧ px s ≤ 24) {τ : Nat → Tr} {m : Nat} (hp : ∀ i, i < m → 0 < (τ i).2.2) (hc : ∀ i, i < m → ∃ s1 s2 s3, lsp px py pw vs (τ i) s1 ∧ lsp px py pw vs (τ i) s2 ∧ lsp px py pw vs (τ i) s3 ∧ tp px py s1 s2 s3 ≠ 0) (hd : ∀ i j, i < m → j < m → teq (τ i) (τ j) → i = j) : m ≤ 93 := by
  by_cases m0 : m = 0
  · omega
  have hm : ∀ i, i < m → ∃ q : Nat × Nat × Nat, mid px py pw vs (τ i) q.1 q.2.1 q.2.2 := fun i hi => by
    obtain ⟨s1, s2, s3, h1, h2, h3, h4⟩ := hc i hi
    obtain ⟨a, b, c, h⟩ := mid_ex hr h1 h2 h3 h4
    exact ⟨(a, b, c), h⟩
  have w : ∀ i : Nat, ∃ q : Nat × Nat × Nat, i < m → mid px py pw vs (τ i) q.1 q.2.1 q.2.2 := fun i => by
    by_cases q : i < m
    · obtain ⟨x, hx⟩ := hm i q; exact ⟨x, fun _ => hx⟩
    · exact ⟨(0, 0, 0), fun z => absurd z q⟩
  -- the ends of all
  obtain ⟨q0, hq0⟩ := hm 0 (by omega)
  have v0 : ∃ s, s < 49 ∧ vs s := ⟨q0.1, hq0.1.1, hq0.1.2.1⟩
  obtain ⟨mn, n1, n2, n3⟩ := ex_min vs (l25 px py) 49 v0
  obtain ⟨mx, x1, x2, x3⟩ := ex_min vs (fun s => -l25 px py s) 49 v0
  have lmm : l25 px py mn < l25 px py mx := by
    have b1 := n3 q0.1 hq0.1.1 hq0.1.2.1
    have b2 := x3 q0.2.2 hq0.2.2.1.1 hq0.2.2.1.2.1
    have b3 := hq0.2.2.2.1
    have b4 := hq0.2.2.2.2.1
    omega
  -- the code of a cell
  let cd : Nat → Nat := fun i => 2 * (Classical.choose (w i)).2.1 + (if 0 < tp px py (Classical.choose (w i)).1 (Classical.choose (w i)).2.2 (Classical.choose (w i)).2.1 then 1 else 0)
  have cdE : ∀ i, cd i = 2 * (Classical.choose (w i)).2.1 + (if 0 < tp px py (Classical.choose (w i)).1 (Classical.choose (w i)).2.2 (Classical.choose (w i)).2.1 then 1 else 0) := fun i => rfl
  have cdlt : ∀ i, i < m → cd i < 98 := fun i hi => by
    have := (Classical.choose_spec (w i) hi).2.1.1
    rw [cdE]; split <;> omega
  have cdinj : ∀ i j, i < m → j < m → cd i = cd j → i = j := fun i j hi hj e => by
    have a := Classical.choose_spec (w i) hi
    have b := Classical.choose_spec (w j) hj
    rw [cdE, cdE] at e
    generalize Classical.choose (w i) = x at *
    generalize Classical.choose (w j) = y at *
    have e1 : x.2.1 = y.2.1 := by
      split at e <;> split at e <;> omega
    rw [← e1] at b e
    refine hd i j hi hj (mid_inj (hp i hi) (hp j hj) a b ?_)
    by_cases q1 : 0 < tp px py x.1 x.2.2 x.2.1 <;> by_cases q2 : 0 < tp px py y.1 y.2.2 x.2.1
    · exact ⟨fun _ => q2, fun _ => q1⟩
    · rw [if_pos q1, if_neg q2] at e; omega
    · rw [if_neg q1, if_pos q2] at e; omega
    · exact ⟨fun z => absurd z q1, fun z => absurd z q2⟩
  have cdmn : ∀ i, i < m → (Classical.choose (w i)).2.1 ≠ mn ∧ (Classical.choose (w i)).2.1 ≠ mx := fun i hi => by
    have a := Classical.choose_spec (w i) hi
    generalize Classical.choose (w i) = x at *
    have b1 := n3 x.1 a.1.1 a.1.2.1
    have b2 := x3 x.2.2 a.2.2.1.1 a.2.2.1.2.1
    have b3 := a.2.2.2.1
    have b4 := a.2.2.2.2.1
    exact ⟨fun e => by rw [e] at b3; omega, fun e => by rw [e] at b4; omega⟩
  -- one more code that none has
  have out : ∃ o, o < 98 ∧ o / 2 ≠ mn ∧ o / 2 ≠ mx ∧ ∀ i, i < m → cd i ≠ o := by
    -- G: to which side of the line of both ends
    have G : ∀ (sg : Int) (p : Nat), (sg = 1 ∨ sg = -1) → p < 49 → vs p → 0 < sg * tp px py mn mx p → (∀ s, s < 49 → vs s → sg * tp px py mn mx s ≤ sg * tp px py mn mx p) → ∀ i, i < m → (Classical.choose (w i)).2.1 = p → 0 < sg * tp px py (Classical.choose (w i)).1 (Classical.choose (w i)).2.2 p := by
      intro sg p hsg p1 p2 p3 p4 i hi e
      have a := Classical.choose_spec (w i) hi
      generalize Classical.choose (w i) = x at *
      obtain ⟨xa, xb, xc⟩ := x
      dsimp only at *
      subst e
      obtain ⟨la, lb, lc, k1, k2, nz⟩ := a
      have i1 := id_aff (px := px) (py := py) (-(py mx - py mn)) (px mx - px mn) (-((px mx - px mn) * py mn) + (py mx - py mn) * px mn) xa xb xc
      have T : ∀ s, -(py mx - py mn) * px s + (px mx - px mn) * py s + (-((px mx - px mn) * py mn) + (py mx - py mn) * px mn) = tp px py mn mx s := fun s => by unfold tp tu; grind
      rw [T xa, T xb, T xc] at i1
      have dl : 25 * -(py mx - py mn) - (px mx - px mn) = -(l25 px py mx - l25 px py mn) := by unfold l25; omega
      rw [dl] at i1
      have g1 := p4 xa la.1 la.2.1
      have g2 := p4 xc lc.1 lc.2.1
      have m1 := mn_l (show 0 < l25 px py xc - l25 px py xb by omega) (show sg * tp px py mn mx xa - sg * tp px py mn mx xb ≤ 0 by omega)
      have m2 := mn_l (show 0 < l25 px py xb - l25 px py xa by omega) (show sg * tp px py mn mx xc - sg * tp px py mn mx xb ≤ 0 by omega)
      have sm : (l25 px py mx - l25 px py mn) * (sg * tp px py xa xc xb) = -((l25 px py xc - l25 px py xb) * (sg * tp px py mn mx xa - sg * tp px py mn mx xb) + (l25 px py xb - l25 px py xa) * (sg * tp px py mn mx xc - sg * tp px py mn mx xb)) := by
        have : sg * ((l25 px py xc - l25 px py xb) * tp px py mn mx xa + (l25 px py xb - l25 px py xa) * tp px py mn mx xc) = sg * ((l25 px py xc - l25 px py xa) * tp px py mn mx xb + tp px py xa xc xb * -(l25 px py mx - l25 px py mn)) := by rw [i1]
        grind
      have nn := ps_r (a := l25 px py mx - l25 px py mn) (t := sg * tp px py xa xc xb) (by omega) (by omega)
      have n0 : sg * tp px py xa xc xb ≠ 0 := fun z => by
        rcases Int.mul_eq_zero.mp z with z | z
        · omega
        · exact nz z
      omega
    have nzx : ∃ s, s < 49 ∧ vs s ∧ tp px py mn mx s ≠ 0 := by
      by_cases q : ∃ s, s < 49 ∧ vs s ∧ tp px py mn mx s ≠ 0
      · exact q
      · exfalso
        have z : ∀ s, s < 49 → vs s → tp px py mn mx s = 0 := fun s h1 h2 => by
          by_cases c : tp px py mn mx s = 0
          · exact c
          · exact absurd ⟨s, h1, h2, c⟩ q
        have i := id_line (px := px) (py := py) mn mx q0.1 q0.2.2 q0.2.1
        rw [z _ hq0.1.1 hq0.1.2.1, z _ hq0.2.1.1 hq0.2.1.2.1, z _ hq0.2.2.1.1 hq0.2.2.1.2.1, Int.sub_self, Int.mul_zero, Int.zero_mul, Int.sub_self] at i
        rcases Int.mul_eq_zero.mp i with i | i
        · omega
        · exact hq0.2.2.2.2.2 i
    have fin : ∀ sg : Int, (sg = 1 ∨ sg = -1) → (∃ s, s < 49 ∧ vs s ∧ 0 < sg * tp px py mn mx s) → ∃ o, o < 98 ∧ o / 2 ≠ mn ∧ o / 2 ≠ mx ∧ ∀ i, i < m → cd i ≠ o := by
      intro sg hsg ⟨s, s1, s2, s3⟩
      obtain ⟨p, p1, p2, p3⟩ := ex_min vs (fun s => -(sg * tp px py mn mx s)) 49 ⟨s, s1, s2⟩
      have p4 : 0 < sg * tp px py mn mx p := by have := p3 s s1 s2; omega
      have pn : p ≠ mn := fun e => by subst e; apply absurd p4; unfold tp tu; grind
      have px' : p ≠ mx := fun e => by subst e; apply absurd p4; unfold tp tu; grind
      refine ⟨2 * p + (if sg = 1 then 0 else 1), by split <;> omega, by split <;> omega, by split <;> omega, fun i hi e => ?_⟩
      have g := G sg p hsg p1 p2 p4 (fun s h1 h2 => by have := p3 s h1 h2; omega) i hi
      rw [cdE] at e
      have eb : (Classical.choose (w i)).2.1 = p := by split at e <;> split at e <;> omega
      have g2 := g eb
      rw [eb] at e
      rcases hsg with rfl | rfl
      · rw [Int.one_mul] at g2
        rw [if_pos g2, if_pos rfl] at e
        omega
      · rw [Int.neg_mul, Int.one_mul] at g2
        rw [if_neg (by omega), if_neg (by decide)] at e
        omega
    obtain ⟨s, s1, s2, s3⟩ := nzx
    by_cases q : 0 < tp px py mn mx s
    · exact fin 1 (Or.inl rfl) ⟨s, s1, s2, by omega⟩
    · exact fin (-1) (Or.inr rfl) ⟨s, s1, s2, by omega⟩
  obtain ⟨o, o1, o2, o3, o4⟩ := out
  have hne : mn ≠ mx := fun e => by rw [e] at lmm; omega
  have cd2 : ∀ i, i < m → cd i / 2 ≠ mn ∧ cd i / 2 ≠ mx := fun i hi => by
    have := cdmn i hi
    have e : cd i / 2 = (Classical.choose (w i)).2.1 := by rw [cdE]; split <;> omega
    rw [e]; exact this
  have P := pigeon 98 (m + 5) (fun i => if i < m then cd i else if i = m then 2 * mn else if i = m + 1 then 2 * mn + 1 else if i = m + 2 then 2 * mx else if i = m + 3 then 2 * mx + 1 else o) (fun i hi => by
    show (if i < m then cd i else if i = m then 2 * mn else if i = m + 1 then 2 * mn + 1 else if i = m + 2 then 2 * mx else if i = m + 3 then 2 * mx + 1 else o) < 98
    split
    · exact cdlt i (by assumption)
    · split
      · omega
      · split
        · omega
        · split
          · omega
          · split
            · omega
            · exact o1) (fun i j hi hj e => by
    have V : ∀ k, k < m + 5 → (k < m ∧ (if k < m then cd k else if k = m then 2 * mn else if k = m + 1 then 2 * mn + 1 else if k = m + 2 then 2 * mx else if k = m + 3 then 2 * mx + 1 else o) = cd k) ∨ (k = m ∧ (if k < m then cd k else if k = m then 2 * mn else if k = m + 1 then 2 * mn + 1 else if k = m + 2 then 2 * mx else if k = m + 3 then 2 * mx + 1 else o) = 2 * mn) ∨ (k = m + 1 ∧ (if k < m then cd k else if k = m then 2 * mn else if k = m + 1 then 2 * mn + 1 else if k = m + 2 then 2 * mx else if k = m + 3 then 2 * mx + 1 else o) = 2 * mn + 1) ∨ (k = m + 2 ∧ (if k < m then cd k else if k = m then 2 * mn else if k = m + 1 then 2 * mn + 1 else if k = m + 2 then 2 * mx else if k = m + 3 then 2 * mx + 1 else o) = 2 * mx) ∨ (k = m + 3 ∧ (if k < m then cd k else if k = m then 2 * mn else if k = m + 1 then 2 * mn + 1 else if k = m + 2 then 2 * mx else if k = m + 3 then 2 * mx + 1 else o) = 2 * mx + 1) ∨ (k = m + 4 ∧ (if k < m then cd k else if k = m then 2 * mn else if k = m + 1 then 2 * mn + 1 else if k = m + 2 then 2 * mx else if k = m + 3 then 2 * mx + 1 else o) = o) := fun k hk => by
      by_cases c0 : k < m
      · exact Or.inl ⟨c0, if_pos c0⟩
      rw [if_neg c0]
      by_cases c1 : k = m
      · exact Or.inr (Or.inl ⟨c1, if_pos c1⟩)
      rw [if_neg c1]
      by_cases c2 : k = m + 1
      · exact Or.inr (Or.inr (Or.inl ⟨c2, if_pos c2⟩))
      rw [if_neg c2]
      by_cases c3 : k = m + 2
      · exact Or.inr (Or.inr (Or.inr (Or.inl ⟨c3, if_pos c3⟩)))
      rw [if_neg c3]
      by_cases c4 : k = m + 3
      · exact Or.inr (Or.inr (Or.inr (Or.inr (Or.inl ⟨c4, if_pos c4⟩))))
      rw [if_neg c4]
      exact Or.inr (Or.inr (Or.inr (Or.inr (Or.inr ⟨by omega, rfl⟩))))
    have e' := e
    rcases V i hi with ⟨c1, d1⟩ | ⟨c1, d1⟩ | ⟨c1, d1⟩ | ⟨c1, d1⟩ | ⟨c1, d1⟩ | ⟨c1, d1⟩ <;> rcases V j hj with ⟨c2, d2⟩ | ⟨c2, d2⟩ | ⟨c2, d2⟩ | ⟨c2, d2⟩ | ⟨c2, d2⟩ | ⟨c2, d2⟩ <;> rw [d1, d2] at e'
    · exact cdinj i j c1 c2 e'
    · have := cd2 i c1; omega
    · have := cd2 i c1; omega
    · have := cd2 i c1; omega
    · have := cd2 i c1; omega
    · exact absurd e' (o4 i c1)
    · have := cd2 j c2; omega
    · omega
    · omega
    · omega
    · omega
    · omega
    · have := cd2 j c2; omega
    · omega
    · omega
    · omega
    · omega
    · omega
    · have := cd2 j c2; omega
    · omega
    · omega
    · omega
    · omega
    · omega
    · have := cd2 j c2; omega
    · omega
    · omega
    · omega
    · omega
    · omega
    · exact absurd e'.symm (o4 j c2)
    · omega
    · omega
    · omega
    · omega
    · omega)
  omega
end BD
