/-! Pick -/
theorem idt (x1 y1 x2 y2 xa ya xb yb x y : Int) : tu x1 y1 x2 y2 x y * (ky xb yb - ky xa ya) = tu x1 y1 x2 y2 xa ya * (ky xb yb - ky x y) + tu x1 y1 x2 y2 xb yb * (ky x y - ky xa ya) + (ky x2 y2 - ky x1 y1) * tu xa ya xb yb x y := by unfold tu ky; grind
theorem cone_id (xp yp xi yi xn yn x y : Int) : tu xi yi xn yn xp yp * (ky x y - ky xi yi) = (ky xn yn - ky xi yi) * tu xp yp xi yi x y + (ky xp yp - ky xi yi) * tu xi yi xn yn x y := by unfold tu ky; grind
section PK
variable {S : Int → Int → Prop} {cx cy : Nat → Int} {cn : Nat}
theorem pk_pos (H : hull S cx cy cn) (h2 : 2 ≤ cn) {e f : Nat} (he : e < cn) (hf : f < cn) : 0 ≤ eg cx cy cn e (cx f) (cy f) := ((H.2.2.2.2.1 h2 e he).2.2.2 _ _ (H.2.1 f hf)).1
theorem pk_ne (H : hull S cx cy cn) (h2 : 2 ≤ cn) {e : Nat} (he : e < cn) : ky (cx e) (cy e) ≠ ky (cx (nxi cn e)) (cy (nxi cn e)) := (H.2.2.2.2.1 h2 e he).2.2.1
theorem pk_corn (hr : rng S) (H : hull S cx cy cn) (h2 : 2 ≤ cn) {e f : Nat} (he : e < cn) (hf : f < cn) (h0 : eg cx cy cn e (cx f) (cy f) = 0) : f = e ∨ f = nxi cn e := by
  have hn := nxi_lt (cn := cn) he
  have hi := hull_inj hr H
  by_cases q1 : f = e
  · exact Or.inl q1
  by_cases q2 : f = nxi cn e
  · exact Or.inr q2
  exfalso
  obtain ⟨α, β, hp⟩ := half_all hr H h2 f hf
  have r0 := hr _ _ (H.2.1 f hf)
  have r1 := hr _ _ (H.2.1 e he)
  have r2 := hr _ _ (H.2.1 _ hn)
  have p1 := hp _ _ (H.2.1 e he) (fun z => q1 (hi e f he hf z.1 z.2).symm)
  have p2 := hp _ _ (H.2.1 _ hn) (fun z => q2 (hi _ f hn hf z.1 z.2).symm)
  have hb := ((H.2.2.2.2.1 h2 e he).2.2.2 _ _ (H.2.1 f hf)).2 h0
  have k1 : ky (cx e) (cy e) ≠ ky (cx f) (cy f) := fun z => by have := ky_ne r1.1 r0.1 z; exact q1 (hi e f he hf this.1 this.2).symm
  have k2 : ky (cx (nxi cn e)) (cy (nxi cn e)) ≠ ky (cx f) (cy f) := fun z => by have := ky_ne r2.1 r0.1 z; exact q2 (hi _ f hn hf this.1 this.2).symm
  have p := par_id α β 1 1000 (cx e - cx f) (cy e - cy f) (cx (nxi cn e) - cx f) (cy (nxi cn e) - cy f)
  have z : (cx e - cx f) * (cy (nxi cn e) - cy f) - (cy e - cy f) * (cx (nxi cn e) - cx f) = 0 := by unfold eg tu at h0; grind
  rw [z, Int.mul_zero] at p
  unfold ky at hb k1 k2
  generalize α * (cx e - cx f) + β * (cy e - cy f) = A at *
  generalize α * (cx (nxi cn e) - cx f) + β * (cy (nxi cn e) - cy f) = C at *
  obtain ⟨U, eU⟩ : ∃ U, U = 1 * (cx e - cx f) + 1000 * (cy e - cy f) := ⟨_, rfl⟩
  obtain ⟨W, eW⟩ : ∃ U, U = 1 * (cx (nxi cn e) - cx f) + 1000 * (cy (nxi cn e) - cy f) := ⟨_, rfl⟩
  rw [← eU, ← eW, Int.mul_comm U C, Int.mul_comm W A] at p
  rcases hb with hb | hb
  · have a1 := mn_n (t := U) p2 (by omega)
    have a2 := Int.mul_pos p1 (show 0 < W by omega)
    omega
  · have a1 := mn_n (t := W) p1 (by omega)
    have a2 := Int.mul_pos p2 (show 0 < U by omega)
    omega
theorem pk_cone (hr : rng S) (H : hull S cx cy cn) (h3 : 3 ≤ cn) {p i : Nat} (hp : p < cn) (hi : i < cn) (e : nxi cn p = i) {x y : Int} (h1 : 0 ≤ eg cx cy cn p x y) (h2 : 0 ≤ eg cx cy cn i x y) : ((ky (cx i) (cy i) ≤ ky (cx p) (cy p) ∧ ky (cx i) (cy i) ≤ ky (cx (nxi cn i)) (cy (nxi cn i))) → ky (cx i) (cy i) ≤ ky x y) ∧ ((ky (cx p) (cy p) ≤ ky (cx i) (cy i) ∧ ky (cx (nxi cn i)) (cy (nxi cn i)) ≤ ky (cx i) (cy i)) → ky x y ≤ ky (cx i) (cy i)) := by
  have hc : 0 < eg cx cy cn i (cx p) (cy p) := by
    have a := pk_pos H (by omega) hi hp
    have b : eg cx cy cn i (cx p) (cy p) ≠ 0 := fun z => by
      rcases pk_corn hr H (by omega) hi hp z with q | q
      · unfold nxi at e; split at e <;> omega
      · unfold nxi at e q; split at e <;> split at q <;> omega
    omega
  have id := cone_id (cx p) (cy p) (cx i) (cy i) (cx (nxi cn i)) (cy (nxi cn i)) x y
  have h1 : 0 ≤ tu (cx p) (cy p) (cx i) (cy i) x y := by unfold eg at h1; rw [e] at h1; exact h1
  unfold eg at h2 hc
  constructor
  · intro q
    have a1 := Int.mul_nonneg (show 0 ≤ ky (cx (nxi cn i)) (cy (nxi cn i)) - ky (cx i) (cy i) by omega) h1
    have a2 := Int.mul_nonneg (show 0 ≤ ky (cx p) (cy p) - ky (cx i) (cy i) by omega) h2
    have := ps_ge (t := ky x y - ky (cx i) (cy i)) hc (by omega)
    omega
  · intro q
    have a1 := Int.mul_nonneg (show 0 ≤ -(ky (cx (nxi cn i)) (cy (nxi cn i)) - ky (cx i) (cy i)) by omega) h1
    have a2 := Int.mul_nonneg (show 0 ≤ -(ky (cx p) (cy p) - ky (cx i) (cy i)) by omega) h2
    rw [Int.neg_mul] at a1 a2
    have := ps_l (t := ky x y - ky (cx i) (cy i)) hc (by omega)
    omega
theorem pk_uni (hr : rng S) (H : hull S cx cy cn) (h2 : 2 ≤ cn) : ∃ t, 0 < t ∧ t < cn ∧ (∀ e, e < t → ky (cx e) (cy e) < ky (cx (e + 1)) (cy (e + 1))) ∧ (∀ e, t ≤ e → e < cn → ky (cx (nxi cn e)) (cy (nxi cn e)) < ky (cx e) (cy e)) := by
  have hi := hull_inj hr H
  have k0 : ∀ e, e < cn → ky (cx 0) (cy 0) ≤ ky (cx e) (cy e) := fun e he => H.2.2.1 _ _ (H.2.1 e he)
  have nx : ∀ e, e + 1 < cn → nxi cn e = e + 1 := fun e he => if_pos he
  have step : ∀ e, e + 1 < cn → ky (cx (nxi cn e)) (cy (nxi cn e)) < ky (cx e) (cy e) → ky (cx (nxi cn (e + 1))) (cy (nxi cn (e + 1))) < ky (cx (e + 1)) (cy (e + 1)) := fun e he hd => by
    rw [nx e he] at hd
    have hne := pk_ne H h2 he
    by_cases q : ky (cx (nxi cn (e + 1))) (cy (nxi cn (e + 1))) < ky (cx (e + 1)) (cy (e + 1))
    · exact q
    · exfalso
      by_cases c2 : cn = 2
      · have : e = 0 := by omega
        subst this
        have := k0 (0 + 1) (by omega)
        omega
      · have c := (pk_cone hr H (by omega) (p := e) (i := e + 1) (by omega) he (nx e he) (pk_pos H h2 (show e < cn by omega) (show 0 < cn by omega)) (pk_pos H h2 he (show 0 < cn by omega))).1 ⟨by omega, by omega⟩
        have c2 := k0 (e + 1) he
        have := ky_ne (hr _ _ (H.2.1 (e + 1) he)).1 (hr _ _ (H.2.1 0 (by omega))).1 (show ky (cx (e + 1)) (cy (e + 1)) = ky (cx 0) (cy 0) by omega)
        have := hi (e + 1) 0 he (by omega) this.1 this.2
        omega
  have find : ∀ m, m ≤ cn → (∃ t, t < m ∧ ky (cx (nxi cn t)) (cy (nxi cn t)) < ky (cx t) (cy t) ∧ ∀ e, e < t → ¬ ky (cx (nxi cn e)) (cy (nxi cn e)) < ky (cx e) (cy e)) ∨ (∀ e, e < m → ¬ ky (cx (nxi cn e)) (cy (nxi cn e)) < ky (cx e) (cy e)) := fun m => by
    induction m with
    | zero => intro _; exact Or.inr (fun e he => by omega)
    | succ m ih =>
      intro hm
      rcases ih (by omega) with ⟨t, a1, a2, a3⟩ | a
      · exact Or.inl ⟨t, by omega, a2, a3⟩
      · by_cases q : ky (cx (nxi cn m)) (cy (nxi cn m)) < ky (cx m) (cy m)
        · exact Or.inl ⟨m, by omega, q, a⟩
        · refine Or.inr (fun e he => ?_)
          by_cases z : e = m
          · subst z; exact q
          · exact a e (by omega)
  rcases find cn (Nat.le_refl _) with ⟨t, a1, a2, a3⟩ | a
  · refine ⟨t, ?_, a1, fun e he => ?_, fun e => ?_⟩
    · rcases Nat.eq_zero_or_pos t with z | z
      · subst z
        rw [nx 0 (by omega)] at a2
        have := k0 (0 + 1) (by omega)
        omega
      · exact z
    · have b1 := a3 e he
      have b2 := pk_ne H h2 (show e < cn by omega)
      rw [nx e (by omega)] at b1 b2
      omega
    · induction e with
      | zero => intro h1 h2; have z : t = 0 := by omega
                subst z; exact a2
      | succ e ih =>
        intro h1 h2
        by_cases z : t = e + 1
        · subst z; exact a2
        · exact step e h2 (ih (by omega) (by omega))
  · exfalso
    have b1 := a (cn - 1) (by omega)
    have b2 := pk_ne H h2 (show cn - 1 < cn by omega)
    have b3 := k0 (cn - 1) (by omega)
    have : nxi cn (cn - 1) = 0 := if_neg (by omega)
    rw [this] at b1 b2
    omega
theorem mono_find {g : Nat → Int} : ∀ t : Nat, (∀ e, e < t → g e < g (e + 1)) → ∀ v, g 0 ≤ v → v < g t → ∃ e, e < t ∧ g e ≤ v ∧ v < g (e + 1) ∧ ∀ f, f < t → f ≠ e → ¬ (g f ≤ v ∧ v < g (f + 1))
  | 0, _, v, h1, h2 => by omega
  | t + 1, h, v, h1, h2 => by
    by_cases c : v < g t
    · obtain ⟨e, a1, a2, a3, a4⟩ := mono_find t (fun e he => h e (by omega)) v h1 c
      refine ⟨e, by omega, a2, a3, fun f hf hne => ?_⟩
      by_cases z : f = t
      · subst z; omega
      · exact a4 f (by omega) hne
    · refine ⟨t, by omega, by omega, h2, fun f hf hne q => ?_⟩
      have : ∀ d, f + 1 + d ≤ t → g (f + 1) ≤ g (f + 1 + d) := fun d => by
        induction d with
        | zero => intro _; exact Int.le_refl _
        | succ d ih => intro hd; have := ih (by omega); have := h (f + 1 + d) (by omega); rw [show f + 1 + (d + 1) = f + 1 + d + 1 by omega]; omega
      have := this (t - (f + 1)) (by omega)
      rw [show f + 1 + (t - (f + 1)) = t by omega] at this
      omega
theorem gsm_two {f : Nat → Int} {i j n : Nat} (hi : i < n) (hj : j < n) (hij : i ≠ j) (h : ∀ k, k < n → k ≠ i → k ≠ j → f k = 0) : gsm f n = f i + f j := by
  have e : gsm f n = gsm (fun k => (if k = i then f k else 0) + (if k = i then 0 else f k)) n := gsm_cg n (fun k _ => by split <;> omega)
  rw [e, gsm_add, gsm_one (i := i) n (fun k _ hk => if_neg hk), if_pos hi, if_pos rfl, gsm_one (i := j) n (fun k hk hkj => by
    by_cases z : k = i
    · rw [if_pos z]
    · rw [if_neg z]; exact h k hk z hkj), if_pos hj, if_neg (fun z => hij z.symm)]

def inn (cx cy : Nat → Int) (cn t : Nat) (x y : Int) : Prop := (∀ e, e < cn → 0 ≤ eg cx cy cn e x y) ∧ ky (cx 0) (cy 0) ≤ ky x y ∧ ky x y ≤ ky (cx t) (cy t)
theorem pk_sum (hr : rng S) (H : hull S cx cy cn) (h2 : 2 ≤ cn) {t : Nat} (ht0 : 0 < t) (ht : t < cn) (hu : ∀ e, e < t → ky (cx e) (cy e) < ky (cx (e + 1)) (cy (e + 1))) (hd : ∀ e, t ≤ e → e < cn → ky (cx (nxi cn e)) (cy (nxi cn e)) < ky (cx e) (cy e)) {x y : Int} (hx : 0 ≤ x ∧ x ≤ 84) : gsm (fun e => wt (cx e) (cy e) (cx (nxi cn e)) (cy (nxi cn e)) x y) cn + (if x = cx t ∧ y = cy t then 1 else 0) = cif (inn cx cy cn t x y) 1 0 := by
  have nx : ∀ e, e + 1 < cn → nxi cn e = e + 1 := fun e he => if_pos he
  have k0 : ∀ e, e < cn → ky (cx 0) (cy 0) ≤ ky (cx e) (cy e) := fun e he => H.2.2.1 _ _ (H.2.1 e he)
  have up : ∀ d e, e + d = t → ky (cx e) (cy e) ≤ ky (cx t) (cy t) := fun d => by
    induction d with
    | zero => intro e he; rw [show e = t by omega]; exact Int.le_refl _
    | succ d ih => intro e he; have := ih (e + 1) (by omega); have := hu e (by omega); omega
  have dn : ∀ d, t + d < cn → ky (cx (t + d)) (cy (t + d)) ≤ ky (cx t) (cy t) := fun d => by
    induction d with
    | zero => intro _; exact Int.le_refl _
    | succ d ih =>
      intro hc
      have a1 := ih (by omega)
      have a2 := hd (t + d) (by omega) (by omega)
      rw [nx (t + d) (by omega)] at a2
      rw [show t + (d + 1) = t + d + 1 by omega]; omega
  have kt : ∀ e, e < cn → ky (cx e) (cy e) ≤ ky (cx t) (cy t) := fun e he => by
    by_cases q : e ≤ t
    · exact up (t - e) e (by omega)
    · have := dn (e - t) (by omega)
      rw [show t + (e - t) = e by omega] at this; exact this
  by_cases c : ky (cx 0) (cy 0) ≤ ky x y ∧ ky x y < ky (cx t) (cy t)
  · obtain ⟨i, i1, i2, i3, i4⟩ := mono_find (g := fun e => ky (cx e) (cy e)) t hu (ky x y) c.1 c.2
    obtain ⟨j0, j1, j2, j3, j4⟩ := mono_find (g := fun e => if e = 0 then ky (cx 0) (cy 0) else ky (cx (cn - e)) (cy (cn - e))) (cn - t) (fun e he => by
      have a := hd (cn - (e + 1)) (by omega) (by omega)
      rw [if_neg (show ¬ e + 1 = 0 by omega)]
      by_cases z : e = 0
      · subst z
        rw [show nxi cn (cn - (0 + 1)) = 0 from if_neg (by omega)] at a
        rw [if_pos rfl]; exact a
      · rw [nx (cn - (e + 1)) (by omega), show cn - (e + 1) + 1 = cn - e by omega] at a
        rw [if_neg z]; exact a) (ky x y) (by rw [if_pos rfl]; exact c.1) (by rw [if_neg (by omega), show cn - (cn - t) = t by omega]; exact c.2)
    have nj : ∀ e, e < cn - t → nxi cn (cn - (e + 1)) = if e = 0 then 0 else cn - e := fun e he => by
      unfold nxi
      by_cases z : e = 0
      · rw [if_pos z, if_neg (by omega)]
      · rw [if_neg z, if_pos (by omega)]; omega
    have gj : ∀ e, e < cn - t → (if e = 0 then ky (cx 0) (cy 0) else ky (cx (cn - e)) (cy (cn - e))) = ky (cx (nxi cn (cn - (e + 1)))) (cy (nxi cn (cn - (e + 1)))) := fun e he => by
      rw [nj e he]; split <;> rfl
    rw [gj j0 j1] at j2
    rw [if_neg (by omega)] at j3
    obtain ⟨j, ej⟩ : ∃ j, j = cn - (j0 + 1) := ⟨_, rfl⟩
    rw [← ej] at j2 j3
    have hjt : t ≤ j ∧ j < cn := by omega
    have hdj := hd j hjt.1 hjt.2
    have hui := hu i i1
    have ni := nx i (by omega)
    rw [gsm_two (i := i) (j := j) (by omega) hjt.2 (by omega) (fun e he e1 e2 => by
      unfold wt
      by_cases z : e < t
      · have a := hu e z
        rw [nx e (by omega), if_pos a, if_neg (fun q => i4 e z e1 ⟨q.1, q.2.1⟩)]
      · have a := hd e (by omega) he
        rw [if_neg (by omega)]
        have b := j4 (cn - (e + 1)) (by omega) (by omega)
        rw [gj _ (by omega), if_neg (by omega), show cn - (cn - (e + 1) + 1) = e by omega] at b
        rw [if_neg (fun q => b ⟨q.1, q.2.1⟩)])]
    have w1 : wt (cx i) (cy i) (cx (nxi cn i)) (cy (nxi cn i)) x y = if 0 ≤ eg cx cy cn i x y then 1 else 0 := by
      unfold wt eg; rw [ni, if_pos hui]
      by_cases z : 0 ≤ tu (cx i) (cy i) (cx (i + 1)) (cy (i + 1)) x y
      · rw [if_pos ⟨i2, i3, z⟩, if_pos z]
      · rw [if_neg (fun q => z q.2.2), if_neg z]
    have w2 : wt (cx j) (cy j) (cx (nxi cn j)) (cy (nxi cn j)) x y = if eg cx cy cn j x y < 0 then -1 else 0 := by
      unfold wt eg; rw [if_neg (by omega)]
      by_cases z : tu (cx j) (cy j) (cx (nxi cn j)) (cy (nxi cn j)) x y < 0
      · rw [if_pos ⟨j2, j3, z⟩, if_pos z]
      · rw [if_neg (fun q => z q.2.2), if_neg z]
    rw [w1, w2, if_neg (show ¬ (x = cx t ∧ y = cy t) from fun z => by rw [z.1, z.2] at c; omega)]
    have ida := fun g => idt (cx g) (cy g) (cx (nxi cn g)) (cy (nxi cn g)) (cx i) (cy i) (cx (i + 1)) (cy (i + 1)) x y
    have idb := fun g => idt (cx g) (cy g) (cx (nxi cn g)) (cy (nxi cn g)) (cx (nxi cn j)) (cy (nxi cn j)) (cx j) (cy j) x y
    have eI : eg cx cy cn i x y = tu (cx i) (cy i) (cx (i + 1)) (cy (i + 1)) x y := by unfold eg; rw [ni]
    have eJ : tu (cx (nxi cn j)) (cy (nxi cn j)) (cx j) (cy j) x y = -eg cx cy cn j x y := by unfold eg tu; grind
    have ha : ∀ g, g < cn → 0 ≤ tu (cx g) (cy g) (cx (nxi cn g)) (cy (nxi cn g)) (cx i) (cy i) * (ky (cx (i + 1)) (cy (i + 1)) - ky x y) ∧ 0 ≤ tu (cx g) (cy g) (cx (nxi cn g)) (cy (nxi cn g)) (cx (i + 1)) (cy (i + 1)) * (ky x y - ky (cx i) (cy i)) := fun g hg => ⟨Int.mul_nonneg (pk_pos H h2 hg (by omega)) (by omega), Int.mul_nonneg (pk_pos H h2 hg (by omega)) (by omega)⟩
    have hb : ∀ g, g < cn → 0 ≤ tu (cx g) (cy g) (cx (nxi cn g)) (cy (nxi cn g)) (cx (nxi cn j)) (cy (nxi cn j)) * (ky (cx j) (cy j) - ky x y) ∧ 0 ≤ tu (cx g) (cy g) (cx (nxi cn g)) (cy (nxi cn g)) (cx j) (cy j) * (ky x y - ky (cx (nxi cn j)) (cy (nxi cn j))) := fun g hg => ⟨Int.mul_nonneg (pk_pos H h2 hg (nxi_lt hjt.2)) (by omega), Int.mul_nonneg (pk_pos H h2 hg hjt.2) (by omega)⟩
    by_cases T1 : 0 ≤ eg cx cy cn i x y
    · rw [if_pos T1]
      by_cases T2 : eg cx cy cn j x y < 0
      · rw [if_pos T2, cif_n (fun z => by have := z.1 j hjt.2; omega)]; rfl
      · have hin : ∀ g, g < cn → 0 ≤ eg cx cy cn g x y := fun g hg => by
         by_cases z : ky (cx g) (cy g) ≤ ky (cx (nxi cn g)) (cy (nxi cn g))
         · have a := ida g
           have b := ha g hg
           rw [← eI] at a
           have m := Int.mul_nonneg (show 0 ≤ ky (cx (nxi cn g)) (cy (nxi cn g)) - ky (cx g) (cy g) by omega) T1
           exact ps_ge (a := ky (cx (i + 1)) (cy (i + 1)) - ky (cx i) (cy i)) (by omega) (by rw [Int.mul_comm]; unfold eg; omega)
         · have a := idb g
           have b := hb g hg
           rw [eJ] at a
           have m := Int.mul_nonneg (show 0 ≤ -(ky (cx (nxi cn g)) (cy (nxi cn g)) - ky (cx g) (cy g)) by omega) (show 0 ≤ eg cx cy cn j x y by omega)
           rw [Int.neg_mul, ← Int.mul_neg] at m
           exact ps_ge (a := ky (cx j) (cy j) - ky (cx (nxi cn j)) (cy (nxi cn j))) (by omega) (by rw [Int.mul_comm]; unfold eg; omega)
        rw [if_neg T2, cif_p (show inn cx cy cn t x y from ⟨hin, c.1, by omega⟩)]; rfl
    · have a := ida j
      have b := ha j hjt.2
      rw [← eI] at a
      have m := Int.mul_pos (show 0 < -(ky (cx (nxi cn j)) (cy (nxi cn j)) - ky (cx j) (cy j)) by omega) (show 0 < -eg cx cy cn i x y by omega)
      rw [Int.neg_mul_neg] at m
      have T2 : 0 < eg cx cy cn j x y := ps_gt (a := ky (cx (i + 1)) (cy (i + 1)) - ky (cx i) (cy i)) (by omega) (by rw [Int.mul_comm]; have a2 : eg cx cy cn j x y * (ky (cx (i + 1)) (cy (i + 1)) - ky (cx i) (cy i)) = _ := a; omega)
      rw [if_neg T1, if_neg (by omega), cif_n (fun z => T1 (z.1 i (by omega)))]; rfl
  · rw [(gsm_cg cn (fun e he => ?_)).trans (gsm_zero cn)]
    · by_cases q : x = cx t ∧ y = cy t
      · rw [if_pos q, q.1, q.2, cif_p ⟨fun e he => pk_pos H h2 he ht, k0 t ht, Int.le_refl _⟩]; rfl
      · rw [if_neg q, cif_n (fun z => q (ky_ne hx (hr _ _ (H.2.1 t ht)).1 (by have := z.2; omega)))]; rfl
    · have a1 := k0 e he
      have a2 := kt e he
      have a3 := k0 _ (nxi_lt he)
      have a4 := kt _ (nxi_lt he)
      unfold wt
      split
      · rw [if_neg (by omega)]
      · rw [if_neg (by omega)]
end PK
