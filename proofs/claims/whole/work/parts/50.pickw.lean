theorem gg_cg {f g : Int → Int → Int} (h : ∀ x y : Nat, x < 13 → y < 13 → f x y = g x y) : gg f = gg g := gsm_cg 13 (fun x hx => gsm_cg 13 (fun y hy => h x y hx hy))
theorem gg_add (f g : Int → Int → Int) : gg (fun x y => f x y + g x y) = gg f + gg g := by
  unfold gg
  rw [← gsm_add]
  exact gsm_cg 13 (fun x _ => gsm_add _ _ 13)
theorem gg_zero : gg (fun _ _ => 0) = 0 := by
  unfold gg
  exact (gsm_cg 13 (fun x _ => gsm_zero 13)).trans (gsm_zero 13)
theorem gg_gsm (F : Nat → Int → Int → Int) : ∀ n, gg (fun x y => gsm (fun e => F e x y) n) = gsm (fun e => gg (F e)) n
  | 0 => gg_zero
  | n + 1 => by
    rw [gsm, ← gg_gsm F n, ← gg_add]
    rfl
theorem gg_pt {a b : Int} (ha : 0 ≤ a ∧ a ≤ 12) (hb : 0 ≤ b ∧ b ≤ 12) : gg (fun x y => if x = a ∧ y = b then 1 else 0) = 1 := by
  unfold gg
  have e : ∀ x : Nat, x < 13 → gsm (fun y => if (x : Int) = a ∧ (y : Int) = b then (1 : Int) else 0) 13 = if (x : Int) = a then 1 else 0 := fun x hx => by
    by_cases c : (x : Int) = a
    · rw [if_pos c, gsm_one (i := b.toNat) 13 (fun k _ hk => if_neg (by omega)), if_pos (by omega), if_pos ⟨c, by omega⟩]
    · rw [if_neg c]
      exact (gsm_cg 13 (fun y _ => if_neg (fun z => c z.1))).trans (gsm_zero 13)
  rw [gsm_cg 13 e, gsm_one (i := a.toNat) 13 (fun k _ hk => if_neg (by omega)), if_pos (by omega), if_pos (by omega)]
theorem tel {cn : Nat} (h : Nat → Int) : ∀ j, j ≤ cn → 0 < cn → gsm (fun e => h (nxi cn e) - h e) j = if j < cn then h j - h 0 else 0
  | 0, _, h0 => by rw [if_pos h0]; show (0 : Int) = _; omega
  | j + 1, hj, h0 => by
    rw [gsm, tel h j (by omega) h0, if_pos (by omega)]
    unfold nxi
    by_cases c : j + 1 < cn
    · rw [if_pos c, if_pos c]; omega
    · rw [if_neg c, if_neg c]; omega
section PW
variable {S : Int → Int → Prop} {cx cy : Nat → Int} {cn : Nat}
theorem pick_w (hr : rng S) (h12 : ∀ x y, S x y → (0 ≤ x ∧ x ≤ 12) ∧ (0 ≤ y ∧ y ≤ 12)) (H : hull S cx cy cn) (h2 : 2 ≤ cn) {t : Nat} (ht0 : 0 < t) (ht : t < cn) (hu : ∀ e, e < t → ky (cx e) (cy e) < ky (cx (e + 1)) (cy (e + 1))) (hd : ∀ e, t ≤ e → e < cn → ky (cx (nxi cn e)) (cy (nxi cn e)) < ky (cx e) (cy e)) : 2 * gg (fun x y => cif (inn cx cy cn t x y) 1 0) = arS cx cy cn cn + (stS cx cy cn cn : Int) + 2 := by
  have hc := fun e (he : e < cn) => h12 _ _ (H.2.1 e he)
  rw [gg_cg (g := fun x y => gsm (fun e => wt (cx e) (cy e) (cx (nxi cn e)) (cy (nxi cn e)) x y) cn + (if x = cx t ∧ y = cy t then 1 else 0)) (fun x y hx hy => (pk_sum hr H h2 ht0 ht hu hd (by omega)).symm), gg_add, gg_pt (hc t ht).1 (hc t ht).2, gg_gsm (fun e x y => wt (cx e) (cy e) (cx (nxi cn e)) (cy (nxi cn e)) x y)]
  have key : ∀ j, j ≤ cn → 2 * gsm (fun e => gg (fun x y => wt (cx e) (cy e) (cx (nxi cn e)) (cy (nxi cn e)) x y)) j = arS cx cy cn j + (stS cx cy cn j : Int) + gsm (fun e => (cx (nxi cn e) * cy (nxi cn e) + cx (nxi cn e) + cy (nxi cn e)) - (cx e * cy e + cx e + cy e)) j := fun j => by
    induction j with
    | zero => intro _; rfl
    | succ j ih =>
      intro hj
      have a := ih (by omega)
      have b := wt_edge (hc j (by omega)) (hc _ (nxi_lt (show j < cn by omega))) (fun z => pk_ne H h2 (show j < cn by omega) (by rw [← z.1, ← z.2]))
      rw [gsm, gsm, arS, stS, Int.mul_add, a, b]
      push_cast
      grind
  have k := key cn (Nat.le_refl _)
  rw [tel (fun e => cx e * cy e + cx e + cy e) cn (Nat.le_refl _) (by omega), if_neg (Nat.lt_irrefl _)] at k
  omega
/-- on the line of an edge: between its ends -/
theorem pk_on (H : hull S cx cy cn) (h2 : 2 ≤ cn) {e : Nat} (he : e < cn) {x y : Int} (h0 : eg cx cy cn e x y = 0) : al cx cy cn e x y ≤ 0 ↔ ((ky (cx e) (cy e) ≤ ky x y ∧ ky x y ≤ ky (cx (nxi cn e)) (cy (nxi cn e))) ∨ (ky (cx (nxi cn e)) (cy (nxi cn e)) ≤ ky x y ∧ ky x y ≤ ky (cx e) (cy e))) := by
  have hne := pk_ne H h2 he
  generalize hx1 : cx e = x1 at *
  generalize hy1 : cy e = y1 at *
  generalize hx2 : cx (nxi cn e) = x2 at *
  generalize hy2 : cy (nxi cn e) = y2 at *
  unfold eg tu at h0
  unfold al
  rw [hx1, hy1, hx2, hy2] at h0
  rw [hx1, hy1, hx2, hy2]
  -- k d = d k
  obtain ⟨k, ek⟩ : ∃ k, k = ky x2 y2 - ky x1 y1 := ⟨_, rfl⟩
  obtain ⟨u, eu⟩ : ∃ k, k = ky x y - ky x1 y1 := ⟨_, rfl⟩
  obtain ⟨v, ev⟩ : ∃ k, k = ky x y - ky x2 y2 := ⟨_, rfl⟩
  have id : ((x - x1) * (x - x2) + (y - y1) * (y - y2)) * (k * k) = ((x2 - x1) * (x2 - x1) + (y2 - y1) * (y2 - y1)) * (u * v) := by
    have a1 : (x - x1) * k = (x2 - x1) * u := by rw [ek, eu]; unfold ky; grind
    have a2 : (y - y1) * k = (y2 - y1) * u := by rw [ek, eu]; unfold ky; grind
    have a3 : (x - x2) * k = (x2 - x1) * v := by rw [ek, ev]; unfold ky; grind
    have a4 : (y - y2) * k = (y2 - y1) * v := by rw [ek, ev]; unfold ky; grind
    have b1 : (x - x1) * k * ((x - x2) * k) = (x2 - x1) * u * ((x2 - x1) * v) := by rw [a1, a3]
    have b2 : (y - y1) * k * ((y - y2) * k) = (y2 - y1) * u * ((y2 - y1) * v) := by rw [a2, a4]
    grind
  have hk : 0 < k * k := by
    have := mul_self_nonneg' k
    by_cases z : k * k = 0
    · rcases Int.mul_eq_zero.mp z with q | q <;> omega
    · omega
  have hN : 0 < (x2 - x1) * (x2 - x1) + (y2 - y1) * (y2 - y1) := by
    have n1 := mul_self_nonneg' (x2 - x1)
    have n2 := mul_self_nonneg' (y2 - y1)
    by_cases q : (x2 - x1) * (x2 - x1) + (y2 - y1) * (y2 - y1) = 0
    · exfalso
      have z1 : (x2 - x1) * (x2 - x1) = 0 := by omega
      have z2 : (y2 - y1) * (y2 - y1) = 0 := by omega
      have z1 : x2 - x1 = 0 := by rcases Int.mul_eq_zero.mp z1 with q | q <;> exact q
      have z2 : y2 - y1 = 0 := by rcases Int.mul_eq_zero.mp z2 with q | q <;> exact q
      unfold ky at hne; omega
    · omega
  generalize (x - x1) * (x - x2) + (y - y1) * (y - y2) = A at *
  generalize (x2 - x1) * (x2 - x1) + (y2 - y1) * (y2 - y1) = N at *
  rw [Int.mul_comm A] at id
  constructor
  · intro q
    have a := mn_l hk q
    have b := ps_l (t := u * v) hN (by omega)
    by_cases c : 0 < u
    · have := ps_l (t := v) c b
      omega
    · by_cases c2 : u = 0
      · omega
      · have := ps_ge (a := -u) (t := v) (by omega) (by rw [Int.neg_mul]; omega)
        omega
  · intro q
    have b : u * v ≤ 0 := by
      rcases q with q | q
      · have := Int.mul_nonneg (show 0 ≤ u by omega) (show 0 ≤ -v by omega)
        rw [Int.mul_neg] at this; omega
      · have := Int.mul_nonneg (show 0 ≤ -u by omega) (show 0 ≤ v by omega)
        rw [Int.neg_mul] at this; omega
    have a := mn_l hN b
    exact ps_l (t := A) hk (by omega)
end PW
