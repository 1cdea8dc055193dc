section PL
variable {S : Int → Int → Prop} {cx cy : Nat → Int} {cn : Nat}
theorem lie_p {x y : Int} (h : ngd cx cy cn cn x y) : lie cx cy cn x y = 0 := by unfold lie; rw [cif_p h]
theorem lie_o {x y : Int} (h : ¬ ngd cx cy cn cn x y) (o : ond cx cy cn cn x y) : lie cx cy cn x y = 1 := by unfold lie; rw [cif_n h, cif_p o]
theorem lie_i {x y : Int} (h : ¬ ngd cx cy cn cn x y) (o : ¬ ond cx cy cn cn x y) : lie cx cy cn x y = if 2 < cn then 2 else 0 := by unfold lie; rw [cif_n h, cif_n o]
theorem inn_3 (hr : rng S) (H : hull S cx cy cn) (h3 : 3 ≤ cn) {t : Nat} (ht0 : 0 < t) (ht : t < cn) (hu : ∀ e, e < t → ky (cx e) (cy e) < ky (cx (e + 1)) (cy (e + 1))) (hd : ∀ e, t ≤ e → e < cn → ky (cx (nxi cn e)) (cy (nxi cn e)) < ky (cx e) (cy e)) {x y : Int} : inn cx cy cn t x y ↔ ¬ ngd cx cy cn cn x y := by
  have k0 : ∀ e, e < cn → ky (cx 0) (cy 0) ≤ ky (cx e) (cy e) := fun e he => H.2.2.1 _ _ (H.2.1 e he)
  constructor
  · rintro ⟨h, -, -⟩ ⟨e, he, q⟩
    have := h e he
    omega
  · intro h
    have ha : ∀ e, e < cn → 0 ≤ eg cx cy cn e x y := fun e he => by
      by_cases q : 0 ≤ eg cx cy cn e x y
      · exact q
      · exact absurd ⟨e, he, by omega⟩ h
    refine ⟨ha, ?_, ?_⟩
    · exact (pk_cone hr H h3 (p := cn - 1) (i := 0) (by omega) (by omega) (if_neg (by omega)) (ha _ (by omega)) (ha _ (by omega))).1 ⟨k0 _ (by omega), k0 _ (nxi_lt (by omega))⟩
    · have e1 := hu (t - 1) (by omega)
      have e2 := hd t (Nat.le_refl _) ht
      rw [show t - 1 + 1 = t by omega] at e1
      exact (pk_cone hr H h3 (p := t - 1) (i := t) (by omega) ht (by unfold nxi; rw [if_pos (by omega)]; omega) (ha _ (by omega)) (ha _ ht)).2 ⟨by omega, by omega⟩
theorem inn_2 (H : hull S cx cy cn) (h2 : cn = 2) {x y : Int} : inn cx cy cn 1 x y ↔ (¬ ngd cx cy cn cn x y ∧ ond cx cy cn cn x y) := by
  subst h2
  have n0 : nxi 2 0 = 1 := rfl
  have n1 : nxi 2 1 = 0 := rfl
  have k0 : ky (cx 0) (cy 0) ≤ ky (cx 1) (cy 1) := H.2.2.1 _ _ (H.2.1 1 (by omega))
  have ne := pk_ne H (by omega) (show 0 < 2 by omega)
  rw [n0] at ne
  have sw : eg cx cy 2 1 x y = -eg cx cy 2 0 x y := by unfold eg tu; rw [n0, n1]; grind
  have o0 := fun z => pk_on H (by omega) (show 0 < 2 by omega) (x := x) (y := y) z
  have o1 := fun z => pk_on H (by omega) (show 1 < 2 by omega) (x := x) (y := y) z
  rw [n0] at o0
  rw [n1] at o1
  constructor
  · rintro ⟨h, a1, a2⟩
    have b0 := h 0 (by omega)
    have b1 := h 1 (by omega)
    refine ⟨fun ⟨e, he, q⟩ => by have := h e he; omega, 0, by omega, by omega, (o0 (by omega)).mpr (Or.inl ⟨a1, a2⟩)⟩
  · rintro ⟨h, e, he, q1, q2⟩
    have ha : ∀ e, e < 2 → 0 ≤ eg cx cy 2 e x y := fun e he => by
      by_cases q : 0 ≤ eg cx cy 2 e x y
      · exact q
      · exact absurd ⟨e, he, by omega⟩ h
    refine ⟨ha, ?_⟩
    rcases (show e = 0 ∨ e = 1 by omega) with rfl | rfl
    · have := (o0 q1).mp q2; omega
    · have := (o1 q1).mp q2; omega
theorem lat_w (hr : rng S) (h12 : ∀ x y, S x y → (0 ≤ x ∧ x ≤ 12) ∧ (0 ≤ y ∧ y ≤ 12)) (H : hull S (hC S).2.1 (hC S).2.2 (hC S).1) : gg (fun x y => if 1 ≤ lie (hC S).2.1 (hC S).2.2 (hC S).1 x y ∧ lie (hC S).2.1 (hC S).2.2 (hC S).1 x y ≤ 1 + 1 then 1 else 0) = hW S := by
  unfold hW hA hG
  generalize hC S = Q at *
  obtain ⟨cn, cx, cy⟩ := Q
  dsimp only at *
  by_cases h2 : 2 ≤ cn
  · obtain ⟨t, ht0, ht, hu, hd⟩ := pk_uni hr H h2
    have w := pick_w hr h12 H h2 ht0 ht hu hd
    rw [gg_cg (g := fun x y => cif (inn cx cy cn t x y) 1 0) (fun x y hx hy => ?_), if_neg (by omega)]
    · obtain ⟨W, eW⟩ : ∃ W, W = gg (fun x y => cif (inn cx cy cn t x y) 1 0) := ⟨_, rfl⟩
      rw [← eW] at w ⊢
      rw [show arS cx cy cn cn + (stS cx cy cn cn : Int) = 2 * (W - 1) by omega, Int.mul_tdiv_cancel_left _ (by decide)]
      omega
    · by_cases h3 : 3 ≤ cn
      · have e := inn_3 hr H h3 ht0 ht hu hd (x := (x : Int)) (y := (y : Int))
        by_cases q : ngd cx cy cn cn (x : Int) (y : Int)
        · rw [lie_p q, if_neg (by omega), cif_n (fun z => e.mp z q)]
        · rw [cif_p (e.mpr q)]
          by_cases o : ond cx cy cn cn (x : Int) (y : Int)
          · rw [lie_o q o, if_pos (by omega)]
          · rw [lie_i q o, if_pos (show 2 < cn by omega), if_pos (by omega)]
      · have e2 : cn = 2 := by omega
        have t1 : t = 1 := by omega
        subst t1
        have e := inn_2 H e2 (x := (x : Int)) (y := (y : Int))
        by_cases q : ngd cx cy cn cn (x : Int) (y : Int)
        · rw [lie_p q, if_neg (by omega), cif_n (fun z => (e.mp z).1 q)]
        · by_cases o : ond cx cy cn cn (x : Int) (y : Int)
          · rw [lie_o q o, if_pos (by omega), cif_p (e.mpr ⟨q, o⟩)]
          · rw [lie_i q o, if_neg (show ¬ 2 < cn by omega), if_neg (by omega), cif_n (fun z => o (e.mp z).2)]
  · rcases (show cn = 0 ∨ cn = 1 by omega) with rfl | rfl
    · rw [if_pos rfl]
      exact (gg_cg (g := fun _ _ => 0) (fun x y _ _ => by rw [lie_i (fun ⟨e, he, _⟩ => by omega) (fun ⟨e, he, _⟩ => by omega), if_neg (show ¬ 2 < 0 by omega), if_neg (by omega)])).trans gg_zero
    · rw [if_neg (by omega)]
      have hc := h12 _ _ (H.2.1 0 (by omega))
      have n0 : nxi 1 0 = 0 := rfl
      have e0 : arS cx cy 1 1 = 0 := by show 0 + (cx 0 * cy (nxi 1 0) - cx (nxi 1 0) * cy 0) = 0; rw [n0]; omega
      have e1 : stS cx cy 1 1 = 0 := by show 0 + Nat.gcd (cx (nxi 1 0) - cx 0).natAbs (cy (nxi 1 0) - cy 0).natAbs = 0; rw [n0, Int.sub_self, Int.sub_self]; rfl
      rw [e0, e1]
      refine (gg_cg (g := fun x y => if x = cx 0 ∧ y = cy 0 then 1 else 0) (fun x y _ _ => ?_)).trans (gg_pt hc.1 hc.2)
      have ng : ¬ ngd cx cy 1 1 (x : Int) (y : Int) := fun ⟨e, he, q⟩ => by
        have : e = 0 := by omega
        subst this
        unfold eg tu at q; rw [n0, Int.sub_self, Int.sub_self] at q; omega
      have o : ond cx cy 1 1 (x : Int) (y : Int) ↔ ((x : Int) = cx 0 ∧ (y : Int) = cy 0) := by
        constructor
        · rintro ⟨e, he, q1, q2⟩
          have : e = 0 := by omega
          subst this
          unfold al at q2
          rw [n0] at q2
          have s1 := mul_self_nonneg' ((x : Int) - cx 0)
          have s2 := mul_self_nonneg' ((y : Int) - cy 0)
          have z1 : ((x : Int) - cx 0) * ((x : Int) - cx 0) = 0 := by omega
          have z2 : ((y : Int) - cy 0) * ((y : Int) - cy 0) = 0 := by omega
          have z1 : (x : Int) - cx 0 = 0 := by rcases Int.mul_eq_zero.mp z1 with q | q <;> exact q
          have z2 : (y : Int) - cy 0 = 0 := by rcases Int.mul_eq_zero.mp z2 with q | q <;> exact q
          omega
        · rintro ⟨z1, z2⟩
          refine ⟨0, by omega, ?_, ?_⟩
          · unfold eg tu; rw [n0, z1, z2, Int.sub_self, Int.sub_self]; omega
          · unfold al; rw [n0, z1, z2, Int.sub_self, Int.sub_self]; omega
      by_cases q : ond cx cy 1 1 (x : Int) (y : Int)
      · rw [lie_o ng q, if_pos (by omega), if_pos (o.mp q)]
      · rw [lie_i ng q, if_neg (show ¬ 2 < 1 by omega), if_neg (by omega), if_neg (fun z => q (o.mpr z))]
end PL
