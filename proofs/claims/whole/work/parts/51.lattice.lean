section PL
variable {S : Int → Int → Prop} {cx cy : Nat → Int} {cn : Nat}
theorem lie_p {x y : Int} (h : ngd cx cy cn cn x y) : lie cx cy cn x y = 0 := by unfold lie; rw [cif_p h]
theorem lie_o {x y : Int} (h : ¬ ngd cx cy cn cn x y) (o : ond cx cy cn cn x y) : lie cx cy cn x y = 1 := by unfold lie; rw [cif_n h, cif_p o]
theorem lie_i {x y : Int} (h : ¬ ngd cx cy cn cn x y) (o : ¬ ond cx cy cn cn x y) : lie cx cy cn x y = if 2 < cn then 2 else 0 := by unfold lie; rw [cif_n h, cif_n o]
theorem inn_3 (hr : rng S) (H : hull S cx cy cn) (h3 : 3 ≤ cn) {t : Nat} (ht0 : 0 < t) (ht : t < cn) (hu : ∀ e, e < t → ky (cx e) (cy e) < ky (cx (e + 1)) (cy (e + 1))) (hd : ∀ e, t ≤ e → e < cn → ky (cx (nxi cn e)) (cy (nxi cn e)) < ky (cx e) (cy e)) {x y : Int} : inn cx cy cn t x y ↔ ¬ ngd cx cy cn cn x y := by
  have k0 : ∀ e, e < cn → ky (cx 0) (cy 0) ≤ ky (cx e) (cy e) := fun e he => H.2.2.1 _ _ (H.2.1 e he)
  constructor
  · rintro ⟨h, -, -⟩ ⟨e, he, q⟩
    have := h e he
    omega
  · intro h
    have ha : ∀ e, e < cn → 0 ≤ eg cx cy cn e x y := fun e he => by
      by_cases q : 0 ≤ eg cx cy cn e x y
      · exact q
      · exact absurd ⟨e, he, by omega⟩ h
    refine ⟨ha, ?_, ?_⟩
    · exact (pk_cone hr H h3 (p := cn - 1) (i := 0) (by omega) (by omega) (if_neg (by omega)) (ha _ (by omega)) (ha _ (by omega))).1 ⟨k0 _ (by omega), k0 _ (nxi_lt (by omega))⟩
    · have e1 := hu (t - 1) (by omega)
      have e2 := hd t (Nat.le_refl _) ht
      rw [show t - 1 + 1 = t by omega] at e1
      exact (pk_cone hr H h3 (p := t - 1) (i := t) (by omega) ht (by unfold nxi; rw [if_pos (by omega)]; omega) (ha _ (by omega)) (ha _ ht)).2 ⟨by omega, by omega⟩
theorem inn_2 (H : hull S cx cy cn) (h2 : cn = 2) {x y : Int} : inn cx cy cn 1 x y ↔ (¬ ngd cx cy cn cn x y ∧ ond cx cy cn cn x y) := by
  subst h2
  have n0 : nxi 2 0 = 1 := rfl
  have n1 : nxi 2 1 = 0 := rfl
  have k0 : ky (cx 0) (cy 0) ≤ ky (cx 1) (cy 1) := H.2.2.1 _ _ (H.2.1 1 (by omega))
  have ne := pk_ne H (by omega) (show 0 < 2 by omega)
  rw [n0] at ne
  have sw : eg cx cy 2 1 x y = -eg cx cy 2 0 x y := by unfold eg tu; rw [n0, n1]; grind
  have o0 := fun z => pk_on H (by omega) (show 0 < 2 by omega) (x := x) (y := y) z
  have o1 := fun z => pk_on H (by omega) (show 1 < 2 by omega) (x := x) (y := y) z
  rw [n0] at o0
  rw [n1] at o1
  constructor
  · rintro ⟨h, a1, a2⟩
    have b0 := h 0 (by omega)
    have b1 := h 1 (by omega)
    refine ⟨fun ⟨e, he, q⟩ => by have := h e he; omega, 0, by omega, by omega, (o0 (by omega)).mpr (Or.inl ⟨a1, a2⟩)⟩
  · rintro ⟨h, e, he, q1, q2⟩
    have ha : ∀ e, e < 2 → 0 ≤ eg cx cy 2 e x y := fun e he => by
      by_cases q : 0 ≤ eg cx cy 2 e x y
      · exact q
      · exact absurd ⟨e, he, by omega⟩ h
    refine ⟨ha, ?_⟩
    rcases (show e = 0 ∨ e = 1 by omega) with rfl | rfl
    · have := (o0 q1).mp q2; omega
    · have := (o1 q1).mp q2; omega
theorem lat_w (hr : rng S) (h12 : ∀ x y, S x y → (0 ≤ x ∧ x ≤ 12) ∧ (0 ≤ y ∧ y ≤ 12)) (H : hull S (hC S).2.1 (hC S).2.2 (hC S).1) : gg (fun x y => if 1 ≤ lie (hC S).2.1 (hC S).2.2 (hC S).1 x y ∧ lie (hC S).2.1 (hC S).2.2 (hC S).1 x y ≤ 1 + 1 then 1 else 0) = hW S := by
  unfold hW hA hG
  generalize hC S = Q at *
  obtain ⟨cn, cx, cy⟩ := Q
  dsimp only at *
  by_cases h2 : 2 ≤ cn
  · obtain ⟨t, ht0, ht, hu, hd⟩ := pk_uni hr H h2
    have w := pick_w hr h12 H h2 ht0 ht hu hd
    rw [gg_cg (g := fun x y => cif (inn cx cy cn t x y) 1 0) (fun x y hx hy => ?_), if_neg (by omega)]
    · obtain ⟨W, eW⟩ : ∃ W, W = gg (fun x y => cif (inn cx cy cn t x y) 1 0) := ⟨_, rfl⟩
      rw [← eW] at w ⊢
      rw [show arS cx cy cn cn + (stS cx cy cn cn : Int) = 2 * (W - 1) by omega, Int.mul_tdiv_cancel_left _ (by decide)]
      omega
    · by_cases h3 : 3 ≤ cn
      · have e := inn_3 hr H h3 ht0 ht hu hd (x := (x : Int)) (y := (y : Int))
        by_cases q : ngd cx cy cn cn (x : Int) (y : Int)
        · rw [lie_p q, if_neg (by omega), cif_n (fun z => e.mp z q)]
        · rw [cif_p (e.mpr q)]
          by_cases o : ond cx cy cn cn (x : Int) (y : Int)
          · rw [lie_o q o, if_pos (by omega)]
          · rw [lie_i q o, if_pos (show 2 < cn by omega), if_pos (by omega)]
      · have e2 : cn = 2 := by omega
        have t1 : t = 1 := by omega
        subst t1
        have e := inn_2 H e2 (x := (x : Int)) (y := (y : Int))
        by_cases q : ngd cx cy cn cn (x : Int) (y : Int)
        · rw [lie_p q, if_neg (by omega), cif_n (fun z => (e.mp z).1 q)]
        · by_cases o : ond cx cy cn cn (x : Int) (y : Int)
          · rw [lie_o q o, if_pos (by omega), cif_p (e.mpr ⟨q, o⟩)]
          · rw [lie_i q o, if_neg (show ¬ 2 < cn by omega), if_neg (by omega), cif_n (fun z => o (e.mp z).2)]
  · rcases (show cn = 0 ∨ cn = 1 by omega) with rfl | rfl
    · rw [if_pos rfl]
      exact (gg_cg (g := fun _ _ => 0) (fun x y _ _ => by rw [lie_i (fun ⟨e, he, _⟩ => by omega) (fun ⟨e, he, _⟩ => by omega), if_neg (show ¬ 2 < 0 by omega), if_neg (by omega)])).trans gg_zero
    · rw [if_neg (by omega)]
      have hc := h12 _ _ (H.2.1 0 (by omega))
      have n0 : nxi 1 0 = 0 := rfl
      have e0 : arS cx cy 1 1 = 0 := by show 0 + (cx 0 * cy (nxi 1 0) - cx (nxi 1 0) * cy 0) = 0; rw [n0]; omega
      have e1 : stS cx cy 1 1 = 0 := by show 0 + Nat.gcd (cx (nxi 1 0) - cx 0).natAbs (cy (nxi 1 0) - cy 0).natAbs = 0; rw [n0, Int.sub_self, Int.sub_self]; rfl
      rw [e0, e1]
      refine (gg_cg (g := fun x y => if x = cx 0 ∧ y = cy 0 then 1 else 0) (fun x y _ _ => ?_)).trans (gg_pt hc.1 hc.2)
      have ng : ¬ ngd cx cy 1 1 (x : Int) (y : Int) := fun ⟨e, he, q⟩ => by
        have : e = 0 := by omega
        subst this
        unfold eg tu at q; rw [n0, Int.sub_self, Int.sub_self] at q; omega
      have o : ond cx cy 1 1 (x : Int) (y : Int) ↔ ((x : Int) = cx 0 ∧ (y : Int) = cy 0) := by
        constructor
        · rintro ⟨e, he, q1, q2⟩
          have : e = 0 := by omega
          subst this
          unfold al at q2
          rw [n0] at q2
          have s1 := mul_self_nonneg' ((x : Int) - cx 0)
          have s2 := mul_self_nonneg' ((y : Int) - cy 0)
          have z1 : ((x : Int) - cx 0) * ((x : Int) - cx 0) = 0 := by omega
          have z2 : ((y : Int) - cy 0) * ((y : Int) - cy 0) = 0 := by omega
          have z1 : (x : Int) - cx 0 = 0 := by rcases Int.mul_eq_zero.mp z1 with q | q <;> exact q
          have z2 : (y : Int) - cy 0 = 0 := by rcases Int.mul_eq_zero.mp z2 with q | q <;> exact q
          omega
        · rintro ⟨z1, z2⟩
          refine ⟨0, by omega, ?_, ?_⟩
          · unfold eg tu; rw [n0, z1, z2, Int.sub_self, Int.sub_self]; omega
          · unfold al; rw [n0, z1, z2, Int.sub_self, Int.sub_self]; omega
      by_cases q : ond cx cy 1 1 (x : Int) (y : Int)
      · rw [lie_o ng q, if_pos (by omega), if_pos (o.mp q)]
      · rw [lie_i ng q, if_neg (show ¬ 2 < 1 by omega), if_neg (by omega), if_neg (fun z => q (o.mpr z))]

def sgP (cx cy : Nat → Int) (cn e : Nat) (x y : Int) : Prop := eg cx cy cn e x y = 0 ∧ ((ky (cx e) (cy e) ≤ ky x y ∧ ky x y < ky (cx (nxi cn e)) (cy (nxi cn e))) ∨ (ky (cx (nxi cn e)) (cy (nxi cn e)) < ky x y ∧ ky x y ≤ ky (cx e) (cy e)))
theorem sg_z (H : hull S cx cy cn) (h2 : 2 ≤ cn) {e f : Nat} (he : e < cn) (hf : f < cn) {x y : Int} (h1 : sgP cx cy cn f x y) (h0 : eg cx cy cn e x y = 0) : eg cx cy cn e (cx f) (cy f) = 0 := by
  have id := idt (cx e) (cy e) (cx (nxi cn e)) (cy (nxi cn e)) (cx f) (cy f) (cx (nxi cn f)) (cy (nxi cn f)) x y
  have a : tu (cx e) (cy e) (cx (nxi cn e)) (cy (nxi cn e)) x y = 0 := h0
  have b : tu (cx f) (cy f) (cx (nxi cn f)) (cy (nxi cn f)) x y = 0 := h1.1
  have p1 : 0 ≤ tu (cx e) (cy e) (cx (nxi cn e)) (cy (nxi cn e)) (cx f) (cy f) := pk_pos H h2 he hf
  have p2 : 0 ≤ tu (cx e) (cy e) (cx (nxi cn e)) (cy (nxi cn e)) (cx (nxi cn f)) (cy (nxi cn f)) := pk_pos H h2 he (nxi_lt hf)
  rw [a, b, Int.zero_mul, Int.mul_zero, Int.add_zero] at id
  show tu (cx e) (cy e) (cx (nxi cn e)) (cy (nxi cn e)) (cx f) (cy f) = 0
  generalize tu (cx e) (cy e) (cx (nxi cn e)) (cy (nxi cn e)) (cx f) (cy f) = U at *
  generalize tu (cx e) (cy e) (cx (nxi cn e)) (cy (nxi cn e)) (cx (nxi cn f)) (cy (nxi cn f)) = W at *
  rcases h1.2 with q | q
  · have m1 := Int.mul_nonneg p1 (show 0 ≤ ky (cx (nxi cn f)) (cy (nxi cn f)) - ky x y by omega)
    have m2 := Int.mul_nonneg p2 (show 0 ≤ ky x y - ky (cx f) (cy f) by omega)
    exact ps_eq (a := ky (cx (nxi cn f)) (cy (nxi cn f)) - ky x y) (by omega) (by rw [Int.mul_comm]; omega)
  · have m1 := Int.mul_nonneg p1 (show 0 ≤ -(ky (cx (nxi cn f)) (cy (nxi cn f)) - ky x y) by omega)
    have m2 := Int.mul_nonneg p2 (show 0 ≤ -(ky x y - ky (cx f) (cy f)) by omega)
    rw [Int.mul_neg] at m1 m2
    exact ps_eq (a := -(ky (cx (nxi cn f)) (cy (nxi cn f)) - ky x y)) (by omega) (by rw [Int.mul_comm, Int.mul_neg]; omega)
theorem sg_uniq (hr : rng S) (H : hull S cx cy cn) (h3 : 3 ≤ cn) {e f : Nat} (he : e < cn) (hf : f < cn) {x y : Int} (h1 : sgP cx cy cn e x y) (h2 : sgP cx cy cn f x y) : e = f := by
  have a := pk_corn hr H (by omega) he hf (sg_z H (by omega) he hf h2 h1.1)
  have b := pk_corn hr H (by omega) hf he (sg_z H (by omega) hf he h1 h2.1)
  unfold nxi at a b
  split at a <;> split at b <;> omega
theorem sg_in (H : hull S cx cy cn) (h2 : 2 ≤ cn) {e g : Nat} (he : e < cn) (hg : g < cn) {x y : Int} (h1 : sgP cx cy cn e x y) : 0 ≤ eg cx cy cn g x y := by
  have id := idt (cx g) (cy g) (cx (nxi cn g)) (cy (nxi cn g)) (cx e) (cy e) (cx (nxi cn e)) (cy (nxi cn e)) x y
  have b : tu (cx e) (cy e) (cx (nxi cn e)) (cy (nxi cn e)) x y = 0 := h1.1
  have p1 : 0 ≤ tu (cx g) (cy g) (cx (nxi cn g)) (cy (nxi cn g)) (cx e) (cy e) := pk_pos H h2 hg he
  have p2 : 0 ≤ tu (cx g) (cy g) (cx (nxi cn g)) (cy (nxi cn g)) (cx (nxi cn e)) (cy (nxi cn e)) := pk_pos H h2 hg (nxi_lt he)
  rw [b, Int.mul_zero, Int.add_zero] at id
  show 0 ≤ tu (cx g) (cy g) (cx (nxi cn g)) (cy (nxi cn g)) x y
  generalize tu (cx g) (cy g) (cx (nxi cn g)) (cy (nxi cn g)) (cx e) (cy e) = U at *
  generalize tu (cx g) (cy g) (cx (nxi cn g)) (cy (nxi cn g)) (cx (nxi cn e)) (cy (nxi cn e)) = W at *
  generalize tu (cx g) (cy g) (cx (nxi cn g)) (cy (nxi cn g)) x y = V at *
  rcases h1.2 with q | q
  · have m1 := Int.mul_nonneg p1 (show 0 ≤ ky (cx (nxi cn e)) (cy (nxi cn e)) - ky x y by omega)
    have m2 := Int.mul_nonneg p2 (show 0 ≤ ky x y - ky (cx e) (cy e) by omega)
    exact ps_ge (a := ky (cx (nxi cn e)) (cy (nxi cn e)) - ky (cx e) (cy e)) (by omega) (by rw [Int.mul_comm]; omega)
  · have m1 := Int.mul_nonneg p1 (show 0 ≤ -(ky (cx (nxi cn e)) (cy (nxi cn e)) - ky x y) by omega)
    have m2 := Int.mul_nonneg p2 (show 0 ≤ -(ky x y - ky (cx e) (cy e)) by omega)
    rw [Int.mul_neg] at m1 m2
    exact ps_ge (a := -(ky (cx (nxi cn e)) (cy (nxi cn e)) - ky (cx e) (cy e))) (by omega) (by rw [Int.mul_comm, Int.mul_neg]; omega)
theorem sg_on (hr : rng S) (H : hull S cx cy cn) (h2 : 2 ≤ cn) {x y : Int} (hx : 0 ≤ x ∧ x ≤ 84) : (∃ e, e < cn ∧ sgP cx cy cn e x y) ↔ (¬ ngd cx cy cn cn x y ∧ ond cx cy cn cn x y) := by
  constructor
  · rintro ⟨e, he, h1⟩
    exact ⟨fun ⟨g, hg, q⟩ => by have := sg_in H h2 he hg h1; omega, e, he, h1.1, (pk_on H h2 he h1.1).mpr (by have := h1.2; omega)⟩
  · rintro ⟨-, e, he, q1, q2⟩
    have b := (pk_on H h2 he q1).mp q2
    by_cases z : ky x y = ky (cx (nxi cn e)) (cy (nxi cn e))
    · have hn := nxi_lt (cn := cn) he
      have w := ky_ne hx (hr _ _ (H.2.1 _ hn)).1 z
      have ne := pk_ne H h2 hn
      refine ⟨nxi cn e, hn, ?_, ?_⟩
      · rw [w.1, w.2]; unfold eg tu; grind
      · rw [w.1, w.2]; omega
    · exact ⟨e, he, q1, by omega⟩
theorem lat_b (hr : rng S) (h12 : ∀ x y, S x y → (0 ≤ x ∧ x ≤ 12) ∧ (0 ≤ y ∧ y ≤ 12)) (H : hull S (hC S).2.1 (hC S).2.2 (hC S).1) : gg (fun x y => if 1 ≤ lie (hC S).2.1 (hC S).2.2 (hC S).1 x y ∧ lie (hC S).2.1 (hC S).2.2 (hC S).1 x y ≤ 0 + 1 then 1 else 0) = hB S := by
  unfold hB
  by_cases h3 : (hC S).1 < 3
  · rw [if_pos h3, ← lat_w hr h12 H]
    refine gg_cg (fun x y _ _ => ?_)
    have : lie (hC S).2.1 (hC S).2.2 (hC S).1 (x : Int) (y : Int) ≤ 1 := by
      unfold lie
      by_cases p : ngd (hC S).2.1 (hC S).2.2 (hC S).1 (hC S).1 (x : Int) (y : Int)
      · rw [cif_p p]; omega
      · rw [cif_n p]
        by_cases q : ond (hC S).2.1 (hC S).2.2 (hC S).1 (hC S).1 (x : Int) (y : Int)
        · rw [cif_p q]; omega
        · rw [cif_n q, if_neg (by omega)]; omega
    split <;> split <;> first | rfl | (exfalso; omega)
  · rw [if_neg h3]
    unfold hG
    generalize hC S = Q at *
    obtain ⟨cn, cx, cy⟩ := Q
    dsimp only at *
    have hc := fun e (he : e < cn) => h12 _ _ (H.2.1 e he)
    have h2 : 2 ≤ cn := by omega
    rw [gg_cg (g := fun x y => gsm (fun e => sg (cx e) (cy e) (cx (nxi cn e)) (cy (nxi cn e)) x y) cn) (fun x y hx hy => ?_), gg_gsm (fun e x y => sg (cx e) (cy e) (cx (nxi cn e)) (cy (nxi cn e)) x y)]
    · have key : ∀ j, j ≤ cn → gsm (fun e => gg (fun x y => sg (cx e) (cy e) (cx (nxi cn e)) (cy (nxi cn e)) x y)) j = (stS cx cy cn j : Int) := fun j => by
        induction j with
        | zero => intro _; rfl
        | succ j ih =>
          intro hj
          rw [gsm, ih (by omega), stS, sg_edge (hc j (by omega)) (hc _ (nxi_lt (show j < cn by omega))) (fun z => pk_ne H h2 (show j < cn by omega) (by rw [← z.1, ← z.2]))]
          push_cast
          rfl
      exact key cn (Nat.le_refl _)
    · have so := sg_on hr H h2 (x := (x : Int)) (y := (y : Int)) (by omega)
      have sz : ∀ e, ¬ sgP cx cy cn e (x : Int) (y : Int) → sg (cx e) (cy e) (cx (nxi cn e)) (cy (nxi cn e)) (x : Int) (y : Int) = 0 := fun e h => if_neg h
      by_cases q : ∃ e, e < cn ∧ sgP cx cy cn e (x : Int) (y : Int)
      · have w := so.mp q
        obtain ⟨e, he, h1⟩ := q
        rw [lie_o w.1 w.2, if_pos (by omega), gsm_one (i := e) cn (fun k hk hke => sz k (fun z => hke (sg_uniq hr H (by omega) hk he z h1))), if_pos he]
        exact (if_pos h1).symm
      · rw [(gsm_cg cn (fun e he => sz e (fun z => q ⟨e, he, z⟩))).trans (gsm_zero cn)]
        have w : lie cx cy cn (x : Int) (y : Int) ≠ 1 := by
          by_cases p : ngd cx cy cn cn (x : Int) (y : Int)
          · rw [lie_p p]; omega
          · rw [lie_i p (fun z => q (so.mpr ⟨p, z⟩)), if_pos (by omega)]; omega
        rw [if_neg (by omega)]
end PL
section MHU
variable {h : ax_H} {a : Nat} {B K : Nat → List Pt3} {km : Nat}
theorem r_hull (H : mw h a B K km) {b w : Int} (hb : -2147483648 ≤ b ∧ b < 2147483648) (hw : -2147483648 ≤ w ∧ w < 2147483648) : ax_Mt MX5_hull [rv a, iv b, iv w] h (fun r h' => r = some (iv (shull B b w)) ∧ mw h' a B K km ∧ ax_sm a (a + 12) h h') := by
  have hm := ax_sm.rf (lo := a) (hi := a + 12) h
  have ⟨s, c, xs, ys, pt, co, cc, M, S⟩ := H
  have ⟨h0, h1, h2, h3, h4, h5, h6, h7, h8, h9, h10, h11⟩ := M
  refine ax_ri (L0 := [some (rv a), some (iv b), some (iv w)]) rfl rfl (Nat.le_of_ble_eq_true rfl) rfl ?_
  intro p9 l9 e9 R9 s9 m9 args9 below9 meth9 c9 b9 D9 dA9 Q9 C kr
  refine g_iload_n C dX5_hull_0 rfl ?_
  refine g_S C (r_isBody hb) dX5_hull_1 KX5_isBody LX5_52 SX5_isBody (by decide) rfl rfl (Nat.le_of_ble_eq_true rfl) ⟨rfl, rfl⟩ ?_
  dsimp only [Option.toList, List.cons_append, List.nil_append]
  refine g_if_ne C dX5_hull_4 (tgt := 9) (by decide) ifr (fun h4 => ?_) (fun h4 => ?_)
  · have w4 : 0 ≤ b ∧ b ≤ 3 := if1 h4
    obtain ⟨n, rfl⟩ : ∃ n : Nat, b = (n : Int) := ⟨b.toNat, by omega⟩
    have hO := S.2.1 n (by omega)
    refine g_iload_n C dX5_hull_9 rfl ?_
    refine g_iconst C dX5_hull_10 ?_
    refine g_iconst C dX5_hull_11 ?_
    refine g_S C (r_in hw (by omega) (by omega)) dX5_hull_12 KX5_in LX5_44 SX5_in (by decide) rfl rfl (Nat.le_of_ble_eq_true rfl) ⟨rfl, rfl⟩ ?_
    dsimp only [Option.toList, List.cons_append, List.nil_append]
    refine g_if_ne C dX5_hull_15 (tgt := 21) (by decide) ifr (fun h15 => ?_) (fun h15 => ?_)
    · have w15 : 0 ≤ w ∧ w ≤ 4 := if1 h15
      refine g_aload_n C dX5_hull_21 rfl ?_
      refine g_iload_n C dX5_hull_22 rfl ?_
      refine g_bipush C dX5_hull_23 (by decide) ?_
      refine g_RV C (r_layBody M S (b := n) (T := 127) (by omega) (by decide)) dX5_hull_25 KX5_layBody LX5_94 IX5_layBody VX5_layBody (by decide) rfl (by assumption) rfl rfl rfl (Nat.le_of_ble_eq_true rfl) ?_
      intro r1 g1 hP1 hz1
      obtain ⟨rfl, hm1, xs', ys', pt', co', cc', M1, L1, e7⟩ := hP1
      have ⟨q0, q1, q2, q3, q4, q5, q6, q7, q8, q9, q10, q11⟩ := M1
      have hg : rng (S1 (B n) 127) := by rw [← L1.2.2.2.1]; exact rng_pin L1.1
      have hh := hC_ok L1.1 L1.2.2.2.1
      have h12 : ∀ x y, S1 (B n) 127 x y → (0 ≤ x ∧ x ≤ 12) ∧ (0 ≤ y ∧ y ≤ 12) := fun x y ⟨k, k1, _, k2, k3⟩ => by have := hO.1.2 k k1; rw [k2, k3] at this; exact ⟨this.1, this.2.1⟩
      have hC1 := L1.2.2.2.2.1
      dsimp only [Option.toList, List.cons_append, List.nil_append]
      refine g_iload_n C dX5_hull_28 rfl ?_
      rcases (show w = 0 ∨ w = 1 ∨ w = 2 ∨ w = 3 ∨ w = 4 by omega) with rfl | rfl | rfl | rfl | rfl
      · refine g_tableIn C dX5_hull_29 (off := 31) (tgt := 60) (by decide) (by decide) (by decide) (by decide) (by decide) ?_
        refine g_aload_n C dX5_hull_60 rfl ?_
        refine g_V C (r_area M1 L1) dX5_hull_61 KX5_area LX5_97 IX5_area VX5_area (by decide) rfl (by assumption) rfl rfl rfl (Nat.le_of_ble_eq_true rfl) ⟨rfl, rfl⟩ ?_
        dsimp only [Option.toList, List.cons_append, List.nil_append]
        exact kr _ _ _ _ dX5_hull_64 ⟨congrArg (fun z => some (iv z)) (by unfold shull; rw [Int.toNat_natCast]; (repeat (first | rw [if_pos (by omega)] | rw [if_neg (by omega)]))), ⟨s, c, _, _, _, _, _, M1, S⟩, hm1⟩ hm1.1
      · refine g_tableIn C dX5_hull_29 (off := 36) (tgt := 65) (by decide) (by decide) (by decide) (by decide) (by decide) ?_
        refine g_aload_n C dX5_hull_65 rfl ?_
        refine g_get C FX5_74 dX5_hull_66 (by assumption) rfl ?_
        exact kr _ _ _ _ dX5_hull_69 ⟨congrArg (fun z => some (iv z)) (by unfold shull; rw [Int.toNat_natCast, ← hC1]; (repeat (first | rw [if_pos (by omega)] | rw [if_neg (by omega)]))), ⟨s, c, _, _, _, _, _, M1, S⟩, hm1⟩ hm1.1
      · refine g_tableIn C dX5_hull_29 (off := 41) (tgt := 70) (by decide) (by decide) (by decide) (by decide) (by decide) ?_
        refine g_aload_n C dX5_hull_70 rfl ?_
        refine g_iconst C dX5_hull_71 ?_
        refine g_V C (r_lattice M1 L1 (w := 1) (Or.inr rfl)) dX5_hull_72 KX5_lattice LX5_101 IX5_lattice VX5_lattice (by decide) rfl (by assumption) rfl rfl rfl (Nat.le_of_ble_eq_true rfl) ⟨rfl, rfl⟩ ?_
        dsimp only [Option.toList, List.cons_append, List.nil_append]
        rw [lat_w hg h12 hh]
        exact kr _ _ _ _ dX5_hull_75 ⟨congrArg (fun z => some (iv z)) (by unfold shull; rw [Int.toNat_natCast]; (repeat (first | rw [if_pos (by omega)] | rw [if_neg (by omega)]))), ⟨s, c, _, _, _, _, _, M1, S⟩, hm1⟩ hm1.1
      · refine g_tableIn C dX5_hull_29 (off := 47) (tgt := 76) (by decide) (by decide) (by decide) (by decide) (by decide) ?_
        refine g_aload_n C dX5_hull_76 rfl ?_
        refine g_iconst C dX5_hull_77 ?_
        refine g_V C (r_lattice M1 L1 (w := 0) (Or.inl rfl)) dX5_hull_78 KX5_lattice LX5_101 IX5_lattice VX5_lattice (by decide) rfl (by assumption) rfl rfl rfl (Nat.le_of_ble_eq_true rfl) ⟨rfl, rfl⟩ ?_
        dsimp only [Option.toList, List.cons_append, List.nil_append]
        rw [lat_b hg h12 hh]
        exact kr _ _ _ _ dX5_hull_81 ⟨congrArg (fun z => some (iv z)) (by unfold shull; rw [Int.toNat_natCast]; (repeat (first | rw [if_pos (by omega)] | rw [if_neg (by omega)]))), ⟨s, c, _, _, _, _, _, M1, S⟩, hm1⟩ hm1.1
      · refine g_tableOut C dX5_hull_29 (tgt := 82) (by decide) (by decide) (by decide) ?_
        refine g_aload_n C dX5_hull_82 rfl ?_
        refine g_V C (r_span M1 L1) dX5_hull_83 KX5_span LX5_104 IX5_span VX5_span (by decide) rfl (by assumption) rfl rfl rfl (Nat.le_of_ble_eq_true rfl) ⟨rfl, rfl⟩ ?_
        dsimp only [Option.toList, List.cons_append, List.nil_append]
        exact kr _ _ _ _ dX5_hull_86 ⟨congrArg (fun z => some (iv z)) (by unfold shull; rw [Int.toNat_natCast]; (repeat (first | rw [if_pos (by omega)] | rw [if_neg (by omega)]))), ⟨s, c, _, _, _, _, _, M1, S⟩, hm1⟩ hm1.1
    · have w15 : ¬ (0 ≤ w ∧ w ≤ 4) := if0 h15
      refine g_bipush C dX5_hull_18 (by decide) ?_
      exact kr _ _ _ _ dX5_hull_20 ⟨congrArg (fun z => some (iv z)) (by unfold shull; (repeat (first | rw [if_pos (by omega)] | rw [if_neg (by omega)]))), H, hm⟩ hm.1
  · have w4 : ¬ (0 ≤ b ∧ b ≤ 3) := if0 h4
    refine g_iconst C dX5_hull_7 ?_
    exact kr _ _ _ _ dX5_hull_8 ⟨congrArg (fun z => some (iv z)) (by unfold shull; (repeat (first | rw [if_pos (by omega)] | rw [if_neg (by omega)]))), H, hm⟩ hm.1
end MHU
