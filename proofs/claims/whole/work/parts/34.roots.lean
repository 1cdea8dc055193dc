/-! roots -/
def pw (v p : Int) : Nat → Int
  | 0 => 1
  | n + 1 => (pw v p n * v).tmod p
theorem tmod_in {x p : Int} (hx : 0 ≤ x) (hp : 0 < p) : 0 ≤ x.tmod p ∧ x.tmod p < p := ⟨Int.tmod_nonneg _ hx, Int.tmod_lt_of_pos _ hp⟩
theorem pw_in {v p : Int} (hv : 0 ≤ v) (hp : 2 ≤ p) : ∀ n, 0 ≤ pw v p n ∧ pw v p n < p
  | 0 => by unfold pw; omega
  | n + 1 => by rw [pw]; exact tmod_in (Int.mul_nonneg (pw_in hv hp n).1 hv) (by omega)
def vsm (X Y V : Nat → Int) (x y p : Int) : Nat → Int
  | 0 => 0
  | k + 1 => vsm X Y V x y p k + V k * pw x p (X k).toNat * pw y p (Y k).toNat
theorem vsm_cg {X Y V X2 Y2 V2 : Nat → Int} {x y p : Int} : ∀ n, (∀ k, k < n → X2 k = X k ∧ Y2 k = Y k ∧ V2 k = V k) → vsm X2 Y2 V2 x y p n = vsm X Y V x y p n
  | 0, _ => rfl
  | n + 1, e => by rw [vsm, vsm, vsm_cg n (fun k hk => e k (by omega)), (e n (by omega)).1, (e n (by omega)).2.1, (e n (by omega)).2.2]
theorem vsm_in {X Y V : Nat → Int} {x y p : Int} (hx : 0 ≤ x) (hy : 0 ≤ y) (hp : 2 ≤ p ∧ p ≤ 13) : ∀ n, (∀ k, k < n → 0 ≤ V k ∧ V k ≤ 50) → 0 ≤ vsm X Y V x y p n ∧ vsm X Y V x y p n ≤ 7200 * n
  | 0, _ => by unfold vsm; omega
  | n + 1, h => by
    have h1 := vsm_in (X := X) (Y := Y) hx hy hp n (fun k hk => h k (by omega))
    have h2 := h n (by omega)
    have a1 := pw_in hx hp.1 (X n).toNat
    have a2 := pw_in hy hp.1 (Y n).toNat
    have b1 := mb (u := V n) (x := pw x p (X n).toNat) (U := 50) (M := 12) (by omega) (by omega)
    have b0 := Int.mul_nonneg h2.1 a1.1
    have b2 := mb (u := V n * pw x p (X n).toNat) (x := pw y p (Y n).toNat) (U := 600) (M := 12) (by omega) (by omega)
    have b3 := Int.mul_nonneg b0 a2.1
    rw [vsm]; omega
abbrev isr (l : List Pt3) (x y p : Int) : Prop := (vsm (lx l) (ly l) (lv l) x y p l.length).tmod p = 0
abbrev both (l m : List Pt3) (p : Int) (i j : Nat) : Prop := isr l i j p ∧ isr m i j p
def rci (l m : List Pt3) (p : Int) (i : Nat) : Nat → Int
  | 0 => 0
  | j + 1 => rci l m p i j + if both l m p i (j + 1) then 1 else 0
def rco (l m : List Pt3) (p : Int) (q : Nat) : Nat → Int
  | 0 => 0
  | i + 1 => rco l m p q i + rci l m p (i + 1) q
def sroots (B : Nat → List Pt3) (a b p : Int) : Int :=
  if ¬ ((0 ≤ a ∧ a ≤ 3) ∧ (0 ≤ b ∧ b ≤ 3)) then -1 else if ¬ (p = 2 ∨ p = 3 ∨ p = 5 ∨ p = 7 ∨ p = 11 ∨ p = 13) then -2
  else rco (B a.toNat) (B b.toNat) p (p.toNat - 1) (p.toNat - 1)
/-! the powers -/
def pwF (h : ax_H) (p : Int) (q : Nat) : Prop := ∀ i, 1 ≤ i → i < q → ∃ r, h[108 + i]? = some (.inl (0, 13, .inl r)) ∧ ∀ e, e < 13 → r e = pw (i : Int) p e
theorem pw_set {h : ax_H} {B K : Nat → List Pt3} {km j : Nat} (H : wd h B K km) (hj : j < 13) {r r2 : Nat → Int} (hr : h[108 + j]? = some (.inl (0, 13, .inl r))) : wd (h.set (108 + j) (.inl (0, 13, .inl r2))) B K km ∧ ax_sm 108 121 h (h.set (108 + j) (.inl (0, 13, .inl r2))) ∧ (h.set (108 + j) (.inl (0, 13, .inl r2)))[108 + j]? = some (.inl (0, 13, .inl r2)) ∧ ∀ i, i ≠ j → (h.set (108 + j) (.inl (0, 13, .inl r2)))[108 + i]? = h[108 + i]? := by
  have S : ax_sm 108 121 h (h.set (108 + j) (.inl (0, 13, .inl r2))) := ax_sm.set hr rfl (by omega) (by omega)
  have e1 : (h.set (108 + j) (.inl (0, 13, .inl r2)))[108 + j]? = some (.inl (0, 13, .inl r2)) := ax_gs hr
  have e2 : ∀ i, i ≠ j → (h.set (108 + j) (.inl (0, 13, .inl r2)))[108 + i]? = h[108 + i]? := fun i hi => List.getElem?_set_ne (by omega)
  refine ⟨H.pw S (fun i hi => ?_), S, e1, e2⟩
  by_cases c : i = j
  · subst c; exact ⟨r2, e1⟩
  · rw [e2 i c]; exact H.2.2.2.1 i hi
theorem t_fillPowers {h : ax_H} {B K : Nat → List Pt3} {km q : Nat} (H : wd h B K km) (hq : 2 ≤ q ∧ q ≤ 13) : ax_Mt MX4_fillPowers [rv 0, iv (q : Int)] h (fun r h' => r = none ∧ pwF h' (q : Int) q ∧ wd h' B K km ∧ ax_sm 108 121 h h') := by
  have hm := ax_sm.rf (lo := 108) (hi := 121) h
  refine ax_rv (L0 := [some (rv 0), some (iv (q : Int)), none, none]) rfl rfl (Nat.le_of_ble_eq_true rfl) rfl ?_
  intro p9 l9 e9 R9 s9 m9 args9 below9 meth9 c9 b9 D9 dA9 Q9 C kr
  have inner : ∀ (j : Nat), 1 ≤ j → j < q → (∀ (hh : ax_H) (x3 : Option ax_V), wd hh B K km → ax_sm 108 121 h hh → pwF hh (q : Int) (j + 1) → ax_G p9 l9 e9 R9 s9 m9 args9 below9 meth9 c9 b9 D9 dA9 MX4_fillPowers.2.2.1 h.length (ax_sz h) Q9 (13) ([some (rv 0), some (iv (q : Int)), some (iv ((j + 1 : Nat) : Int)), x3]) ([]) (hh)) → ∀ (d f : Nat) (hh : ax_H) (r : Nat → Int), f + d = 13 → 1 ≤ f → wd hh B K km → ax_sm 108 121 h hh → pwF hh (q : Int) j → hh[108 + j]? = some (.inl (0, 13, .inl r)) → (∀ k, k < f → r k = pw (j : Int) (q : Int) k) → ax_G p9 l9 e9 R9 s9 m9 args9 below9 meth9 c9 b9 D9 dA9 MX4_fillPowers.2.2.1 h.length (ax_sz h) Q9 (29) ([some (rv 0), some (iv (q : Int)), some (iv (j : Int)), some (iv (f : Int))]) ([]) (hh) := by
    intro j hj1 hj2 K9 d
    induction d with
    | zero =>
      intro f hh r hf hf1 H hm hF hr hp
      refine g_iload_n C dX4_fillPowers_29 rfl ?_
      refine g_bipush C dX4_fillPowers_30 (by decide) ?_
      refine g_icmp_gt C dX4_fillPowers_32 (tgt := 63) (by decide) (by omega) (by omega) (fun h32 => ?_) (fun h32 => ?_)
      · refine g_iinc C dX4_fillPowers_63 (by decide) rfl rfl ?_
        dsimp only [List.set]
        refine g_goto C dX4_fillPowers_66 (tgt := 13) (by decide) ?_
        exact K9 _ _ H hm (fun i h1 h2 => by
          by_cases c : i = j
          · subst c; exact ⟨r, hr, fun k hk => hp k (by omega)⟩
          · exact hF i h1 (by omega))
      · exfalso; omega
    | succ d ih =>
      intro f hh r hf hf1 H hm hF hr hp
      obtain ⟨h0, -, -, g, h1, hg⟩ := H.1
      have b1 := pw_in (v := (j : Int)) (p := (q : Int)) (by omega) (by omega) (f - 1)
      have b2 := mb (u := pw (j : Int) (q : Int) (f - 1)) (x := (j : Int)) (U := 12) (M := 12) (by omega) (by omega)
      have e0 : pw (j : Int) (q : Int) f = (pw (j : Int) (q : Int) (f - 1) * (j : Int)).tmod (q : Int) := by
        obtain ⟨f0, rfl⟩ : ∃ f0, f = f0 + 1 := ⟨f - 1, by omega⟩
        rfl
      refine g_iload_n C dX4_fillPowers_29 rfl ?_
      refine g_bipush C dX4_fillPowers_30 (by decide) ?_
      refine g_icmp_gt C dX4_fillPowers_32 (tgt := 63) (by decide) (by omega) (by omega) (fun h32 => ?_) (fun h32 => ?_)
      · exfalso; omega
      · refine g_aload_n C dX4_fillPowers_35 rfl ?_
        refine g_get C FX4_34 dX4_fillPowers_36 (by assumption) rfl ?_
        refine g_iload_n C dX4_fillPowers_39 rfl ?_
        refine g_aald C dX4_fillPowers_40 (by assumption) rfl rfl rfl (by omega) (by decide) ?_
        rw [hg j (by omega)]
        refine g_iload_n C dX4_fillPowers_41 rfl ?_
        refine g_aload_n C dX4_fillPowers_42 rfl ?_
        refine g_get C FX4_34 dX4_fillPowers_43 (by assumption) rfl ?_
        refine g_iload_n C dX4_fillPowers_46 rfl ?_
        refine g_aald C dX4_fillPowers_47 (by assumption) rfl rfl rfl (by omega) (by decide) ?_
        rw [hg j (by omega)]
        refine g_iload_n C dX4_fillPowers_48 rfl ?_
        refine g_iconst C dX4_fillPowers_49 ?_
        refine g_isub C dX4_fillPowers_50 ?_
        refine g_top (show _ = ((f - 1 : Nat) : Int) by omega) ?_
        refine g_iald C dX4_fillPowers_51 (by assumption) rfl (by omega) (by decide) ?_
        rw [hp (f - 1) (by omega)]
        refine g_iload_n C dX4_fillPowers_52 rfl ?_
        refine g_imul C dX4_fillPowers_53 ?_
        refine g_iload_n C dX4_fillPowers_54 rfl ?_
        refine g_irem C dX4_fillPowers_55 (by omega) (by omega) (by omega) ?_
        rw [← e0]
        refine g_iast C dX4_fillPowers_56 (by assumption) rfl (by omega) (by decide) ?_
        obtain ⟨H, hm2, e1, e2⟩ := pw_set (r2 := va_up r f (pw (j : Int) (q : Int) f)) H (show j < 13 by omega) hr
        refine g_iinc C dX4_fillPowers_57 (by decide) rfl rfl ?_
        dsimp only [List.set]
        refine g_goto C dX4_fillPowers_60 (tgt := 29) (by decide) ?_
        exact ih (f + 1) _ _ (by omega) (by omega) H (hm.tr hm2) (fun i h1 h2 => by rw [e2 i (by omega)]; exact hF i h1 h2) e1 (fun k hk => by
          unfold va_up
          by_cases c : k = f
          · rw [if_pos c, c]
          · rw [if_neg c]; exact hp k (by omega))
  have outer : ∀ (d j : Nat) (hh : ax_H) (x3 : Option ax_V), j + d = q → 1 ≤ j → wd hh B K km → ax_sm 108 121 h hh → pwF hh (q : Int) j → ax_G p9 l9 e9 R9 s9 m9 args9 below9 meth9 c9 b9 D9 dA9 MX4_fillPowers.2.2.1 h.length (ax_sz h) Q9 (13) ([some (rv 0), some (iv (q : Int)), some (iv (j : Int)), x3]) ([]) (hh) := by
    intro d
    induction d with
    | zero =>
      intro j hh x3 hj hj1 H hm hF
      have e : j = q := by omega
      subst e
      refine g_iload_n C dX4_fillPowers_13 rfl ?_
      refine g_iload_n C dX4_fillPowers_14 rfl ?_
      refine g_icmp_ge C dX4_fillPowers_15 (tgt := 69) (by decide) (by omega) (by omega) (fun h15 => ?_) (fun h15 => ?_)
      · exact kr _ _ _ dX4_fillPowers_69 ⟨rfl, hF, H, hm⟩ hm.1
      · exfalso; omega
    | succ d ih =>
      intro j hh x3 hj hj1 H hm hF
      obtain ⟨h0, -, -, g, h1, hg⟩ := H.1
      obtain ⟨r, hr⟩ := H.2.2.2.1 j (by omega)
      refine g_iload_n C dX4_fillPowers_13 rfl ?_
      refine g_iload_n C dX4_fillPowers_14 rfl ?_
      refine g_icmp_ge C dX4_fillPowers_15 (tgt := 69) (by decide) (by omega) (by omega) (fun h15 => ?_) (fun h15 => ?_)
      · exfalso; omega
      · refine g_aload_n C dX4_fillPowers_18 rfl ?_
        refine g_get C FX4_34 dX4_fillPowers_19 (by assumption) rfl ?_
        refine g_iload_n C dX4_fillPowers_22 rfl ?_
        refine g_aald C dX4_fillPowers_23 (by assumption) rfl rfl rfl (by omega) (by decide) ?_
        rw [hg j (by omega)]
        refine g_iconst C dX4_fillPowers_24 ?_
        refine g_iconst C dX4_fillPowers_25 ?_
        refine g_iast C dX4_fillPowers_26 (by assumption) (show (0 : Int) = ((0 : Nat) : Int) from rfl) (by omega) (by decide) ?_
        obtain ⟨H, hm2, e1, e2⟩ := pw_set (r2 := va_up r 0 1) H (show j < 13 by omega) hr
        refine g_iconst C dX4_fillPowers_27 ?_
        refine g_istore_n C dX4_fillPowers_28 (by decide) rfl ?_
        dsimp only [List.set]
        exact inner j hj1 (by omega) (fun hh x3 H hm hF => ih (j + 1) hh x3 (by omega) (by omega) H hm hF) 12 1 _ _ (by omega) (by omega) H (hm.tr hm2) (fun i h1 h2 => by rw [e2 i (by omega)]; exact hF i h1 h2) e1 (fun k hk => by
          have : k = 0 := by omega
          subst this; rfl)
  refine g_iload_n C dX4_fillPowers_0 rfl ?_
  refine g_iconst C dX4_fillPowers_1 ?_
  refine g_bipush C dX4_fillPowers_2 (by decide) ?_
  refine g_S C (t_isWithin (show -2147483648 ≤ (q : Int) ∧ (q : Int) < 2147483648 by omega) (by omega) (by omega)) dX4_fillPowers_4 KX4_isWithin LX4_42 SX4_isWithin (by decide) rfl rfl (Nat.le_of_ble_eq_true rfl) ⟨rfl, rfl⟩ ?_
  dsimp only [Option.toList, List.cons_append, List.nil_append]
  refine g_if_ne C dX4_fillPowers_7 (tgt := 11) (by decide) ifr (fun h7 => ?_) (fun h7 => ?_)
  · have w7 : 1 ≤ (q : Int) ∧ (q : Int) ≤ 13 := if1 h7
    refine g_iconst C dX4_fillPowers_11 ?_
    refine g_istore_n C dX4_fillPowers_12 (by decide) rfl ?_
    dsimp only [List.set]
    exact outer (q - 1) 1 _ _ (by omega) (by omega) H hm (fun i h1 h2 => by omega)
  · have w7 : ¬ (1 ≤ (q : Int) ∧ (q : Int) ≤ 13) := if0 h7
    exfalso; omega
theorem t_isSmallPrime {h : ax_H} {p : Int} (hp : -2147483648 ≤ p ∧ p < 2147483648) : ax_Met MX4_isSmallPrime [iv p] h (some (iv (if p = 2 ∨ p = 3 ∨ p = 5 ∨ p = 7 ∨ p = 11 ∨ p = 13 then 1 else 0))) h := by
  refine ax_mz (L0 := [some (iv p)]) rfl rfl (Nat.le_refl _) (Nat.le_refl _) (Nat.le_of_ble_eq_true rfl) rfl ?_
  intro p9 l9 e9 R9 s9 m9 args9 below9 meth9 c9 b9 D9 dA9 Q9 C kr
  refine g_iload_n C dX4_isSmallPrime_0 rfl ?_
  rcases (show p = 2 ∨ p = 3 ∨ p = 4 ∨ p = 5 ∨ p = 6 ∨ p = 7 ∨ p = 8 ∨ p = 9 ∨ p = 10 ∨ p = 11 ∨ p = 12 ∨ p = 13 ∨ (p ≠ 2 ∧ p ≠ 3 ∧ p ≠ 4 ∧ p ≠ 5 ∧ p ≠ 6 ∧ p ≠ 7 ∧ p ≠ 8 ∧ p ≠ 9 ∧ p ≠ 10 ∧ p ≠ 11 ∧ p ≠ 12 ∧ p ≠ 13) by omega) with rfl | rfl | rfl | rfl | rfl | rfl | rfl | rfl | rfl | rfl | rfl | rfl | hsw
  · refine g_tableIn C dX4_isSmallPrime_1 (off := 63) (tgt := 64) (by decide) (by decide) (by decide) (by decide) (by decide) ?_
    refine g_iconst C dX4_isSmallPrime_64 ?_
    exact kr _ _ _ dX4_isSmallPrime_65 (by decide) (by decide)
  · refine g_tableIn C dX4_isSmallPrime_1 (off := 63) (tgt := 64) (by decide) (by decide) (by decide) (by decide) (by decide) ?_
    refine g_iconst C dX4_isSmallPrime_64 ?_
    exact kr _ _ _ dX4_isSmallPrime_65 (by decide) (by decide)
  · refine g_tableIn C dX4_isSmallPrime_1 (off := 65) (tgt := 66) (by decide) (by decide) (by decide) (by decide) (by decide) ?_
    refine g_iconst C dX4_isSmallPrime_66 ?_
    exact kr _ _ _ dX4_isSmallPrime_67 (by decide) (by rw [if_neg (by omega)])
  · refine g_tableIn C dX4_isSmallPrime_1 (off := 63) (tgt := 64) (by decide) (by decide) (by decide) (by decide) (by decide) ?_
    refine g_iconst C dX4_isSmallPrime_64 ?_
    exact kr _ _ _ dX4_isSmallPrime_65 (by decide) (by decide)
  · refine g_tableIn C dX4_isSmallPrime_1 (off := 65) (tgt := 66) (by decide) (by decide) (by decide) (by decide) (by decide) ?_
    refine g_iconst C dX4_isSmallPrime_66 ?_
    exact kr _ _ _ dX4_isSmallPrime_67 (by decide) (by rw [if_neg (by omega)])
  · refine g_tableIn C dX4_isSmallPrime_1 (off := 63) (tgt := 64) (by decide) (by decide) (by decide) (by decide) (by decide) ?_
    refine g_iconst C dX4_isSmallPrime_64 ?_
    exact kr _ _ _ dX4_isSmallPrime_65 (by decide) (by decide)
  · refine g_tableIn C dX4_isSmallPrime_1 (off := 65) (tgt := 66) (by decide) (by decide) (by decide) (by decide) (by decide) ?_
    refine g_iconst C dX4_isSmallPrime_66 ?_
    exact kr _ _ _ dX4_isSmallPrime_67 (by decide) (by rw [if_neg (by omega)])
  · refine g_tableIn C dX4_isSmallPrime_1 (off := 65) (tgt := 66) (by decide) (by decide) (by decide) (by decide) (by decide) ?_
    refine g_iconst C dX4_isSmallPrime_66 ?_
    exact kr _ _ _ dX4_isSmallPrime_67 (by decide) (by rw [if_neg (by omega)])
  · refine g_tableIn C dX4_isSmallPrime_1 (off := 65) (tgt := 66) (by decide) (by decide) (by decide) (by decide) (by decide) ?_
    refine g_iconst C dX4_isSmallPrime_66 ?_
    exact kr _ _ _ dX4_isSmallPrime_67 (by decide) (by rw [if_neg (by omega)])
  · refine g_tableIn C dX4_isSmallPrime_1 (off := 63) (tgt := 64) (by decide) (by decide) (by decide) (by decide) (by decide) ?_
    refine g_iconst C dX4_isSmallPrime_64 ?_
    exact kr _ _ _ dX4_isSmallPrime_65 (by decide) (by decide)
  · refine g_tableIn C dX4_isSmallPrime_1 (off := 65) (tgt := 66) (by decide) (by decide) (by decide) (by decide) (by decide) ?_
    refine g_iconst C dX4_isSmallPrime_66 ?_
    exact kr _ _ _ dX4_isSmallPrime_67 (by decide) (by rw [if_neg (by omega)])
  · refine g_tableIn C dX4_isSmallPrime_1 (off := 63) (tgt := 64) (by decide) (by decide) (by decide) (by decide) (by decide) ?_
    refine g_iconst C dX4_isSmallPrime_64 ?_
    exact kr _ _ _ dX4_isSmallPrime_65 (by decide) (by decide)
  · refine g_tableOut C dX4_isSmallPrime_1 (tgt := 66) (by omega) (by omega) (by decide) ?_
    refine g_iconst C dX4_isSmallPrime_66 ?_
    exact kr _ _ _ dX4_isSmallPrime_67 (by decide) (by rw [if_neg (by omega)])
theorem t_isRoot {h : ax_H} {B K : Nat → List Pt3} {km n q i j : Nat} (H : wd h B K km) (hn : n < 4) (hq : 2 ≤ q ∧ q ≤ 13) (hF : pwF h (q : Int) q) (hi : 1 ≤ i ∧ i < q) (hj : 1 ≤ j ∧ j < q) : ax_Met MX4_isRoot [rv 0, rv (121 + 4 * n), iv (i : Int), iv (j : Int), iv (q : Int)] h (some (iv (if isr (B n) i j q then 1 else 0))) h := by
  obtain ⟨X, Y, V, hB, hE, hO⟩ := H.of hn
  have ⟨h0, h1, h2, h3⟩ := hB
  have hL := hO.1
  obtain ⟨g0, -, -, g, g1, hg⟩ := H.1
  obtain ⟨r1, hr1, hp1⟩ := hF i hi.1 hi.2
  obtain ⟨r2, hr2, hp2⟩ := hF j hj.1 hj.2
  have hin := fun k (hk : k ≤ (B n).length) => vsm_in (X := X) (Y := Y) (V := V) (x := (i : Int)) (y := (j : Int)) (p := (q : Int)) (by omega) (by omega) (by omega) k (fun z hz => (hO.2 z (by omega)).2.2)
  refine ax_mz (L0 := [some (rv 0), some (rv (121 + 4 * n)), some (iv (i : Int)), some (iv (j : Int)), some (iv (q : Int)), none, none]) rfl rfl (Nat.le_refl _) (Nat.le_refl _) (Nat.le_of_ble_eq_true rfl) rfl ?_
  intro p9 l9 e9 R9 s9 m9 args9 below9 meth9 c9 b9 D9 dA9 Q9 C kr
  have loop : ∀ (d k : Nat), k + d = (B n).length → ax_G p9 l9 e9 R9 s9 m9 args9 below9 meth9 c9 b9 D9 dA9 MX4_isRoot.2.2.1 h.length (ax_sz h) Q9 (19) ([some (rv 0), some (rv (121 + 4 * n)), some (iv (i : Int)), some (iv (j : Int)), some (iv (q : Int)), some (iv (vsm X Y V (i : Int) (j : Int) (q : Int) k)), some (iv (k : Int))]) ([]) (h) := by
    intro d
    induction d with
    | zero =>
      intro k hk
      have e : k = (B n).length := by omega
      subst e
      have b := hin (B n).length (Nat.le_refl _)
      have b2 := tmod_in (x := vsm X Y V (i : Int) (j : Int) (q : Int) (B n).length) (p := (q : Int)) b.1 (by omega)
      have e2 : vsm X Y V (i : Int) (j : Int) (q : Int) (B n).length = vsm (lx (B n)) (ly (B n)) (lv (B n)) (i : Int) (j : Int) (q : Int) (B n).length := vsm_cg _ hE
      refine g_iload C dX4_isRoot_19 rfl ?_
      refine g_aload_n C dX4_isRoot_21 rfl ?_
      refine g_get C FX4_50 dX4_isRoot_22 (by assumption) rfl ?_
      refine g_icmp_ge C dX4_isRoot_25 (tgt := 76) (by decide) (by omega) (by omega) (fun h25 => ?_) (fun h25 => ?_)
      · refine g_iload C dX4_isRoot_76 rfl ?_
        refine g_iload C dX4_isRoot_78 rfl ?_
        refine g_irem C dX4_isRoot_80 (by omega) (by omega) (by omega) ?_
        refine g_if_ne C dX4_isRoot_81 (tgt := 88) (by decide) (by omega) (fun h81 => ?_) (fun h81 => ?_)
        · refine g_iconst C dX4_isRoot_88 ?_
          first | exact kr _ _ _ dX4_isRoot_89 (by decide) (by rw [if_neg (fun z : isr (B n) i j q => h81 (by rw [e2]; exact z))]) | exact kr _ _ _ dX4_isRoot_89 (by decide) (by rw [if_pos (show isr (B n) i j q by unfold isr; rw [← e2]; exact h81)])
        · refine g_iconst C dX4_isRoot_84 ?_
          refine g_goto C dX4_isRoot_85 (tgt := 89) (by decide) ?_
          first | exact kr _ _ _ dX4_isRoot_89 (by decide) (by rw [if_neg (fun z : isr (B n) i j q => h81 (by rw [e2]; exact z))]) | exact kr _ _ _ dX4_isRoot_89 (by decide) (by rw [if_pos (show isr (B n) i j q by unfold isr; rw [← e2]; exact h81)])
      · exfalso; omega
    | succ d ih =>
      intro k hk
      have hk2 := hO.2 k (by omega)
      refine g_iload C dX4_isRoot_19 rfl ?_
      refine g_aload_n C dX4_isRoot_21 rfl ?_
      refine g_get C FX4_50 dX4_isRoot_22 (by assumption) rfl ?_
      refine g_icmp_ge C dX4_isRoot_25 (tgt := 76) (by decide) (by omega) (by omega) (fun h25 => ?_) (fun h25 => ?_)
      · exfalso; omega
      · refine g_iload C dX4_isRoot_28 rfl ?_
        refine g_aload_n C dX4_isRoot_30 rfl ?_
        refine g_get C FX4_58 dX4_isRoot_31 (by assumption) rfl ?_
        refine g_iload C dX4_isRoot_34 rfl ?_
        refine g_iald C dX4_isRoot_36 (by assumption) rfl (by omega) (by decide) ?_
        refine g_aload_n C dX4_isRoot_37 rfl ?_
        refine g_get C FX4_34 dX4_isRoot_38 (by assumption) rfl ?_
        refine g_iload_n C dX4_isRoot_41 rfl ?_
        refine g_aald C dX4_isRoot_42 (by assumption) rfl rfl rfl (by omega) (by decide) ?_
        rw [hg i (by omega)]
        refine g_aload_n C dX4_isRoot_43 rfl ?_
        refine g_get C FX4_70 dX4_isRoot_44 (by assumption) rfl ?_
        refine g_iload C dX4_isRoot_47 rfl ?_
        refine g_iald C dX4_isRoot_49 (by assumption) rfl (by omega) (by decide) ?_
        refine g_iald C dX4_isRoot_50 (by assumption) (show X k = (((X k).toNat : Nat) : Int) by omega) (by omega) (by decide) ?_
        rw [hp1 (X k).toNat (by omega)]
        refine g_imul C dX4_isRoot_51 ?_
        refine g_aload_n C dX4_isRoot_52 rfl ?_
        refine g_get C FX4_34 dX4_isRoot_53 (by assumption) rfl ?_
        refine g_iload_n C dX4_isRoot_56 rfl ?_
        refine g_aald C dX4_isRoot_57 (by assumption) rfl rfl rfl (by omega) (by decide) ?_
        rw [hg j (by omega)]
        refine g_aload_n C dX4_isRoot_58 rfl ?_
        refine g_get C FX4_73 dX4_isRoot_59 (by assumption) rfl ?_
        refine g_iload C dX4_isRoot_62 rfl ?_
        refine g_iald C dX4_isRoot_64 (by assumption) rfl (by omega) (by decide) ?_
        refine g_iald C dX4_isRoot_65 (by assumption) (show Y k = (((Y k).toNat : Nat) : Int) by omega) (by omega) (by decide) ?_
        rw [hp2 (Y k).toNat (by omega)]
        refine g_imul C dX4_isRoot_66 ?_
        refine g_iadd C dX4_isRoot_67 ?_
        refine g_istore C dX4_isRoot_68 (by decide) rfl ?_
        dsimp only [List.set]
        refine g_iinc C dX4_isRoot_70 (by decide) rfl rfl ?_
        dsimp only [List.set]
        refine g_goto C dX4_isRoot_73 (tgt := 19) (by decide) ?_
        exact ih (k + 1) (by omega)
  refine g_iload C dX4_isRoot_0 rfl ?_
  refine g_iconst C dX4_isRoot_2 ?_
  refine g_bipush C dX4_isRoot_3 (by decide) ?_
  refine g_S C (t_isWithin (show -2147483648 ≤ (q : Int) ∧ (q : Int) < 2147483648 by omega) (by omega) (by omega)) dX4_isRoot_5 KX4_isWithin LX4_42 SX4_isWithin (by decide) rfl rfl (Nat.le_of_ble_eq_true rfl) ⟨rfl, rfl⟩ ?_
  dsimp only [Option.toList, List.cons_append, List.nil_append]
  refine g_if_ne C dX4_isRoot_8 (tgt := 13) (by decide) ifr (fun h8 => ?_) (fun h8 => ?_)
  · have w8 : 1 ≤ (q : Int) ∧ (q : Int) ≤ 13 := if1 h8
    refine g_iconst C dX4_isRoot_13 ?_
    refine g_istore C dX4_isRoot_14 (by decide) rfl ?_
    dsimp only [List.set]
    refine g_iconst C dX4_isRoot_16 ?_
    refine g_istore C dX4_isRoot_17 (by decide) rfl ?_
    dsimp only [List.set]
    exact loop (B n).length 0 (by omega)
  · have w8 : ¬ (1 ≤ (q : Int) ∧ (q : Int) ≤ 13) := if0 h8
    exfalso; omega
theorem t_roots {h : ax_H} {B K : Nat → List Pt3} {km : Nat} (H : wd h B K km) {a b p : Int} (ha : -2147483648 ≤ a ∧ a < 2147483648) (hb : -2147483648 ≤ b ∧ b < 2147483648) (hp : -2147483648 ≤ p ∧ p < 2147483648) : ax_Mt MX4_roots [rv 0, iv a, iv b, iv p] h (fun r h' => r = some (iv (sroots B a b p)) ∧ wd h' B K km ∧ ax_sm 0 169 h h') := by
  have hm := ax_sm.rf (lo := 0) (hi := 169) h
  have g0 := H.1.1
  refine ax_ri (L0 := [some (rv 0), some (iv a), some (iv b), some (iv p), none, none, none, none, none]) rfl rfl (Nat.le_of_ble_eq_true rfl) rfl ?_
  intro p9 l9 e9 R9 s9 m9 args9 below9 meth9 c9 b9 D9 dA9 Q9 C kr
  by_cases c : 0 ≤ a ∧ a ≤ 3
  · obtain ⟨n, rfl⟩ : ∃ n : Nat, a = (n : Int) := ⟨a.toNat, by omega⟩
    have hn : n < 4 := by omega
    by_cases c2 : 0 ≤ b ∧ b ≤ 3
    · obtain ⟨m, rfl⟩ : ∃ n : Nat, b = (n : Int) := ⟨b.toNat, by omega⟩
      have hm4 : m < 4 := by omega
      have part : ∀ q : Nat, p = (q : Int) → (p = 2 ∨ p = 3 ∨ p = 5 ∨ p = 7 ∨ p = 11 ∨ p = 13) → ∀ (hh : ax_H), wd hh B K km → ax_sm 0 169 h hh → pwF hh (q : Int) q → ax_G p9 l9 e9 R9 s9 m9 args9 below9 meth9 c9 b9 D9 dA9 MX4_roots.2.2.1 h.length (ax_sz h) Q9 (41) ([some (rv 0), some (iv (n : Int)), some (iv (m : Int)), some (iv (q : Int)), some (rv (121 + 4 * n)), some (rv (121 + 4 * m)), none, none, none]) ([]) (hh) := by
        intro q eq hP hh H hm hF
        have g0 := H.1.1
        have inner : ∀ (i : Nat), 1 ≤ i → i < q → (∀ (x8 : Option ax_V), ax_G p9 l9 e9 R9 s9 m9 args9 below9 meth9 c9 b9 D9 dA9 MX4_roots.2.2.1 h.length (ax_sz h) Q9 (47) ([some (rv 0), some (iv (n : Int)), some (iv (m : Int)), some (iv (q : Int)), some (rv (121 + 4 * n)), some (rv (121 + 4 * m)), some (iv (rco (B n) (B m) (q : Int) (q - 1) i)), some (iv ((i + 1 : Nat) : Int)), x8]) ([]) (hh)) → ∀ (d j : Nat), j + d = q → 1 ≤ j → ax_G p9 l9 e9 R9 s9 m9 args9 below9 meth9 c9 b9 D9 dA9 MX4_roots.2.2.1 h.length (ax_sz h) Q9 (56) ([some (rv 0), some (iv (n : Int)), some (iv (m : Int)), some (iv (q : Int)), some (rv (121 + 4 * n)), some (rv (121 + 4 * m)), some (iv (rco (B n) (B m) (q : Int) (q - 1) (i - 1) + rci (B n) (B m) (q : Int) i (j - 1))), some (iv (i : Int)), some (iv (j : Int))]) ([]) (hh) := by
          intro i hi1 hi2 K9 d
          induction d with
          | zero =>
            intro j hj hj1
            have e : j = q := by omega
            subst e
            obtain ⟨i0, rfl⟩ : ∃ i0, i = i0 + 1 := ⟨i - 1, by omega⟩
            refine g_iload C dX4_roots_56 rfl ?_
            refine g_iload_n C dX4_roots_58 rfl ?_
            refine g_icmp_ge C dX4_roots_59 (tgt := 99) (by decide) (by omega) (by omega) (fun h59 => ?_) (fun h59 => ?_)
            · refine g_iinc C dX4_roots_99 (by decide) rfl rfl ?_
              dsimp only [List.set]
              refine g_goto C dX4_roots_102 (tgt := 47) (by decide) ?_
              exact K9 _
            · exfalso; omega
          | succ d ih =>
            intro j hj hj1
            obtain ⟨j0, rfl⟩ : ∃ j0, j = j0 + 1 := ⟨j - 1, by omega⟩
            have e := ih (j0 + 1 + 1) (by omega) (by omega)
            rw [show j0 + 1 + 1 - 1 = j0 + 1 from rfl, rci] at e
            refine g_iload C dX4_roots_56 rfl ?_
            refine g_iload_n C dX4_roots_58 rfl ?_
            refine g_icmp_ge C dX4_roots_59 (tgt := 99) (by decide) (by omega) (by omega) (fun h59 => ?_) (fun h59 => ?_)
            · exfalso; omega
            · refine g_aload_n C dX4_roots_62 rfl ?_
              refine g_aload C dX4_roots_63 rfl ?_
              refine g_iload C dX4_roots_65 rfl ?_
              refine g_iload C dX4_roots_67 rfl ?_
              refine g_iload_n C dX4_roots_69 rfl ?_
              refine g_V C (t_isRoot H hn (show 2 ≤ q ∧ q ≤ 13 by omega) hF ⟨hi1, hi2⟩ (show 1 ≤ j0 + 1 ∧ j0 + 1 < q by omega)) dX4_roots_70 KX4_isRoot LX4_172 IX4_isRoot VX4_isRoot (by decide) rfl (by assumption) rfl rfl rfl (Nat.le_of_ble_eq_true rfl) ⟨rfl, rfl⟩ ?_
              dsimp only [Option.toList, List.cons_append, List.nil_append]
              refine g_if_eq C dX4_roots_73 (tgt := 93) (by decide) ifr (fun h73 => ?_) (fun h73 => ?_)
              · have w73 : ¬ (isr (B n) (i : Int) ((j0 + 1 : Nat) : Int) (q : Int)) := if0 h73
                rw [if_neg (fun z : both (B n) (B m) (q : Int) i (j0 + 1) => w73 z.1), Int.add_zero] at e
                refine g_iinc C dX4_roots_93 (by decide) rfl rfl ?_
                dsimp only [List.set]
                refine g_goto C dX4_roots_96 (tgt := 56) (by decide) ?_
                exact e
              · have w73 : isr (B n) (i : Int) ((j0 + 1 : Nat) : Int) (q : Int) := if1 h73
                refine g_aload_n C dX4_roots_76 rfl ?_
                refine g_aload C dX4_roots_77 rfl ?_
                refine g_iload C dX4_roots_79 rfl ?_
                refine g_iload C dX4_roots_81 rfl ?_
                refine g_iload_n C dX4_roots_83 rfl ?_
                refine g_V C (t_isRoot H hm4 (show 2 ≤ q ∧ q ≤ 13 by omega) hF ⟨hi1, hi2⟩ (show 1 ≤ j0 + 1 ∧ j0 + 1 < q by omega)) dX4_roots_84 KX4_isRoot LX4_172 IX4_isRoot VX4_isRoot (by decide) rfl (by assumption) rfl rfl rfl (Nat.le_of_ble_eq_true rfl) ⟨rfl, rfl⟩ ?_
                dsimp only [Option.toList, List.cons_append, List.nil_append]
                refine g_if_eq C dX4_roots_87 (tgt := 93) (by decide) ifr (fun h87 => ?_) (fun h87 => ?_)
                · have w87 : ¬ (isr (B m) (i : Int) ((j0 + 1 : Nat) : Int) (q : Int)) := if0 h87
                  rw [if_neg (fun z : both (B n) (B m) (q : Int) i (j0 + 1) => w87 z.2), Int.add_zero] at e
                  refine g_iinc C dX4_roots_93 (by decide) rfl rfl ?_
                  dsimp only [List.set]
                  refine g_goto C dX4_roots_96 (tgt := 56) (by decide) ?_
                  exact e
                · have w87 : isr (B m) (i : Int) ((j0 + 1 : Nat) : Int) (q : Int) := if1 h87
                  rw [if_pos (show both (B n) (B m) (q : Int) i (j0 + 1) from ⟨w73, w87⟩), ← Int.add_assoc] at e
                  refine g_iinc C dX4_roots_90 (by decide) rfl rfl ?_
                  dsimp only [List.set]
                  refine g_iinc C dX4_roots_93 (by decide) rfl rfl ?_
                  dsimp only [List.set]
                  refine g_goto C dX4_roots_96 (tgt := 56) (by decide) ?_
                  exact e
        have outer : ∀ (d i : Nat) (x8 : Option ax_V), i + d = q → 1 ≤ i → ax_G p9 l9 e9 R9 s9 m9 args9 below9 meth9 c9 b9 D9 dA9 MX4_roots.2.2.1 h.length (ax_sz h) Q9 (47) ([some (rv 0), some (iv (n : Int)), some (iv (m : Int)), some (iv (q : Int)), some (rv (121 + 4 * n)), some (rv (121 + 4 * m)), some (iv (rco (B n) (B m) (q : Int) (q - 1) (i - 1))), some (iv (i : Int)), x8]) ([]) (hh) := by
          intro d
          induction d with
          | zero =>
            intro i x8 hi hi1
            have e : i = q := by omega
            subst e
            refine g_iload C dX4_roots_47 rfl ?_
            refine g_iload_n C dX4_roots_49 rfl ?_
            refine g_icmp_ge C dX4_roots_50 (tgt := 105) (by decide) (by omega) (by omega) (fun h50 => ?_) (fun h50 => ?_)
            · refine g_iload C dX4_roots_105 rfl ?_
              exact kr _ _ _ _ dX4_roots_107 ⟨congrArg (fun z => some (iv z)) (by unfold sroots; rw [eq, Int.toNat_natCast, Int.toNat_natCast, Int.toNat_natCast]; (repeat (first | rw [if_pos (by omega)] | rw [if_neg (by omega)]))), H, hm⟩ hm.1
            · exfalso; omega
          | succ d ih =>
            intro i x8 hi hi1
            refine g_iload C dX4_roots_47 rfl ?_
            refine g_iload_n C dX4_roots_49 rfl ?_
            refine g_icmp_ge C dX4_roots_50 (tgt := 105) (by decide) (by omega) (by omega) (fun h50 => ?_) (fun h50 => ?_)
            · exfalso; omega
            · refine g_iconst C dX4_roots_53 ?_
              refine g_istore C dX4_roots_54 (by decide) rfl ?_
              dsimp only [List.set]
              have q9 := inner i hi1 (by omega) (fun x8 => ih (i + 1) x8 (by omega) (by omega)) (q - 1) 1 (by omega) (by omega)
              rw [show rci (B n) (B m) (q : Int) i (1 - 1) = 0 from rfl, Int.add_zero] at q9
              exact q9
        refine g_iconst C dX4_roots_41 ?_
        refine g_istore C dX4_roots_42 (by decide) rfl ?_
        dsimp only [List.set]
        refine g_iconst C dX4_roots_44 ?_
        refine g_istore C dX4_roots_45 (by decide) rfl ?_
        dsimp only [List.set]
        exact outer (q - 1) 1 _ (by omega) (by omega)
      refine g_aload_n C dX4_roots_0 rfl ?_
      refine g_iload_n C dX4_roots_1 rfl ?_
      refine g_V C (t_bodyA H hn) dX4_roots_2 KX4_bodyAt LX4_38 IX4_bodyAt VX4_bodyAt (by decide) rfl (by assumption) rfl rfl rfl (Nat.le_of_ble_eq_true rfl) ⟨rfl, rfl⟩ ?_
      dsimp only [Option.toList, List.cons_append, List.nil_append]
      refine g_astore C dX4_roots_5 (by decide) rfl ?_
      dsimp only [List.set]
      refine g_aload_n C dX4_roots_7 rfl ?_
      refine g_iload_n C dX4_roots_8 rfl ?_
      refine g_V C (t_bodyA H hm4) dX4_roots_9 KX4_bodyAt LX4_38 IX4_bodyAt VX4_bodyAt (by decide) rfl (by assumption) rfl rfl rfl (Nat.le_of_ble_eq_true rfl) ⟨rfl, rfl⟩ ?_
      dsimp only [Option.toList, List.cons_append, List.nil_append]
      refine g_astore C dX4_roots_12 (by decide) rfl ?_
      dsimp only [List.set]
      refine g_aload C dX4_roots_14 rfl ?_
      refine g_ifnull C dX4_roots_16 ?_
      refine g_aload C dX4_roots_19 rfl ?_
      refine g_ifnonnull C dX4_roots_21 (tgt := 26) (by decide) ?_
      refine g_iload_n C dX4_roots_26 rfl ?_
      refine g_S C (t_isSmallPrime hp) dX4_roots_27 KX4_isSmallPrime LX4_166 SX4_isSmallPrime (by decide) rfl rfl (Nat.le_of_ble_eq_true rfl) ⟨rfl, rfl⟩ ?_
      dsimp only [Option.toList, List.cons_append, List.nil_append]
      refine g_if_ne C dX4_roots_30 (tgt := 36) (by decide) ifr (fun h30 => ?_) (fun h30 => ?_)
      · have w30 : p = 2 ∨ p = 3 ∨ p = 5 ∨ p = 7 ∨ p = 11 ∨ p = 13 := if1 h30
        obtain ⟨q, eq⟩ : ∃ q : Nat, p = (q : Int) := ⟨p.toNat, by omega⟩
        have hP := w30
        rw [eq]
        refine g_aload_n C dX4_roots_36 rfl ?_
        refine g_iload_n C dX4_roots_37 rfl ?_
        refine g_RV C (t_fillPowers H (q := q) (by omega)) dX4_roots_38 KX4_fillPowers LX4_169 IX4_fillPowers VX4_fillPowers (by decide) rfl (by assumption) rfl rfl rfl (Nat.le_of_ble_eq_true rfl) ?_
        intro r1 g1 hP1 hz1
        obtain ⟨rfl, hF, H1, hm1⟩ := hP1
        dsimp only [Option.toList, List.cons_append, List.nil_append]
        exact part q eq hP _ H1 (hm1.wide (by omega) (by omega)) hF
      · have w30 : ¬ (p = 2 ∨ p = 3 ∨ p = 5 ∨ p = 7 ∨ p = 11 ∨ p = 13) := if0 h30
        refine g_bipush C dX4_roots_33 (by decide) ?_
        exact kr _ _ _ _ dX4_roots_35 ⟨congrArg (fun z => some (iv z)) (by unfold sroots; (repeat (first | rw [if_pos (by omega)] | rw [if_neg (by omega)]))), H, hm⟩ hm.1
    · refine g_aload_n C dX4_roots_0 rfl ?_
      refine g_iload_n C dX4_roots_1 rfl ?_
      refine g_V C (t_bodyA H hn) dX4_roots_2 KX4_bodyAt LX4_38 IX4_bodyAt VX4_bodyAt (by decide) rfl (by assumption) rfl rfl rfl (Nat.le_of_ble_eq_true rfl) ⟨rfl, rfl⟩ ?_
      dsimp only [Option.toList, List.cons_append, List.nil_append]
      refine g_astore C dX4_roots_5 (by decide) rfl ?_
      dsimp only [List.set]
      refine g_aload_n C dX4_roots_7 rfl ?_
      refine g_iload_n C dX4_roots_8 rfl ?_
      refine g_V C (t_bodyN H hb c2) dX4_roots_9 KX4_bodyAt LX4_38 IX4_bodyAt VX4_bodyAt (by decide) rfl (by assumption) rfl rfl rfl (Nat.le_of_ble_eq_true rfl) ⟨rfl, rfl⟩ ?_
      dsimp only [Option.toList, List.cons_append, List.nil_append]
      refine g_astore C dX4_roots_12 (by decide) rfl ?_
      dsimp only [List.set]
      refine g_aload C dX4_roots_14 rfl ?_
      refine g_ifnull C dX4_roots_16 ?_
      refine g_aload C dX4_roots_19 rfl ?_
      refine g_ifnonnullN C dX4_roots_21 ?_
      refine g_iconst C dX4_roots_24 ?_
      exact kr _ _ _ _ dX4_roots_25 ⟨congrArg (fun z => some (iv z)) (by unfold sroots; (repeat (first | rw [if_pos (by omega)] | rw [if_neg (by omega)]))), H, hm⟩ hm.1
  · have hN : ∃ o : Option Nat, ax_Met MX4_bodyAt [rv 0, iv b] h (some (.inr o)) h := ⟨_, t_bodyAt H.1 hb⟩
    obtain ⟨o, hN⟩ := hN
    refine g_aload_n C dX4_roots_0 rfl ?_
    refine g_iload_n C dX4_roots_1 rfl ?_
    refine g_V C (t_bodyN H ha c) dX4_roots_2 KX4_bodyAt LX4_38 IX4_bodyAt VX4_bodyAt (by decide) rfl (by assumption) rfl rfl rfl (Nat.le_of_ble_eq_true rfl) ⟨rfl, rfl⟩ ?_
    dsimp only [Option.toList, List.cons_append, List.nil_append]
    refine g_astore C dX4_roots_5 (by decide) rfl ?_
    dsimp only [List.set]
    refine g_aload_n C dX4_roots_7 rfl ?_
    refine g_iload_n C dX4_roots_8 rfl ?_
    refine g_V C (hN) dX4_roots_9 KX4_bodyAt LX4_38 IX4_bodyAt VX4_bodyAt (by decide) rfl (by assumption) rfl rfl rfl (Nat.le_of_ble_eq_true rfl) ⟨rfl, rfl⟩ ?_
    dsimp only [Option.toList, List.cons_append, List.nil_append]
    refine g_astore C dX4_roots_12 (by decide) rfl ?_
    dsimp only [List.set]
    refine g_aload C dX4_roots_14 rfl ?_
    refine g_ifnullN C dX4_roots_16 (tgt := 24) (by decide) ?_
    refine g_iconst C dX4_roots_24 ?_
    exact kr _ _ _ _ dX4_roots_25 ⟨congrArg (fun z => some (iv z)) (by unfold sroots; (repeat (first | rw [if_pos (by omega)] | rw [if_neg (by omega)]))), H, hm⟩ hm.1
