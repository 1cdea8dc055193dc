/-! the reference: points, corners -/
section ML
variable {h : ax_H} {a : Nat} {s : MS} {c : MC} {xs ys : Nat → Int} {pt : Nat} {co : Nat → Int} {cc : Nat} {B K : Nat → List Pt3} {km : Nat}
theorem pin_up {x y u v : Int} : pin (va_up xs pt x) (va_up ys pt y) (pt + 1) u v ↔ pin xs ys pt u v ∨ (u = x ∧ v = y) := by
  constructor
  · rintro ⟨i, hi, e1, e2⟩
    by_cases q : i = pt
    · subst q; rw [va_eq] at e1 e2; exact Or.inr ⟨e1.symm, e2.symm⟩
    · rw [va_ne q] at e1 e2; exact Or.inl ⟨i, by omega, e1, e2⟩
  · rintro (⟨i, hi, e1, e2⟩ | ⟨e1, e2⟩)
    · exact ⟨i, by omega, by rw [va_ne (by omega)]; exact e1, by rw [va_ne (by omega)]; exact e2⟩
    · exact ⟨pt, by omega, by rw [va_eq, e1], by rw [va_eq, e2]⟩
theorem inj_up {x y : Int} (hi : inj2 xs ys pt) (hn : ¬ pin xs ys pt x y) : inj2 (va_up xs pt x) (va_up ys pt y) (pt + 1) := fun i j h1 h2 e1 e2 => by
  by_cases q : i = pt
  · by_cases q2 : j = pt
    · omega
    · subst q; rw [va_eq, va_ne q2] at e1 e2; exact absurd ⟨j, by omega, e1.symm, e2.symm⟩ hn
  · by_cases q2 : j = pt
    · subst q2; rw [va_eq, va_ne q] at e1 e2; exact absurd ⟨i, by omega, e1, e2⟩ hn
    · rw [va_ne q, va_ne q2] at e1 e2; exact hi i j (by omega) (by omega) e1 e2
theorem rg_up {x y : Int} (hr : rg_rg xs ys pt) (hx : 0 ≤ x ∧ x ≤ 84) (hy : 0 ≤ y ∧ y ≤ 84) : rg_rg (va_up xs pt x) (va_up ys pt y) (pt + 1) := fun i hi => by
  by_cases q : i = pt
  · subst q; rw [va_eq, va_eq]; exact ⟨hx, hy⟩
  · rw [va_ne q, va_ne q]; exact hr i (by omega)
theorem r_addPoint (M : mz h a s c xs ys pt co cc) (hr : rg_rg xs ys pt) (hp : pt < 128) {x y : Int} (hx : 0 ≤ x ∧ x ≤ 84) (hy : 0 ≤ y ∧ y ≤ 84) : ax_Mt MX5_addPoint [rv a, iv x, iv y] h (fun r h' => r = none ∧ ax_sm a (a + 12) h h' ∧ ((pin xs ys pt x y ∧ mz h' a s c xs ys pt co cc) ∨ (¬ pin xs ys pt x y ∧ mz h' a s c (va_up xs pt x) (va_up ys pt y) (pt + 1) co cc))) := by
  have hm := ax_sm.rf (lo := a) (hi := a + 12) h
  have ⟨h0, h1, h2, h3, h4, h5, h6, h7, h8, h9, h10, h11⟩ := M
  refine ax_rv (L0 := [some (rv a), some (iv x), some (iv y), none]) rfl rfl (Nat.le_of_ble_eq_true rfl) rfl ?_
  intro p9 l9 e9 R9 s9 m9 args9 below9 meth9 c9 b9 D9 dA9 Q9 C kr
  have loop : ∀ (d k : Nat), k + d = pt → (∀ i, i < k → ¬ (xs i = x ∧ ys i = y)) → ax_G p9 l9 e9 R9 s9 m9 args9 below9 meth9 c9 b9 D9 dA9 MX5_addPoint.2.2.1 h.length (ax_sz h) Q9 (2) ([some (rv a), some (iv x), some (iv y), some (iv (k : Int))]) ([]) (h) := by
    intro d
    induction d with
    | zero =>
      intro k hk hn
      have e : k = pt := by omega
      subst e
      have hn : ¬ pin xs ys k x y := fun ⟨i, hi, e1, e2⟩ => hn i hi ⟨e1, e2⟩
      refine g_iload_n C dX5_addPoint_2 rfl ?_
      refine g_aload_n C dX5_addPoint_3 rfl ?_
      refine g_get C FX5_63 dX5_addPoint_4 (by assumption) rfl ?_
      refine g_icmp_ge C dX5_addPoint_7 (tgt := 37) (by decide) (by omega) (by omega) (fun h7 => ?_) (fun h7 => ?_)
      · refine g_aload_n C dX5_addPoint_37 rfl ?_
        refine g_get C FX5_20 dX5_addPoint_38 (by assumption) rfl ?_
        refine g_aload_n C dX5_addPoint_41 rfl ?_
        refine g_get C FX5_63 dX5_addPoint_42 (by assumption) rfl ?_
        refine g_iload_n C dX5_addPoint_45 rfl ?_
        refine g_iast C dX5_addPoint_46 (by assumption) rfl (by omega) (by decide) ?_
        refine mo_s_xs M hm ?_
        intro h9 M hm
        have ⟨h0, h1, h2, h3, h4, h5, h6, h7, h8, h9, h10, h11⟩ := M
        refine g_aload_n C dX5_addPoint_47 rfl ?_
        refine g_get C FX5_23 dX5_addPoint_48 (by assumption) rfl ?_
        refine g_aload_n C dX5_addPoint_51 rfl ?_
        refine g_get C FX5_63 dX5_addPoint_52 (by assumption) rfl ?_
        refine g_iload_n C dX5_addPoint_55 rfl ?_
        refine g_iast C dX5_addPoint_56 (by assumption) rfl (by omega) (by decide) ?_
        refine mo_s_ys M hm ?_
        intro h9 M hm
        have ⟨h0, h1, h2, h3, h4, h5, h6, h7, h8, h9, h10, h11⟩ := M
        refine g_aload_n C dX5_addPoint_57 rfl ?_
        refine g_dup C dX5_addPoint_58 ?_
        refine g_get C FX5_63 dX5_addPoint_59 (by assumption) rfl ?_
        refine g_iconst C dX5_addPoint_62 ?_
        refine g_iadd C dX5_addPoint_63 ?_
        refine g_put C FX5_63 dX5_addPoint_64 (by assumption) rfl rfl (Nat.le_of_ble_eq_true rfl) ?_
        dsimp only [List.set]
        refine mo_s_pt (k + 1) rfl M hm ?_
        intro h9 M hm
        exact kr _ _ _ dX5_addPoint_67 ⟨rfl, hm, Or.inr ⟨hn, M⟩⟩ hm.1
      · exfalso; omega
    | succ d ih =>
      intro k hk hn
      have hb := hr k (by omega)
      refine g_iload_n C dX5_addPoint_2 rfl ?_
      refine g_aload_n C dX5_addPoint_3 rfl ?_
      refine g_get C FX5_63 dX5_addPoint_4 (by assumption) rfl ?_
      refine g_icmp_ge C dX5_addPoint_7 (tgt := 37) (by decide) (by omega) (by omega) (fun h7 => ?_) (fun h7 => ?_)
      · exfalso; omega
      · refine g_aload_n C dX5_addPoint_10 rfl ?_
        refine g_get C FX5_20 dX5_addPoint_11 (by assumption) rfl ?_
        refine g_iload_n C dX5_addPoint_14 rfl ?_
        refine g_iald C dX5_addPoint_15 (by assumption) rfl (by omega) (by decide) ?_
        refine g_iload_n C dX5_addPoint_16 rfl ?_
        refine g_icmp_ne C dX5_addPoint_17 (tgt := 31) (by decide) (by omega) (by omega) (fun h17 => ?_) (fun h17 => ?_)
        · refine g_iinc C dX5_addPoint_31 (by decide) rfl rfl ?_
          dsimp only [List.set]
          refine g_goto C dX5_addPoint_34 (tgt := 2) (by decide) ?_
          exact ih (k + 1) (by omega) (fun i hi q => by
            by_cases z : i = k
            · subst z; omega
            · exact hn i (by omega) q)
        · refine g_aload_n C dX5_addPoint_20 rfl ?_
          refine g_get C FX5_23 dX5_addPoint_21 (by assumption) rfl ?_
          refine g_iload_n C dX5_addPoint_24 rfl ?_
          refine g_iald C dX5_addPoint_25 (by assumption) rfl (by omega) (by decide) ?_
          refine g_iload_n C dX5_addPoint_26 rfl ?_
          refine g_icmp_ne C dX5_addPoint_27 (tgt := 31) (by decide) (by omega) (by omega) (fun h27 => ?_) (fun h27 => ?_)
          · refine g_iinc C dX5_addPoint_31 (by decide) rfl rfl ?_
            dsimp only [List.set]
            refine g_goto C dX5_addPoint_34 (tgt := 2) (by decide) ?_
            exact ih (k + 1) (by omega) (fun i hi q => by
              by_cases z : i = k
              · subst z; omega
              · exact hn i (by omega) q)
          · exact kr _ _ _ dX5_addPoint_30 ⟨rfl, hm, Or.inl ⟨⟨k, by omega, h17, h27⟩, M⟩⟩ hm.1
  refine g_iconst C dX5_addPoint_0 ?_
  refine g_istore_n C dX5_addPoint_1 (by decide) rfl ?_
  dsimp only [List.set]
  exact loop pt 0 (by omega) (fun i hi => by omega)
theorem r_turn (M : mz h a s c xs ys pt co cc) {i j k : Nat} (hi : i < 128) (hj : j < 128) (hk : k < 128) : ax_Met MX5_turn [rv a, iv (i : Int), iv (j : Int), iv (k : Int)] h (some (iv (tu (xs i) (ys i) (xs j) (ys j) (xs k) (ys k)))) h := by
  have ⟨h0, h1, h2, h3, h4, h5, h6, h7, h8, h9, h10, h11⟩ := M
  refine ax_mi (L0 := [some (rv a), some (iv (i : Int)), some (iv (j : Int)), some (iv (k : Int))]) rfl rfl (Nat.le_refl _) (Nat.le_refl _) (Nat.le_of_ble_eq_true rfl) rfl ?_
  intro p9 l9 e9 R9 s9 m9 args9 below9 meth9 c9 b9 D9 dA9 Q9 C kr
  refine g_aload_n C dX5_turn_0 rfl ?_
  refine g_get C FX5_20 dX5_turn_1 (by assumption) rfl ?_
  refine g_iload_n C dX5_turn_4 rfl ?_
  refine g_iald C dX5_turn_5 (by assumption) rfl (by omega) (by decide) ?_
  refine g_aload_n C dX5_turn_6 rfl ?_
  refine g_get C FX5_20 dX5_turn_7 (by assumption) rfl ?_
  refine g_iload_n C dX5_turn_10 rfl ?_
  refine g_iald C dX5_turn_11 (by assumption) rfl (by omega) (by decide) ?_
  refine g_isub C dX5_turn_12 ?_
  refine g_aload_n C dX5_turn_13 rfl ?_
  refine g_get C FX5_23 dX5_turn_14 (by assumption) rfl ?_
  refine g_iload_n C dX5_turn_17 rfl ?_
  refine g_iald C dX5_turn_18 (by assumption) rfl (by omega) (by decide) ?_
  refine g_aload_n C dX5_turn_19 rfl ?_
  refine g_get C FX5_23 dX5_turn_20 (by assumption) rfl ?_
  refine g_iload_n C dX5_turn_23 rfl ?_
  refine g_iald C dX5_turn_24 (by assumption) rfl (by omega) (by decide) ?_
  refine g_isub C dX5_turn_25 ?_
  refine g_imul C dX5_turn_26 ?_
  refine g_aload_n C dX5_turn_27 rfl ?_
  refine g_get C FX5_23 dX5_turn_28 (by assumption) rfl ?_
  refine g_iload_n C dX5_turn_31 rfl ?_
  refine g_iald C dX5_turn_32 (by assumption) rfl (by omega) (by decide) ?_
  refine g_aload_n C dX5_turn_33 rfl ?_
  refine g_get C FX5_23 dX5_turn_34 (by assumption) rfl ?_
  refine g_iload_n C dX5_turn_37 rfl ?_
  refine g_iald C dX5_turn_38 (by assumption) rfl (by omega) (by decide) ?_
  refine g_isub C dX5_turn_39 ?_
  refine g_aload_n C dX5_turn_40 rfl ?_
  refine g_get C FX5_20 dX5_turn_41 (by assumption) rfl ?_
  refine g_iload_n C dX5_turn_44 rfl ?_
  refine g_iald C dX5_turn_45 (by assumption) rfl (by omega) (by decide) ?_
  refine g_aload_n C dX5_turn_46 rfl ?_
  refine g_get C FX5_20 dX5_turn_47 (by assumption) rfl ?_
  refine g_iload_n C dX5_turn_50 rfl ?_
  refine g_iald C dX5_turn_51 (by assumption) rfl (by omega) (by decide) ?_
  refine g_isub C dX5_turn_52 ?_
  refine g_imul C dX5_turn_53 ?_
  refine g_isub C dX5_turn_54 ?_
  exact kr _ _ _ dX5_turn_55 rfl
theorem r_far (M : mz h a s c xs ys pt co cc) {i j : Nat} (hi : i < 128) (hj : j < 128) : ax_Met MX5_far [rv a, iv (i : Int), iv (j : Int)] h (some (iv (dst (xs i) (ys i) (xs j) (ys j)))) h := by
  have ⟨h0, h1, h2, h3, h4, h5, h6, h7, h8, h9, h10, h11⟩ := M
  refine ax_mi (L0 := [some (rv a), some (iv (i : Int)), some (iv (j : Int))]) rfl rfl (Nat.le_refl _) (Nat.le_refl _) (Nat.le_of_ble_eq_true rfl) rfl ?_
  intro p9 l9 e9 R9 s9 m9 args9 below9 meth9 c9 b9 D9 dA9 Q9 C kr
  refine g_aload_n C dX5_far_0 rfl ?_
  refine g_get C FX5_20 dX5_far_1 (by assumption) rfl ?_
  refine g_iload_n C dX5_far_4 rfl ?_
  refine g_iald C dX5_far_5 (by assumption) rfl (by omega) (by decide) ?_
  refine g_aload_n C dX5_far_6 rfl ?_
  refine g_get C FX5_20 dX5_far_7 (by assumption) rfl ?_
  refine g_iload_n C dX5_far_10 rfl ?_
  refine g_iald C dX5_far_11 (by assumption) rfl (by omega) (by decide) ?_
  refine g_isub C dX5_far_12 ?_
  refine g_aload_n C dX5_far_13 rfl ?_
  refine g_get C FX5_20 dX5_far_14 (by assumption) rfl ?_
  refine g_iload_n C dX5_far_17 rfl ?_
  refine g_iald C dX5_far_18 (by assumption) rfl (by omega) (by decide) ?_
  refine g_aload_n C dX5_far_19 rfl ?_
  refine g_get C FX5_20 dX5_far_20 (by assumption) rfl ?_
  refine g_iload_n C dX5_far_23 rfl ?_
  refine g_iald C dX5_far_24 (by assumption) rfl (by omega) (by decide) ?_
  refine g_isub C dX5_far_25 ?_
  refine g_imul C dX5_far_26 ?_
  refine g_aload_n C dX5_far_27 rfl ?_
  refine g_get C FX5_23 dX5_far_28 (by assumption) rfl ?_
  refine g_iload_n C dX5_far_31 rfl ?_
  refine g_iald C dX5_far_32 (by assumption) rfl (by omega) (by decide) ?_
  refine g_aload_n C dX5_far_33 rfl ?_
  refine g_get C FX5_23 dX5_far_34 (by assumption) rfl ?_
  refine g_iload_n C dX5_far_37 rfl ?_
  refine g_iald C dX5_far_38 (by assumption) rfl (by omega) (by decide) ?_
  refine g_isub C dX5_far_39 ?_
  refine g_aload_n C dX5_far_40 rfl ?_
  refine g_get C FX5_23 dX5_far_41 (by assumption) rfl ?_
  refine g_iload_n C dX5_far_44 rfl ?_
  refine g_iald C dX5_far_45 (by assumption) rfl (by omega) (by decide) ?_
  refine g_aload_n C dX5_far_46 rfl ?_
  refine g_get C FX5_23 dX5_far_47 (by assumption) rfl ?_
  refine g_iload_n C dX5_far_50 rfl ?_
  refine g_iald C dX5_far_51 (by assumption) rfl (by omega) (by decide) ?_
  refine g_isub C dX5_far_52 ?_
  refine g_imul C dX5_far_53 ?_
  refine g_iadd C dX5_far_54 ?_
  exact kr _ _ _ dX5_far_55 rfl
theorem tu_in {x0 y0 x1 y1 x2 y2 : Int} (h0 : (0 ≤ x0 ∧ x0 ≤ 84) ∧ (0 ≤ y0 ∧ y0 ≤ 84)) (h1 : (0 ≤ x1 ∧ x1 ≤ 84) ∧ (0 ≤ y1 ∧ y1 ≤ 84)) (h2 : (0 ≤ x2 ∧ x2 ≤ 84) ∧ (0 ≤ y2 ∧ y2 ≤ 84)) : -14112 ≤ tu x0 y0 x1 y1 x2 y2 ∧ tu x0 y0 x1 y1 x2 y2 ≤ 14112 := by
  have b1 := mb2 (u := x1 - x0) (x := y2 - y0) (U := 84) (M := 84) (by omega) (by omega)
  have b2 := mb2 (u := y1 - y0) (x := x2 - x0) (U := 84) (M := 84) (by omega) (by omega)
  unfold tu; omega
theorem dst_in {x0 y0 x1 y1 : Int} (h0 : (0 ≤ x0 ∧ x0 ≤ 84) ∧ (0 ≤ y0 ∧ y0 ≤ 84)) (h1 : (0 ≤ x1 ∧ x1 ≤ 84) ∧ (0 ≤ y1 ∧ y1 ≤ 84)) : -14112 ≤ dst x0 y0 x1 y1 ∧ dst x0 y0 x1 y1 ≤ 14112 := by
  have b1 := mb2 (u := x0 - x1) (x := x0 - x1) (U := 84) (M := 84) (by omega) (by omega)
  have b2 := mb2 (u := y0 - y1) (x := y0 - y1) (U := 84) (M := 84) (by omega) (by omega)
  unfold dst; omega
theorem r_nextCorner (M : mz h a s c xs ys pt co cc) (hr : rg_rg xs ys pt) (hi : inj2 xs ys pt) (hp : pt ≤ 128) {S : Int → Int → Prop} (e : pin xs ys pt = S) {f : Nat} (hf : f < pt) (h2 : 2 ≤ pt) (hh : half S (xs f) (ys f)) : ax_Mt MX5_nextCorner [rv a, iv (f : Int)] h (fun r h' => ∃ j : Nat, r = some (iv (j : Int)) ∧ h' = h ∧ j < pt ∧ nxt S (xs f) (ys f) (xs j) (ys j)) := by
  have ⟨h0, h1, h2', h3, h4, h5, h6, h7, h8, h9, h10, h11⟩ := M
  refine ax_ri (L0 := [some (rv a), some (iv (f : Int)), none, none, none]) rfl rfl (Nat.le_of_ble_eq_true rfl) rfl ?_
  intro p9 l9 e9 R9 s9 m9 args9 below9 meth9 c9 b9 D9 dA9 Q9 C kr
  have loop : ∀ (d k : Nat) (z : Int) (x4 : Option ax_V), k + d = pt → ((z = -6 ∧ ∀ i, i < k → i = f) ∨ ∃ j : Nat, z = (j : Int) ∧ best xs ys f k j) → ax_G p9 l9 e9 R9 s9 m9 args9 below9 meth9 c9 b9 D9 dA9 MX5_nextCorner.2.2.1 h.length (ax_sz h) Q9 (5) ([some (rv a), some (iv (f : Int)), some (iv z), some (iv (k : Int)), x4]) ([]) (h) := by
    intro d
    induction d with
    | zero =>
      intro k z x4 hk hz
      have ek : k = pt := by omega
      subst ek
      refine g_iload_n C dX5_nextCorner_5 rfl ?_
      refine g_aload_n C dX5_nextCorner_6 rfl ?_
      refine g_get C FX5_63 dX5_nextCorner_7 (by assumption) rfl ?_
      refine g_icmp_ge C dX5_nextCorner_10 (tgt := 68) (by decide) (by omega) (by omega) (fun h10 => ?_) (fun h10 => ?_)
      · refine g_iload_n C dX5_nextCorner_68 rfl ?_
        rcases hz with ⟨_, q⟩ | ⟨j, rfl, q⟩
        · have q0 := q 0 (by omega)
          have q1 := q 1 (by omega)
          omega
        · exact kr _ _ _ _ dX5_nextCorner_69 ⟨j, rfl, rfl, q.1, best_nxt hi e hr hh hf q⟩ ⟨rfl, rfl⟩
      · exfalso; omega
    | succ d ih =>
      intro k z x4 hk hz
      have rf := hr f hf
      have rk := hr k (by omega)
      rcases hz with ⟨rfl, q⟩ | ⟨j, rfl, q⟩
      · refine g_iload_n C dX5_nextCorner_5 rfl ?_
        refine g_aload_n C dX5_nextCorner_6 rfl ?_
        refine g_get C FX5_63 dX5_nextCorner_7 (by assumption) rfl ?_
        refine g_icmp_ge C dX5_nextCorner_10 (tgt := 68) (by decide) (by omega) (by omega) (fun h10 => ?_) (fun h10 => ?_)
        · exfalso; omega
        · refine g_iload_n C dX5_nextCorner_13 rfl ?_
          refine g_iload_n C dX5_nextCorner_14 rfl ?_
          refine g_icmp_eq C dX5_nextCorner_15 (tgt := 62) (by decide) (by omega) (by omega) (fun h15 => ?_) (fun h15 => ?_)
          · have st := ih (k + 1) (-6) x4 (by omega) (Or.inl ⟨rfl, fun i hi => by
              by_cases w : i = k
              · omega
              · exact q i (by omega)⟩)
            refine g_iinc C dX5_nextCorner_62 (by decide) rfl rfl ?_
            dsimp only [List.set]
            refine g_goto C dX5_nextCorner_65 (tgt := 5) (by decide) ?_
            exact st
          · have st := ih (k + 1) (k : Int) (some (iv (-1))) (by omega) (Or.inr ⟨k, rfl, best_first (by omega) q⟩)
            refine g_iload_n C dX5_nextCorner_18 rfl ?_
            refine g_if_ge C dX5_nextCorner_19 (tgt := 26) (by decide) (by omega) (fun h19 => ?_) (fun h19 => ?_)
            · exfalso; omega
            · refine g_iconst C dX5_nextCorner_22 ?_
              refine g_goto C dX5_nextCorner_23 (tgt := 33) (by decide) ?_
              refine g_istore C dX5_nextCorner_33 (by decide) rfl ?_
              dsimp only [List.set]
              refine g_iload C dX5_nextCorner_35 rfl ?_
              refine g_if_lt C dX5_nextCorner_37 (tgt := 60) (by decide) (by omega) (fun h37 => ?_) (fun h37 => ?_)
              · refine g_iload_n C dX5_nextCorner_60 rfl ?_
                refine g_istore_n C dX5_nextCorner_61 (by decide) rfl ?_
                dsimp only [List.set]
                refine g_iinc C dX5_nextCorner_62 (by decide) rfl rfl ?_
                dsimp only [List.set]
                refine g_goto C dX5_nextCorner_65 (tgt := 5) (by decide) ?_
                exact st
              · exfalso; omega
      · have rj := hr j (by have := q.1; omega)
        have hj := q.1
        have bt := tu_in rf rj rk
        have d1 := dst_in rf rk
        have d2 := dst_in rf rj
        refine g_iload_n C dX5_nextCorner_5 rfl ?_
        refine g_aload_n C dX5_nextCorner_6 rfl ?_
        refine g_get C FX5_63 dX5_nextCorner_7 (by assumption) rfl ?_
        refine g_icmp_ge C dX5_nextCorner_10 (tgt := 68) (by decide) (by omega) (by omega) (fun h10 => ?_) (fun h10 => ?_)
        · exfalso; omega
        · refine g_iload_n C dX5_nextCorner_13 rfl ?_
          refine g_iload_n C dX5_nextCorner_14 rfl ?_
          refine g_icmp_eq C dX5_nextCorner_15 (tgt := 62) (by decide) (by omega) (by omega) (fun h15 => ?_) (fun h15 => ?_)
          · have st := ih (k + 1) (j : Int) x4 (by omega) (Or.inr ⟨j, rfl, by have ef : k = f := (by omega); subst ef; exact best_skip q⟩)
            refine g_iinc C dX5_nextCorner_62 (by decide) rfl rfl ?_
            dsimp only [List.set]
            refine g_goto C dX5_nextCorner_65 (tgt := 5) (by decide) ?_
            exact st
          · refine g_iload_n C dX5_nextCorner_18 rfl ?_
            refine g_if_ge C dX5_nextCorner_19 (tgt := 26) (by decide) (by omega) (fun h19 => ?_) (fun h19 => ?_)
            · refine g_aload_n C dX5_nextCorner_26 rfl ?_
              refine g_iload_n C dX5_nextCorner_27 rfl ?_
              refine g_iload_n C dX5_nextCorner_28 rfl ?_
              refine g_iload_n C dX5_nextCorner_29 rfl ?_
              refine g_V C (r_turn M (i := f) (j := j) (k := k) (by omega) (by omega) (by omega)) dX5_nextCorner_30 KX5_turn LX5_67 IX5_turn VX5_turn (by decide) rfl (by assumption) rfl rfl rfl (Nat.le_of_ble_eq_true rfl) ⟨rfl, rfl⟩ ?_
              dsimp only [Option.toList, List.cons_append, List.nil_append]
              refine g_istore C dX5_nextCorner_33 (by decide) rfl ?_
              dsimp only [List.set]
              refine g_iload C dX5_nextCorner_35 rfl ?_
              refine g_if_lt C dX5_nextCorner_37 (tgt := 60) (by decide) (by omega) (fun h37 => ?_) (fun h37 => ?_)
              · have st := ih (k + 1) (k : Int) (some (iv (tu (xs f) (ys f) (xs j) (ys j) (xs k) (ys k)))) (by omega) (Or.inr ⟨k, rfl, best_new hi e hh hf (by omega) (by omega) q (Or.inl (by omega))⟩)
                refine g_iload_n C dX5_nextCorner_60 rfl ?_
                refine g_istore_n C dX5_nextCorner_61 (by decide) rfl ?_
                dsimp only [List.set]
                refine g_iinc C dX5_nextCorner_62 (by decide) rfl rfl ?_
                dsimp only [List.set]
                refine g_goto C dX5_nextCorner_65 (tgt := 5) (by decide) ?_
                exact st
              · refine g_iload C dX5_nextCorner_40 rfl ?_
                refine g_if_ne C dX5_nextCorner_42 (tgt := 62) (by decide) (by omega) (fun h42 => ?_) (fun h42 => ?_)
                · have st := ih (k + 1) (j : Int) (some (iv (tu (xs f) (ys f) (xs j) (ys j) (xs k) (ys k)))) (by omega) (Or.inr ⟨j, rfl, best_keep q (Or.inl (by omega))⟩)
                  refine g_iinc C dX5_nextCorner_62 (by decide) rfl rfl ?_
                  dsimp only [List.set]
                  refine g_goto C dX5_nextCorner_65 (tgt := 5) (by decide) ?_
                  exact st
                · refine g_aload_n C dX5_nextCorner_45 rfl ?_
                  refine g_iload_n C dX5_nextCorner_46 rfl ?_
                  refine g_iload_n C dX5_nextCorner_47 rfl ?_
                  refine g_V C (r_far M (i := f) (j := k) (by omega) (by omega)) dX5_nextCorner_48 KX5_far LX5_70 IX5_far VX5_far (by decide) rfl (by assumption) rfl rfl rfl (Nat.le_of_ble_eq_true rfl) ⟨rfl, rfl⟩ ?_
                  dsimp only [Option.toList, List.cons_append, List.nil_append]
                  refine g_aload_n C dX5_nextCorner_51 rfl ?_
                  refine g_iload_n C dX5_nextCorner_52 rfl ?_
                  refine g_iload_n C dX5_nextCorner_53 rfl ?_
                  refine g_V C (r_far M (i := f) (j := j) (by omega) (by omega)) dX5_nextCorner_54 KX5_far LX5_70 IX5_far VX5_far (by decide) rfl (by assumption) rfl rfl rfl (Nat.le_of_ble_eq_true rfl) ⟨rfl, rfl⟩ ?_
                  dsimp only [Option.toList, List.cons_append, List.nil_append]
                  refine g_icmp_le C dX5_nextCorner_57 (tgt := 62) (by decide) (by omega) (by omega) (fun h57 => ?_) (fun h57 => ?_)
                  · have st := ih (k + 1) (j : Int) (some (iv (tu (xs f) (ys f) (xs j) (ys j) (xs k) (ys k)))) (by omega) (Or.inr ⟨j, rfl, best_keep q (Or.inr ⟨by omega, by omega⟩)⟩)
                    refine g_iinc C dX5_nextCorner_62 (by decide) rfl rfl ?_
                    dsimp only [List.set]
                    refine g_goto C dX5_nextCorner_65 (tgt := 5) (by decide) ?_
                    exact st
                  · have st := ih (k + 1) (k : Int) (some (iv (tu (xs f) (ys f) (xs j) (ys j) (xs k) (ys k)))) (by omega) (Or.inr ⟨k, rfl, best_new hi e hh hf (by omega) (by omega) q (Or.inr ⟨by omega, by omega⟩)⟩)
                    refine g_iload_n C dX5_nextCorner_60 rfl ?_
                    refine g_istore_n C dX5_nextCorner_61 (by decide) rfl ?_
                    dsimp only [List.set]
                    refine g_iinc C dX5_nextCorner_62 (by decide) rfl rfl ?_
                    dsimp only [List.set]
                    refine g_goto C dX5_nextCorner_65 (tgt := 5) (by decide) ?_
                    exact st
            · exfalso; omega
  refine g_bipush C dX5_nextCorner_0 (by decide) ?_
  refine g_istore_n C dX5_nextCorner_2 (by decide) rfl ?_
  dsimp only [List.set]
  refine g_iconst C dX5_nextCorner_3 ?_
  refine g_istore_n C dX5_nextCorner_4 (by decide) rfl ?_
  dsimp only [List.set]
  exact loop pt 0 (-6) none (by omega) (Or.inl ⟨rfl, fun i hi => by omega⟩)
end ML
