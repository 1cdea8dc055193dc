/-! what a gathered Region answers -/
theorem nxi_lt {cn i : Nat} (h : i < cn) : nxi cn i < cn := by unfold nxi; split <;> omega
theorem t_hasCorner {h : ax_H} {a : Nat} {S : Int → Int → Prop} (H : rg_of h a S) {k : Int} (hk : -2147483648 ≤ k ∧ k < 2147483648) : ax_Met MX3_hasCorner [rv a, iv k] h (some (iv (if 0 ≤ k ∧ k < ((hC S).1 : Int) then 1 else 0))) h := by
  obtain ⟨xs, ys, sz, rd, cn, r, hR, hr, hz, hc, hrd, e1, e2, e3, hh⟩ := H.use
  obtain ⟨h0, h1, h2, h3⟩ := hR
  rw [← e2]
  refine ax_mz (L0 := [some (rv a), some (iv k)]) rfl rfl (Nat.le_refl _) (Nat.le_refl _) (Nat.le_of_ble_eq_true rfl) rfl ?_
  intro p9 l9 e9 R9 s9 m9 args9 below9 meth9 c9 b9 D9 dA9 Q9 C kr
  refine g_iload_n C dX3_hasCorner_0 rfl ?_
  refine g_if_lt C dX3_hasCorner_1 (tgt := 16) (by decide) (by omega) (fun h1 => ?_) (fun h1 => ?_)
  · refine g_iconst C dX3_hasCorner_16 ?_
    first | exact kr _ _ _ dX3_hasCorner_17 (Or.inr rfl) (by rw [if_pos (by omega)]) | exact kr _ _ _ dX3_hasCorner_17 (Or.inl rfl) (by rw [if_neg (by omega)])
  · refine g_iload_n C dX3_hasCorner_4 rfl ?_
    refine g_aload_n C dX3_hasCorner_5 rfl ?_
    refine g_get C FX3_50 dX3_hasCorner_6 (by assumption) rfl ?_
    refine g_icmp_ge C dX3_hasCorner_9 (tgt := 16) (by decide) (by omega) (by omega) (fun h9 => ?_) (fun h9 => ?_)
    · refine g_iconst C dX3_hasCorner_16 ?_
      first | exact kr _ _ _ dX3_hasCorner_17 (Or.inr rfl) (by rw [if_pos (by omega)]) | exact kr _ _ _ dX3_hasCorner_17 (Or.inl rfl) (by rw [if_neg (by omega)])
    · refine g_iconst C dX3_hasCorner_12 ?_
      refine g_goto C dX3_hasCorner_13 (tgt := 17) (by decide) ?_
      first | exact kr _ _ _ dX3_hasCorner_17 (Or.inr rfl) (by rw [if_pos (by omega)]) | exact kr _ _ _ dX3_hasCorner_17 (Or.inl rfl) (by rw [if_neg (by omega)])
theorem t_cornerX {h : ax_H} {a k : Nat} {S : Int → Int → Prop} (H : rg_of h a S) (hk : k < (hC S).1) : ax_Met MX3_cornerX [rv a, iv (k : Int)] h (some (iv ((hC S).2.1 k))) h := by
  obtain ⟨xs, ys, sz, rd, cn, r, hR, hr, hz, hc, hrd, e1, e2, e3, hh⟩ := H.use
  have ⟨h0, h1, h2, h3⟩ := hR
  have q := hrd k (by omega)
  rw [← (e3 k (by omega)).1]
  refine ax_mi (L0 := [some (rv a), some (iv (k : Int))]) rfl rfl (Nat.le_refl _) (Nat.le_refl _) (Nat.le_of_ble_eq_true rfl) rfl ?_
  intro p9 l9 e9 R9 s9 m9 args9 below9 meth9 c9 b9 D9 dA9 Q9 C kr
  refine g_aload_n C dX3_cornerX_0 rfl ?_
  refine g_iload_n C dX3_cornerX_1 rfl ?_
  refine g_V C (t_hasCorner H (k := (k : Int)) (by omega)) dX3_cornerX_2 KX3_hasCorner LX3_59 IX3_hasCorner VX3_hasCorner (by decide) rfl (by assumption) rfl rfl rfl (Nat.le_of_ble_eq_true rfl) ⟨rfl, rfl⟩ ?_
  dsimp only [Option.toList, List.cons_append, List.nil_append]
  rw [if_pos (show 0 ≤ (k : Int) ∧ (k : Int) < ((hC S).1 : Int) by omega)]
  refine g_if_eq C dX3_cornerX_5 (tgt := 22) (by decide) (by omega) (fun h5 => ?_) (fun h5 => ?_)
  · exact absurd h5 (by decide)
  · refine g_aload_n C dX3_cornerX_8 rfl ?_
    refine g_get C FX3_11 dX3_cornerX_9 (by assumption) rfl ?_
    refine g_aload_n C dX3_cornerX_12 rfl ?_
    refine g_get C FX3_18 dX3_cornerX_13 (by assumption) rfl ?_
    refine g_iload_n C dX3_cornerX_16 rfl ?_
    refine g_iald C dX3_cornerX_17 (by assumption) rfl (by omega) (by decide) ?_
    rw [q.1]
    refine g_iald C dX3_cornerX_18 (by assumption) rfl (by omega) (by decide) ?_
    refine g_goto C dX3_cornerX_19 (tgt := 23) (by decide) ?_
    exact kr _ _ _ dX3_cornerX_23 rfl
theorem t_cornerY {h : ax_H} {a k : Nat} {S : Int → Int → Prop} (H : rg_of h a S) (hk : k < (hC S).1) : ax_Met MX3_cornerY [rv a, iv (k : Int)] h (some (iv ((hC S).2.2 k))) h := by
  obtain ⟨xs, ys, sz, rd, cn, r, hR, hr, hz, hc, hrd, e1, e2, e3, hh⟩ := H.use
  have ⟨h0, h1, h2, h3⟩ := hR
  have q := hrd k (by omega)
  rw [← (e3 k (by omega)).2]
  refine ax_mi (L0 := [some (rv a), some (iv (k : Int))]) rfl rfl (Nat.le_refl _) (Nat.le_refl _) (Nat.le_of_ble_eq_true rfl) rfl ?_
  intro p9 l9 e9 R9 s9 m9 args9 below9 meth9 c9 b9 D9 dA9 Q9 C kr
  refine g_aload_n C dX3_cornerY_0 rfl ?_
  refine g_iload_n C dX3_cornerY_1 rfl ?_
  refine g_V C (t_hasCorner H (k := (k : Int)) (by omega)) dX3_cornerY_2 KX3_hasCorner LX3_59 IX3_hasCorner VX3_hasCorner (by decide) rfl (by assumption) rfl rfl rfl (Nat.le_of_ble_eq_true rfl) ⟨rfl, rfl⟩ ?_
  dsimp only [Option.toList, List.cons_append, List.nil_append]
  rw [if_pos (show 0 ≤ (k : Int) ∧ (k : Int) < ((hC S).1 : Int) by omega)]
  refine g_if_eq C dX3_cornerY_5 (tgt := 22) (by decide) (by omega) (fun h5 => ?_) (fun h5 => ?_)
  · exact absurd h5 (by decide)
  · refine g_aload_n C dX3_cornerY_8 rfl ?_
    refine g_get C FX3_15 dX3_cornerY_9 (by assumption) rfl ?_
    refine g_aload_n C dX3_cornerY_12 rfl ?_
    refine g_get C FX3_18 dX3_cornerY_13 (by assumption) rfl ?_
    refine g_iload_n C dX3_cornerY_16 rfl ?_
    refine g_iald C dX3_cornerY_17 (by assumption) rfl (by omega) (by decide) ?_
    rw [q.1]
    refine g_iald C dX3_cornerY_18 (by assumption) rfl (by omega) (by decide) ?_
    refine g_goto C dX3_cornerY_19 (tgt := 23) (by decide) ?_
    exact kr _ _ _ dX3_cornerY_23 rfl
theorem t_next {h : ax_H} {a k : Nat} {S : Int → Int → Prop} (H : rg_of h a S) (hk : k < (hC S).1) : ax_Met MX3_next [rv a, iv (k : Int)] h (some (iv (nxi (hC S).1 k : Int))) h := by
  obtain ⟨xs, ys, sz, rd, cn, r, hR, hr, hz, hc, hrd, e1, e2, e3, hh⟩ := H.use
  have ⟨h0, h1, h2, h3⟩ := hR
  rw [← e2] at hk ⊢
  unfold nxi
  refine ax_mi (L0 := [some (rv a), some (iv (k : Int))]) rfl rfl (Nat.le_refl _) (Nat.le_refl _) (Nat.le_of_ble_eq_true rfl) rfl ?_
  intro p9 l9 e9 R9 s9 m9 args9 below9 meth9 c9 b9 D9 dA9 Q9 C kr
  refine g_iload_n C dX3_next_0 rfl ?_
  refine g_iconst C dX3_next_1 ?_
  refine g_iadd C dX3_next_2 ?_
  refine g_aload_n C dX3_next_3 rfl ?_
  refine g_get C FX3_50 dX3_next_4 (by assumption) rfl ?_
  refine g_icmp_ge C dX3_next_7 (tgt := 16) (by decide) (by omega) (by omega) (fun h7 => ?_) (fun h7 => ?_)
  · refine g_iconst C dX3_next_16 ?_
    first | exact kr _ _ _ dX3_next_17 (by rw [if_pos (by omega)]; rfl) | exact kr _ _ _ dX3_next_17 (by rw [if_neg (by omega)]; rfl)
  · refine g_iload_n C dX3_next_10 rfl ?_
    refine g_iconst C dX3_next_11 ?_
    refine g_iadd C dX3_next_12 ?_
    refine g_goto C dX3_next_13 (tgt := 17) (by decide) ?_
    first | exact kr _ _ _ dX3_next_17 (by rw [if_pos (by omega)]; rfl) | exact kr _ _ _ dX3_next_17 (by rw [if_neg (by omega)]; rfl)
theorem t_area {h : ax_H} {a : Nat} {S : Int → Int → Prop} (H : rg_of h a S) : ax_Met MX3_area [rv a] h (some (iv (hA S))) h := by
  obtain ⟨xs, ys, sz, rd, cn, r, hR, hr, hz, hc, hrd, e1, e2, e3, hh⟩ := H.use
  have ⟨h0, h1, h2, h3⟩ := hR
  refine ax_mi (L0 := [some (rv a), none, none, none]) rfl rfl (Nat.le_refl _) (Nat.le_refl _) (Nat.le_of_ble_eq_true rfl) rfl ?_
  intro p9 l9 e9 R9 s9 m9 args9 below9 meth9 c9 b9 D9 dA9 Q9 C kr
  have loop : ∀ (d i : Nat) (x3 : Option ax_V), i + d = cn → ax_G p9 l9 e9 R9 s9 m9 args9 below9 meth9 c9 b9 D9 dA9 MX3_area.2.2.1 h.length (ax_sz h) Q9 (4) ([some (rv a), some (iv (arS (hC S).2.1 (hC S).2.2 (hC S).1 i)), some (iv (i : Int)), x3]) ([]) (h) := by
    intro d
    induction d with
    | zero =>
      intro i x3 hi
      refine g_iload_n C dX3_area_4 rfl ?_
      refine g_aload_n C dX3_area_5 rfl ?_
      refine g_get C FX3_50 dX3_area_6 (by assumption) rfl ?_
      refine g_icmp_ge C dX3_area_9 (tgt := 50) (by decide) (by omega) (by omega) (fun h9 => ?_) (fun h9 => ?_)
      · refine g_iload_n C dX3_area_50 rfl ?_
        exact kr _ _ _ dX3_area_51 (by unfold hA; rw [show (hC S).1 = i by omega])
      · exfalso; omega
    | succ d ih =>
      intro i x3 hi
      have hn := nxi_lt (show i < (hC S).1 by omega)
      refine g_iload_n C dX3_area_4 rfl ?_
      refine g_aload_n C dX3_area_5 rfl ?_
      refine g_get C FX3_50 dX3_area_6 (by assumption) rfl ?_
      refine g_icmp_ge C dX3_area_9 (tgt := 50) (by decide) (by omega) (by omega) (fun h9 => ?_) (fun h9 => ?_)
      · exfalso; omega
      · refine g_aload_n C dX3_area_12 rfl ?_
        refine g_iload_n C dX3_area_13 rfl ?_
        refine g_V C (t_next H (show i < (hC S).1 by omega)) dX3_area_14 KX3_next LX3_63 IX3_next VX3_next (by decide) rfl (by assumption) rfl rfl rfl (Nat.le_of_ble_eq_true rfl) ⟨rfl, rfl⟩ ?_
        dsimp only [Option.toList, List.cons_append, List.nil_append]
        refine g_istore_n C dX3_area_17 (by decide) rfl ?_
        dsimp only [List.set]
        refine g_iload_n C dX3_area_18 rfl ?_
        refine g_aload_n C dX3_area_19 rfl ?_
        refine g_iload_n C dX3_area_20 rfl ?_
        refine g_V C (t_cornerX H (show i < (hC S).1 by omega)) dX3_area_21 KX3_cornerX LX3_67 IX3_cornerX VX3_cornerX (by decide) rfl (by assumption) rfl rfl rfl (Nat.le_of_ble_eq_true rfl) ⟨rfl, rfl⟩ ?_
        dsimp only [Option.toList, List.cons_append, List.nil_append]
        refine g_aload_n C dX3_area_24 rfl ?_
        refine g_iload_n C dX3_area_25 rfl ?_
        refine g_V C (t_cornerY H hn) dX3_area_26 KX3_cornerY LX3_70 IX3_cornerY VX3_cornerY (by decide) rfl (by assumption) rfl rfl rfl (Nat.le_of_ble_eq_true rfl) ⟨rfl, rfl⟩ ?_
        dsimp only [Option.toList, List.cons_append, List.nil_append]
        refine g_imul C dX3_area_29 ?_
        refine g_aload_n C dX3_area_30 rfl ?_
        refine g_iload_n C dX3_area_31 rfl ?_
        refine g_V C (t_cornerX H hn) dX3_area_32 KX3_cornerX LX3_67 IX3_cornerX VX3_cornerX (by decide) rfl (by assumption) rfl rfl rfl (Nat.le_of_ble_eq_true rfl) ⟨rfl, rfl⟩ ?_
        dsimp only [Option.toList, List.cons_append, List.nil_append]
        refine g_aload_n C dX3_area_35 rfl ?_
        refine g_iload_n C dX3_area_36 rfl ?_
        refine g_V C (t_cornerY H (show i < (hC S).1 by omega)) dX3_area_37 KX3_cornerY LX3_70 IX3_cornerY VX3_cornerY (by decide) rfl (by assumption) rfl rfl rfl (Nat.le_of_ble_eq_true rfl) ⟨rfl, rfl⟩ ?_
        dsimp only [Option.toList, List.cons_append, List.nil_append]
        refine g_imul C dX3_area_40 ?_
        refine g_isub C dX3_area_41 ?_
        refine g_iadd C dX3_area_42 ?_
        refine g_istore_n C dX3_area_43 (by decide) rfl ?_
        dsimp only [List.set]
        refine g_iinc C dX3_area_44 (by decide) rfl rfl ?_
        dsimp only [List.set]
        refine g_goto C dX3_area_47 (tgt := 4) (by decide) ?_
        exact ih (i + 1) _ (by omega)
  refine g_iconst C dX3_area_0 ?_
  refine g_istore_n C dX3_area_1 (by decide) rfl ?_
  dsimp only [List.set]
  refine g_iconst C dX3_area_2 ?_
  refine g_istore_n C dX3_area_3 (by decide) rfl ?_
  dsimp only [List.set]
  exact loop cn 0 none (by omega)
noncomputable def hS (S : Int → Int → Prop) : Int := if (hC S).1 = 0 then -6 else (if 3 < ((hC S).1 : Int) then 3 else ((hC S).1 : Int)) - 1
theorem t_span {h : ax_H} {a : Nat} {S : Int → Int → Prop} (H : rg_of h a S) : ax_Met MX3_span [rv a] h (some (iv (hS S))) h := by
  obtain ⟨xs, ys, sz, rd, cn, r, hR, hr, hz, hc, hrd, e1, e2, e3, hh⟩ := H.use
  have ⟨h0, h1, h2, h3⟩ := hR
  unfold hS
  rw [← e2]
  refine ax_mi (L0 := [some (rv a)]) rfl rfl (Nat.le_refl _) (Nat.le_refl _) (Nat.le_of_ble_eq_true rfl) rfl ?_
  intro p9 l9 e9 R9 s9 m9 args9 below9 meth9 c9 b9 D9 dA9 Q9 C kr
  refine g_aload_n C dX3_span_0 rfl ?_
  refine g_get C FX3_50 dX3_span_1 (by assumption) rfl ?_
  refine g_if_ne C dX3_span_4 (tgt := 12) (by decide) (by omega) (fun h4 => ?_) (fun h4 => ?_)
  · refine g_aload_n C dX3_span_12 rfl ?_
    refine g_get C FX3_50 dX3_span_13 (by assumption) rfl ?_
    refine g_iconst C dX3_span_16 ?_
    refine g_mmin C dX3_span_17 LX3_73 (by decide) (Nat.le_of_ble_eq_true rfl) (by omega) (by omega) ?_
    refine g_iconst C dX3_span_20 ?_
    refine g_isub C dX3_span_21 ?_
    first | exact kr _ _ _ dX3_span_22 (by rw [if_neg (by omega)]) | exact kr _ _ _ dX3_span_22 (by rw [if_pos (by omega)])
  · refine g_bipush C dX3_span_7 (by decide) ?_
    refine g_goto C dX3_span_9 (tgt := 22) (by decide) ?_
    first | exact kr _ _ _ dX3_span_22 (by rw [if_neg (by omega)]) | exact kr _ _ _ dX3_span_22 (by rw [if_pos (by omega)])
/-! the way round, in whole steps -/
def stS (cx cy : Nat → Int) (cn : Nat) : Nat → Nat
  | 0 => 0
  | i + 1 => stS cx cy cn i + Nat.gcd (cx (nxi cn i) - cx i).natAbs (cy (nxi cn i) - cy i).natAbs
noncomputable def hG (S : Int → Int → Prop) : Nat := stS (hC S).2.1 (hC S).2.2 (hC S).1 (hC S).1
theorem ax_abs (x : Int) : (if 0 ≤ x then x else -x) = (x.natAbs : Int) := by split <;> omega
theorem rg_of.cr {h : ax_H} {a : Nat} {S : Int → Int → Prop} (H : rg_of h a S) : (hC S).1 ≤ 256 ∧ ∀ e, e < (hC S).1 → (0 ≤ (hC S).2.1 e ∧ (hC S).2.1 e ≤ 84) ∧ (0 ≤ (hC S).2.2 e ∧ (hC S).2.2 e ≤ 84) := by
  obtain ⟨xs, ys, sz, rd, cn, r, hR, hr, hz, hc, hrd, e1, e2, e3, hh⟩ := H.use
  refine ⟨by omega, fun e he => ?_⟩
  have := hr (r e) (hrd e (by omega)).2
  rw [(e3 e (by omega)).1, (e3 e (by omega)).2] at this
  exact this
theorem t_stepsRound {h : ax_H} {a : Nat} {S : Int → Int → Prop} (H : rg_of h a S) : ax_Met MX3_stepsRound [rv a] h (some (iv (hG S : Int))) h := by
  have hcr := H.cr
  obtain ⟨xs, ys, sz, rd, cn, r, hR, hr, hz, hc, hrd, e1, e2, e3, hh⟩ := H.use
  have ⟨h0, h1, h2, h3⟩ := hR
  refine ax_mi (L0 := [some (rv a), none, none, none, none]) rfl rfl (Nat.le_refl _) (Nat.le_refl _) (Nat.le_of_ble_eq_true rfl) rfl ?_
  intro p9 l9 e9 R9 s9 m9 args9 below9 meth9 c9 b9 D9 dA9 Q9 C kr
  have loop : ∀ (d i : Nat) (x3 x4 : Option ax_V), i + d = cn → ax_G p9 l9 e9 R9 s9 m9 args9 below9 meth9 c9 b9 D9 dA9 MX3_stepsRound.2.2.1 h.length (ax_sz h) Q9 (4) ([some (rv a), some (iv (stS (hC S).2.1 (hC S).2.2 (hC S).1 i : Int)), some (iv (i : Int)), x3, x4]) ([]) (h) := by
    intro d
    induction d with
    | zero =>
      intro i x3 x4 hi
      refine g_iload_n C dX3_stepsRound_4 rfl ?_
      refine g_aload_n C dX3_stepsRound_5 rfl ?_
      refine g_get C FX3_50 dX3_stepsRound_6 (by assumption) rfl ?_
      refine g_icmp_ge C dX3_stepsRound_9 (tgt := 66) (by decide) (by omega) (by omega) (fun h9 => ?_) (fun h9 => ?_)
      · refine g_iload_n C dX3_stepsRound_66 rfl ?_
        exact kr _ _ _ dX3_stepsRound_67 (by unfold hG; rw [show (hC S).1 = i by omega])
      · exfalso; omega
    | succ d ih =>
      intro i x3 x4 hi
      have hi2 : i < (hC S).1 := by omega
      have hn := nxi_lt hi2
      have b1 := hcr.2 i hi2
      have b2 := hcr.2 _ hn
      refine g_iload_n C dX3_stepsRound_4 rfl ?_
      refine g_aload_n C dX3_stepsRound_5 rfl ?_
      refine g_get C FX3_50 dX3_stepsRound_6 (by assumption) rfl ?_
      refine g_icmp_ge C dX3_stepsRound_9 (tgt := 66) (by decide) (by omega) (by omega) (fun h9 => ?_) (fun h9 => ?_)
      · exfalso; omega
      · refine g_aload_n C dX3_stepsRound_12 rfl ?_
        refine g_aload_n C dX3_stepsRound_13 rfl ?_
        refine g_iload_n C dX3_stepsRound_14 rfl ?_
        refine g_V C (t_next H hi2) dX3_stepsRound_15 KX3_next LX3_63 IX3_next VX3_next (by decide) rfl (by assumption) rfl rfl rfl (Nat.le_of_ble_eq_true rfl) ⟨rfl, rfl⟩ ?_
        dsimp only [Option.toList, List.cons_append, List.nil_append]
        refine g_V C (t_cornerX H hn) dX3_stepsRound_18 KX3_cornerX LX3_67 IX3_cornerX VX3_cornerX (by decide) rfl (by assumption) rfl rfl rfl (Nat.le_of_ble_eq_true rfl) ⟨rfl, rfl⟩ ?_
        dsimp only [Option.toList, List.cons_append, List.nil_append]
        refine g_aload_n C dX3_stepsRound_21 rfl ?_
        refine g_iload_n C dX3_stepsRound_22 rfl ?_
        refine g_V C (t_cornerX H hi2) dX3_stepsRound_23 KX3_cornerX LX3_67 IX3_cornerX VX3_cornerX (by decide) rfl (by assumption) rfl rfl rfl (Nat.le_of_ble_eq_true rfl) ⟨rfl, rfl⟩ ?_
        dsimp only [Option.toList, List.cons_append, List.nil_append]
        refine g_isub C dX3_stepsRound_26 ?_
        refine g_mabs C dX3_stepsRound_27 LX3_79 (by decide) (Nat.le_of_ble_eq_true rfl) (by omega) ?_
        refine g_top (ax_abs _) ?_
        refine g_istore_n C dX3_stepsRound_30 (by decide) rfl ?_
        dsimp only [List.set]
        refine g_aload_n C dX3_stepsRound_31 rfl ?_
        refine g_aload_n C dX3_stepsRound_32 rfl ?_
        refine g_iload_n C dX3_stepsRound_33 rfl ?_
        refine g_V C (t_next H hi2) dX3_stepsRound_34 KX3_next LX3_63 IX3_next VX3_next (by decide) rfl (by assumption) rfl rfl rfl (Nat.le_of_ble_eq_true rfl) ⟨rfl, rfl⟩ ?_
        dsimp only [Option.toList, List.cons_append, List.nil_append]
        refine g_V C (t_cornerY H hn) dX3_stepsRound_37 KX3_cornerY LX3_70 IX3_cornerY VX3_cornerY (by decide) rfl (by assumption) rfl rfl rfl (Nat.le_of_ble_eq_true rfl) ⟨rfl, rfl⟩ ?_
        dsimp only [Option.toList, List.cons_append, List.nil_append]
        refine g_aload_n C dX3_stepsRound_40 rfl ?_
        refine g_iload_n C dX3_stepsRound_41 rfl ?_
        refine g_V C (t_cornerY H hi2) dX3_stepsRound_42 KX3_cornerY LX3_70 IX3_cornerY VX3_cornerY (by decide) rfl (by assumption) rfl rfl rfl (Nat.le_of_ble_eq_true rfl) ⟨rfl, rfl⟩ ?_
        dsimp only [Option.toList, List.cons_append, List.nil_append]
        refine g_isub C dX3_stepsRound_45 ?_
        refine g_mabs C dX3_stepsRound_46 LX3_79 (by decide) (Nat.le_of_ble_eq_true rfl) (by omega) ?_
        refine g_top (ax_abs _) ?_
        refine g_istore C dX3_stepsRound_49 (by decide) rfl ?_
        dsimp only [List.set]
        refine g_iload_n C dX3_stepsRound_51 rfl ?_
        refine g_iload_n C dX3_stepsRound_52 rfl ?_
        refine g_iload C dX3_stepsRound_53 rfl ?_
        refine g_SN C (t_commonDivisor (by omega) (by omega)) dX3_stepsRound_55 KX4_commonDivisor LX3_82 SX4_commonDivisor (by decide) rfl rfl (Nat.le_of_ble_eq_true rfl) ⟨rfl, rfl⟩ ?_
        dsimp only [Option.toList, List.cons_append, List.nil_append]
        refine g_iadd C dX3_stepsRound_58 ?_
        refine g_istore_n C dX3_stepsRound_59 (by decide) rfl ?_
        dsimp only [List.set]
        refine g_iinc C dX3_stepsRound_60 (by decide) rfl rfl ?_
        dsimp only [List.set]
        refine g_goto C dX3_stepsRound_63 (tgt := 4) (by decide) ?_
        exact ih (i + 1) _ _ (by omega)
  refine g_iconst C dX3_stepsRound_0 ?_
  refine g_istore_n C dX3_stepsRound_1 (by decide) rfl ?_
  dsimp only [List.set]
  refine g_iconst C dX3_stepsRound_2 ?_
  refine g_istore_n C dX3_stepsRound_3 (by decide) rfl ?_
  dsimp only [List.set]
  exact loop cn 0 none none (by omega)
theorem arS_in {cx cy : Nat → Int} {cn : Nat} (hb : ∀ e, e < cn → (0 ≤ cx e ∧ cx e ≤ 84) ∧ (0 ≤ cy e ∧ cy e ≤ 84)) : ∀ i, i ≤ cn → -7056 * (i : Int) ≤ arS cx cy cn i ∧ arS cx cy cn i ≤ 7056 * i
  | 0, _ => by simp [arS]
  | i + 1, hi => by
    have a := arS_in hb i (by omega)
    have b1 := hb i (by omega)
    have b2 := hb _ (nxi_lt (show i < cn by omega))
    have m1 := mb (u := cx i) (x := cy (nxi cn i)) (U := 84) (M := 84) (by omega) (by omega)
    have m2 := mb (u := cx (nxi cn i)) (x := cy i) (U := 84) (M := 84) (by omega) (by omega)
    have m3 := Int.mul_nonneg b1.1.1 b2.2.1
    have m4 := Int.mul_nonneg b2.1.1 b1.2.1
    rw [arS]
    omega
theorem stS_in {cx cy : Nat → Int} {cn : Nat} (hb : ∀ e, e < cn → (0 ≤ cx e ∧ cx e ≤ 84) ∧ (0 ≤ cy e ∧ cy e ≤ 84)) : ∀ i, i ≤ cn → stS cx cy cn i ≤ 168 * i
  | 0, _ => by simp [stS]
  | i + 1, hi => by
    have a := stS_in hb i (by omega)
    have b1 := hb i (by omega)
    have b2 := hb _ (nxi_lt (show i < cn by omega))
    rw [stS]
    generalize e1 : (cx (nxi cn i) - cx i).natAbs = u
    generalize e2 : (cy (nxi cn i) - cy i).natAbs = v
    have hu : u ≤ 84 := by omega
    have hv : v ≤ 84 := by omega
    have g : Nat.gcd u v ≤ u + v := by
      by_cases q : u = 0
      · subst q; rw [Nat.gcd_zero_left]; omega
      · have := Nat.gcd_le_left v (show 0 < u by omega); omega
    omega
noncomputable def hW (S : Int → Int → Prop) : Int := if (hC S).1 = 0 then 0 else (hA S + hG S).tdiv 2 + 1
noncomputable def hB (S : Int → Int → Prop) : Int := if (hC S).1 < 3 then hW S else hG S
theorem t_wholePoints {h : ax_H} {a : Nat} {S : Int → Int → Prop} (H : rg_of h a S) : ax_Met MX3_wholePoints [rv a] h (some (iv (hW S))) h := by
  have hcr := H.cr
  obtain ⟨xs, ys, sz, rd, cn, r, hR, hr, hz, hc, hrd, e1, e2, e3, hh⟩ := H.use
  have ⟨h0, h1, h2, h3⟩ := hR
  have b1 := arS_in hcr.2 (hC S).1 (Nat.le_refl _)
  have b2 := stS_in hcr.2 (hC S).1 (Nat.le_refl _)
  change -7056 * ((hC S).1 : Int) ≤ hA S ∧ hA S ≤ 7056 * ((hC S).1 : Int) at b1
  change hG S ≤ 168 * (hC S).1 at b2
  have b3 := hcr.1
  unfold hW
  refine ax_mi (L0 := [some (rv a)]) rfl rfl (Nat.le_refl _) (Nat.le_refl _) (Nat.le_of_ble_eq_true rfl) rfl ?_
  intro p9 l9 e9 R9 s9 m9 args9 below9 meth9 c9 b9 D9 dA9 Q9 C kr
  refine g_aload_n C dX3_wholePoints_0 rfl ?_
  refine g_get C FX3_50 dX3_wholePoints_1 (by assumption) rfl ?_
  refine g_if_ne C dX3_wholePoints_4 (tgt := 11) (by decide) (by omega) (fun h4 => ?_) (fun h4 => ?_)
  · refine g_aload_n C dX3_wholePoints_11 rfl ?_
    refine g_V C (t_area H) dX3_wholePoints_12 KX3_area LX3_85 IX3_area VX3_area (by decide) rfl (by assumption) rfl rfl rfl (Nat.le_of_ble_eq_true rfl) ⟨rfl, rfl⟩ ?_
    dsimp only [Option.toList, List.cons_append, List.nil_append]
    refine g_aload_n C dX3_wholePoints_15 rfl ?_
    refine g_V C (t_stepsRound H) dX3_wholePoints_16 KX3_stepsRound LX3_88 IX3_stepsRound VX3_stepsRound (by decide) rfl (by assumption) rfl rfl rfl (Nat.le_of_ble_eq_true rfl) ⟨rfl, rfl⟩ ?_
    dsimp only [Option.toList, List.cons_append, List.nil_append]
    refine g_iadd C dX3_wholePoints_19 ?_
    refine g_iconst C dX3_wholePoints_20 ?_
    refine g_idiv C dX3_wholePoints_21 (by omega) (by omega) (by omega) ?_
    refine g_iconst C dX3_wholePoints_22 ?_
    refine g_iadd C dX3_wholePoints_23 ?_
    first | exact kr _ _ _ dX3_wholePoints_24 (by rw [if_neg (by omega)]) | exact kr _ _ _ dX3_wholePoints_24 (by rw [if_pos (by omega)])
  · refine g_iconst C dX3_wholePoints_7 ?_
    refine g_goto C dX3_wholePoints_8 (tgt := 24) (by decide) ?_
    first | exact kr _ _ _ dX3_wholePoints_24 (by rw [if_neg (by omega)]) | exact kr _ _ _ dX3_wholePoints_24 (by rw [if_pos (by omega)])
theorem t_rimPoints {h : ax_H} {a : Nat} {S : Int → Int → Prop} (H : rg_of h a S) : ax_Met MX3_rimPoints [rv a] h (some (iv (hB S))) h := by
  obtain ⟨xs, ys, sz, rd, cn, r, hR, hr, hz, hc, hrd, e1, e2, e3, hh⟩ := H.use
  have ⟨h0, h1, h2, h3⟩ := hR
  unfold hB
  refine ax_mi (L0 := [some (rv a)]) rfl rfl (Nat.le_refl _) (Nat.le_refl _) (Nat.le_of_ble_eq_true rfl) rfl ?_
  intro p9 l9 e9 R9 s9 m9 args9 below9 meth9 c9 b9 D9 dA9 Q9 C kr
  refine g_aload_n C dX3_rimPoints_0 rfl ?_
  refine g_get C FX3_50 dX3_rimPoints_1 (by assumption) rfl ?_
  refine g_iconst C dX3_rimPoints_4 ?_
  refine g_icmp_ge C dX3_rimPoints_5 (tgt := 15) (by decide) (by omega) (by omega) (fun h5 => ?_) (fun h5 => ?_)
  · refine g_aload_n C dX3_rimPoints_15 rfl ?_
    refine g_V C (t_stepsRound H) dX3_rimPoints_16 KX3_stepsRound LX3_88 IX3_stepsRound VX3_stepsRound (by decide) rfl (by assumption) rfl rfl rfl (Nat.le_of_ble_eq_true rfl) ⟨rfl, rfl⟩ ?_
    dsimp only [Option.toList, List.cons_append, List.nil_append]
    first | exact kr _ _ _ dX3_rimPoints_19 (by rw [if_pos (by omega)]) | exact kr _ _ _ dX3_rimPoints_19 (by rw [if_neg (by omega)])
  · refine g_aload_n C dX3_rimPoints_8 rfl ?_
    refine g_V C (t_wholePoints H) dX3_rimPoints_9 KX3_wholePoints LX3_91 IX3_wholePoints VX3_wholePoints (by decide) rfl (by assumption) rfl rfl rfl (Nat.le_of_ble_eq_true rfl) ⟨rfl, rfl⟩ ?_
    dsimp only [Option.toList, List.cons_append, List.nil_append]
    refine g_goto C dX3_rimPoints_12 (tgt := 19) (by decide) ?_
    first | exact kr _ _ _ dX3_rimPoints_19 (by rw [if_pos (by omega)]) | exact kr _ _ _ dX3_rimPoints_19 (by rw [if_neg (by omega)])
