section MQ1
variable {h : ax_H} {a : Nat} {s : MS} {c : MC} {xs ys : Nat → Int} {pt : Nat} {co : Nat → Int} {cc : Nat} {B K : Nat → List Pt3} {km : Nat}
def mt (c : MC) (i : Nat) : Tr := (c.1 i, c.2.1 i, c.2.2.1 i)
def mzx (h : ax_H) (a : Nat) (s : MS) (c : MC) : Prop := ∃ xs ys pt co cc, mz h a s c xs ys pt co cc
theorem r_lowOf (M : mz h a s c xs ys pt co cc) (S : msi s B K km) {b i : Nat} (hb : b < 4) (hi : i < 512) (ht : tbd (mt c i)) : ax_Met MX5_lowOf [rv a, iv (b : Int), iv (i : Int)] h (some (iv ((lwT (B b) (mt c i) : Nat) : Int))) h := by
  have ⟨h0, h1, h2, h3, h4, h5, h6, h7, h8, h9, h10, h11⟩ := M
  have ht2 := ht
  unfold tbd mt at ht2
  dsimp only at ht2
  refine ax_mi (L0 := [some (rv a), some (iv (b : Int)), some (iv (i : Int))]) rfl rfl (Nat.le_refl _) (Nat.le_refl _) (Nat.le_of_ble_eq_true rfl) rfl ?_
  intro p9 l9 e9 R9 s9 m9 args9 below9 meth9 c9 b9 D9 dA9 Q9 C kr
  refine g_aload_n C dX5_lowOf_0 rfl ?_
  refine g_iload_n C dX5_lowOf_1 rfl ?_
  refine g_aload_n C dX5_lowOf_2 rfl ?_
  refine g_get C FX5_29 dX5_lowOf_3 (by assumption) rfl ?_
  refine g_iload_n C dX5_lowOf_6 rfl ?_
  refine g_iald C dX5_lowOf_7 (by assumption) rfl (by omega) (by decide) ?_
  refine g_aload_n C dX5_lowOf_8 rfl ?_
  refine g_get C FX5_32 dX5_lowOf_9 (by assumption) rfl ?_
  refine g_iload_n C dX5_lowOf_12 rfl ?_
  refine g_iald C dX5_lowOf_13 (by assumption) rfl (by omega) (by decide) ?_
  refine g_aload_n C dX5_lowOf_14 rfl ?_
  refine g_get C FX5_35 dX5_lowOf_15 (by assumption) rfl ?_
  refine g_iload_n C dX5_lowOf_18 rfl ?_
  refine g_iald C dX5_lowOf_19 (by assumption) rfl (by omega) (by decide) ?_
  refine g_V C (r_lowBy M S hb (u := c.1 i) (v := c.2.1 i) (w := c.2.2.1 i) (by omega) (by omega) (by omega)) dX5_lowOf_20 KX5_lowBy LX5_127 IX5_lowBy VX5_lowBy (by decide) rfl (by assumption) rfl rfl rfl (Nat.le_of_ble_eq_true rfl) ⟨rfl, rfl⟩ ?_
  dsimp only [Option.toList, List.cons_append, List.nil_append]
  exact kr _ _ _ dX5_lowOf_23 rfl
theorem r_kindOf (M : mz h a s c xs ys pt co cc) (S : msi s B K km) {b b2 i : Nat} (hb : b < 4) (hb2 : b2 < 4) (hi : i < 512) (ht : tbd (mt c i)) : ax_Mt MX5_kindOf [rv a, iv (b : Int), iv (b2 : Int), iv (i : Int)] h (fun r h' => r = some (iv (kin (B b) (lwT (B b) (mt c i)) (B b2) (lwT (B b2) (mt c i)))) ∧ mzx h' a s c ∧ ax_sm a (a + 12) h h') := by
  have hL := S.2.1.len hb
  have hL2 := S.2.1.len hb2
  have ⟨h0, h1, h2, h3, h4, h5, h6, h7, h8, h9, h10, h11⟩ := M
  refine ax_ri (L0 := [some (rv a), some (iv (b : Int)), some (iv (b2 : Int)), some (iv (i : Int))]) rfl rfl (Nat.le_of_ble_eq_true rfl) rfl ?_
  intro p9 l9 e9 R9 s9 m9 args9 below9 meth9 c9 b9 D9 dA9 Q9 C kr
  refine g_bipush C dX5_kindOf_0 (by decide) ?_
  refine g_aload_n C dX5_kindOf_2 rfl ?_
  refine g_iload_n C dX5_kindOf_3 rfl ?_
  refine g_aload_n C dX5_kindOf_4 rfl ?_
  refine g_iload_n C dX5_kindOf_5 rfl ?_
  refine g_iload_n C dX5_kindOf_6 rfl ?_
  refine g_V C (r_lowOf M S hb hi ht) dX5_kindOf_7 KX5_lowOf LX5_141 IX5_lowOf VX5_lowOf (by decide) rfl (by assumption) rfl rfl rfl (Nat.le_of_ble_eq_true rfl) ⟨rfl, rfl⟩ ?_
  dsimp only [Option.toList, List.cons_append, List.nil_append]
  refine g_RV C (r_spanOf M S hb (lwT_lt hL)) dX5_kindOf_10 KX5_spanOf LX5_144 IX5_spanOf VX5_spanOf (by decide) rfl (by assumption) rfl rfl rfl (Nat.le_of_ble_eq_true rfl) ?_
  intro r1 g1 hP1 hz1
  obtain ⟨rfl, ⟨xs1, ys1, pt1, co1, cc1, M1⟩, hm1⟩ := hP1
  have ⟨q0, q1, q2, q3, q4, q5, q6, q7, q8, q9, q10, q11⟩ := M1
  dsimp only [Option.toList, List.cons_append, List.nil_append]
  refine g_imul C dX5_kindOf_13 ?_
  refine g_aload_n C dX5_kindOf_14 rfl ?_
  refine g_iload_n C dX5_kindOf_15 rfl ?_
  refine g_aload_n C dX5_kindOf_16 rfl ?_
  refine g_iload_n C dX5_kindOf_17 rfl ?_
  refine g_iload_n C dX5_kindOf_18 rfl ?_
  refine g_V C (r_lowOf M1 S hb2 hi ht) dX5_kindOf_19 KX5_lowOf LX5_141 IX5_lowOf VX5_lowOf (by decide) rfl (by assumption) rfl rfl rfl (Nat.le_of_ble_eq_true rfl) ⟨rfl, rfl⟩ ?_
  dsimp only [Option.toList, List.cons_append, List.nil_append]
  refine g_RV C (r_spanOf M1 S hb2 (lwT_lt hL2)) dX5_kindOf_22 KX5_spanOf LX5_144 IX5_spanOf VX5_spanOf (by decide) rfl (by assumption) rfl rfl rfl (Nat.le_of_ble_eq_true rfl) ?_
  intro r1 g1 hP1 hz1
  obtain ⟨rfl, M2, hm2⟩ := hP1
  have hm2 := hm1.tr hm2
  dsimp only [Option.toList, List.cons_append, List.nil_append]
  refine g_iadd C dX5_kindOf_25 ?_
  exact kr _ _ _ _ dX5_kindOf_26 ⟨rfl, M2, hm2⟩ hm2.1
theorem r_cellArea (M : mz h a s c xs ys pt co cc) (S : msi s B K km) {b b2 i : Nat} (hb : b < 4) (hb2 : b2 < 4) (hi : i < 512) (ht : tbd (mt c i)) : ax_Mt MX5_cellArea [rv a, iv (b : Int), iv (b2 : Int), iv (i : Int)] h (fun r h' => r = some (iv (hA (S2 (B b) (lwT (B b) (mt c i)) (B b2) (lwT (B b2) (mt c i))))) ∧ mzx h' a s c ∧ ax_sm a (a + 12) h h') := by
  have hL := S.2.1.len hb
  have hL2 := S.2.1.len hb2
  have ⟨h0, h1, h2, h3, h4, h5, h6, h7, h8, h9, h10, h11⟩ := M
  refine ax_ri (L0 := [some (rv a), some (iv (b : Int)), some (iv (b2 : Int)), some (iv (i : Int))]) rfl rfl (Nat.le_of_ble_eq_true rfl) rfl ?_
  intro p9 l9 e9 R9 s9 m9 args9 below9 meth9 c9 b9 D9 dA9 Q9 C kr
  refine g_aload_n C dX5_cellArea_0 rfl ?_
  refine g_iload_n C dX5_cellArea_1 rfl ?_
  refine g_aload_n C dX5_cellArea_2 rfl ?_
  refine g_iload_n C dX5_cellArea_3 rfl ?_
  refine g_iload_n C dX5_cellArea_4 rfl ?_
  refine g_V C (r_lowOf M S hb hi ht) dX5_cellArea_5 KX5_lowOf LX5_141 IX5_lowOf VX5_lowOf (by decide) rfl (by assumption) rfl rfl rfl (Nat.le_of_ble_eq_true rfl) ⟨rfl, rfl⟩ ?_
  dsimp only [Option.toList, List.cons_append, List.nil_append]
  refine g_iload_n C dX5_cellArea_8 rfl ?_
  refine g_aload_n C dX5_cellArea_9 rfl ?_
  refine g_iload_n C dX5_cellArea_10 rfl ?_
  refine g_iload_n C dX5_cellArea_11 rfl ?_
  refine g_V C (r_lowOf M S hb2 hi ht) dX5_cellArea_12 KX5_lowOf LX5_141 IX5_lowOf VX5_lowOf (by decide) rfl (by assumption) rfl rfl rfl (Nat.le_of_ble_eq_true rfl) ⟨rfl, rfl⟩ ?_
  dsimp only [Option.toList, List.cons_append, List.nil_append]
  refine g_RV C (r_areaOfSums M S hb hb2 (lwT_lt hL) (lwT_lt hL2)) dX5_cellArea_15 KX5_areaOfSums LX5_111 IX5_areaOfSums VX5_areaOfSums (by decide) rfl (by assumption) rfl rfl rfl (Nat.le_of_ble_eq_true rfl) ?_
  intro r1 g1 hP1 hz1
  obtain ⟨rfl, M2, hm2⟩ := hP1
  dsimp only [Option.toList, List.cons_append, List.nil_append]
  exact kr _ _ _ _ dX5_cellArea_18 ⟨rfl, M2, hm2⟩ hm2.1
theorem r_cellMixed (M : mz h a s c xs ys pt co cc) (S : msi s B K km) {b b2 i : Nat} (hb : b < 4) (hb2 : b2 < 4) (hi : i < 512) (ht : tbd (mt c i)) (hcs : CSl (B b) (B b2) (mt c i)) : ax_Mt MX5_cellMixed [rv a, iv (b : Int), iv (b2 : Int), iv (i : Int)] h (fun r h' => r = some (iv (smx (B b) (lwT (B b) (mt c i)) (B b2) (lwT (B b2) (mt c i)))) ∧ mzx h' a s c ∧ ax_sm a (a + 12) h h') := by
  have hL := S.2.1.len hb
  have hL2 := S.2.1.len hb2
  have ⟨h0, h1, h2, h3, h4, h5, h6, h7, h8, h9, h10, h11⟩ := M
  have nz : ¬ (lwT (B b) (mt c i) = 0 ∨ lwT (B b2) (mt c i) = 0) := by
    obtain ⟨hw, i1, i2, i3, j1, j2, j3, ⟨a1, a2, a3⟩, ⟨e1, e2, e3⟩, hne⟩ := hcs
    rintro (q | q)
    · have := (bo_low_bt _ _ _).mpr a1
      rw [show (bo_low (th (lx (B b)) (ly (B b)) (lv (B b)) (mt c i)) (B b).length).1 = 0 from q] at this
      exact bt_0 _ this
    · have := (bo_low_bt _ _ _).mpr e1
      rw [show (bo_low (th (lx (B b2)) (ly (B b2)) (lv (B b2)) (mt c i)) (B b2).length).1 = 0 from q] at this
      exact bt_0 _ this
  refine ax_ri (L0 := [some (rv a), some (iv (b : Int)), some (iv (b2 : Int)), some (iv (i : Int))]) rfl rfl (Nat.le_of_ble_eq_true rfl) rfl ?_
  intro p9 l9 e9 R9 s9 m9 args9 below9 meth9 c9 b9 D9 dA9 Q9 C kr
  refine g_aload_n C dX5_cellMixed_0 rfl ?_
  refine g_iload_n C dX5_cellMixed_1 rfl ?_
  refine g_iload_n C dX5_cellMixed_2 rfl ?_
  refine g_iload_n C dX5_cellMixed_3 rfl ?_
  refine g_RV C (r_cellArea M S hb hb2 hi ht) dX5_cellMixed_4 KX5_cellArea LX5_147 IX5_cellArea VX5_cellArea (by decide) rfl (by assumption) rfl rfl rfl (Nat.le_of_ble_eq_true rfl) ?_
  intro r1 g1 hP1 hz1
  obtain ⟨rfl, ⟨xs1, ys1, pt1, co1, cc1, M1⟩, hm1⟩ := hP1
  have ⟨q0, q1, q2, q3, q4, q5, q6, q7, q8, q9, q10, q11⟩ := M1
  dsimp only [Option.toList, List.cons_append, List.nil_append]
  refine g_aload_n C dX5_cellMixed_7 rfl ?_
  refine g_iload_n C dX5_cellMixed_8 rfl ?_
  refine g_aload_n C dX5_cellMixed_9 rfl ?_
  refine g_iload_n C dX5_cellMixed_10 rfl ?_
  refine g_iload_n C dX5_cellMixed_11 rfl ?_
  refine g_V C (r_lowOf M1 S hb hi ht) dX5_cellMixed_12 KX5_lowOf LX5_141 IX5_lowOf VX5_lowOf (by decide) rfl (by assumption) rfl rfl rfl (Nat.le_of_ble_eq_true rfl) ⟨rfl, rfl⟩ ?_
  dsimp only [Option.toList, List.cons_append, List.nil_append]
  refine g_RV C (r_areaOf M1 S hb (lwT_lt hL)) dX5_cellMixed_15 KX5_areaOf LX5_115 IX5_areaOf VX5_areaOf (by decide) rfl (by assumption) rfl rfl rfl (Nat.le_of_ble_eq_true rfl) ?_
  intro r1 g1 hP1 hz1
  obtain ⟨rfl, ⟨xs1, ys1, pt1, co1, cc1, M1⟩, hm2⟩ := hP1
  have hm1 := hm1.tr hm2
  have ⟨q0, q1, q2, q3, q4, q5, q6, q7, q8, q9, q10, q11⟩ := M1
  dsimp only [Option.toList, List.cons_append, List.nil_append]
  refine g_isub C dX5_cellMixed_18 ?_
  refine g_aload_n C dX5_cellMixed_19 rfl ?_
  refine g_iload_n C dX5_cellMixed_20 rfl ?_
  refine g_aload_n C dX5_cellMixed_21 rfl ?_
  refine g_iload_n C dX5_cellMixed_22 rfl ?_
  refine g_iload_n C dX5_cellMixed_23 rfl ?_
  refine g_V C (r_lowOf M1 S hb2 hi ht) dX5_cellMixed_24 KX5_lowOf LX5_141 IX5_lowOf VX5_lowOf (by decide) rfl (by assumption) rfl rfl rfl (Nat.le_of_ble_eq_true rfl) ⟨rfl, rfl⟩ ?_
  dsimp only [Option.toList, List.cons_append, List.nil_append]
  refine g_RV C (r_areaOf M1 S hb2 (lwT_lt hL2)) dX5_cellMixed_27 KX5_areaOf LX5_115 IX5_areaOf VX5_areaOf (by decide) rfl (by assumption) rfl rfl rfl (Nat.le_of_ble_eq_true rfl) ?_
  intro r1 g1 hP1 hz1
  obtain ⟨rfl, M2, hm2⟩ := hP1
  have hm2 := hm1.tr hm2
  dsimp only [Option.toList, List.cons_append, List.nil_append]
  refine g_isub C dX5_cellMixed_30 ?_
  exact kr _ _ _ _ dX5_cellMixed_31 ⟨congrArg (fun z => some (iv z)) (by unfold smx; rw [if_neg nz]), M2, hm2⟩ hm2.1
theorem r_isKind {h : ax_H} {k : Int} (hk : -2147483648 ≤ k ∧ k < 2147483648) : ax_Met MX5_isKind [iv k] h (some (iv (if k = 2 ∨ (11 ≤ k ∧ k ≤ 12) ∨ (20 ≤ k ∧ k ≤ 22) then 1 else 0))) h := by
  refine ax_mz (L0 := [some (iv k)]) rfl rfl (Nat.le_refl _) (Nat.le_refl _) (Nat.le_of_ble_eq_true rfl) rfl ?_
  intro p9 l9 e9 R9 s9 m9 args9 below9 meth9 c9 b9 D9 dA9 Q9 C kr
  refine g_iload_n C dX5_isKind_0 rfl ?_
  refine g_iconst C dX5_isKind_1 ?_
  refine g_icmp_eq C dX5_isKind_2 (tgt := 27) (by decide) (by omega) (by omega) (fun h2 => ?_) (fun h2 => ?_)
  · refine g_iconst C dX5_isKind_27 ?_
    refine g_goto C dX5_isKind_28 (tgt := 32) (by decide) ?_
    first | exact kr _ _ _ dX5_isKind_32 (by decide) (by rw [if_pos (by omega)]) | exact kr _ _ _ dX5_isKind_32 (by decide) (by rw [if_neg (by omega)])
  · refine g_iload_n C dX5_isKind_5 rfl ?_
    refine g_bipush C dX5_isKind_6 (by decide) ?_
    refine g_bipush C dX5_isKind_8 (by decide) ?_
    refine g_S C (r_in hk (by omega) (by omega)) dX5_isKind_10 KX5_in LX5_44 SX5_in (by decide) rfl rfl (Nat.le_of_ble_eq_true rfl) ⟨rfl, rfl⟩ ?_
    dsimp only [Option.toList, List.cons_append, List.nil_append]
    refine g_if_ne C dX5_isKind_13 (tgt := 27) (by decide) ifr (fun h13 => ?_) (fun h13 => ?_)
    · have w13 : 11 ≤ k ∧ k ≤ 12 := if1 h13
      refine g_iconst C dX5_isKind_27 ?_
      refine g_goto C dX5_isKind_28 (tgt := 32) (by decide) ?_
      first | exact kr _ _ _ dX5_isKind_32 (by decide) (by rw [if_pos (by omega)]) | exact kr _ _ _ dX5_isKind_32 (by decide) (by rw [if_neg (by omega)])
    · have w13 : ¬ (11 ≤ k ∧ k ≤ 12) := if0 h13
      refine g_iload_n C dX5_isKind_16 rfl ?_
      refine g_bipush C dX5_isKind_17 (by decide) ?_
      refine g_bipush C dX5_isKind_19 (by decide) ?_
      refine g_S C (r_in hk (by omega) (by omega)) dX5_isKind_21 KX5_in LX5_44 SX5_in (by decide) rfl rfl (Nat.le_of_ble_eq_true rfl) ⟨rfl, rfl⟩ ?_
      dsimp only [Option.toList, List.cons_append, List.nil_append]
      refine g_if_eq C dX5_isKind_24 (tgt := 31) (by decide) ifr (fun h24 => ?_) (fun h24 => ?_)
      · have w24 : ¬ (20 ≤ k ∧ k ≤ 22) := if0 h24
        refine g_iconst C dX5_isKind_31 ?_
        first | exact kr _ _ _ dX5_isKind_32 (by decide) (by rw [if_pos (by omega)]) | exact kr _ _ _ dX5_isKind_32 (by decide) (by rw [if_neg (by omega)])
      · have w24 : 20 ≤ k ∧ k ≤ 22 := if1 h24
        refine g_iconst C dX5_isKind_27 ?_
        refine g_goto C dX5_isKind_28 (tgt := 32) (by decide) ?_
        first | exact kr _ _ _ dX5_isKind_32 (by decide) (by rw [if_pos (by omega)]) | exact kr _ _ _ dX5_isKind_32 (by decide) (by rw [if_neg (by omega)])
theorem r_cells (H : mw h a B K km) {b b2 w : Int} (hb : -2147483648 ≤ b ∧ b < 2147483648) (hb2 : -2147483648 ≤ b2 ∧ b2 < 2147483648) (hw : -2147483648 ≤ w ∧ w < 2147483648) : ax_Mt MX5_cells [rv a, iv b, iv b2, iv w] h (fun r h' => r = some (iv (scells B b b2 w)) ∧ mw h' a B K km ∧ ax_sm a (a + 12) h h') := by
  have hm := ax_sm.rf (lo := a) (hi := a + 12) h
  have ⟨s, c, xs, ys, pt, co, cc, M, S⟩ := H
  have ⟨h0, h1, h2, h3, h4, h5, h6, h7, h8, h9, h10, h11⟩ := M
  refine ax_ri (L0 := [some (rv a), some (iv b), some (iv b2), some (iv w), none, none]) rfl rfl (Nat.le_of_ble_eq_true rfl) rfl ?_
  intro p9 l9 e9 R9 s9 m9 args9 below9 meth9 c9 b9 D9 dA9 Q9 C kr
  have part : ∀ n m : Nat, b = (n : Int) → b2 = (m : Int) → n < 4 → m < 4 → ((0 ≤ w ∧ w ≤ 2) ∨ w = 102 ∨ w = 111 ∨ w = 112 ∨ w = 120 ∨ w = 121 ∨ w = 122) → ax_G p9 l9 e9 R9 s9 m9 args9 below9 meth9 c9 b9 D9 dA9 MX5_cells.2.2.1 h.length (ax_sz h) Q9 (44) ([some (rv a), some (iv (n : Int)), some (iv (m : Int)), some (iv w), none, none]) ([]) (h) := by
    intro n m eb eb2 hn hm4 hW
    have loop : ∀ (c : MC), cqs c (B n) (B m) → ∀ (d i : Nat) (hh : ax_H), i + d = c.2.2.2.1 → mzx hh a s c → ax_sm a (a + 12) h hh → ax_G p9 l9 e9 R9 s9 m9 args9 below9 meth9 c9 b9 D9 dA9 MX5_cells.2.2.1 h.length (ax_sz h) Q9 (56) ([some (rv a), some (iv (n : Int)), some (iv (m : Int)), some (iv w), some (iv (if w = 0 then (i : Int) else shs (B n) (B m) w (mt c) i)), some (iv (i : Int))]) ([]) (hh) := by
      intro c hc d
      have h93 := hc.2.2
      induction d with
      | zero =>
        intro i hh hi M hm
        have ⟨xs, ys, pt, co, cc, M⟩ := M
        have ⟨h0, h1, h2, h3, h4, h5, h6, h7, h8, h9, h10, h11⟩ := M
        have ec := cl_is hc.1
        have e : i = c.2.2.2.1 := by omega
        refine g_iload C dX5_cells_56 rfl ?_
        refine g_aload_n C dX5_cells_58 rfl ?_
        refine g_get C FX5_118 dX5_cells_59 (by assumption) rfl ?_
        refine g_icmp_ge C dX5_cells_62 (tgt := 136) (by decide) (by omega) (by omega) (fun h62 => ?_) (fun h62 => ?_)
        · refine g_iload C dX5_cells_136 rfl ?_
          exact kr _ _ _ _ dX5_cells_138 ⟨congrArg (fun z => some (iv z)) (by
            unfold scells; rw [eb, eb2, Int.toNat_natCast, Int.toNat_natCast, if_neg (c := ¬ ((0 ≤ (n : Int) ∧ (n : Int) ≤ 3) ∧ (0 ≤ (m : Int) ∧ (m : Int) ≤ 3))) (by omega), if_neg (c := ¬ ((0 ≤ w ∧ w ≤ 2) ∨ w = 102 ∨ w = 111 ∨ w = 112 ∨ w = 120 ∨ w = 121 ∨ w = 122)) (by omega), ← ec.1, e]
            by_cases q : w = 0
            · rw [if_pos q, if_pos q]
            · rw [if_neg q, if_neg q]; exact shs_eq _ (fun k hk => ⟨hc.1.1.1 k hk, ec.2.2 k hk, ec.2.1 k hk⟩)), ⟨s, c, _, _, _, _, _, M, S⟩, hm⟩ hm.1
        · exfalso; omega
      | succ d ih =>
        intro i hh hi M hm
        have ⟨xs, ys, pt, co, cc, M⟩ := M
        have ⟨h0, h1, h2, h3, h4, h5, h6, h7, h8, h9, h10, h11⟩ := M
        have ht : tbd (mt c i) := hc.2.1 i (by omega)
        have hk := kin_in (B n) (B m) (lwT (B n) (mt c i)) (lwT (B m) (mt c i))
        have nx : ∀ (g : ax_H) (v : Int), mzx g a s c → ax_sm a (a + 12) h g → (if w = 0 then (i : Int) else shs (B n) (B m) w (mt c) i) + v = (if w = 0 then ((i + 1 : Nat) : Int) else shs (B n) (B m) w (mt c) (i + 1)) → ax_G p9 l9 e9 R9 s9 m9 args9 below9 meth9 c9 b9 D9 dA9 MX5_cells.2.2.1 h.length (ax_sz h) Q9 (127) ([some (rv a), some (iv (n : Int)), some (iv (m : Int)), some (iv w), some (iv (if w = 0 then (i : Int) else shs (B n) (B m) w (mt c) i)), some (iv (i : Int))]) ([iv v, iv (if w = 0 then (i : Int) else shs (B n) (B m) w (mt c) i)]) (g) := by
          intro g v M hm e
          refine g_iadd C dX5_cells_127 ?_
          refine g_top (e) ?_
          refine g_istore C dX5_cells_128 (by decide) rfl ?_
          dsimp only [List.set]
          refine g_iinc C dX5_cells_130 (by decide) rfl rfl ?_
          dsimp only [List.set]
          refine g_goto C dX5_cells_133 (tgt := 56) (by decide) ?_
          exact ih (i + 1) g (by omega) M hm
        refine g_iload C dX5_cells_56 rfl ?_
        refine g_aload_n C dX5_cells_58 rfl ?_
        refine g_get C FX5_118 dX5_cells_59 (by assumption) rfl ?_
        refine g_icmp_ge C dX5_cells_62 (tgt := 136) (by decide) (by omega) (by omega) (fun h62 => ?_) (fun h62 => ?_)
        · exfalso; omega
        · refine g_iload C dX5_cells_65 rfl ?_
          refine g_iload_n C dX5_cells_67 rfl ?_
          refine g_if_ne C dX5_cells_68 (tgt := 75) (by decide) (by omega) (fun h68 => ?_) (fun h68 => ?_)
          · refine g_iload_n C dX5_cells_75 rfl ?_
            refine g_iconst C dX5_cells_76 ?_
            refine g_icmp_ne C dX5_cells_77 (tgt := 91) (by decide) (by omega) (by omega) (fun h77 => ?_) (fun h77 => ?_)
            · refine g_iload_n C dX5_cells_91 rfl ?_
              refine g_iconst C dX5_cells_92 ?_
              refine g_icmp_ne C dX5_cells_93 (tgt := 107) (by decide) (by omega) (by omega) (fun h93 => ?_) (fun h93 => ?_)
              · refine g_aload_n C dX5_cells_107 rfl ?_
                refine g_iload_n C dX5_cells_108 rfl ?_
                refine g_iload_n C dX5_cells_109 rfl ?_
                refine g_iload C dX5_cells_110 rfl ?_
                refine g_RV C (r_kindOf M S hn hm4 (i := i) (by omega) ht) dX5_cells_112 KX5_kindOf LX5_159 IX5_kindOf VX5_kindOf (by decide) rfl (by assumption) rfl rfl rfl (Nat.le_of_ble_eq_true rfl) ?_
                intro r1 g1 hP1 hz1
                obtain ⟨rfl, M1, hm1⟩ := hP1
                dsimp only [Option.toList, List.cons_append, List.nil_append]
                refine g_iload_n C dX5_cells_115 rfl ?_
                refine g_bipush C dX5_cells_116 (by decide) ?_
                refine g_isub C dX5_cells_118 ?_
                refine g_icmp_ne C dX5_cells_119 (tgt := 126) (by decide) (by omega) (by omega) (fun h119 => ?_) (fun h119 => ?_)
                · refine g_iconst C dX5_cells_126 ?_
                  exact nx _ _ M1 (hm.tr hm1) (by
                    rw [if_neg (by omega), if_neg (by omega), shs]
                    unfold shr
                    (repeat (first | rw [if_pos (by omega)] | rw [if_neg (by omega)])))
                · refine g_iconst C dX5_cells_122 ?_
                  refine g_goto C dX5_cells_123 (tgt := 127) (by decide) ?_
                  exact nx _ _ M1 (hm.tr hm1) (by
                    rw [if_neg (by omega), if_neg (by omega), shs]
                    unfold shr
                    (repeat (first | rw [if_pos (by omega)] | rw [if_neg (by omega)])))
              · refine g_aload_n C dX5_cells_96 rfl ?_
                refine g_iload_n C dX5_cells_97 rfl ?_
                refine g_iload_n C dX5_cells_98 rfl ?_
                refine g_iload C dX5_cells_99 rfl ?_
                refine g_RV C (r_cellMixed M S hn hm4 (i := i) (by omega) ht (hc.1.2.1 i (by omega))) dX5_cells_101 KX5_cellMixed LX5_156 IX5_cellMixed VX5_cellMixed (by decide) rfl (by assumption) rfl rfl rfl (Nat.le_of_ble_eq_true rfl) ?_
                intro r1 g1 hP1 hz1
                obtain ⟨rfl, M1, hm1⟩ := hP1
                dsimp only [Option.toList, List.cons_append, List.nil_append]
                refine g_goto C dX5_cells_104 (tgt := 127) (by decide) ?_
                exact nx _ _ M1 (hm.tr hm1) (by
                  rw [if_neg (by omega), if_neg (by omega), shs]
                  unfold shr
                  (repeat (first | rw [if_pos (by omega)] | rw [if_neg (by omega)])))
            · refine g_aload_n C dX5_cells_80 rfl ?_
              refine g_iload_n C dX5_cells_81 rfl ?_
              refine g_iload_n C dX5_cells_82 rfl ?_
              refine g_iload C dX5_cells_83 rfl ?_
              refine g_RV C (r_cellArea M S hn hm4 (i := i) (by omega) ht) dX5_cells_85 KX5_cellArea LX5_147 IX5_cellArea VX5_cellArea (by decide) rfl (by assumption) rfl rfl rfl (Nat.le_of_ble_eq_true rfl) ?_
              intro r1 g1 hP1 hz1
              obtain ⟨rfl, M1, hm1⟩ := hP1
              dsimp only [Option.toList, List.cons_append, List.nil_append]
              refine g_goto C dX5_cells_88 (tgt := 127) (by decide) ?_
              exact nx _ _ M1 (hm.tr hm1) (by
                rw [if_neg (by omega), if_neg (by omega), shs]
                unfold shr
                (repeat (first | rw [if_pos (by omega)] | rw [if_neg (by omega)])))
          · refine g_iconst C dX5_cells_71 ?_
            refine g_goto C dX5_cells_72 (tgt := 127) (by decide) ?_
            exact nx _ _ ⟨_, _, _, _, _, M⟩ hm (by rw [if_pos (by omega), if_pos (by omega)]; omega)
    refine g_aload_n C dX5_cells_44 rfl ?_
    refine g_iload_n C dX5_cells_45 rfl ?_
    refine g_iload_n C dX5_cells_46 rfl ?_
    refine g_RV C (r_layCells M S hn hm4) dX5_cells_47 KX5_layCells LX5_153 IX5_layCells VX5_layCells (by decide) rfl (by assumption) rfl rfl rfl (Nat.le_of_ble_eq_true rfl) ?_
    intro r1 g1 hP1 hz1
    obtain ⟨rfl, hm1, c1, M1, hc1⟩ := hP1
    dsimp only [Option.toList, List.cons_append, List.nil_append]
    refine g_iconst C dX5_cells_50 ?_
    refine g_istore C dX5_cells_51 (by decide) rfl ?_
    dsimp only [List.set]
    refine g_iconst C dX5_cells_53 ?_
    refine g_istore C dX5_cells_54 (by decide) rfl ?_
    dsimp only [List.set]
    have q := loop c1 hc1 c1.2.2.2.1 0 _ (by omega) ⟨_, _, _, _, _, M1⟩ hm1
    rw [show (if w = 0 then ((0 : Nat) : Int) else shs (B n) (B m) w (mt c1) 0) = 0 by split <;> rfl] at q
    exact q
  refine g_iload_n C dX5_cells_0 rfl ?_
  refine g_S C (r_isBody hb) dX5_cells_1 KX5_isBody LX5_52 SX5_isBody (by decide) rfl rfl (Nat.le_of_ble_eq_true rfl) ⟨rfl, rfl⟩ ?_
  dsimp only [Option.toList, List.cons_append, List.nil_append]
  refine g_if_eq C dX5_cells_4 (tgt := 14) (by decide) ifr (fun h4 => ?_) (fun h4 => ?_)
  · have w4 : ¬ (0 ≤ b ∧ b ≤ 3) := if0 h4
    refine g_iconst C dX5_cells_14 ?_
    exact kr _ _ _ _ dX5_cells_15 ⟨congrArg (fun z => some (iv z)) (by unfold scells; (repeat (first | rw [if_pos (by omega)] | rw [if_neg (by omega)]))), H, hm⟩ hm.1
  · have w4 : 0 ≤ b ∧ b ≤ 3 := if1 h4
    refine g_iload_n C dX5_cells_7 rfl ?_
    refine g_S C (r_isBody hb2) dX5_cells_8 KX5_isBody LX5_52 SX5_isBody (by decide) rfl rfl (Nat.le_of_ble_eq_true rfl) ⟨rfl, rfl⟩ ?_
    dsimp only [Option.toList, List.cons_append, List.nil_append]
    refine g_if_ne C dX5_cells_11 (tgt := 16) (by decide) ifr (fun h11 => ?_) (fun h11 => ?_)
    · have w11 : 0 ≤ b2 ∧ b2 ≤ 3 := if1 h11
      refine g_iload_n C dX5_cells_16 rfl ?_
      refine g_iconst C dX5_cells_17 ?_
      refine g_iconst C dX5_cells_18 ?_
      refine g_S C (r_in hw (by omega) (by omega)) dX5_cells_19 KX5_in LX5_44 SX5_in (by decide) rfl rfl (Nat.le_of_ble_eq_true rfl) ⟨rfl, rfl⟩ ?_
      dsimp only [Option.toList, List.cons_append, List.nil_append]
      refine g_if_ne C dX5_cells_22 (tgt := 44) (by decide) ifr (fun h22 => ?_) (fun h22 => ?_)
      · have w22 : 0 ≤ w ∧ w ≤ 2 := if1 h22
        obtain ⟨n, eb⟩ : ∃ n : Nat, b = (n : Int) := ⟨b.toNat, by omega⟩
        obtain ⟨m, eb2⟩ : ∃ n : Nat, b2 = (n : Int) := ⟨b2.toNat, by omega⟩
        have q := part n m eb eb2 (by omega) (by omega) (by omega)
        rw [← eb, ← eb2] at q
        exact q
      · have w22 : ¬ (0 ≤ w ∧ w ≤ 2) := if0 h22
        refine g_iload_n C dX5_cells_25 rfl ?_
        refine g_bipush C dX5_cells_26 (by decide) ?_
        refine g_icmp_le C dX5_cells_28 (tgt := 41) (by decide) (by omega) (by omega) (fun h28 => ?_) (fun h28 => ?_)
        · refine g_bipush C dX5_cells_41 (by decide) ?_
          exact kr _ _ _ _ dX5_cells_43 ⟨congrArg (fun z => some (iv z)) (by unfold scells; (repeat (first | rw [if_pos (by omega)] | rw [if_neg (by omega)]))), H, hm⟩ hm.1
        · refine g_iload_n C dX5_cells_31 rfl ?_
          refine g_bipush C dX5_cells_32 (by decide) ?_
          refine g_isub C dX5_cells_34 ?_
          refine g_S C (r_isKind (k := w - 100) (by omega)) dX5_cells_35 KX5_isKind LX5_150 SX5_isKind (by decide) rfl rfl (Nat.le_of_ble_eq_true rfl) ⟨rfl, rfl⟩ ?_
          dsimp only [Option.toList, List.cons_append, List.nil_append]
          refine g_if_ne C dX5_cells_38 (tgt := 44) (by decide) ifr (fun h38 => ?_) (fun h38 => ?_)
          · have w38 : w - 100 = 2 ∨ (11 ≤ w - 100 ∧ w - 100 ≤ 12) ∨ (20 ≤ w - 100 ∧ w - 100 ≤ 22) := if1 h38
            obtain ⟨n, eb⟩ : ∃ n : Nat, b = (n : Int) := ⟨b.toNat, by omega⟩
            obtain ⟨m, eb2⟩ : ∃ n : Nat, b2 = (n : Int) := ⟨b2.toNat, by omega⟩
            have q := part n m eb eb2 (by omega) (by omega) (by omega)
            rw [← eb, ← eb2] at q
            exact q
          · have w38 : ¬ (w - 100 = 2 ∨ (11 ≤ w - 100 ∧ w - 100 ≤ 12) ∨ (20 ≤ w - 100 ∧ w - 100 ≤ 22)) := if0 h38
            refine g_bipush C dX5_cells_41 (by decide) ?_
            exact kr _ _ _ _ dX5_cells_43 ⟨congrArg (fun z => some (iv z)) (by unfold scells; (repeat (first | rw [if_pos (by omega)] | rw [if_neg (by omega)]))), H, hm⟩ hm.1
    · have w11 : ¬ (0 ≤ b2 ∧ b2 ≤ 3) := if0 h11
      refine g_iconst C dX5_cells_14 ?_
      exact kr _ _ _ _ dX5_cells_15 ⟨congrArg (fun z => some (iv z)) (by unfold scells; (repeat (first | rw [if_pos (by omega)] | rw [if_neg (by omega)]))), H, hm⟩ hm.1
theorem r_cell (H : mw h a B K km) {b b2 i w : Int} (hb : -2147483648 ≤ b ∧ b < 2147483648) (hb2 : -2147483648 ≤ b2 ∧ b2 < 2147483648) (hi : -2147483648 ≤ i ∧ i < 2147483648) (hw : -2147483648 ≤ w ∧ w < 2147483648) : ax_Mt MX5_cell [rv a, iv b, iv b2, iv i, iv w] h (fun r h' => r = some (iv (scell B b b2 i w)) ∧ mw h' a B K km ∧ ax_sm a (a + 12) h h') := by
  have hm := ax_sm.rf (lo := a) (hi := a + 12) h
  have ⟨s, c, xs, ys, pt, co, cc, M, S⟩ := H
  have ⟨h0, h1, h2, h3, h4, h5, h6, h7, h8, h9, h10, h11⟩ := M
  refine ax_ri (L0 := [some (rv a), some (iv b), some (iv b2), some (iv i), some (iv w)]) rfl rfl (Nat.le_of_ble_eq_true rfl) rfl ?_
  intro p9 l9 e9 R9 s9 m9 args9 below9 meth9 c9 b9 D9 dA9 Q9 C kr
  refine g_iload_n C dX5_cell_0 rfl ?_
  refine g_S C (r_isBody hb) dX5_cell_1 KX5_isBody LX5_52 SX5_isBody (by decide) rfl rfl (Nat.le_of_ble_eq_true rfl) ⟨rfl, rfl⟩ ?_
  dsimp only [Option.toList, List.cons_append, List.nil_append]
  refine g_if_eq C dX5_cell_4 (tgt := 14) (by decide) ifr (fun h4 => ?_) (fun h4 => ?_)
  · have w4 : ¬ (0 ≤ b ∧ b ≤ 3) := if0 h4
    refine g_iconst C dX5_cell_14 ?_
    exact kr _ _ _ _ dX5_cell_15 ⟨congrArg (fun z => some (iv z)) (by unfold scell; (repeat (first | rw [if_pos (by omega)] | rw [if_neg (by omega)]))), H, hm⟩ hm.1
  · have w4 : 0 ≤ b ∧ b ≤ 3 := if1 h4
    refine g_iload_n C dX5_cell_7 rfl ?_
    refine g_S C (r_isBody hb2) dX5_cell_8 KX5_isBody LX5_52 SX5_isBody (by decide) rfl rfl (Nat.le_of_ble_eq_true rfl) ⟨rfl, rfl⟩ ?_
    dsimp only [Option.toList, List.cons_append, List.nil_append]
    refine g_if_ne C dX5_cell_11 (tgt := 16) (by decide) ifr (fun h11 => ?_) (fun h11 => ?_)
    · have w11 : 0 ≤ b2 ∧ b2 ≤ 3 := if1 h11
      refine g_iload C dX5_cell_16 rfl ?_
      refine g_iconst C dX5_cell_18 ?_
      refine g_iconst C dX5_cell_19 ?_
      refine g_S C (r_in hw (by omega) (by omega)) dX5_cell_20 KX5_in LX5_44 SX5_in (by decide) rfl rfl (Nat.le_of_ble_eq_true rfl) ⟨rfl, rfl⟩ ?_
      dsimp only [Option.toList, List.cons_append, List.nil_append]
      refine g_if_ne C dX5_cell_23 (tgt := 29) (by decide) ifr (fun h23 => ?_) (fun h23 => ?_)
      · have w23 : 0 ≤ w ∧ w ≤ 4 := if1 h23
        obtain ⟨n, rfl⟩ : ∃ n : Nat, b = (n : Int) := ⟨b.toNat, by omega⟩
        obtain ⟨m, rfl⟩ : ∃ n : Nat, b2 = (n : Int) := ⟨b2.toNat, by omega⟩
        have hn : n < 4 := by omega
        have hm4 : m < 4 := by omega
        refine g_aload_n C dX5_cell_29 rfl ?_
        refine g_iload_n C dX5_cell_30 rfl ?_
        refine g_iload_n C dX5_cell_31 rfl ?_
        refine g_RV C (r_layCells M S hn hm4) dX5_cell_32 KX5_layCells LX5_153 IX5_layCells VX5_layCells (by decide) rfl (by assumption) rfl rfl rfl (Nat.le_of_ble_eq_true rfl) ?_
        intro r1 g1 hP1 hz1
        obtain ⟨rfl, hm1, c1, M1, hc⟩ := hP1
        have ⟨q0, q1, q2, q3, q4, q5, q6, q7, q8, q9, q10, q11⟩ := M1
        have ec := cl_is hc.1
        have h93 := hc.2.2
        dsimp only [Option.toList, List.cons_append, List.nil_append]
        refine g_iload_n C dX5_cell_35 rfl ?_
        refine g_iconst C dX5_cell_36 ?_
        refine g_aload_n C dX5_cell_37 rfl ?_
        refine g_get C FX5_118 dX5_cell_38 (by assumption) rfl ?_
        refine g_iconst C dX5_cell_41 ?_
        refine g_isub C dX5_cell_42 ?_
        refine g_S C (r_in hi (by omega) (by omega)) dX5_cell_43 KX5_in LX5_44 SX5_in (by decide) rfl rfl (Nat.le_of_ble_eq_true rfl) ⟨rfl, rfl⟩ ?_
        dsimp only [Option.toList, List.cons_append, List.nil_append]
        refine g_if_ne C dX5_cell_46 (tgt := 52) (by decide) ifr (fun h46 => ?_) (fun h46 => ?_)
        · have w46 : 0 ≤ i ∧ i ≤ (c1.2.2.2.1 : Int) - 1 := if1 h46
          obtain ⟨x, rfl⟩ : ∃ n : Nat, i = (n : Int) := ⟨i.toNat, by omega⟩
          have ht : tbd (mt c1 x) := hc.2.1 x (by omega)
          have eA := lwT_eq (l := B n) (hc.1.1.1 x (by omega)) (ec.2.2 x (by omega)) (ec.2.1 x (by omega))
          have eB := lwT_eq (l := B m) (hc.1.1.1 x (by omega)) (ec.2.2 x (by omega)) (ec.2.1 x (by omega))
          refine g_iload C dX5_cell_52 rfl ?_
          rcases (show w = 0 ∨ w = 1 ∨ w = 2 ∨ w = 3 ∨ w = 4 by omega) with rfl | rfl | rfl | rfl | rfl
          · refine g_tableIn C dX5_cell_54 (off := 30) (tgt := 84) (by decide) (by decide) (by decide) (by decide) (by decide) ?_
            refine g_aload_n C dX5_cell_84 rfl ?_
            refine g_iload_n C dX5_cell_85 rfl ?_
            refine g_iload_n C dX5_cell_86 rfl ?_
            refine g_iload_n C dX5_cell_87 rfl ?_
            refine g_RV C (r_kindOf M1 S hn hm4 (i := x) (by omega) ht) dX5_cell_88 KX5_kindOf LX5_159 IX5_kindOf VX5_kindOf (by decide) rfl (by assumption) rfl rfl rfl (Nat.le_of_ble_eq_true rfl) ?_
            intro r1 g1 hP1 hz1
            obtain ⟨rfl, ⟨xs2, ys2, pt2, co2, cc2, M2⟩, hm2⟩ := hP1
            dsimp only [Option.toList, List.cons_append, List.nil_append]
            exact kr _ _ _ _ dX5_cell_91 ⟨congrArg (fun z => some (iv z)) (by unfold scell; rw [Int.toNat_natCast, Int.toNat_natCast, Int.toNat_natCast, ← ec.1, ← eA, ← eB]; (repeat (first | rw [if_pos (by omega)] | rw [if_neg (by omega)])); try rfl), ⟨s, c1, _, _, _, _, _, M2, S⟩, hm1.tr hm2⟩ (hm1.tr hm2).1
          · refine g_tableIn C dX5_cell_54 (off := 38) (tgt := 92) (by decide) (by decide) (by decide) (by decide) (by decide) ?_
            refine g_aload_n C dX5_cell_92 rfl ?_
            refine g_iload_n C dX5_cell_93 rfl ?_
            refine g_iload_n C dX5_cell_94 rfl ?_
            refine g_iload_n C dX5_cell_95 rfl ?_
            refine g_RV C (r_cellArea M1 S hn hm4 (i := x) (by omega) ht) dX5_cell_96 KX5_cellArea LX5_147 IX5_cellArea VX5_cellArea (by decide) rfl (by assumption) rfl rfl rfl (Nat.le_of_ble_eq_true rfl) ?_
            intro r1 g1 hP1 hz1
            obtain ⟨rfl, ⟨xs2, ys2, pt2, co2, cc2, M2⟩, hm2⟩ := hP1
            dsimp only [Option.toList, List.cons_append, List.nil_append]
            exact kr _ _ _ _ dX5_cell_99 ⟨congrArg (fun z => some (iv z)) (by unfold scell; rw [Int.toNat_natCast, Int.toNat_natCast, Int.toNat_natCast, ← ec.1, ← eA, ← eB]; (repeat (first | rw [if_pos (by omega)] | rw [if_neg (by omega)])); try rfl), ⟨s, c1, _, _, _, _, _, M2, S⟩, hm1.tr hm2⟩ (hm1.tr hm2).1
          · refine g_tableIn C dX5_cell_54 (off := 46) (tgt := 100) (by decide) (by decide) (by decide) (by decide) (by decide) ?_
            refine g_aload_n C dX5_cell_100 rfl ?_
            refine g_iload_n C dX5_cell_101 rfl ?_
            refine g_iload_n C dX5_cell_102 rfl ?_
            refine g_iload_n C dX5_cell_103 rfl ?_
            refine g_RV C (r_cellMixed M1 S hn hm4 (i := x) (by omega) ht (hc.1.2.1 x (by omega))) dX5_cell_104 KX5_cellMixed LX5_156 IX5_cellMixed VX5_cellMixed (by decide) rfl (by assumption) rfl rfl rfl (Nat.le_of_ble_eq_true rfl) ?_
            intro r1 g1 hP1 hz1
            obtain ⟨rfl, ⟨xs2, ys2, pt2, co2, cc2, M2⟩, hm2⟩ := hP1
            dsimp only [Option.toList, List.cons_append, List.nil_append]
            exact kr _ _ _ _ dX5_cell_107 ⟨congrArg (fun z => some (iv z)) (by unfold scell; rw [Int.toNat_natCast, Int.toNat_natCast, Int.toNat_natCast, ← ec.1, ← eA, ← eB]; (repeat (first | rw [if_pos (by omega)] | rw [if_neg (by omega)])); try rfl), ⟨s, c1, _, _, _, _, _, M2, S⟩, hm1.tr hm2⟩ (hm1.tr hm2).1
          · refine g_tableIn C dX5_cell_54 (off := 54) (tgt := 108) (by decide) (by decide) (by decide) (by decide) (by decide) ?_
            refine g_aload_n C dX5_cell_108 rfl ?_
            refine g_iload_n C dX5_cell_109 rfl ?_
            refine g_iload_n C dX5_cell_110 rfl ?_
            refine g_V C (r_lowOf M1 S hn (i := x) (by omega) ht) dX5_cell_111 KX5_lowOf LX5_141 IX5_lowOf VX5_lowOf (by decide) rfl (by assumption) rfl rfl rfl (Nat.le_of_ble_eq_true rfl) ⟨rfl, rfl⟩ ?_
            dsimp only [Option.toList, List.cons_append, List.nil_append]
            exact kr _ _ _ _ dX5_cell_114 ⟨congrArg (fun z => some (iv z)) (by unfold scell; rw [Int.toNat_natCast, Int.toNat_natCast, Int.toNat_natCast, ← ec.1, ← eA, ← eB]; (repeat (first | rw [if_pos (by omega)] | rw [if_neg (by omega)])); try rfl), ⟨s, c1, _, _, _, _, _, M1, S⟩, hm1⟩ hm1.1
          · refine g_tableOut C dX5_cell_54 (tgt := 115) (by decide) (by decide) (by decide) ?_
            refine g_aload_n C dX5_cell_115 rfl ?_
            refine g_iload_n C dX5_cell_116 rfl ?_
            refine g_iload_n C dX5_cell_117 rfl ?_
            refine g_V C (r_lowOf M1 S hm4 (i := x) (by omega) ht) dX5_cell_118 KX5_lowOf LX5_141 IX5_lowOf VX5_lowOf (by decide) rfl (by assumption) rfl rfl rfl (Nat.le_of_ble_eq_true rfl) ⟨rfl, rfl⟩ ?_
            dsimp only [Option.toList, List.cons_append, List.nil_append]
            exact kr _ _ _ _ dX5_cell_121 ⟨congrArg (fun z => some (iv z)) (by unfold scell; rw [Int.toNat_natCast, Int.toNat_natCast, Int.toNat_natCast, ← ec.1, ← eA, ← eB]; (repeat (first | rw [if_pos (by omega)] | rw [if_neg (by omega)])); try rfl), ⟨s, c1, _, _, _, _, _, M1, S⟩, hm1⟩ hm1.1
        · have w46 : ¬ (0 ≤ i ∧ i ≤ (c1.2.2.2.1 : Int) - 1) := if0 h46
          refine g_bipush C dX5_cell_49 (by decide) ?_
          exact kr _ _ _ _ dX5_cell_51 ⟨congrArg (fun z => some (iv z)) (by unfold scell; rw [Int.toNat_natCast, Int.toNat_natCast, ← ec.1]; (repeat (first | rw [if_pos (by omega)] | rw [if_neg (by omega)]))), ⟨s, c1, _, _, _, _, _, M1, S⟩, hm1⟩ hm1.1
      · have w23 : ¬ (0 ≤ w ∧ w ≤ 4) := if0 h23
        refine g_bipush C dX5_cell_26 (by decide) ?_
        exact kr _ _ _ _ dX5_cell_28 ⟨congrArg (fun z => some (iv z)) (by unfold scell; (repeat (first | rw [if_pos (by omega)] | rw [if_neg (by omega)]))), H, hm⟩ hm.1
    · have w11 : ¬ (0 ≤ b2 ∧ b2 ≤ 3) := if0 h11
      refine g_iconst C dX5_cell_14 ?_
      exact kr _ _ _ _ dX5_cell_15 ⟨congrArg (fun z => some (iv z)) (by unfold scell; (repeat (first | rw [if_pos (by omega)] | rw [if_neg (by omega)]))), H, hm⟩ hm.1
theorem r_common {h : ax_H} {x : Int} {y : Nat} (hx : -1000000 ≤ x ∧ x ≤ 1000000) (hy : y < 1000000) : ax_Met MX5_common [iv x, iv (y : Int)] h (some (iv (Nat.gcd x.natAbs y : Int))) h := by
  refine ax_mi (L0 := [some (iv x), some (iv (y : Int)), none, none, none, none]) rfl rfl (Nat.le_refl _) (Nat.le_refl _) (Nat.le_of_ble_eq_true rfl) rfl ?_
  intro p9 l9 e9 R9 s9 m9 args9 below9 meth9 c9 b9 D9 dA9 Q9 C kr
  have loop : ∀ (d k u v : Nat) (x5 : Option ax_V), k + d = 100 → u < 2147483648 → v < 2147483648 → Nat.gcd x.natAbs y = euF d u v → ax_G p9 l9 e9 R9 s9 m9 args9 below9 meth9 c9 b9 D9 dA9 MX5_common.2.2.1 h.length (ax_sz h) Q9 (16) ([some (iv x), some (iv (y : Int)), some (iv (u : Int)), some (iv (v : Int)), some (iv (k : Int)), x5]) ([]) (h) := by
    intro d
    induction d with
    | zero =>
      intro k u v x5 hk hu hv e
      refine g_iload C dX5_common_16 rfl ?_
      refine g_bipush C dX5_common_18 (by decide) ?_
      refine g_icmp_ge C dX5_common_20 (tgt := 43) (by decide) (by omega) (by omega) (fun h20 => ?_) (fun h20 => ?_)
      · refine g_iload_n C dX5_common_43 rfl ?_
        exact kr _ _ _ dX5_common_44 (congrArg (fun z : Nat => some (iv (z : Int))) e)
      · exfalso; omega
    | succ d ih =>
      intro k u v x5 hk hu hv e
      rw [euF] at e
      refine g_iload C dX5_common_16 rfl ?_
      refine g_bipush C dX5_common_18 (by decide) ?_
      refine g_icmp_ge C dX5_common_20 (tgt := 43) (by decide) (by omega) (by omega) (fun h20 => ?_) (fun h20 => ?_)
      · exfalso; omega
      · refine g_iload_n C dX5_common_23 rfl ?_
        refine g_if_eq C dX5_common_24 (tgt := 43) (by decide) (by omega) (fun h24 => ?_) (fun h24 => ?_)
        · rw [if_pos (by omega)] at e
          refine g_iload_n C dX5_common_43 rfl ?_
          exact kr _ _ _ dX5_common_44 (congrArg (fun z : Nat => some (iv (z : Int))) e)
        · rw [if_neg (by omega)] at e
          refine g_iload_n C dX5_common_27 rfl ?_
          refine g_iload_n C dX5_common_28 rfl ?_
          refine g_irem C dX5_common_29 (by omega) (by omega) (by omega) ?_
          refine g_top (Int.ofNat_tmod u v).symm ?_
          refine g_istore C dX5_common_30 (by decide) rfl ?_
          dsimp only [List.set]
          refine g_iload_n C dX5_common_32 rfl ?_
          refine g_istore_n C dX5_common_33 (by decide) rfl ?_
          dsimp only [List.set]
          refine g_iload C dX5_common_34 rfl ?_
          refine g_istore_n C dX5_common_36 (by decide) rfl ?_
          dsimp only [List.set]
          refine g_iinc C dX5_common_37 (by decide) rfl rfl ?_
          dsimp only [List.set]
          refine g_goto C dX5_common_40 (tgt := 16) (by decide) ?_
          exact ih (k + 1) v (u % v) _ (by omega) hv (by have := Nat.mod_lt u (show v > 0 by omega); omega) e
  refine g_iload_n C dX5_common_0 rfl ?_
  refine g_if_ge C dX5_common_1 (tgt := 9) (by decide) (by omega) (fun h1 => ?_) (fun h1 => ?_)
  · refine g_iload_n C dX5_common_9 rfl ?_
    refine g_top (show _ = ((x.natAbs : Nat) : Int) by omega) ?_
    refine g_istore_n C dX5_common_10 (by decide) rfl ?_
    dsimp only [List.set]
    refine g_iload_n C dX5_common_11 rfl ?_
    refine g_istore_n C dX5_common_12 (by decide) rfl ?_
    dsimp only [List.set]
    refine g_iconst C dX5_common_13 ?_
    refine g_istore C dX5_common_14 (by decide) rfl ?_
    dsimp only [List.set]
    exact loop 100 0 x.natAbs y none rfl (by omega) (by omega) (euF_gcd 31 100 x.natAbs y (by omega) (by omega)).symm
  · refine g_iload_n C dX5_common_4 rfl ?_
    refine g_ineg C dX5_common_5 ?_
    refine g_goto C dX5_common_6 (tgt := 10) (by decide) ?_
    refine g_top (show _ = ((x.natAbs : Nat) : Int) by omega) ?_
    refine g_istore_n C dX5_common_10 (by decide) rfl ?_
    dsimp only [List.set]
    refine g_iload_n C dX5_common_11 rfl ?_
    refine g_istore_n C dX5_common_12 (by decide) rfl ?_
    dsimp only [List.set]
    refine g_iconst C dX5_common_13 ?_
    refine g_istore C dX5_common_14 (by decide) rfl ?_
    dsimp only [List.set]
    exact loop 100 0 x.natAbs y none rfl (by omega) (by omega) (euF_gcd 31 100 x.natAbs y (by omega) (by omega)).symm
theorem r_slope (H : mw h a B K km) {b b2 i w : Int} (hb : -2147483648 ≤ b ∧ b < 2147483648) (hb2 : -2147483648 ≤ b2 ∧ b2 < 2147483648) (hi : -2147483648 ≤ i ∧ i < 2147483648) (hw : -2147483648 ≤ w ∧ w < 2147483648) : ax_Mt MX5_slope [rv a, iv b, iv b2, iv i, iv w] h (fun r h' => r = some (iv (sslope B b b2 i w)) ∧ mw h' a B K km ∧ ax_sm a (a + 12) h h') := by
  have hm := ax_sm.rf (lo := a) (hi := a + 12) h
  have ⟨s, c, xs, ys, pt, co, cc, M, S⟩ := H
  have ⟨h0, h1, h2, h3, h4, h5, h6, h7, h8, h9, h10, h11⟩ := M
  refine ax_ri (L0 := [some (rv a), some (iv b), some (iv b2), some (iv i), some (iv w), none, none]) rfl rfl (Nat.le_of_ble_eq_true rfl) rfl ?_
  intro p9 l9 e9 R9 s9 m9 args9 below9 meth9 c9 b9 D9 dA9 Q9 C kr
  refine g_iload_n C dX5_slope_0 rfl ?_
  refine g_S C (r_isBody hb) dX5_slope_1 KX5_isBody LX5_52 SX5_isBody (by decide) rfl rfl (Nat.le_of_ble_eq_true rfl) ⟨rfl, rfl⟩ ?_
  dsimp only [Option.toList, List.cons_append, List.nil_append]
  refine g_if_eq C dX5_slope_4 (tgt := 14) (by decide) ifr (fun h4 => ?_) (fun h4 => ?_)
  · have w4 : ¬ (0 ≤ b ∧ b ≤ 3) := if0 h4
    refine g_iconst C dX5_slope_14 ?_
    exact kr _ _ _ _ dX5_slope_15 ⟨congrArg (fun z => some (iv z)) (by unfold sslope; (repeat (first | rw [if_pos (by omega)] | rw [if_neg (by omega)]))), H, hm⟩ hm.1
  · have w4 : 0 ≤ b ∧ b ≤ 3 := if1 h4
    refine g_iload_n C dX5_slope_7 rfl ?_
    refine g_S C (r_isBody hb2) dX5_slope_8 KX5_isBody LX5_52 SX5_isBody (by decide) rfl rfl (Nat.le_of_ble_eq_true rfl) ⟨rfl, rfl⟩ ?_
    dsimp only [Option.toList, List.cons_append, List.nil_append]
    refine g_if_ne C dX5_slope_11 (tgt := 16) (by decide) ifr (fun h11 => ?_) (fun h11 => ?_)
    · have w11 : 0 ≤ b2 ∧ b2 ≤ 3 := if1 h11
      refine g_iload C dX5_slope_16 rfl ?_
      refine g_iconst C dX5_slope_18 ?_
      refine g_iconst C dX5_slope_19 ?_
      refine g_S C (r_in hw (by omega) (by omega)) dX5_slope_20 KX5_in LX5_44 SX5_in (by decide) rfl rfl (Nat.le_of_ble_eq_true rfl) ⟨rfl, rfl⟩ ?_
      dsimp only [Option.toList, List.cons_append, List.nil_append]
      refine g_if_ne C dX5_slope_23 (tgt := 29) (by decide) ifr (fun h23 => ?_) (fun h23 => ?_)
      · have w23 : 0 ≤ w ∧ w ≤ 3 := if1 h23
        obtain ⟨n, rfl⟩ : ∃ n : Nat, b = (n : Int) := ⟨b.toNat, by omega⟩
        obtain ⟨m, rfl⟩ : ∃ n : Nat, b2 = (n : Int) := ⟨b2.toNat, by omega⟩
        have hn : n < 4 := by omega
        have hm4 : m < 4 := by omega
        refine g_aload_n C dX5_slope_29 rfl ?_
        refine g_iload_n C dX5_slope_30 rfl ?_
        refine g_iload_n C dX5_slope_31 rfl ?_
        refine g_RV C (r_layCells M S hn hm4) dX5_slope_32 KX5_layCells LX5_153 IX5_layCells VX5_layCells (by decide) rfl (by assumption) rfl rfl rfl (Nat.le_of_ble_eq_true rfl) ?_
        intro r1 g1 hP1 hz1
        obtain ⟨rfl, hm1, c1, M1, hc⟩ := hP1
        have ⟨q0, q1, q2, q3, q4, q5, q6, q7, q8, q9, q10, q11⟩ := M1
        have ec := cl_is hc.1
        have h93 := hc.2.2
        dsimp only [Option.toList, List.cons_append, List.nil_append]
        refine g_iload_n C dX5_slope_35 rfl ?_
        refine g_iconst C dX5_slope_36 ?_
        refine g_aload_n C dX5_slope_37 rfl ?_
        refine g_get C FX5_118 dX5_slope_38 (by assumption) rfl ?_
        refine g_iconst C dX5_slope_41 ?_
        refine g_isub C dX5_slope_42 ?_
        refine g_S C (r_in hi (by omega) (by omega)) dX5_slope_43 KX5_in LX5_44 SX5_in (by decide) rfl rfl (Nat.le_of_ble_eq_true rfl) ⟨rfl, rfl⟩ ?_
        dsimp only [Option.toList, List.cons_append, List.nil_append]
        refine g_if_ne C dX5_slope_46 (tgt := 52) (by decide) ifr (fun h46 => ?_) (fun h46 => ?_)
        · have w46 : 0 ≤ i ∧ i ≤ (c1.2.2.2.1 : Int) - 1 := if1 h46
          obtain ⟨x, rfl⟩ : ∃ n : Nat, i = (n : Int) := ⟨i.toNat, by omega⟩
          have ht := hc.2.1 x (by omega)
          unfold tbd at ht
          dsimp only at ht
          have ex := ec.2.1 x (by omega)
          have eA := f_same (hc.1.1.1 x (by omega)) (ec.2.2 x (by omega)) ex.1
          have eB := f_same (hc.1.1.1 x (by omega)) (ec.2.2 x (by omega)) ex.2
          dsimp only at eA eB
          have fA := f_ok (u := c1.1 x) (w := c1.2.2.1 x) ht.2.2.1
          have fB := f_ok (u := c1.2.1 x) (w := c1.2.2.1 x) ht.2.2.1
          have gA : (Nat.gcd (c1.1 x).natAbs (c1.2.2.1 x).natAbs : Int) ≤ 10000 := by have := Nat.gcd_le_right (c1.1 x).natAbs (show 0 < (c1.2.2.1 x).natAbs by omega); omega
          have gB : (Nat.gcd (c1.2.1 x).natAbs (c1.2.2.1 x).natAbs : Int) ≤ 10000 := by have := Nat.gcd_le_right (c1.2.1 x).natAbs (show 0 < (c1.2.2.1 x).natAbs by omega); omega
          have kA := r_common (h := g1) (x := c1.1 x) (y := (c1.2.2.1 x).natAbs) (by omega) (by omega)
          have kB := r_common (h := g1) (x := c1.2.1 x) (y := (c1.2.2.1 x).natAbs) (by omega) (by omega)
          rw [show (((c1.2.2.1 x).natAbs : Nat) : Int) = c1.2.2.1 x by omega] at kA kB
          refine g_iload C dX5_slope_52 rfl ?_
          refine g_iconst C dX5_slope_54 ?_
          refine g_icmp_ge C dX5_slope_55 (tgt := 67) (by decide) (by omega) (by omega) (fun h55 => ?_) (fun h55 => ?_)
          · have kC := kB
            have gC := gB
            have fC := fB
            refine g_aload_n C dX5_slope_67 rfl ?_
            refine g_get C FX5_32 dX5_slope_68 (by assumption) rfl ?_
            refine g_iload_n C dX5_slope_71 rfl ?_
            refine g_iald C dX5_slope_72 (by assumption) rfl (by omega) (by decide) ?_
            refine g_istore C dX5_slope_73 (by decide) rfl ?_
            dsimp only [List.set]
            refine g_iload C dX5_slope_75 rfl ?_
            refine g_aload_n C dX5_slope_77 rfl ?_
            refine g_get C FX5_35 dX5_slope_78 (by assumption) rfl ?_
            refine g_iload_n C dX5_slope_81 rfl ?_
            refine g_iald C dX5_slope_82 (by assumption) rfl (by omega) (by decide) ?_
            refine g_S C (kC) dX5_slope_83 KX5_common LX5_162 SX5_common (by decide) rfl rfl (Nat.le_of_ble_eq_true rfl) ⟨rfl, rfl⟩ ?_
            dsimp only [Option.toList, List.cons_append, List.nil_append]
            refine g_istore C dX5_slope_86 (by decide) rfl ?_
            dsimp only [List.set]
            refine g_iload C dX5_slope_88 rfl ?_
            refine g_iconst C dX5_slope_90 ?_
            refine g_irem C dX5_slope_91 (by omega) (by omega) (by omega) ?_
            refine g_top (show _ = w - 2 * (w / 2) by rw [Int.tmod_eq_emod_of_nonneg (by omega)]; omega) ?_
            refine g_if_ne C dX5_slope_92 (tgt := 106) (by decide) (by omega) (fun h92 => ?_) (fun h92 => ?_)
            · refine g_aload_n C dX5_slope_106 rfl ?_
              refine g_get C FX5_35 dX5_slope_107 (by assumption) rfl ?_
              refine g_iload_n C dX5_slope_110 rfl ?_
              refine g_iald C dX5_slope_111 (by assumption) rfl (by omega) (by decide) ?_
              refine g_iload C dX5_slope_112 rfl ?_
              refine g_idiv C dX5_slope_114 (by omega) (by omega) (by omega) ?_
              exact kr _ _ _ _ dX5_slope_115 ⟨congrArg (fun z => some (iv z)) (by unfold sslope; rw [Int.toNat_natCast, Int.toNat_natCast, Int.toNat_natCast, ← ec.1, ← eA.1, ← eA.2, ← eB.1, ← eB.2]; (repeat (first | rw [if_pos (by omega)] | rw [if_neg (by omega)])); first | rfl | (unfold fU; omega)), ⟨s, c1, _, _, _, _, _, M1, S⟩, hm1⟩ hm1.1
            · refine g_iload C dX5_slope_95 rfl ?_
              refine g_iload C dX5_slope_97 rfl ?_
              refine g_idiv C dX5_slope_99 (by omega) (by omega) (by omega) ?_
              refine g_ldc C dX5_slope_100 QX5_165 (show _ = Int32.ofInt 100000 by decide) ?_
              refine g_iadd C dX5_slope_102 ?_
              refine g_goto C dX5_slope_103 (tgt := 115) (by decide) ?_
              exact kr _ _ _ _ dX5_slope_115 ⟨congrArg (fun z => some (iv z)) (by unfold sslope; rw [Int.toNat_natCast, Int.toNat_natCast, Int.toNat_natCast, ← ec.1, ← eA.1, ← eA.2, ← eB.1, ← eB.2]; (repeat (first | rw [if_pos (by omega)] | rw [if_neg (by omega)])); first | rfl | (unfold fU; omega)), ⟨s, c1, _, _, _, _, _, M1, S⟩, hm1⟩ hm1.1
          · have kC := kA
            have gC := gA
            have fC := fA
            refine g_aload_n C dX5_slope_58 rfl ?_
            refine g_get C FX5_29 dX5_slope_59 (by assumption) rfl ?_
            refine g_iload_n C dX5_slope_62 rfl ?_
            refine g_iald C dX5_slope_63 (by assumption) rfl (by omega) (by decide) ?_
            refine g_goto C dX5_slope_64 (tgt := 73) (by decide) ?_
            refine g_istore C dX5_slope_73 (by decide) rfl ?_
            dsimp only [List.set]
            refine g_iload C dX5_slope_75 rfl ?_
            refine g_aload_n C dX5_slope_77 rfl ?_
            refine g_get C FX5_35 dX5_slope_78 (by assumption) rfl ?_
            refine g_iload_n C dX5_slope_81 rfl ?_
            refine g_iald C dX5_slope_82 (by assumption) rfl (by omega) (by decide) ?_
            refine g_S C (kC) dX5_slope_83 KX5_common LX5_162 SX5_common (by decide) rfl rfl (Nat.le_of_ble_eq_true rfl) ⟨rfl, rfl⟩ ?_
            dsimp only [Option.toList, List.cons_append, List.nil_append]
            refine g_istore C dX5_slope_86 (by decide) rfl ?_
            dsimp only [List.set]
            refine g_iload C dX5_slope_88 rfl ?_
            refine g_iconst C dX5_slope_90 ?_
            refine g_irem C dX5_slope_91 (by omega) (by omega) (by omega) ?_
            refine g_top (show _ = w - 2 * (w / 2) by rw [Int.tmod_eq_emod_of_nonneg (by omega)]; omega) ?_
            refine g_if_ne C dX5_slope_92 (tgt := 106) (by decide) (by omega) (fun h92 => ?_) (fun h92 => ?_)
            · refine g_aload_n C dX5_slope_106 rfl ?_
              refine g_get C FX5_35 dX5_slope_107 (by assumption) rfl ?_
              refine g_iload_n C dX5_slope_110 rfl ?_
              refine g_iald C dX5_slope_111 (by assumption) rfl (by omega) (by decide) ?_
              refine g_iload C dX5_slope_112 rfl ?_
              refine g_idiv C dX5_slope_114 (by omega) (by omega) (by omega) ?_
              exact kr _ _ _ _ dX5_slope_115 ⟨congrArg (fun z => some (iv z)) (by unfold sslope; rw [Int.toNat_natCast, Int.toNat_natCast, Int.toNat_natCast, ← ec.1, ← eA.1, ← eA.2, ← eB.1, ← eB.2]; (repeat (first | rw [if_pos (by omega)] | rw [if_neg (by omega)])); first | rfl | (unfold fU; omega)), ⟨s, c1, _, _, _, _, _, M1, S⟩, hm1⟩ hm1.1
            · refine g_iload C dX5_slope_95 rfl ?_
              refine g_iload C dX5_slope_97 rfl ?_
              refine g_idiv C dX5_slope_99 (by omega) (by omega) (by omega) ?_
              refine g_ldc C dX5_slope_100 QX5_165 (show _ = Int32.ofInt 100000 by decide) ?_
              refine g_iadd C dX5_slope_102 ?_
              refine g_goto C dX5_slope_103 (tgt := 115) (by decide) ?_
              exact kr _ _ _ _ dX5_slope_115 ⟨congrArg (fun z => some (iv z)) (by unfold sslope; rw [Int.toNat_natCast, Int.toNat_natCast, Int.toNat_natCast, ← ec.1, ← eA.1, ← eA.2, ← eB.1, ← eB.2]; (repeat (first | rw [if_pos (by omega)] | rw [if_neg (by omega)])); first | rfl | (unfold fU; omega)), ⟨s, c1, _, _, _, _, _, M1, S⟩, hm1⟩ hm1.1
        · have w46 : ¬ (0 ≤ i ∧ i ≤ (c1.2.2.2.1 : Int) - 1) := if0 h46
          refine g_bipush C dX5_slope_49 (by decide) ?_
          exact kr _ _ _ _ dX5_slope_51 ⟨congrArg (fun z => some (iv z)) (by unfold sslope; rw [Int.toNat_natCast, Int.toNat_natCast, ← ec.1]; (repeat (first | rw [if_pos (by omega)] | rw [if_neg (by omega)]))), ⟨s, c1, _, _, _, _, _, M1, S⟩, hm1⟩ hm1.1
      · have w23 : ¬ (0 ≤ w ∧ w ≤ 3) := if0 h23
        refine g_bipush C dX5_slope_26 (by decide) ?_
        exact kr _ _ _ _ dX5_slope_28 ⟨congrArg (fun z => some (iv z)) (by unfold sslope; (repeat (first | rw [if_pos (by omega)] | rw [if_neg (by omega)]))), H, hm⟩ hm.1
    · have w11 : ¬ (0 ≤ b2 ∧ b2 ≤ 3) := if0 h11
      refine g_iconst C dX5_slope_14 ?_
      exact kr _ _ _ _ dX5_slope_15 ⟨congrArg (fun z => some (iv z)) (by unfold sslope; (repeat (first | rw [if_pos (by omega)] | rw [if_neg (by omega)]))), H, hm⟩ hm.1
end MQ1
