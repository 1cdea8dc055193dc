/-! hull, corner, sum, sumCorner, fan -/
def S1 (l : List Pt3) (T : Nat) : Int → Int → Prop := bs (lx l) (ly l) l.length T
def S2 (l : List Pt3) (T : Nat) (m : List Pt3) (U : Nat) : Int → Int → Prop := bss (lx l) (ly l) l.length T (lx m) (ly m) m.length U
def SF (l : List Pt3) : Int → Int → Prop := fan (lx l) (ly l) l.length (2 ^ l.length)
theorem S1_all {l : List Pt3} (h : l.length ≤ 7) : S1 l (2 ^ l.length - 1) = S1 l 127 := bs_all h
theorem S2_all {l m : List Pt3} (h : l.length ≤ 7) (g : m.length ≤ 7) : S2 l (2 ^ l.length - 1) m (2 ^ m.length - 1) = S2 l 127 m 127 := bss_all h g
theorem p7_lt {n : Nat} (h : n ≤ 7) : 2 ^ n - 1 < 2147483648 := by
  have : 2 ^ n ≤ 2 ^ 7 := Nat.pow_le_pow_right (by decide) h
  omega
theorem wd.len {h : ax_H} {B K : Nat → List Pt3} {km : Nat} (H : wd h B K km) {n : Nat} (hn : n < 4) : (B n).length ≤ 7 := (H.2.2.2.2.2.2.1 n hn).1.1
theorem w_gather {h : ax_H} {B K : Nat → List Pt3} {km n T : Nat} (H : wd h B K km) (hn : n < 4) (hT : T < 2147483648) : ax_Mt MX3_gather [rv 3, rv (121 + 4 * n), iv (T : Int)] h (fun r h' => r = some (rv 3) ∧ rg_of h' 3 (S1 (B n) T) ∧ wd h' B K km ∧ ax_sm 3 7 h h') := by
  obtain ⟨X, Y, V, hB, hE, hO⟩ := H.of hn
  refine (t_gather H.2.1 hB hO hT (by omega)).mono ?_
  rintro r h' ⟨h1, h2, h3⟩
  rw [show bs X Y (B n).length T = S1 (B n) T from bs_cg (fun k hk => ⟨(hE k hk).1, (hE k hk).2.1⟩)] at h2
  exact ⟨h1, h2, H.rg h3 h2.any, h3⟩
theorem w_sums {h : ax_H} {B K : Nat → List Pt3} {km n m T U : Nat} (H : wd h B K km) (hn : n < 4) (hm : m < 4) (hT : T < 2147483648) (hU : U < 2147483648) : ax_Mt MX3_gatherSums [rv 3, rv (121 + 4 * n), iv (T : Int), rv (121 + 4 * m), iv (U : Int)] h (fun r h' => r = some (rv 3) ∧ rg_of h' 3 (S2 (B n) T (B m) U) ∧ wd h' B K km ∧ ax_sm 3 7 h h') := by
  obtain ⟨X, Y, V, hB, hE, hO⟩ := H.of hn
  obtain ⟨X2, Y2, V2, hB2, hE2, hO2⟩ := H.of hm
  refine (t_gatherSums H.2.1 hB hB2 hO hO2 hT hU (by omega) (by omega)).mono ?_
  rintro r h' ⟨h1, h2, h3⟩
  rw [show bss X Y (B n).length T X2 Y2 (B m).length U = S2 (B n) T (B m) U from bss_cg (fun k hk => ⟨(hE k hk).1, (hE k hk).2.1⟩) (fun k hk => ⟨(hE2 k hk).1, (hE2 k hk).2.1⟩)] at h2
  exact ⟨h1, h2, H.rg h3 h2.any, h3⟩
theorem w_fan {h : ax_H} {B K : Nat → List Pt3} {km n : Nat} (H : wd h B K km) (hn : n < 4) : ax_Mt MX3_gatherFan [rv 3, rv (121 + 4 * n)] h (fun r h' => r = some (rv 3) ∧ rg_of h' 3 (SF (B n)) ∧ wd h' B K km ∧ ax_sm 3 7 h h') := by
  obtain ⟨X, Y, V, hB, hE, hO⟩ := H.of hn
  refine (t_gatherFan H.2.1 hB hO (by omega)).mono ?_
  rintro r h' ⟨h1, h2, h3⟩
  rw [show fan X Y (B n).length (2 ^ (B n).length) = SF (B n) from fan_cg (fun k hk => ⟨(hE k hk).1, (hE k hk).2.1⟩)] at h2
  exact ⟨h1, h2, H.rg h3 h2.any, h3⟩
theorem w_all {h : ax_H} {B K : Nat → List Pt3} {km n : Nat} (H : wd h B K km) (hn : n < 4) : ax_Met MX0_all [rv (121 + 4 * n)] h (some (iv (((2 ^ (B n).length - 1 : Nat) : Int)))) h := by
  obtain ⟨X, Y, V, hB, hE, hO⟩ := H.of hn
  exact t_all hB hO.1
theorem wd.ob {h : ax_H} {B K : Nat → List Pt3} {km n : Nat} (H : wd h B K km) (hn : n < 4) : ∃ fs, h[121 + 4 * n]? = some (.inr (0, fs)) := by
  obtain ⟨X, Y, V, hB, -, -⟩ := H.of hn
  exact ⟨_, hB.1⟩
theorem wd.rb {h : ax_H} {B K : Nat → List Pt3} {km : Nat} (H : wd h B K km) : ∃ fs, h[3]? = some (.inr (3, fs)) := by
  obtain ⟨xs, ys, sz, rd, cn, hR⟩ := H.2.1
  exact ⟨_, hR.1⟩
noncomputable def shull (B : Nat → List Pt3) (b w : Int) : Int :=
  if ¬ (0 ≤ b ∧ b ≤ 3) then -1 else if ¬ (0 ≤ w ∧ w ≤ 4) then -2 else if w = 0 then hA (S1 (B b.toNat) 127) else if w = 1 then ((hC (S1 (B b.toNat) 127)).1 : Int) else if w = 2 then hW (S1 (B b.toNat) 127) else if w = 3 then hB (S1 (B b.toNat) 127) else hS (S1 (B b.toNat) 127)
theorem t_hull {h : ax_H} {B K : Nat → List Pt3} {km : Nat} (H : wd h B K km) {b w : Int} (hb : -2147483648 ≤ b ∧ b < 2147483648) (hw : -2147483648 ≤ w ∧ w < 2147483648) : ax_Mt MX4_hull [rv 0, iv b, iv w] h (fun r h' => r = some (iv (shull B b w)) ∧ wd h' B K km ∧ ax_sm 0 169 h h') := by
  have hm := ax_sm.rf (lo := 0) (hi := 169) h
  have g0 := H.1.1
  refine ax_ri (L0 := [some (rv 0), some (iv b), some (iv w), none]) rfl rfl (Nat.le_of_ble_eq_true rfl) rfl ?_
  intro p9 l9 e9 R9 s9 m9 args9 below9 meth9 c9 b9 D9 dA9 Q9 C kr
  by_cases c : 0 ≤ b ∧ b ≤ 3
  · obtain ⟨n, rfl⟩ : ∃ n : Nat, b = (n : Int) := ⟨b.toNat, by omega⟩
    have hn : n < 4 := by omega
    have hL := H.len hn
    obtain ⟨fs0, q0⟩ := H.ob hn
    obtain ⟨fs1, q1⟩ := H.rb
    refine g_aload_n C dX4_hull_0 rfl ?_
    refine g_iload_n C dX4_hull_1 rfl ?_
    refine g_V C (t_bodyA H hn) dX4_hull_2 KX4_bodyAt LX4_38 IX4_bodyAt VX4_bodyAt (by decide) rfl (by assumption) rfl rfl rfl (Nat.le_of_ble_eq_true rfl) ⟨rfl, rfl⟩ ?_
    dsimp only [Option.toList, List.cons_append, List.nil_append]
    refine g_astore_n C dX4_hull_5 (by decide) rfl ?_
    dsimp only [List.set]
    refine g_aload_n C dX4_hull_6 rfl ?_
    refine g_ifnonnull C dX4_hull_7 (tgt := 12) (by decide) ?_
    refine g_iload_n C dX4_hull_12 rfl ?_
    refine g_iconst C dX4_hull_13 ?_
    refine g_iconst C dX4_hull_14 ?_
    refine g_S C (t_isWithin hw (by omega) (by omega)) dX4_hull_15 KX4_isWithin LX4_42 SX4_isWithin (by decide) rfl rfl (Nat.le_of_ble_eq_true rfl) ⟨rfl, rfl⟩ ?_
    dsimp only [Option.toList, List.cons_append, List.nil_append]
    refine g_if_ne C dX4_hull_18 (tgt := 24) (by decide) ifr (fun h18 => ?_) (fun h18 => ?_)
    · have w18 : 0 ≤ w ∧ w ≤ 4 := if1 h18
      refine g_aload_n C dX4_hull_24 rfl ?_
      refine g_get C FX4_21 dX4_hull_25 (by assumption) rfl ?_
      refine g_aload_n C dX4_hull_28 rfl ?_
      refine g_aload_n C dX4_hull_29 rfl ?_
      refine g_V C (w_all H hn) dX4_hull_30 KX0_all LX4_76 IX0_all VX0_all (by decide) rfl (by assumption) rfl rfl rfl (Nat.le_of_ble_eq_true rfl) ⟨rfl, rfl⟩ ?_
      dsimp only [Option.toList, List.cons_append, List.nil_append]
      refine g_RV C (w_gather H hn (p7_lt hL)) dX4_hull_33 KX3_gather LX4_80 IX3_gather VX3_gather (by decide) rfl (by assumption) rfl rfl rfl (Nat.le_of_ble_eq_true rfl) ?_
      intro r1 g1 hP1 hz1
      obtain ⟨rfl, hR, H1, hm1⟩ := hP1
      rw [S1_all hL] at hR
      have g1 := H1.1.1
      have hm1 : ax_sm 0 169 h _ := hm1.wide (by omega) (by omega)
      obtain ⟨xs, ys, sz, rd, cn, r, hA0, -, -, -, -, hsz, hcn, -, -⟩ := hR.use
      have q2 := hA0.1
      dsimp only [Option.toList, List.cons_append, List.nil_append]
      refine g_pop C dX4_hull_36 ?_
      refine g_iload_n C dX4_hull_37 rfl ?_
      rcases (show w = 0 ∨ w = 1 ∨ w = 2 ∨ w = 3 ∨ w = 4 by omega) with rfl | rfl | rfl | rfl | rfl
      · refine g_tableIn C dX4_hull_38 (off := 30) (tgt := 68) (by decide) (by decide) (by decide) (by decide) (by decide) ?_
        refine g_aload_n C dX4_hull_68 rfl ?_
        refine g_get C FX4_21 dX4_hull_69 (by assumption) rfl ?_
        refine g_V C (t_area hR) dX4_hull_72 KX3_area LX4_84 IX3_area VX3_area (by decide) rfl (by assumption) rfl rfl rfl (Nat.le_of_ble_eq_true rfl) ⟨rfl, rfl⟩ ?_
        dsimp only [Option.toList, List.cons_append, List.nil_append]
        exact kr _ _ _ _ dX4_hull_75 ⟨congrArg (fun z => some (iv z)) (by unfold shull; rw [Int.toNat_natCast]; (repeat (first | rw [if_pos (by omega)] | rw [if_neg (by omega)]))), H1, hm1⟩ hm1.1
      · refine g_tableIn C dX4_hull_38 (off := 38) (tgt := 76) (by decide) (by decide) (by decide) (by decide) (by decide) ?_
        refine g_aload_n C dX4_hull_76 rfl ?_
        refine g_get C FX4_21 dX4_hull_77 (by assumption) rfl ?_
        refine g_get C FX4_87 dX4_hull_80 (by assumption) rfl ?_
        exact kr _ _ _ _ dX4_hull_83 ⟨congrArg (fun z => some (iv z)) (by unfold shull; rw [Int.toNat_natCast]; (repeat (first | rw [if_pos (by omega)] | rw [if_neg (by omega)])); rw [hcn]), H1, hm1⟩ hm1.1
      · refine g_tableIn C dX4_hull_38 (off := 46) (tgt := 84) (by decide) (by decide) (by decide) (by decide) (by decide) ?_
        refine g_aload_n C dX4_hull_84 rfl ?_
        refine g_get C FX4_21 dX4_hull_85 (by assumption) rfl ?_
        refine g_V C (t_wholePoints hR) dX4_hull_88 KX3_wholePoints LX4_90 IX3_wholePoints VX3_wholePoints (by decide) rfl (by assumption) rfl rfl rfl (Nat.le_of_ble_eq_true rfl) ⟨rfl, rfl⟩ ?_
        dsimp only [Option.toList, List.cons_append, List.nil_append]
        exact kr _ _ _ _ dX4_hull_91 ⟨congrArg (fun z => some (iv z)) (by unfold shull; rw [Int.toNat_natCast]; (repeat (first | rw [if_pos (by omega)] | rw [if_neg (by omega)]))), H1, hm1⟩ hm1.1
      · refine g_tableIn C dX4_hull_38 (off := 54) (tgt := 92) (by decide) (by decide) (by decide) (by decide) (by decide) ?_
        refine g_aload_n C dX4_hull_92 rfl ?_
        refine g_get C FX4_21 dX4_hull_93 (by assumption) rfl ?_
        refine g_V C (t_rimPoints hR) dX4_hull_96 KX3_rimPoints LX4_93 IX3_rimPoints VX3_rimPoints (by decide) rfl (by assumption) rfl rfl rfl (Nat.le_of_ble_eq_true rfl) ⟨rfl, rfl⟩ ?_
        dsimp only [Option.toList, List.cons_append, List.nil_append]
        exact kr _ _ _ _ dX4_hull_99 ⟨congrArg (fun z => some (iv z)) (by unfold shull; rw [Int.toNat_natCast]; (repeat (first | rw [if_pos (by omega)] | rw [if_neg (by omega)]))), H1, hm1⟩ hm1.1
      · refine g_tableOut C dX4_hull_38 (tgt := 100) (by decide) (by decide) (by decide) ?_
        refine g_aload_n C dX4_hull_100 rfl ?_
        refine g_get C FX4_21 dX4_hull_101 (by assumption) rfl ?_
        refine g_V C (t_span hR) dX4_hull_104 KX3_span LX4_96 IX3_span VX3_span (by decide) rfl (by assumption) rfl rfl rfl (Nat.le_of_ble_eq_true rfl) ⟨rfl, rfl⟩ ?_
        dsimp only [Option.toList, List.cons_append, List.nil_append]
        exact kr _ _ _ _ dX4_hull_107 ⟨congrArg (fun z => some (iv z)) (by unfold shull; rw [Int.toNat_natCast]; (repeat (first | rw [if_pos (by omega)] | rw [if_neg (by omega)]))), H1, hm1⟩ hm1.1
    · have w18 : ¬ (0 ≤ w ∧ w ≤ 4) := if0 h18
      refine g_bipush C dX4_hull_21 (by decide) ?_
      exact kr _ _ _ _ dX4_hull_23 ⟨congrArg (fun z => some (iv z)) (by unfold shull; (repeat (first | rw [if_pos (by omega)] | rw [if_neg (by omega)]))), H, hm⟩ hm.1
  · refine g_aload_n C dX4_hull_0 rfl ?_
    refine g_iload_n C dX4_hull_1 rfl ?_
    refine g_V C (t_bodyN H hb c) dX4_hull_2 KX4_bodyAt LX4_38 IX4_bodyAt VX4_bodyAt (by decide) rfl (by assumption) rfl rfl rfl (Nat.le_of_ble_eq_true rfl) ⟨rfl, rfl⟩ ?_
    dsimp only [Option.toList, List.cons_append, List.nil_append]
    refine g_astore_n C dX4_hull_5 (by decide) rfl ?_
    dsimp only [List.set]
    refine g_aload_n C dX4_hull_6 rfl ?_
    refine g_ifnonnullN C dX4_hull_7 ?_
    refine g_iconst C dX4_hull_10 ?_
    exact kr _ _ _ _ dX4_hull_11 ⟨congrArg (fun z => some (iv z)) (by unfold shull; (repeat (first | rw [if_pos (by omega)] | rw [if_neg (by omega)]))), H, hm⟩ hm.1
noncomputable def scorner (B : Nat → List Pt3) (b i : Int) : Int :=
  if ¬ (0 ≤ b ∧ b ≤ 3) then -1 else if ¬ (0 ≤ i ∧ i < ((hC (S1 (B b.toNat) 127)).1 : Int)) then -6 else fnd (B b.toNat) ((hC (S1 (B b.toNat) 127)).2.1 i.toNat) ((hC (S1 (B b.toNat) 127)).2.2 i.toNat)
theorem t_corner {h : ax_H} {B K : Nat → List Pt3} {km : Nat} (H : wd h B K km) {b i : Int} (hb : -2147483648 ≤ b ∧ b < 2147483648) (hi : -2147483648 ≤ i ∧ i < 2147483648) : ax_Mt MX4_corner [rv 0, iv b, iv i] h (fun r h' => r = some (iv (scorner B b i)) ∧ wd h' B K km ∧ ax_sm 0 169 h h') := by
  have hm := ax_sm.rf (lo := 0) (hi := 169) h
  have g0 := H.1.1
  refine ax_ri (L0 := [some (rv 0), some (iv b), some (iv i), none]) rfl rfl (Nat.le_of_ble_eq_true rfl) rfl ?_
  intro p9 l9 e9 R9 s9 m9 args9 below9 meth9 c9 b9 D9 dA9 Q9 C kr
  by_cases c : 0 ≤ b ∧ b ≤ 3
  · obtain ⟨n, rfl⟩ : ∃ n : Nat, b = (n : Int) := ⟨b.toNat, by omega⟩
    have hn : n < 4 := by omega
    have hL := H.len hn
    obtain ⟨fs0, q0⟩ := H.ob hn
    obtain ⟨fs1, q1⟩ := H.rb
    refine g_aload_n C dX4_corner_0 rfl ?_
    refine g_iload_n C dX4_corner_1 rfl ?_
    refine g_V C (t_bodyA H hn) dX4_corner_2 KX4_bodyAt LX4_38 IX4_bodyAt VX4_bodyAt (by decide) rfl (by assumption) rfl rfl rfl (Nat.le_of_ble_eq_true rfl) ⟨rfl, rfl⟩ ?_
    dsimp only [Option.toList, List.cons_append, List.nil_append]
    refine g_astore_n C dX4_corner_5 (by decide) rfl ?_
    dsimp only [List.set]
    refine g_aload_n C dX4_corner_6 rfl ?_
    refine g_ifnonnull C dX4_corner_7 (tgt := 12) (by decide) ?_
    refine g_aload_n C dX4_corner_12 rfl ?_
    refine g_get C FX4_21 dX4_corner_13 (by assumption) rfl ?_
    refine g_aload_n C dX4_corner_16 rfl ?_
    refine g_aload_n C dX4_corner_17 rfl ?_
    refine g_V C (w_all H hn) dX4_corner_18 KX0_all LX4_76 IX0_all VX0_all (by decide) rfl (by assumption) rfl rfl rfl (Nat.le_of_ble_eq_true rfl) ⟨rfl, rfl⟩ ?_
    dsimp only [Option.toList, List.cons_append, List.nil_append]
    refine g_RV C (w_gather H hn (p7_lt hL)) dX4_corner_21 KX3_gather LX4_80 IX3_gather VX3_gather (by decide) rfl (by assumption) rfl rfl rfl (Nat.le_of_ble_eq_true rfl) ?_
    intro r1 g1 hP1 hz1
    obtain ⟨rfl, hR, H1, hm1⟩ := hP1
    rw [S1_all hL] at hR
    have g1 := H1.1.1
    have hm1 : ax_sm 0 169 h _ := hm1.wide (by omega) (by omega)
    obtain ⟨fs2, q2⟩ := H1.rb
    obtain ⟨fs3, q3⟩ := H1.ob hn
    have hcr := hR.cr
    generalize eS : S1 (B n) 127 = S at *
    dsimp only [Option.toList, List.cons_append, List.nil_append]
    refine g_pop C dX4_corner_24 ?_
    refine g_aload_n C dX4_corner_25 rfl ?_
    refine g_get C FX4_21 dX4_corner_26 (by assumption) rfl ?_
    refine g_iload_n C dX4_corner_29 rfl ?_
    refine g_V C (t_hasCorner hR hi) dX4_corner_30 KX3_hasCorner LX4_99 IX3_hasCorner VX3_hasCorner (by decide) rfl (by assumption) rfl rfl rfl (Nat.le_of_ble_eq_true rfl) ⟨rfl, rfl⟩ ?_
    dsimp only [Option.toList, List.cons_append, List.nil_append]
    refine g_if_ne C dX4_corner_33 (tgt := 39) (by decide) ifr (fun h33 => ?_) (fun h33 => ?_)
    · have w33 : 0 ≤ i ∧ i < ((hC S).1 : Int) := if1 h33
      obtain ⟨j, rfl⟩ : ∃ j : Nat, i = (j : Int) := ⟨i.toNat, by omega⟩
      obtain ⟨X, Y, V, hB, hE, hO⟩ := H1.of hn
      have hcj := hcr.2 j (by omega)
      refine g_aload_n C dX4_corner_39 rfl ?_
      refine g_aload_n C dX4_corner_40 rfl ?_
      refine g_get C FX4_21 dX4_corner_41 (by assumption) rfl ?_
      refine g_iload_n C dX4_corner_44 rfl ?_
      refine g_V C (t_cornerX hR (k := j) (by omega)) dX4_corner_45 KX3_cornerX LX4_102 IX3_cornerX VX3_cornerX (by decide) rfl (by assumption) rfl rfl rfl (Nat.le_of_ble_eq_true rfl) ⟨rfl, rfl⟩ ?_
      dsimp only [Option.toList, List.cons_append, List.nil_append]
      refine g_aload_n C dX4_corner_48 rfl ?_
      refine g_get C FX4_21 dX4_corner_49 (by assumption) rfl ?_
      refine g_iload_n C dX4_corner_52 rfl ?_
      refine g_V C (t_cornerY hR (k := j) (by omega)) dX4_corner_53 KX3_cornerY LX4_106 IX3_cornerY VX3_cornerY (by decide) rfl (by assumption) rfl rfl rfl (Nat.le_of_ble_eq_true rfl) ⟨rfl, rfl⟩ ?_
      dsimp only [Option.toList, List.cons_append, List.nil_append]
      refine g_V C (t_find hB hO (by omega) (by omega)) dX4_corner_56 KX0_find LX4_46 IX0_find VX0_find (by decide) rfl (by assumption) rfl rfl rfl (Nat.le_of_ble_eq_true rfl) ⟨rfl, rfl⟩ ?_
      dsimp only [Option.toList, List.cons_append, List.nil_append]
      exact kr _ _ _ _ dX4_corner_59 ⟨congrArg (fun z => some (iv z)) (by unfold scorner; rw [Int.toNat_natCast, Int.toNat_natCast, eS]; (repeat (first | rw [if_pos (by omega)] | rw [if_neg (by omega)])); exact find_cg _ 0 (fun j z1 z2 => ⟨(hE j (by omega)).1, (hE j (by omega)).2.1⟩)), H1, hm1⟩ hm1.1
    · have w33 : ¬ (0 ≤ i ∧ i < ((hC S).1 : Int)) := if0 h33
      refine g_bipush C dX4_corner_36 (by decide) ?_
      exact kr _ _ _ _ dX4_corner_38 ⟨congrArg (fun z => some (iv z)) (by unfold scorner; rw [Int.toNat_natCast, eS]; (repeat (first | rw [if_pos (by omega)] | rw [if_neg (by omega)]))), H1, hm1⟩ hm1.1
  · refine g_aload_n C dX4_corner_0 rfl ?_
    refine g_iload_n C dX4_corner_1 rfl ?_
    refine g_V C (t_bodyN H hb c) dX4_corner_2 KX4_bodyAt LX4_38 IX4_bodyAt VX4_bodyAt (by decide) rfl (by assumption) rfl rfl rfl (Nat.le_of_ble_eq_true rfl) ⟨rfl, rfl⟩ ?_
    dsimp only [Option.toList, List.cons_append, List.nil_append]
    refine g_astore_n C dX4_corner_5 (by decide) rfl ?_
    dsimp only [List.set]
    refine g_aload_n C dX4_corner_6 rfl ?_
    refine g_ifnonnullN C dX4_corner_7 ?_
    refine g_iconst C dX4_corner_10 ?_
    exact kr _ _ _ _ dX4_corner_11 ⟨congrArg (fun z => some (iv z)) (by unfold scorner; (repeat (first | rw [if_pos (by omega)] | rw [if_neg (by omega)]))), H, hm⟩ hm.1
noncomputable def sfan (B : Nat → List Pt3) (b w : Int) : Int :=
  if ¬ (0 ≤ b ∧ b ≤ 3) then -1 else if ¬ (0 ≤ w ∧ w ≤ 2) then -2 else if w = 0 then hA (SF (B b.toNat)) else if w = 1 then ((hC (SF (B b.toNat))).1 : Int) else (hZ (SF (B b.toNat)) : Int)
theorem t_fan {h : ax_H} {B K : Nat → List Pt3} {km : Nat} (H : wd h B K km) {b w : Int} (hb : -2147483648 ≤ b ∧ b < 2147483648) (hw : -2147483648 ≤ w ∧ w < 2147483648) : ax_Mt MX4_fan [rv 0, iv b, iv w] h (fun r h' => r = some (iv (sfan B b w)) ∧ wd h' B K km ∧ ax_sm 0 169 h h') := by
  have hm := ax_sm.rf (lo := 0) (hi := 169) h
  have g0 := H.1.1
  refine ax_ri (L0 := [some (rv 0), some (iv b), some (iv w), none]) rfl rfl (Nat.le_of_ble_eq_true rfl) rfl ?_
  intro p9 l9 e9 R9 s9 m9 args9 below9 meth9 c9 b9 D9 dA9 Q9 C kr
  by_cases c : 0 ≤ b ∧ b ≤ 3
  · obtain ⟨n, rfl⟩ : ∃ n : Nat, b = (n : Int) := ⟨b.toNat, by omega⟩
    have hn : n < 4 := by omega
    obtain ⟨fs0, q0⟩ := H.ob hn
    obtain ⟨fs1, q1⟩ := H.rb
    refine g_aload_n C dX4_fan_0 rfl ?_
    refine g_iload_n C dX4_fan_1 rfl ?_
    refine g_V C (t_bodyA H hn) dX4_fan_2 KX4_bodyAt LX4_38 IX4_bodyAt VX4_bodyAt (by decide) rfl (by assumption) rfl rfl rfl (Nat.le_of_ble_eq_true rfl) ⟨rfl, rfl⟩ ?_
    dsimp only [Option.toList, List.cons_append, List.nil_append]
    refine g_astore_n C dX4_fan_5 (by decide) rfl ?_
    dsimp only [List.set]
    refine g_aload_n C dX4_fan_6 rfl ?_
    refine g_ifnonnull C dX4_fan_7 (tgt := 12) (by decide) ?_
    refine g_iload_n C dX4_fan_12 rfl ?_
    refine g_iconst C dX4_fan_13 ?_
    refine g_iconst C dX4_fan_14 ?_
    refine g_S C (t_isWithin hw (by omega) (by omega)) dX4_fan_15 KX4_isWithin LX4_42 SX4_isWithin (by decide) rfl rfl (Nat.le_of_ble_eq_true rfl) ⟨rfl, rfl⟩ ?_
    dsimp only [Option.toList, List.cons_append, List.nil_append]
    refine g_if_ne C dX4_fan_18 (tgt := 24) (by decide) ifr (fun h18 => ?_) (fun h18 => ?_)
    · have w18 : 0 ≤ w ∧ w ≤ 2 := if1 h18
      refine g_aload_n C dX4_fan_24 rfl ?_
      refine g_get C FX4_21 dX4_fan_25 (by assumption) rfl ?_
      refine g_aload_n C dX4_fan_28 rfl ?_
      refine g_RV C (w_fan H hn) dX4_fan_29 KX3_gatherFan LX4_162 IX3_gatherFan VX3_gatherFan (by decide) rfl (by assumption) rfl rfl rfl (Nat.le_of_ble_eq_true rfl) ?_
      intro r1 g1 hP1 hz1
      obtain ⟨rfl, hR, H1, hm1⟩ := hP1
      have g1 := H1.1.1
      have hm1 : ax_sm 0 169 h _ := hm1.wide (by omega) (by omega)
      obtain ⟨xs, ys, sz, rd, cn, r, hA0, -, -, -, -, hsz, hcn, -, -⟩ := hR.use
      have q2 := hA0.1
      dsimp only [Option.toList, List.cons_append, List.nil_append]
      refine g_pop C dX4_fan_32 ?_
      refine g_iload_n C dX4_fan_33 rfl ?_
      rcases (show w = 0 ∨ w = 1 ∨ w = 2 by omega) with rfl | rfl | rfl
      · refine g_lookup C dX4_fan_34 (off := 26) (tgt := 60) (by decide) (by decide) (by decide) (by decide) ?_
        refine g_aload_n C dX4_fan_60 rfl ?_
        refine g_get C FX4_21 dX4_fan_61 (by assumption) rfl ?_
        refine g_V C (t_area hR) dX4_fan_64 KX3_area LX4_84 IX3_area VX3_area (by decide) rfl (by assumption) rfl rfl rfl (Nat.le_of_ble_eq_true rfl) ⟨rfl, rfl⟩ ?_
        dsimp only [Option.toList, List.cons_append, List.nil_append]
        exact kr _ _ _ _ dX4_fan_67 ⟨congrArg (fun z => some (iv z)) (by unfold sfan; rw [Int.toNat_natCast]; (repeat (first | rw [if_pos (by omega)] | rw [if_neg (by omega)]))), H1, hm1⟩ hm1.1
      · refine g_lookup C dX4_fan_34 (off := 34) (tgt := 68) (by decide) (by decide) (by decide) (by decide) ?_
        refine g_aload_n C dX4_fan_68 rfl ?_
        refine g_get C FX4_21 dX4_fan_69 (by assumption) rfl ?_
        refine g_get C FX4_87 dX4_fan_72 (by assumption) rfl ?_
        exact kr _ _ _ _ dX4_fan_75 ⟨congrArg (fun z => some (iv z)) (by unfold sfan; rw [Int.toNat_natCast]; (repeat (first | rw [if_pos (by omega)] | rw [if_neg (by omega)])); rw [hcn]), H1, hm1⟩ hm1.1
      · refine g_lookup C dX4_fan_34 (off := 42) (tgt := 76) (by decide) (by decide) (by decide) (by decide) ?_
        refine g_aload_n C dX4_fan_76 rfl ?_
        refine g_get C FX4_21 dX4_fan_77 (by assumption) rfl ?_
        refine g_get C FX4_117 dX4_fan_80 (by assumption) rfl ?_
        exact kr _ _ _ _ dX4_fan_83 ⟨congrArg (fun z => some (iv z)) (by unfold sfan; rw [Int.toNat_natCast]; (repeat (first | rw [if_pos (by omega)] | rw [if_neg (by omega)])); rw [hsz]), H1, hm1⟩ hm1.1
    · have w18 : ¬ (0 ≤ w ∧ w ≤ 2) := if0 h18
      refine g_bipush C dX4_fan_21 (by decide) ?_
      exact kr _ _ _ _ dX4_fan_23 ⟨congrArg (fun z => some (iv z)) (by unfold sfan; (repeat (first | rw [if_pos (by omega)] | rw [if_neg (by omega)]))), H, hm⟩ hm.1
  · refine g_aload_n C dX4_fan_0 rfl ?_
    refine g_iload_n C dX4_fan_1 rfl ?_
    refine g_V C (t_bodyN H hb c) dX4_fan_2 KX4_bodyAt LX4_38 IX4_bodyAt VX4_bodyAt (by decide) rfl (by assumption) rfl rfl rfl (Nat.le_of_ble_eq_true rfl) ⟨rfl, rfl⟩ ?_
    dsimp only [Option.toList, List.cons_append, List.nil_append]
    refine g_astore_n C dX4_fan_5 (by decide) rfl ?_
    dsimp only [List.set]
    refine g_aload_n C dX4_fan_6 rfl ?_
    refine g_ifnonnullN C dX4_fan_7 ?_
    refine g_iconst C dX4_fan_10 ?_
    exact kr _ _ _ _ dX4_fan_11 ⟨congrArg (fun z => some (iv z)) (by unfold sfan; (repeat (first | rw [if_pos (by omega)] | rw [if_neg (by omega)]))), H, hm⟩ hm.1
/-! two bodies -/
noncomputable def smx (l : List Pt3) (T : Nat) (m : List Pt3) (U : Nat) : Int := if T = 0 ∨ U = 0 then 0 else hA (S2 l T m U) - hA (S1 l T) - hA (S1 m U)
theorem t_mixedOf {h : ax_H} {B K : Nat → List Pt3} {km n m T U : Nat} (H : wd h B K km) (hn : n < 4) (hm : m < 4) (hT : T < 2147483648) (hU : U < 2147483648) : ax_Mt MX4_mixedOf [rv 0, rv (121 + 4 * n), iv (T : Int), rv (121 + 4 * m), iv (U : Int)] h (fun r h' => r = some (iv (smx (B n) T (B m) U)) ∧ wd h' B K km ∧ ax_sm 3 7 h h') := by
  have hs := ax_sm.rf (lo := 3) (hi := 7) h
  have g0 := H.1.1
  refine ax_ri (L0 := [some (rv 0), some (rv (121 + 4 * n)), some (iv (T : Int)), some (rv (121 + 4 * m)), some (iv (U : Int)), none]) rfl rfl (Nat.le_of_ble_eq_true rfl) rfl ?_
  intro p9 l9 e9 R9 s9 m9 args9 below9 meth9 c9 b9 D9 dA9 Q9 C kr
  obtain ⟨fs1, q1⟩ := H.rb
  refine g_iload_n C dX4_mixedOf_0 rfl ?_
  refine g_if_eq C dX4_mixedOf_1 (tgt := 9) (by decide) (by omega) (fun h1 => ?_) (fun h1 => ?_)
  · refine g_iconst C dX4_mixedOf_9 ?_
    exact kr _ _ _ _ dX4_mixedOf_10 ⟨congrArg (fun z => some (iv z)) (by unfold smx; (repeat (first | rw [if_pos (by omega)] | rw [if_neg (by omega)]))), H, hs⟩ hs.1
  · refine g_iload C dX4_mixedOf_4 rfl ?_
    refine g_if_ne C dX4_mixedOf_6 (tgt := 11) (by decide) (by omega) (fun h6 => ?_) (fun h6 => ?_)
    · refine g_aload_n C dX4_mixedOf_11 rfl ?_
      refine g_get C FX4_21 dX4_mixedOf_12 (by assumption) rfl ?_
      refine g_aload_n C dX4_mixedOf_15 rfl ?_
      refine g_iload_n C dX4_mixedOf_16 rfl ?_
      refine g_aload_n C dX4_mixedOf_17 rfl ?_
      refine g_iload C dX4_mixedOf_18 rfl ?_
      refine g_RV C (w_sums H hn hm hT hU) dX4_mixedOf_20 KX3_gatherSums LX4_113 IX3_gatherSums VX3_gatherSums (by decide) rfl (by assumption) rfl rfl rfl (Nat.le_of_ble_eq_true rfl) ?_
      intro r1 g1 hP1 hz1
      obtain ⟨rfl, hR, H1, hm1⟩ := hP1
      have g1 := H1.1.1
      obtain ⟨fs2, q2⟩ := H1.rb
      dsimp only [Option.toList, List.cons_append, List.nil_append]
      refine g_V C (t_area hR) dX4_mixedOf_23 KX3_area LX4_84 IX3_area VX3_area (by decide) rfl (by assumption) rfl rfl rfl (Nat.le_of_ble_eq_true rfl) ⟨rfl, rfl⟩ ?_
      dsimp only [Option.toList, List.cons_append, List.nil_append]
      refine g_istore C dX4_mixedOf_26 (by decide) rfl ?_
      dsimp only [List.set]
      refine g_iload C dX4_mixedOf_28 rfl ?_
      refine g_aload_n C dX4_mixedOf_30 rfl ?_
      refine g_get C FX4_21 dX4_mixedOf_31 (by assumption) rfl ?_
      refine g_aload_n C dX4_mixedOf_34 rfl ?_
      refine g_iload_n C dX4_mixedOf_35 rfl ?_
      refine g_RV C (w_gather H1 hn hT) dX4_mixedOf_36 KX3_gather LX4_80 IX3_gather VX3_gather (by decide) rfl (by assumption) rfl rfl rfl (Nat.le_of_ble_eq_true rfl) ?_
      intro r2 g2 hP1 hz1
      obtain ⟨rfl, hR2, H2, hm2⟩ := hP1
      have hm2 := hm1.tr hm2
      have g2 := H2.1.1
      obtain ⟨fs3, q3⟩ := H2.rb
      dsimp only [Option.toList, List.cons_append, List.nil_append]
      refine g_V C (t_area hR2) dX4_mixedOf_39 KX3_area LX4_84 IX3_area VX3_area (by decide) rfl (by assumption) rfl rfl rfl (Nat.le_of_ble_eq_true rfl) ⟨rfl, rfl⟩ ?_
      dsimp only [Option.toList, List.cons_append, List.nil_append]
      refine g_isub C dX4_mixedOf_42 ?_
      refine g_aload_n C dX4_mixedOf_43 rfl ?_
      refine g_get C FX4_21 dX4_mixedOf_44 (by assumption) rfl ?_
      refine g_aload_n C dX4_mixedOf_47 rfl ?_
      refine g_iload C dX4_mixedOf_48 rfl ?_
      refine g_RV C (w_gather H2 hm hU) dX4_mixedOf_50 KX3_gather LX4_80 IX3_gather VX3_gather (by decide) rfl (by assumption) rfl rfl rfl (Nat.le_of_ble_eq_true rfl) ?_
      intro r3 g3 hP1 hz1
      obtain ⟨rfl, hR3, H3, hm3⟩ := hP1
      have hm3 := hm2.tr hm3
      have g3 := H3.1.1
      obtain ⟨fs4, q4⟩ := H3.rb
      dsimp only [Option.toList, List.cons_append, List.nil_append]
      refine g_V C (t_area hR3) dX4_mixedOf_53 KX3_area LX4_84 IX3_area VX3_area (by decide) rfl (by assumption) rfl rfl rfl (Nat.le_of_ble_eq_true rfl) ⟨rfl, rfl⟩ ?_
      dsimp only [Option.toList, List.cons_append, List.nil_append]
      refine g_isub C dX4_mixedOf_56 ?_
      exact kr _ _ _ _ dX4_mixedOf_57 ⟨congrArg (fun z => some (iv z)) (by unfold smx; (repeat (first | rw [if_pos (by omega)] | rw [if_neg (by omega)]))), H3, hm3⟩ hm3.1
    · refine g_iconst C dX4_mixedOf_9 ?_
      exact kr _ _ _ _ dX4_mixedOf_10 ⟨congrArg (fun z => some (iv z)) (by unfold smx; (repeat (first | rw [if_pos (by omega)] | rw [if_neg (by omega)]))), H, hs⟩ hs.1
noncomputable def ssum (B : Nat → List Pt3) (a b w : Int) : Int :=
  if ¬ ((0 ≤ a ∧ a ≤ 3) ∧ (0 ≤ b ∧ b ≤ 3)) then -1 else if ¬ (0 ≤ w ∧ w ≤ 3) then -2
  else if w = 3 then (if (B a.toNat).length = 0 ∨ (B b.toNat).length = 0 then 0 else hA (S2 (B a.toNat) 127 (B b.toNat) 127) - hA (S1 (B a.toNat) 127) - hA (S1 (B b.toNat) 127))
  else if w = 0 then (hZ (S2 (B a.toNat) 127 (B b.toNat) 127) : Int) else if w = 1 then hA (S2 (B a.toNat) 127 (B b.toNat) 127) else ((hC (S2 (B a.toNat) 127 (B b.toNat) 127)).1 : Int)
theorem p2_0 {n : Nat} : 2 ^ n - 1 = 0 ↔ n = 0 := by
  constructor
  · intro h
    cases n with
    | zero => rfl
    | succ n => have := Nat.one_le_two_pow (n := n); rw [Nat.pow_succ] at h; omega
  · intro h; subst h; rfl
theorem t_sum {h : ax_H} {B K : Nat → List Pt3} {km : Nat} (H : wd h B K km) {a b w : Int} (ha : -2147483648 ≤ a ∧ a < 2147483648) (hb : -2147483648 ≤ b ∧ b < 2147483648) (hw : -2147483648 ≤ w ∧ w < 2147483648) : ax_Mt MX4_sum [rv 0, iv a, iv b, iv w] h (fun r h' => r = some (iv (ssum B a b w)) ∧ wd h' B K km ∧ ax_sm 0 169 h h') := by
  have hm := ax_sm.rf (lo := 0) (hi := 169) h
  have g0 := H.1.1
  refine ax_ri (L0 := [some (rv 0), some (iv a), some (iv b), some (iv w), none, none]) rfl rfl (Nat.le_of_ble_eq_true rfl) rfl ?_
  intro p9 l9 e9 R9 s9 m9 args9 below9 meth9 c9 b9 D9 dA9 Q9 C kr
  by_cases c : 0 ≤ a ∧ a ≤ 3
  · obtain ⟨n, rfl⟩ : ∃ n : Nat, a = (n : Int) := ⟨a.toNat, by omega⟩
    have hn : n < 4 := by omega
    by_cases c2 : 0 ≤ b ∧ b ≤ 3
    · obtain ⟨j, rfl⟩ : ∃ n : Nat, b = (n : Int) := ⟨b.toNat, by omega⟩
      have hj : j < 4 := by omega
      have hL := H.len hn
      have hL2 := H.len hj
      obtain ⟨fs0, q0⟩ := H.ob hn
      obtain ⟨fs1, q1⟩ := H.rb
      obtain ⟨fs2, q2⟩ := H.ob hj
      refine g_aload_n C dX4_sum_0 rfl ?_
      refine g_iload_n C dX4_sum_1 rfl ?_
      refine g_V C (t_bodyA H hn) dX4_sum_2 KX4_bodyAt LX4_38 IX4_bodyAt VX4_bodyAt (by decide) rfl (by assumption) rfl rfl rfl (Nat.le_of_ble_eq_true rfl) ⟨rfl, rfl⟩ ?_
      dsimp only [Option.toList, List.cons_append, List.nil_append]
      refine g_astore C dX4_sum_5 (by decide) rfl ?_
      dsimp only [List.set]
      refine g_aload_n C dX4_sum_7 rfl ?_
      refine g_iload_n C dX4_sum_8 rfl ?_
      refine g_V C (t_bodyA H hj) dX4_sum_9 KX4_bodyAt LX4_38 IX4_bodyAt VX4_bodyAt (by decide) rfl (by assumption) rfl rfl rfl (Nat.le_of_ble_eq_true rfl) ⟨rfl, rfl⟩ ?_
      dsimp only [Option.toList, List.cons_append, List.nil_append]
      refine g_astore C dX4_sum_12 (by decide) rfl ?_
      dsimp only [List.set]
      refine g_aload C dX4_sum_14 rfl ?_
      refine g_ifnull C dX4_sum_16 ?_
      refine g_aload C dX4_sum_19 rfl ?_
      refine g_ifnonnull C dX4_sum_21 (tgt := 26) (by decide) ?_
      refine g_iload_n C dX4_sum_26 rfl ?_
      refine g_iconst C dX4_sum_27 ?_
      refine g_iconst C dX4_sum_28 ?_
      refine g_S C (t_isWithin hw (by omega) (by omega)) dX4_sum_29 KX4_isWithin LX4_42 SX4_isWithin (by decide) rfl rfl (Nat.le_of_ble_eq_true rfl) ⟨rfl, rfl⟩ ?_
      dsimp only [Option.toList, List.cons_append, List.nil_append]
      refine g_if_ne C dX4_sum_32 (tgt := 38) (by decide) ifr (fun h32 => ?_) (fun h32 => ?_)
      · have w32 : 0 ≤ w ∧ w ≤ 3 := if1 h32
        refine g_iload_n C dX4_sum_38 rfl ?_
        refine g_iconst C dX4_sum_39 ?_
        refine g_icmp_ne C dX4_sum_40 (tgt := 62) (by decide) (by omega) (by omega) (fun h40 => ?_) (fun h40 => ?_)
        · refine g_aload_n C dX4_sum_62 rfl ?_
          refine g_get C FX4_21 dX4_sum_63 (by assumption) rfl ?_
          refine g_aload C dX4_sum_66 rfl ?_
          refine g_aload C dX4_sum_68 rfl ?_
          refine g_V C (w_all H hn) dX4_sum_70 KX0_all LX4_76 IX0_all VX0_all (by decide) rfl (by assumption) rfl rfl rfl (Nat.le_of_ble_eq_true rfl) ⟨rfl, rfl⟩ ?_
          dsimp only [Option.toList, List.cons_append, List.nil_append]
          refine g_aload C dX4_sum_73 rfl ?_
          refine g_aload C dX4_sum_75 rfl ?_
          refine g_V C (w_all H hj) dX4_sum_77 KX0_all LX4_76 IX0_all VX0_all (by decide) rfl (by assumption) rfl rfl rfl (Nat.le_of_ble_eq_true rfl) ⟨rfl, rfl⟩ ?_
          dsimp only [Option.toList, List.cons_append, List.nil_append]
          refine g_RV C (w_sums H hn hj (p7_lt hL) (p7_lt hL2)) dX4_sum_80 KX3_gatherSums LX4_113 IX3_gatherSums VX3_gatherSums (by decide) rfl (by assumption) rfl rfl rfl (Nat.le_of_ble_eq_true rfl) ?_
          intro r1 g1 hP1 hz1
          obtain ⟨rfl, hR, H1, hm1⟩ := hP1
          rw [S2_all hL hL2] at hR
          have g1 := H1.1.1
          have hm1 : ax_sm 0 169 h _ := hm1.wide (by omega) (by omega)
          obtain ⟨xs, ys, sz, rd, cn, r, hA0, -, -, -, -, hsz, hcn, -, -⟩ := hR.use
          have q2 := hA0.1
          dsimp only [Option.toList, List.cons_append, List.nil_append]
          refine g_pop C dX4_sum_83 ?_
          refine g_iload_n C dX4_sum_84 rfl ?_
          rcases (show w = 0 ∨ w = 1 ∨ w = 2 by omega) with rfl | rfl | rfl
          · refine g_lookup C dX4_sum_85 (off := 27) (tgt := 112) (by decide) (by decide) (by decide) (by decide) ?_
            refine g_aload_n C dX4_sum_112 rfl ?_
            refine g_get C FX4_21 dX4_sum_113 (by assumption) rfl ?_
            refine g_get C FX4_117 dX4_sum_116 (by assumption) rfl ?_
            exact kr _ _ _ _ dX4_sum_119 ⟨congrArg (fun z => some (iv z)) (by unfold ssum; rw [Int.toNat_natCast, Int.toNat_natCast]; (repeat (first | rw [if_pos (by omega)] | rw [if_neg (by omega)])); rw [hsz]), H1, hm1⟩ hm1.1
          · refine g_lookup C dX4_sum_85 (off := 35) (tgt := 120) (by decide) (by decide) (by decide) (by decide) ?_
            refine g_aload_n C dX4_sum_120 rfl ?_
            refine g_get C FX4_21 dX4_sum_121 (by assumption) rfl ?_
            refine g_V C (t_area hR) dX4_sum_124 KX3_area LX4_84 IX3_area VX3_area (by decide) rfl (by assumption) rfl rfl rfl (Nat.le_of_ble_eq_true rfl) ⟨rfl, rfl⟩ ?_
            dsimp only [Option.toList, List.cons_append, List.nil_append]
            exact kr _ _ _ _ dX4_sum_127 ⟨congrArg (fun z => some (iv z)) (by unfold ssum; rw [Int.toNat_natCast, Int.toNat_natCast]; (repeat (first | rw [if_pos (by omega)] | rw [if_neg (by omega)]))), H1, hm1⟩ hm1.1
          · refine g_lookup C dX4_sum_85 (off := 43) (tgt := 128) (by decide) (by decide) (by decide) (by decide) ?_
            refine g_aload_n C dX4_sum_128 rfl ?_
            refine g_get C FX4_21 dX4_sum_129 (by assumption) rfl ?_
            refine g_get C FX4_87 dX4_sum_132 (by assumption) rfl ?_
            exact kr _ _ _ _ dX4_sum_135 ⟨congrArg (fun z => some (iv z)) (by unfold ssum; rw [Int.toNat_natCast, Int.toNat_natCast]; (repeat (first | rw [if_pos (by omega)] | rw [if_neg (by omega)])); rw [hcn]), H1, hm1⟩ hm1.1
        · refine g_aload_n C dX4_sum_43 rfl ?_
          refine g_aload C dX4_sum_44 rfl ?_
          refine g_aload C dX4_sum_46 rfl ?_
          refine g_V C (w_all H hn) dX4_sum_48 KX0_all LX4_76 IX0_all VX0_all (by decide) rfl (by assumption) rfl rfl rfl (Nat.le_of_ble_eq_true rfl) ⟨rfl, rfl⟩ ?_
          dsimp only [Option.toList, List.cons_append, List.nil_append]
          refine g_aload C dX4_sum_51 rfl ?_
          refine g_aload C dX4_sum_53 rfl ?_
          refine g_V C (w_all H hj) dX4_sum_55 KX0_all LX4_76 IX0_all VX0_all (by decide) rfl (by assumption) rfl rfl rfl (Nat.le_of_ble_eq_true rfl) ⟨rfl, rfl⟩ ?_
          dsimp only [Option.toList, List.cons_append, List.nil_append]
          refine g_RV C (t_mixedOf H hn hj (p7_lt hL) (p7_lt hL2)) dX4_sum_58 KX4_mixedOf LX4_109 IX4_mixedOf VX4_mixedOf (by decide) rfl (by assumption) rfl rfl rfl (Nat.le_of_ble_eq_true rfl) ?_
          intro r1 g1 hP1 hz1
          obtain ⟨rfl, H1, hm1⟩ := hP1
          dsimp only [Option.toList, List.cons_append, List.nil_append]
          have e : smx (B n) (2 ^ (B n).length - 1) (B j) (2 ^ (B j).length - 1) = ssum B (n : Int) (j : Int) w := by
            unfold smx ssum; rw [Int.toNat_natCast, Int.toNat_natCast, S2_all hL hL2, S1_all hL, S1_all hL2, if_neg (c := ¬ ((0 ≤ (n : Int) ∧ (n : Int) ≤ 3) ∧ (0 ≤ (j : Int) ∧ (j : Int) ≤ 3))) (by omega), if_neg (c := ¬ (0 ≤ w ∧ w ≤ 3)) (by omega), if_pos (c := w = 3) (by omega)]
            have z1 := p2_0 (n := (B n).length)
            have z2 := p2_0 (n := (B j).length)
            by_cases z : (B n).length = 0 ∨ (B j).length = 0
            · rw [if_pos z, if_pos (by omega)]
            · rw [if_neg z, if_neg (by omega)]
          exact kr _ _ _ _ dX4_sum_61 ⟨congrArg (fun z => some (iv z)) e, H1, hm1.wide (by omega) (by omega)⟩ hm1.1
      · have w32 : ¬ (0 ≤ w ∧ w ≤ 3) := if0 h32
        refine g_bipush C dX4_sum_35 (by decide) ?_
        exact kr _ _ _ _ dX4_sum_37 ⟨congrArg (fun z => some (iv z)) (by unfold ssum; (repeat (first | rw [if_pos (by omega)] | rw [if_neg (by omega)]))), H, hm⟩ hm.1
    · refine g_aload_n C dX4_sum_0 rfl ?_
      refine g_iload_n C dX4_sum_1 rfl ?_
      refine g_V C (t_bodyA H hn) dX4_sum_2 KX4_bodyAt LX4_38 IX4_bodyAt VX4_bodyAt (by decide) rfl (by assumption) rfl rfl rfl (Nat.le_of_ble_eq_true rfl) ⟨rfl, rfl⟩ ?_
      dsimp only [Option.toList, List.cons_append, List.nil_append]
      refine g_astore C dX4_sum_5 (by decide) rfl ?_
      dsimp only [List.set]
      refine g_aload_n C dX4_sum_7 rfl ?_
      refine g_iload_n C dX4_sum_8 rfl ?_
      refine g_V C (t_bodyN H hb c2) dX4_sum_9 KX4_bodyAt LX4_38 IX4_bodyAt VX4_bodyAt (by decide) rfl (by assumption) rfl rfl rfl (Nat.le_of_ble_eq_true rfl) ⟨rfl, rfl⟩ ?_
      dsimp only [Option.toList, List.cons_append, List.nil_append]
      refine g_astore C dX4_sum_12 (by decide) rfl ?_
      dsimp only [List.set]
      refine g_aload C dX4_sum_14 rfl ?_
      refine g_ifnull C dX4_sum_16 ?_
      refine g_aload C dX4_sum_19 rfl ?_
      refine g_ifnonnullN C dX4_sum_21 ?_
      refine g_iconst C dX4_sum_24 ?_
      exact kr _ _ _ _ dX4_sum_25 ⟨congrArg (fun z => some (iv z)) (by unfold ssum; (repeat (first | rw [if_pos (by omega)] | rw [if_neg (by omega)]))), H, hm⟩ hm.1
  · have hN : ∃ o : Option Nat, ax_Met MX4_bodyAt [rv 0, iv b] h (some (.inr o)) h := ⟨_, t_bodyAt H.1 hb⟩
    obtain ⟨o, hN⟩ := hN
    refine g_aload_n C dX4_sum_0 rfl ?_
    refine g_iload_n C dX4_sum_1 rfl ?_
    refine g_V C (t_bodyN H ha c) dX4_sum_2 KX4_bodyAt LX4_38 IX4_bodyAt VX4_bodyAt (by decide) rfl (by assumption) rfl rfl rfl (Nat.le_of_ble_eq_true rfl) ⟨rfl, rfl⟩ ?_
    dsimp only [Option.toList, List.cons_append, List.nil_append]
    refine g_astore C dX4_sum_5 (by decide) rfl ?_
    dsimp only [List.set]
    refine g_aload_n C dX4_sum_7 rfl ?_
    refine g_iload_n C dX4_sum_8 rfl ?_
    refine g_V C (hN) dX4_sum_9 KX4_bodyAt LX4_38 IX4_bodyAt VX4_bodyAt (by decide) rfl (by assumption) rfl rfl rfl (Nat.le_of_ble_eq_true rfl) ⟨rfl, rfl⟩ ?_
    dsimp only [Option.toList, List.cons_append, List.nil_append]
    refine g_astore C dX4_sum_12 (by decide) rfl ?_
    dsimp only [List.set]
    refine g_aload C dX4_sum_14 rfl ?_
    refine g_ifnullN C dX4_sum_16 (tgt := 24) (by decide) ?_
    refine g_iconst C dX4_sum_24 ?_
    exact kr _ _ _ _ dX4_sum_25 ⟨congrArg (fun z => some (iv z)) (by unfold ssum; (repeat (first | rw [if_pos (by omega)] | rw [if_neg (by omega)]))), H, hm⟩ hm.1
noncomputable def ssc (B : Nat → List Pt3) (a b i w : Int) : Int :=
  if ¬ ((0 ≤ a ∧ a ≤ 3) ∧ (0 ≤ b ∧ b ≤ 3)) then -1 else if ¬ (0 ≤ w ∧ w ≤ 1) then -2 else if ¬ (0 ≤ i ∧ i < ((hC (S2 (B a.toNat) 127 (B b.toNat) 127)).1 : Int)) then -6
  else if w = 0 then (hC (S2 (B a.toNat) 127 (B b.toNat) 127)).2.1 i.toNat else (hC (S2 (B a.toNat) 127 (B b.toNat) 127)).2.2 i.toNat
theorem t_sumCorner {h : ax_H} {B K : Nat → List Pt3} {km : Nat} (H : wd h B K km) {a b i w : Int} (ha : -2147483648 ≤ a ∧ a < 2147483648) (hb : -2147483648 ≤ b ∧ b < 2147483648) (hi : -2147483648 ≤ i ∧ i < 2147483648) (hw : -2147483648 ≤ w ∧ w < 2147483648) : ax_Mt MX4_sumCorner [rv 0, iv a, iv b, iv i, iv w] h (fun r h' => r = some (iv (ssc B a b i w)) ∧ wd h' B K km ∧ ax_sm 0 169 h h') := by
  have hm := ax_sm.rf (lo := 0) (hi := 169) h
  have g0 := H.1.1
  refine ax_ri (L0 := [some (rv 0), some (iv a), some (iv b), some (iv i), some (iv w), none, none]) rfl rfl (Nat.le_of_ble_eq_true rfl) rfl ?_
  intro p9 l9 e9 R9 s9 m9 args9 below9 meth9 c9 b9 D9 dA9 Q9 C kr
  by_cases c : 0 ≤ a ∧ a ≤ 3
  · obtain ⟨n, rfl⟩ : ∃ n : Nat, a = (n : Int) := ⟨a.toNat, by omega⟩
    have hn : n < 4 := by omega
    by_cases c2 : 0 ≤ b ∧ b ≤ 3
    · obtain ⟨j, rfl⟩ : ∃ n : Nat, b = (n : Int) := ⟨b.toNat, by omega⟩
      have hj : j < 4 := by omega
      have hL := H.len hn
      have hL2 := H.len hj
      obtain ⟨fs0, q0⟩ := H.ob hn
      obtain ⟨fs1, q1⟩ := H.rb
      obtain ⟨fs2, q2⟩ := H.ob hj
      refine g_aload_n C dX4_sumCorner_0 rfl ?_
      refine g_iload_n C dX4_sumCorner_1 rfl ?_
      refine g_V C (t_bodyA H hn) dX4_sumCorner_2 KX4_bodyAt LX4_38 IX4_bodyAt VX4_bodyAt (by decide) rfl (by assumption) rfl rfl rfl (Nat.le_of_ble_eq_true rfl) ⟨rfl, rfl⟩ ?_
      dsimp only [Option.toList, List.cons_append, List.nil_append]
      refine g_astore C dX4_sumCorner_5 (by decide) rfl ?_
      dsimp only [List.set]
      refine g_aload_n C dX4_sumCorner_7 rfl ?_
      refine g_iload_n C dX4_sumCorner_8 rfl ?_
      refine g_V C (t_bodyA H hj) dX4_sumCorner_9 KX4_bodyAt LX4_38 IX4_bodyAt VX4_bodyAt (by decide) rfl (by assumption) rfl rfl rfl (Nat.le_of_ble_eq_true rfl) ⟨rfl, rfl⟩ ?_
      dsimp only [Option.toList, List.cons_append, List.nil_append]
      refine g_astore C dX4_sumCorner_12 (by decide) rfl ?_
      dsimp only [List.set]
      refine g_aload C dX4_sumCorner_14 rfl ?_
      refine g_ifnull C dX4_sumCorner_16 ?_
      refine g_aload C dX4_sumCorner_19 rfl ?_
      refine g_ifnonnull C dX4_sumCorner_21 (tgt := 26) (by decide) ?_
      refine g_iload C dX4_sumCorner_26 rfl ?_
      refine g_iconst C dX4_sumCorner_28 ?_
      refine g_iconst C dX4_sumCorner_29 ?_
      refine g_S C (t_isWithin hw (by omega) (by omega)) dX4_sumCorner_30 KX4_isWithin LX4_42 SX4_isWithin (by decide) rfl rfl (Nat.le_of_ble_eq_true rfl) ⟨rfl, rfl⟩ ?_
      dsimp only [Option.toList, List.cons_append, List.nil_append]
      refine g_if_ne C dX4_sumCorner_33 (tgt := 39) (by decide) ifr (fun h33 => ?_) (fun h33 => ?_)
      · have w33 : 0 ≤ w ∧ w ≤ 1 := if1 h33
        refine g_aload_n C dX4_sumCorner_39 rfl ?_
        refine g_get C FX4_21 dX4_sumCorner_40 (by assumption) rfl ?_
        refine g_aload C dX4_sumCorner_43 rfl ?_
        refine g_aload C dX4_sumCorner_45 rfl ?_
        refine g_V C (w_all H hn) dX4_sumCorner_47 KX0_all LX4_76 IX0_all VX0_all (by decide) rfl (by assumption) rfl rfl rfl (Nat.le_of_ble_eq_true rfl) ⟨rfl, rfl⟩ ?_
        dsimp only [Option.toList, List.cons_append, List.nil_append]
        refine g_aload C dX4_sumCorner_50 rfl ?_
        refine g_aload C dX4_sumCorner_52 rfl ?_
        refine g_V C (w_all H hj) dX4_sumCorner_54 KX0_all LX4_76 IX0_all VX0_all (by decide) rfl (by assumption) rfl rfl rfl (Nat.le_of_ble_eq_true rfl) ⟨rfl, rfl⟩ ?_
        dsimp only [Option.toList, List.cons_append, List.nil_append]
        refine g_RV C (w_sums H hn hj (p7_lt hL) (p7_lt hL2)) dX4_sumCorner_57 KX3_gatherSums LX4_113 IX3_gatherSums VX3_gatherSums (by decide) rfl (by assumption) rfl rfl rfl (Nat.le_of_ble_eq_true rfl) ?_
        intro r1 g1 hP1 hz1
        obtain ⟨rfl, hR, H1, hm1⟩ := hP1
        rw [S2_all hL hL2] at hR
        have g1 := H1.1.1
        have hm1 : ax_sm 0 169 h _ := hm1.wide (by omega) (by omega)
        obtain ⟨fs2, q2⟩ := H1.rb
        generalize eS : S2 (B n) 127 (B j) 127 = S at *
        dsimp only [Option.toList, List.cons_append, List.nil_append]
        refine g_pop C dX4_sumCorner_60 ?_
        refine g_aload_n C dX4_sumCorner_61 rfl ?_
        refine g_get C FX4_21 dX4_sumCorner_62 (by assumption) rfl ?_
        refine g_iload_n C dX4_sumCorner_65 rfl ?_
        refine g_V C (t_hasCorner hR hi) dX4_sumCorner_66 KX3_hasCorner LX4_99 IX3_hasCorner VX3_hasCorner (by decide) rfl (by assumption) rfl rfl rfl (Nat.le_of_ble_eq_true rfl) ⟨rfl, rfl⟩ ?_
        dsimp only [Option.toList, List.cons_append, List.nil_append]
        refine g_if_ne C dX4_sumCorner_69 (tgt := 75) (by decide) ifr (fun h69 => ?_) (fun h69 => ?_)
        · have w69 : 0 ≤ i ∧ i < ((hC S).1 : Int) := if1 h69
          obtain ⟨k, rfl⟩ : ∃ j : Nat, i = (j : Int) := ⟨i.toNat, by omega⟩
          refine g_iload C dX4_sumCorner_75 rfl ?_
          refine g_if_ne C dX4_sumCorner_77 (tgt := 91) (by decide) (by omega) (fun h77 => ?_) (fun h77 => ?_)
          · refine g_aload_n C dX4_sumCorner_91 rfl ?_
            refine g_get C FX4_21 dX4_sumCorner_92 (by assumption) rfl ?_
            refine g_iload_n C dX4_sumCorner_95 rfl ?_
            refine g_V C (t_cornerY hR (k := k) (by omega)) dX4_sumCorner_96 KX3_cornerY LX4_106 IX3_cornerY VX3_cornerY (by decide) rfl (by assumption) rfl rfl rfl (Nat.le_of_ble_eq_true rfl) ⟨rfl, rfl⟩ ?_
            dsimp only [Option.toList, List.cons_append, List.nil_append]
            exact kr _ _ _ _ dX4_sumCorner_99 ⟨congrArg (fun z => some (iv z)) (by unfold ssc; rw [Int.toNat_natCast, Int.toNat_natCast, Int.toNat_natCast, eS]; (repeat (first | rw [if_pos (by omega)] | rw [if_neg (by omega)]))), H1, hm1⟩ hm1.1
          · refine g_aload_n C dX4_sumCorner_80 rfl ?_
            refine g_get C FX4_21 dX4_sumCorner_81 (by assumption) rfl ?_
            refine g_iload_n C dX4_sumCorner_84 rfl ?_
            refine g_V C (t_cornerX hR (k := k) (by omega)) dX4_sumCorner_85 KX3_cornerX LX4_102 IX3_cornerX VX3_cornerX (by decide) rfl (by assumption) rfl rfl rfl (Nat.le_of_ble_eq_true rfl) ⟨rfl, rfl⟩ ?_
            dsimp only [Option.toList, List.cons_append, List.nil_append]
            refine g_goto C dX4_sumCorner_88 (tgt := 99) (by decide) ?_
            exact kr _ _ _ _ dX4_sumCorner_99 ⟨congrArg (fun z => some (iv z)) (by unfold ssc; rw [Int.toNat_natCast, Int.toNat_natCast, Int.toNat_natCast, eS]; (repeat (first | rw [if_pos (by omega)] | rw [if_neg (by omega)]))), H1, hm1⟩ hm1.1
        · have w69 : ¬ (0 ≤ i ∧ i < ((hC S).1 : Int)) := if0 h69
          refine g_bipush C dX4_sumCorner_72 (by decide) ?_
          exact kr _ _ _ _ dX4_sumCorner_74 ⟨congrArg (fun z => some (iv z)) (by unfold ssc; rw [Int.toNat_natCast, Int.toNat_natCast, eS]; (repeat (first | rw [if_pos (by omega)] | rw [if_neg (by omega)]))), H1, hm1⟩ hm1.1
      · have w33 : ¬ (0 ≤ w ∧ w ≤ 1) := if0 h33
        refine g_bipush C dX4_sumCorner_36 (by decide) ?_
        exact kr _ _ _ _ dX4_sumCorner_38 ⟨congrArg (fun z => some (iv z)) (by unfold ssc; (repeat (first | rw [if_pos (by omega)] | rw [if_neg (by omega)]))), H, hm⟩ hm.1
    · refine g_aload_n C dX4_sumCorner_0 rfl ?_
      refine g_iload_n C dX4_sumCorner_1 rfl ?_
      refine g_V C (t_bodyA H hn) dX4_sumCorner_2 KX4_bodyAt LX4_38 IX4_bodyAt VX4_bodyAt (by decide) rfl (by assumption) rfl rfl rfl (Nat.le_of_ble_eq_true rfl) ⟨rfl, rfl⟩ ?_
      dsimp only [Option.toList, List.cons_append, List.nil_append]
      refine g_astore C dX4_sumCorner_5 (by decide) rfl ?_
      dsimp only [List.set]
      refine g_aload_n C dX4_sumCorner_7 rfl ?_
      refine g_iload_n C dX4_sumCorner_8 rfl ?_
      refine g_V C (t_bodyN H hb c2) dX4_sumCorner_9 KX4_bodyAt LX4_38 IX4_bodyAt VX4_bodyAt (by decide) rfl (by assumption) rfl rfl rfl (Nat.le_of_ble_eq_true rfl) ⟨rfl, rfl⟩ ?_
      dsimp only [Option.toList, List.cons_append, List.nil_append]
      refine g_astore C dX4_sumCorner_12 (by decide) rfl ?_
      dsimp only [List.set]
      refine g_aload C dX4_sumCorner_14 rfl ?_
      refine g_ifnull C dX4_sumCorner_16 ?_
      refine g_aload C dX4_sumCorner_19 rfl ?_
      refine g_ifnonnullN C dX4_sumCorner_21 ?_
      refine g_iconst C dX4_sumCorner_24 ?_
      exact kr _ _ _ _ dX4_sumCorner_25 ⟨congrArg (fun z => some (iv z)) (by unfold ssc; (repeat (first | rw [if_pos (by omega)] | rw [if_neg (by omega)]))), H, hm⟩ hm.1
  · have hN : ∃ o : Option Nat, ax_Met MX4_bodyAt [rv 0, iv b] h (some (.inr o)) h := ⟨_, t_bodyAt H.1 hb⟩
    obtain ⟨o, hN⟩ := hN
    refine g_aload_n C dX4_sumCorner_0 rfl ?_
    refine g_iload_n C dX4_sumCorner_1 rfl ?_
    refine g_V C (t_bodyN H ha c) dX4_sumCorner_2 KX4_bodyAt LX4_38 IX4_bodyAt VX4_bodyAt (by decide) rfl (by assumption) rfl rfl rfl (Nat.le_of_ble_eq_true rfl) ⟨rfl, rfl⟩ ?_
    dsimp only [Option.toList, List.cons_append, List.nil_append]
    refine g_astore C dX4_sumCorner_5 (by decide) rfl ?_
    dsimp only [List.set]
    refine g_aload_n C dX4_sumCorner_7 rfl ?_
    refine g_iload_n C dX4_sumCorner_8 rfl ?_
    refine g_V C (hN) dX4_sumCorner_9 KX4_bodyAt LX4_38 IX4_bodyAt VX4_bodyAt (by decide) rfl (by assumption) rfl rfl rfl (Nat.le_of_ble_eq_true rfl) ⟨rfl, rfl⟩ ?_
    dsimp only [Option.toList, List.cons_append, List.nil_append]
    refine g_astore C dX4_sumCorner_12 (by decide) rfl ?_
    dsimp only [List.set]
    refine g_aload C dX4_sumCorner_14 rfl ?_
    refine g_ifnullN C dX4_sumCorner_16 (tgt := 24) (by decide) ?_
    refine g_iconst C dX4_sumCorner_24 ?_
    exact kr _ _ _ _ dX4_sumCorner_25 ⟨congrArg (fun z => some (iv z)) (by unfold ssc; (repeat (first | rw [if_pos (by omega)] | rw [if_neg (by omega)]))), H, hm⟩ hm.1
