/-! take, clear, point, low -/
def stake (B : Nat → List Pt3) (b k : Int) : Int × (Nat → List Pt3) :=
  if ¬ (0 ≤ b ∧ b ≤ 3) then (-1, B) else if ¬ (0 ≤ k ∧ k < (B b.toNat).length) then (-2, B)
  else (((B b.toNat).length : Int) - 1, va_up B b.toNat ((B b.toNat).eraseIdx k.toNat))
theorem t_take {h : ax_H} {B K : Nat → List Pt3} {km : Nat} (H : wd h B K km) {b k : Int} (hb : -2147483648 ≤ b ∧ b < 2147483648) (hk : -2147483648 ≤ k ∧ k < 2147483648) : ax_Mt MX4_take [rv 0, iv b, iv k] h (fun r h' => r = some (iv (stake B b k).1) ∧ wd h' (stake B b k).2 K km ∧ ax_sm 0 169 h h') := by
  have hm := ax_sm.rf (lo := 0) (hi := 169) h
  have g0 := H.1.1
  refine ax_ri (L0 := [some (rv 0), some (iv b), some (iv k), none]) rfl rfl (Nat.le_of_ble_eq_true rfl) rfl ?_
  intro p9 l9 e9 R9 s9 m9 args9 below9 meth9 c9 b9 D9 dA9 Q9 C kr
  by_cases c : 0 ≤ b ∧ b ≤ 3
  · obtain ⟨n, rfl⟩ : ∃ n : Nat, b = (n : Int) := ⟨b.toNat, by omega⟩
    have hn : n < 4 := by omega
    obtain ⟨X, Y, V, hB, hE, hO⟩ := H.of hn
    have ⟨h0, h1, h2, h3⟩ := hB
    have hL := hO.1
    refine g_aload_n C dX4_take_0 rfl ?_
    refine g_iload_n C dX4_take_1 rfl ?_
    refine g_V C (t_bodyA H hn) dX4_take_2 KX4_bodyAt LX4_38 IX4_bodyAt VX4_bodyAt (by decide) rfl (by assumption) rfl rfl rfl (Nat.le_of_ble_eq_true rfl) ⟨rfl, rfl⟩ ?_
    dsimp only [Option.toList, List.cons_append, List.nil_append]
    refine g_astore_n C dX4_take_5 (by decide) rfl ?_
    dsimp only [List.set]
    refine g_aload_n C dX4_take_6 rfl ?_
    refine g_ifnonnull C dX4_take_7 (tgt := 12) (by decide) ?_
    refine g_aload_n C dX4_take_12 rfl ?_
    refine g_iload_n C dX4_take_13 rfl ?_
    refine g_V C (t_has hB hL hk) dX4_take_14 KX0_has LX4_62 IX0_has VX0_has (by decide) rfl (by assumption) rfl rfl rfl (Nat.le_of_ble_eq_true rfl) ⟨rfl, rfl⟩ ?_
    dsimp only [Option.toList, List.cons_append, List.nil_append]
    refine g_if_ne C dX4_take_17 (tgt := 23) (by decide) ifr (fun h17 => ?_) (fun h17 => ?_)
    · have w17 : 0 ≤ k ∧ k < ((B n).length : Int) := if1 h17
      obtain ⟨j, rfl⟩ : ∃ j : Nat, k = (j : Int) := ⟨k.toNat, by omega⟩
      refine g_aload_n C dX4_take_23 rfl ?_
      refine g_iload_n C dX4_take_24 rfl ?_
      refine g_RV C (t_remove hB hL (show j < (B n).length by omega)) dX4_take_25 KX0_remove LX4_66 IX0_remove VX0_remove (by decide) rfl (by assumption) rfl rfl rfl (Nat.le_of_ble_eq_true rfl) ?_
      intro r1 g1 hP1 hz1
      obtain ⟨rfl, X1, Y1, V1, hB1, hm1, e1, e2⟩ := hP1
      have ⟨k0, k1, k2, k3⟩ := hB1
      dsimp only [Option.toList, List.cons_append, List.nil_append]
      refine g_aload_n C dX4_take_28 rfl ?_
      refine g_get C FX4_50 dX4_take_29 (by assumption) rfl ?_
      have e : stake B (n : Int) (j : Int) = (((B n).length : Int) - 1, va_up B n ((B n).eraseIdx j)) := by (unfold stake; rw [Int.toNat_natCast, Int.toNat_natCast]; (repeat (first | rw [if_pos (by omega)] | rw [if_neg (by omega)])))
      refine kr _ _ _ _ dX4_take_32 ?_ hz1
      rw [e]
      have eL := l3_dn (l := B n) (k := j) (by omega)
      refine ⟨congrArg (fun z => some (iv z)) (by omega), H.bo hn hm1 ⟨X1, Y1, V1, by rw [eL]; exact hB1, fun i hi => ?_⟩ ((H.2.2.2.2.2.2.1 n hn).del (by omega)), hm1.wide (by omega) (by omega)⟩
      rw [eL] at hi
      unfold lx ly lv; rw [l3_del]
      by_cases q : i < j
      · rw [if_pos q]; have := e1 i q; have z := hE i (by omega); rw [this.1, this.2.1, this.2.2]; exact z
      · rw [if_neg q]; have := e2 i (by omega) (by omega); have z := hE (i + 1) (by omega); rw [this.1, this.2.1, this.2.2]; exact z
    · have w17 : ¬ (0 ≤ k ∧ k < ((B n).length : Int)) := if0 h17
      refine g_bipush C dX4_take_20 (by decide) ?_
      have e : stake B (n : Int) k = (-2, B) := by (unfold stake; rw [Int.toNat_natCast]; (repeat (first | rw [if_pos (by omega)] | rw [if_neg (by omega)])))
      exact kr _ _ _ _ dX4_take_22 (by rw [e]; exact ⟨rfl, H, hm⟩) hm.1
  · refine g_aload_n C dX4_take_0 rfl ?_
    refine g_iload_n C dX4_take_1 rfl ?_
    refine g_V C (t_bodyN H hb c) dX4_take_2 KX4_bodyAt LX4_38 IX4_bodyAt VX4_bodyAt (by decide) rfl (by assumption) rfl rfl rfl (Nat.le_of_ble_eq_true rfl) ⟨rfl, rfl⟩ ?_
    dsimp only [Option.toList, List.cons_append, List.nil_append]
    refine g_astore_n C dX4_take_5 (by decide) rfl ?_
    dsimp only [List.set]
    refine g_aload_n C dX4_take_6 rfl ?_
    refine g_ifnonnullN C dX4_take_7 ?_
    refine g_iconst C dX4_take_10 ?_
    have e : stake B b k = (-1, B) := by (unfold stake; (repeat (first | rw [if_pos (by omega)] | rw [if_neg (by omega)])))
    exact kr _ _ _ _ dX4_take_11 (by rw [e]; exact ⟨rfl, H, hm⟩) hm.1
def sclear (B : Nat → List Pt3) (b : Int) : Int × (Nat → List Pt3) :=
  if ¬ (0 ≤ b ∧ b ≤ 3) then (-1, B) else (((B b.toNat).length : Int), va_up B b.toNat [])
theorem t_clear {h : ax_H} {B K : Nat → List Pt3} {km : Nat} (H : wd h B K km) {b : Int} (hb : -2147483648 ≤ b ∧ b < 2147483648) : ax_Mt MX4_clear [rv 0, iv b] h (fun r h' => r = some (iv (sclear B b).1) ∧ wd h' (sclear B b).2 K km ∧ ax_sm 0 169 h h') := by
  have hm := ax_sm.rf (lo := 0) (hi := 169) h
  have g0 := H.1.1
  refine ax_ri (L0 := [some (rv 0), some (iv b), none, none]) rfl rfl (Nat.le_of_ble_eq_true rfl) rfl ?_
  intro p9 l9 e9 R9 s9 m9 args9 below9 meth9 c9 b9 D9 dA9 Q9 C kr
  by_cases c : 0 ≤ b ∧ b ≤ 3
  · obtain ⟨n, rfl⟩ : ∃ n : Nat, b = (n : Int) := ⟨b.toNat, by omega⟩
    have hn : n < 4 := by omega
    obtain ⟨X, Y, V, hB, hE, hO⟩ := H.of hn
    have ⟨h0, h1, h2, h3⟩ := hB
    refine g_aload_n C dX4_clear_0 rfl ?_
    refine g_iload_n C dX4_clear_1 rfl ?_
    refine g_V C (t_bodyA H hn) dX4_clear_2 KX4_bodyAt LX4_38 IX4_bodyAt VX4_bodyAt (by decide) rfl (by assumption) rfl rfl rfl (Nat.le_of_ble_eq_true rfl) ⟨rfl, rfl⟩ ?_
    dsimp only [Option.toList, List.cons_append, List.nil_append]
    refine g_astore_n C dX4_clear_5 (by decide) rfl ?_
    dsimp only [List.set]
    refine g_aload_n C dX4_clear_6 rfl ?_
    refine g_ifnonnull C dX4_clear_7 (tgt := 12) (by decide) ?_
    refine g_aload_n C dX4_clear_12 rfl ?_
    refine g_get C FX4_50 dX4_clear_13 (by assumption) rfl ?_
    refine g_istore_n C dX4_clear_16 (by decide) rfl ?_
    dsimp only [List.set]
    refine g_aload_n C dX4_clear_17 rfl ?_
    refine g_iconst C dX4_clear_18 ?_
    refine g_put C FX4_50 dX4_clear_19 (by assumption) rfl rfl (Nat.le_of_ble_eq_true rfl) ?_
    dsimp only [List.set]
    refine bo_s_n 0 rfl hB (ax_sm.rf h) ?_
    intro h9 hB9 hm9
    refine g_iload_n C dX4_clear_22 rfl ?_
    have e : sclear B (n : Int) = (((B n).length : Int), va_up B n []) := by (unfold sclear; rw [Int.toNat_natCast]; (repeat (first | rw [if_pos (by omega)] | rw [if_neg (by omega)])))
    refine kr _ _ _ _ dX4_clear_23 ?_ hm9.1
    rw [e]
    exact ⟨rfl, H.bo hn hm9 ⟨_, _, _, hB9, fun i hi => absurd hi (Nat.not_lt_zero _)⟩ bl_nil, hm9.wide (by omega) (by omega)⟩
  · refine g_aload_n C dX4_clear_0 rfl ?_
    refine g_iload_n C dX4_clear_1 rfl ?_
    refine g_V C (t_bodyN H hb c) dX4_clear_2 KX4_bodyAt LX4_38 IX4_bodyAt VX4_bodyAt (by decide) rfl (by assumption) rfl rfl rfl (Nat.le_of_ble_eq_true rfl) ⟨rfl, rfl⟩ ?_
    dsimp only [Option.toList, List.cons_append, List.nil_append]
    refine g_astore_n C dX4_clear_5 (by decide) rfl ?_
    dsimp only [List.set]
    refine g_aload_n C dX4_clear_6 rfl ?_
    refine g_ifnonnullN C dX4_clear_7 ?_
    refine g_iconst C dX4_clear_10 ?_
    have e : sclear B b = (-1, B) := by (unfold sclear; (repeat (first | rw [if_pos (by omega)] | rw [if_neg (by omega)])))
    exact kr _ _ _ _ dX4_clear_11 (by rw [e]; exact ⟨rfl, H, hm⟩) hm.1
def spoint (B : Nat → List Pt3) (b k w : Int) : Int :=
  if ¬ (0 ≤ b ∧ b ≤ 3) then -1 else if ¬ (0 ≤ w ∧ w ≤ 2) then -2 else if ¬ (0 ≤ k ∧ k < (B b.toNat).length) then -6
  else if w = 0 then lx (B b.toNat) k.toNat else if w = 1 then ly (B b.toNat) k.toNat else lv (B b.toNat) k.toNat
theorem t_point {h : ax_H} {B K : Nat → List Pt3} {km : Nat} (H : wd h B K km) {b k w : Int} (hb : -2147483648 ≤ b ∧ b < 2147483648) (hk : -2147483648 ≤ k ∧ k < 2147483648) (hw : -2147483648 ≤ w ∧ w < 2147483648) : ax_Mt MX4_point [rv 0, iv b, iv k, iv w] h (fun r h' => r = some (iv (spoint B b k w)) ∧ wd h' B K km ∧ ax_sm 0 169 h h') := by
  have hm := ax_sm.rf (lo := 0) (hi := 169) h
  have g0 := H.1.1
  refine ax_ri (L0 := [some (rv 0), some (iv b), some (iv k), some (iv w), none]) rfl rfl (Nat.le_of_ble_eq_true rfl) rfl ?_
  intro p9 l9 e9 R9 s9 m9 args9 below9 meth9 c9 b9 D9 dA9 Q9 C kr
  by_cases c : 0 ≤ b ∧ b ≤ 3
  · obtain ⟨n, rfl⟩ : ∃ n : Nat, b = (n : Int) := ⟨b.toNat, by omega⟩
    have hn : n < 4 := by omega
    obtain ⟨X, Y, V, hB, hE, hO⟩ := H.of hn
    have ⟨h0, h1, h2, h3⟩ := hB
    have hL := hO.1
    refine g_aload_n C dX4_point_0 rfl ?_
    refine g_iload_n C dX4_point_1 rfl ?_
    refine g_V C (t_bodyA H hn) dX4_point_2 KX4_bodyAt LX4_38 IX4_bodyAt VX4_bodyAt (by decide) rfl (by assumption) rfl rfl rfl (Nat.le_of_ble_eq_true rfl) ⟨rfl, rfl⟩ ?_
    dsimp only [Option.toList, List.cons_append, List.nil_append]
    refine g_astore C dX4_point_5 (by decide) rfl ?_
    dsimp only [List.set]
    refine g_aload C dX4_point_7 rfl ?_
    refine g_ifnonnull C dX4_point_9 (tgt := 14) (by decide) ?_
    refine g_iload_n C dX4_point_14 rfl ?_
    refine g_iconst C dX4_point_15 ?_
    refine g_iconst C dX4_point_16 ?_
    refine g_S C (t_isWithin hw (by omega) (by omega)) dX4_point_17 KX4_isWithin LX4_42 SX4_isWithin (by decide) rfl rfl (Nat.le_of_ble_eq_true rfl) ⟨rfl, rfl⟩ ?_
    dsimp only [Option.toList, List.cons_append, List.nil_append]
    refine g_if_ne C dX4_point_20 (tgt := 26) (by decide) ifr (fun h20 => ?_) (fun h20 => ?_)
    · have w20 : 0 ≤ w ∧ w ≤ 2 := if1 h20
      refine g_aload C dX4_point_26 rfl ?_
      refine g_iload_n C dX4_point_28 rfl ?_
      refine g_V C (t_has hB hL hk) dX4_point_29 KX0_has LX4_62 IX0_has VX0_has (by decide) rfl (by assumption) rfl rfl rfl (Nat.le_of_ble_eq_true rfl) ⟨rfl, rfl⟩ ?_
      dsimp only [Option.toList, List.cons_append, List.nil_append]
      refine g_if_ne C dX4_point_32 (tgt := 38) (by decide) ifr (fun h32 => ?_) (fun h32 => ?_)
      · have w32 : 0 ≤ k ∧ k < ((B n).length : Int) := if1 h32
        obtain ⟨j, rfl⟩ : ∃ j : Nat, k = (j : Int) := ⟨k.toNat, by omega⟩
        have ej := hE j (by omega)
        refine g_iload_n C dX4_point_38 rfl ?_
        rcases (show w = 0 ∨ w = 1 ∨ w = 2 by omega) with rfl | rfl | rfl
        · refine g_lookup C dX4_point_39 (off := 25) (tgt := 64) (by decide) (by decide) (by decide) (by decide) ?_
          refine g_aload C dX4_point_64 rfl ?_
          refine g_get C FX4_70 dX4_point_66 (by assumption) rfl ?_
          refine g_iload_n C dX4_point_69 rfl ?_
          refine g_iald C dX4_point_70 (by assumption) rfl (by omega) (by decide) ?_
          exact kr _ _ _ _ dX4_point_71 ⟨congrArg (fun z => some (iv z)) (by unfold spoint; rw [Int.toNat_natCast, Int.toNat_natCast]; (repeat (first | rw [if_pos (by omega)] | rw [if_neg (by omega)])); exact ej.1), H, hm⟩ hm.1
        · refine g_lookup C dX4_point_39 (off := 33) (tgt := 72) (by decide) (by decide) (by decide) (by decide) ?_
          refine g_aload C dX4_point_72 rfl ?_
          refine g_get C FX4_73 dX4_point_74 (by assumption) rfl ?_
          refine g_iload_n C dX4_point_77 rfl ?_
          refine g_iald C dX4_point_78 (by assumption) rfl (by omega) (by decide) ?_
          exact kr _ _ _ _ dX4_point_79 ⟨congrArg (fun z => some (iv z)) (by unfold spoint; rw [Int.toNat_natCast, Int.toNat_natCast]; (repeat (first | rw [if_pos (by omega)] | rw [if_neg (by omega)])); exact ej.2.1), H, hm⟩ hm.1
        · refine g_lookup C dX4_point_39 (off := 41) (tgt := 80) (by decide) (by decide) (by decide) (by decide) ?_
          refine g_aload C dX4_point_80 rfl ?_
          refine g_get C FX4_58 dX4_point_82 (by assumption) rfl ?_
          refine g_iload_n C dX4_point_85 rfl ?_
          refine g_iald C dX4_point_86 (by assumption) rfl (by omega) (by decide) ?_
          exact kr _ _ _ _ dX4_point_87 ⟨congrArg (fun z => some (iv z)) (by unfold spoint; rw [Int.toNat_natCast, Int.toNat_natCast]; (repeat (first | rw [if_pos (by omega)] | rw [if_neg (by omega)])); exact ej.2.2), H, hm⟩ hm.1
      · have w32 : ¬ (0 ≤ k ∧ k < ((B n).length : Int)) := if0 h32
        refine g_bipush C dX4_point_35 (by decide) ?_
        exact kr _ _ _ _ dX4_point_37 ⟨congrArg (fun z => some (iv z)) (by unfold spoint; rw [Int.toNat_natCast]; (repeat (first | rw [if_pos (by omega)] | rw [if_neg (by omega)]))), H, hm⟩ hm.1
    · have w20 : ¬ (0 ≤ w ∧ w ≤ 2) := if0 h20
      refine g_bipush C dX4_point_23 (by decide) ?_
      exact kr _ _ _ _ dX4_point_25 ⟨congrArg (fun z => some (iv z)) (by unfold spoint; rw [Int.toNat_natCast]; (repeat (first | rw [if_pos (by omega)] | rw [if_neg (by omega)]))), H, hm⟩ hm.1
  · refine g_aload_n C dX4_point_0 rfl ?_
    refine g_iload_n C dX4_point_1 rfl ?_
    refine g_V C (t_bodyN H hb c) dX4_point_2 KX4_bodyAt LX4_38 IX4_bodyAt VX4_bodyAt (by decide) rfl (by assumption) rfl rfl rfl (Nat.le_of_ble_eq_true rfl) ⟨rfl, rfl⟩ ?_
    dsimp only [Option.toList, List.cons_append, List.nil_append]
    refine g_astore C dX4_point_5 (by decide) rfl ?_
    dsimp only [List.set]
    refine g_aload C dX4_point_7 rfl ?_
    refine g_ifnonnullN C dX4_point_9 ?_
    refine g_iconst C dX4_point_12 ?_
    exact kr _ _ _ _ dX4_point_13 ⟨congrArg (fun z => some (iv z)) (by unfold spoint; (repeat (first | rw [if_pos (by omega)] | rw [if_neg (by omega)]))), H, hm⟩ hm.1
def slow (B : Nat → List Pt3) (b u v : Int) : Int :=
  if ¬ (0 ≤ b ∧ b ≤ 3) then -1 else if ¬ ((-1000 ≤ u ∧ u ≤ 1000) ∧ (-1000 ≤ v ∧ v ≤ 1000)) then -2 else ((bo_low (bo_h (lx (B b.toNat)) (ly (B b.toNat)) (lv (B b.toNat)) u v 1) (B b.toNat).length).1 : Int)
theorem t_low {h : ax_H} {B K : Nat → List Pt3} {km : Nat} (H : wd h B K km) {b u v : Int} (hb : -2147483648 ≤ b ∧ b < 2147483648) (hu : -2147483648 ≤ u ∧ u < 2147483648) (hv : -2147483648 ≤ v ∧ v < 2147483648) : ax_Mt MX4_low [rv 0, iv b, iv u, iv v] h (fun r h' => r = some (iv (slow B b u v)) ∧ wd h' B K km ∧ ax_sm 0 169 h h') := by
  have hm := ax_sm.rf (lo := 0) (hi := 169) h
  have g0 := H.1.1
  refine ax_ri (L0 := [some (rv 0), some (iv b), some (iv u), some (iv v), none]) rfl rfl (Nat.le_of_ble_eq_true rfl) rfl ?_
  intro p9 l9 e9 R9 s9 m9 args9 below9 meth9 c9 b9 D9 dA9 Q9 C kr
  by_cases c : 0 ≤ b ∧ b ≤ 3
  · obtain ⟨n, rfl⟩ : ∃ n : Nat, b = (n : Int) := ⟨b.toNat, by omega⟩
    have hn : n < 4 := by omega
    obtain ⟨X, Y, V, hB, hE, hO⟩ := H.of hn
    have ⟨h0, h1, h2, h3⟩ := hB
    refine g_aload_n C dX4_low_0 rfl ?_
    refine g_iload_n C dX4_low_1 rfl ?_
    refine g_V C (t_bodyA H hn) dX4_low_2 KX4_bodyAt LX4_38 IX4_bodyAt VX4_bodyAt (by decide) rfl (by assumption) rfl rfl rfl (Nat.le_of_ble_eq_true rfl) ⟨rfl, rfl⟩ ?_
    dsimp only [Option.toList, List.cons_append, List.nil_append]
    refine g_astore C dX4_low_5 (by decide) rfl ?_
    dsimp only [List.set]
    refine g_aload C dX4_low_7 rfl ?_
    refine g_ifnonnull C dX4_low_9 (tgt := 14) (by decide) ?_
    refine g_iload_n C dX4_low_14 rfl ?_
    refine g_sipush C dX4_low_15 (by decide) ?_
    refine g_sipush C dX4_low_18 (by decide) ?_
    refine g_S C (t_isWithin hu (by omega) (by omega)) dX4_low_21 KX4_isWithin LX4_42 SX4_isWithin (by decide) rfl rfl (Nat.le_of_ble_eq_true rfl) ⟨rfl, rfl⟩ ?_
    dsimp only [Option.toList, List.cons_append, List.nil_append]
    refine g_if_eq C dX4_low_24 (tgt := 40) (by decide) ifr (fun h24 => ?_) (fun h24 => ?_)
    · have w24 : ¬ (-1000 ≤ u ∧ u ≤ 1000) := if0 h24
      refine g_bipush C dX4_low_40 (by decide) ?_
      exact kr _ _ _ _ dX4_low_42 ⟨congrArg (fun z => some (iv z)) (by unfold slow; rw [Int.toNat_natCast]; (repeat (first | rw [if_pos (by omega)] | rw [if_neg (by omega)]))), H, hm⟩ hm.1
    · have w24 : -1000 ≤ u ∧ u ≤ 1000 := if1 h24
      refine g_iload_n C dX4_low_27 rfl ?_
      refine g_sipush C dX4_low_28 (by decide) ?_
      refine g_sipush C dX4_low_31 (by decide) ?_
      refine g_S C (t_isWithin hv (by omega) (by omega)) dX4_low_34 KX4_isWithin LX4_42 SX4_isWithin (by decide) rfl rfl (Nat.le_of_ble_eq_true rfl) ⟨rfl, rfl⟩ ?_
      dsimp only [Option.toList, List.cons_append, List.nil_append]
      refine g_if_ne C dX4_low_37 (tgt := 43) (by decide) ifr (fun h37 => ?_) (fun h37 => ?_)
      · have w37 : -1000 ≤ v ∧ v ≤ 1000 := if1 h37
        refine g_aload C dX4_low_43 rfl ?_
        refine g_iload_n C dX4_low_45 rfl ?_
        refine g_iload_n C dX4_low_46 rfl ?_
        refine g_iconst C dX4_low_47 ?_
        refine g_V C (t_lowest hB hO (show -1000000 ≤ u ∧ u ≤ 1000000 by omega) (show -1000000 ≤ v ∧ v ≤ 1000000 by omega) (by omega)) dX4_low_48 KX0_lowest LX4_159 IX0_lowest VX0_lowest (by decide) rfl (by assumption) rfl rfl rfl (Nat.le_of_ble_eq_true rfl) ⟨rfl, rfl⟩ ?_
        dsimp only [Option.toList, List.cons_append, List.nil_append]
        exact kr _ _ _ _ dX4_low_51 ⟨congrArg (fun z => some (iv z)) (by unfold slow; rw [Int.toNat_natCast]; (repeat (first | rw [if_pos (by omega)] | rw [if_neg (by omega)])); exact congrArg (fun z : Nat × Int => ((z.1 : Nat) : Int)) (low_cg _ (fun k hk => by unfold bo_h; rw [(hE k hk).1, (hE k hk).2.1, (hE k hk).2.2]))), H, hm⟩ hm.1
      · have w37 : ¬ (-1000 ≤ v ∧ v ≤ 1000) := if0 h37
        refine g_bipush C dX4_low_40 (by decide) ?_
        exact kr _ _ _ _ dX4_low_42 ⟨congrArg (fun z => some (iv z)) (by unfold slow; rw [Int.toNat_natCast]; (repeat (first | rw [if_pos (by omega)] | rw [if_neg (by omega)]))), H, hm⟩ hm.1
  · refine g_aload_n C dX4_low_0 rfl ?_
    refine g_iload_n C dX4_low_1 rfl ?_
    refine g_V C (t_bodyN H hb c) dX4_low_2 KX4_bodyAt LX4_38 IX4_bodyAt VX4_bodyAt (by decide) rfl (by assumption) rfl rfl rfl (Nat.le_of_ble_eq_true rfl) ⟨rfl, rfl⟩ ?_
    dsimp only [Option.toList, List.cons_append, List.nil_append]
    refine g_astore C dX4_low_5 (by decide) rfl ?_
    dsimp only [List.set]
    refine g_aload C dX4_low_7 rfl ?_
    refine g_ifnonnullN C dX4_low_9 ?_
    refine g_iconst C dX4_low_12 ?_
    exact kr _ _ _ _ dX4_low_13 ⟨congrArg (fun z => some (iv z)) (by unfold slow; (repeat (first | rw [if_pos (by omega)] | rw [if_neg (by omega)]))), H, hm⟩ hm.1
/-! count -/
def tot (B : Nat → List Pt3) : Nat → Nat
  | 0 => 0
  | n + 1 => tot B n + (B n).length
def fil (B : Nat → List Pt3) : Nat → Nat
  | 0 => 0
  | n + 1 => if 0 < (B n).length then fil B n ||| 2 ^ n else fil B n
def scount (B : Nat → List Pt3) (km : Nat) (w : Int) : Int := if 0 ≤ w ∧ w ≤ 3 then ((B w.toNat).length : Int) else if w = 4 then (tot B 4 : Int) else if w = 5 then (fil B 4 : Int) else if w = 6 then (km : Int) else -2
theorem tot_le {B : Nat → List Pt3} : ∀ n, (∀ i, i < n → (B i).length ≤ 7) → tot B n ≤ 7 * n
  | 0, _ => Nat.le_refl _
  | n + 1, h => by rw [tot]; have := tot_le n (fun i hi => h i (by omega)); have := h n (by omega); omega
theorem t_pointsOfAll {h : ax_H} {B K : Nat → List Pt3} {km : Nat} (H : wd h B K km) : ax_Met MX4_pointsOfAll [rv 0] h (some (iv (tot B 4 : Int))) h := by
  obtain ⟨h0, ⟨f, h1, hf⟩, -⟩ := H.1
  refine ax_mi (L0 := [some (rv 0), none, none]) rfl rfl (Nat.le_refl _) (Nat.le_refl _) (Nat.le_of_ble_eq_true rfl) rfl ?_
  intro p9 l9 e9 R9 s9 m9 args9 below9 meth9 c9 b9 D9 dA9 Q9 C kr
  have loop : ∀ (d k : Nat), k + d = 4 → ax_G p9 l9 e9 R9 s9 m9 args9 below9 meth9 c9 b9 D9 dA9 MX4_pointsOfAll.2.2.1 h.length (ax_sz h) Q9 (4) ([some (rv 0), some (iv (tot B k : Int)), some (iv (k : Int))]) ([]) (h) := by
    intro d
    induction d with
    | zero =>
      intro k hk
      have e : k = 4 := by omega
      subst e
      refine g_iload_n C dX4_pointsOfAll_4 rfl ?_
      refine g_iconst C dX4_pointsOfAll_5 ?_
      refine g_icmp_ge C dX4_pointsOfAll_6 (tgt := 27) (by decide) (by omega) (by omega) (fun h6 => ?_) (fun h6 => ?_)
      · refine g_iload_n C dX4_pointsOfAll_27 rfl ?_
        exact kr _ _ _ dX4_pointsOfAll_28 rfl
      · exfalso; omega
    | succ d ih =>
      intro k hk
      obtain ⟨X, Y, V, hB, -, -⟩ := H.of (n := k) (by omega)
      have ⟨k0, k1, k2, k3⟩ := hB
      refine g_iload_n C dX4_pointsOfAll_4 rfl ?_
      refine g_iconst C dX4_pointsOfAll_5 ?_
      refine g_icmp_ge C dX4_pointsOfAll_6 (tgt := 27) (by decide) (by omega) (by omega) (fun h6 => ?_) (fun h6 => ?_)
      · exfalso; omega
      · refine g_iload_n C dX4_pointsOfAll_9 rfl ?_
        refine g_aload_n C dX4_pointsOfAll_10 rfl ?_
        refine g_get C FX4_11 dX4_pointsOfAll_11 (by assumption) rfl ?_
        refine g_iload_n C dX4_pointsOfAll_14 rfl ?_
        refine g_aald C dX4_pointsOfAll_15 (by assumption) rfl rfl rfl (by omega) (by decide) ?_
        rw [hf k (by omega)]
        refine g_get C FX4_50 dX4_pointsOfAll_16 (by assumption) rfl ?_
        refine g_iadd C dX4_pointsOfAll_19 ?_
        refine g_top (show _ = ((tot B (k + 1) : Nat) : Int) by rw [tot]; omega) ?_
        refine g_istore_n C dX4_pointsOfAll_20 (by decide) rfl ?_
        dsimp only [List.set]
        refine g_iinc C dX4_pointsOfAll_21 (by decide) rfl rfl ?_
        dsimp only [List.set]
        refine g_goto C dX4_pointsOfAll_24 (tgt := 4) (by decide) ?_
        exact ih (k + 1) (by omega)
  refine g_iconst C dX4_pointsOfAll_0 ?_
  refine g_istore_n C dX4_pointsOfAll_1 (by decide) rfl ?_
  dsimp only [List.set]
  refine g_iconst C dX4_pointsOfAll_2 ?_
  refine g_istore_n C dX4_pointsOfAll_3 (by decide) rfl ?_
  dsimp only [List.set]
  exact loop 4 0 (by omega)
theorem t_filledBodies {h : ax_H} {B K : Nat → List Pt3} {km : Nat} (H : wd h B K km) : ax_Met MX4_filledBodies [rv 0] h (some (iv (fil B 4 : Int))) h := by
  obtain ⟨h0, ⟨f, h1, hf⟩, -⟩ := H.1
  refine ax_mi (L0 := [some (rv 0), none, none]) rfl rfl (Nat.le_refl _) (Nat.le_refl _) (Nat.le_of_ble_eq_true rfl) rfl ?_
  intro p9 l9 e9 R9 s9 m9 args9 below9 meth9 c9 b9 D9 dA9 Q9 C kr
  have loop : ∀ (d k : Nat), k + d = 4 → ax_G p9 l9 e9 R9 s9 m9 args9 below9 meth9 c9 b9 D9 dA9 MX4_filledBodies.2.2.1 h.length (ax_sz h) Q9 (4) ([some (rv 0), some (iv (fil B k : Int)), some (iv (k : Int))]) ([]) (h) := by
    intro d
    induction d with
    | zero =>
      intro k hk
      have e : k = 4 := by omega
      subst e
      refine g_iload_n C dX4_filledBodies_4 rfl ?_
      refine g_iconst C dX4_filledBodies_5 ?_
      refine g_icmp_ge C dX4_filledBodies_6 (tgt := 33) (by decide) (by omega) (by omega) (fun h6 => ?_) (fun h6 => ?_)
      · refine g_iload_n C dX4_filledBodies_33 rfl ?_
        exact kr _ _ _ dX4_filledBodies_34 rfl
      · exfalso; omega
    | succ d ih =>
      intro k hk
      obtain ⟨X, Y, V, hB, -, hO⟩ := H.of (n := k) (by omega)
      have ⟨k0, k1, k2, k3⟩ := hB
      have hL := hO.1
      refine g_iload_n C dX4_filledBodies_4 rfl ?_
      refine g_iconst C dX4_filledBodies_5 ?_
      refine g_icmp_ge C dX4_filledBodies_6 (tgt := 33) (by decide) (by omega) (by omega) (fun h6 => ?_) (fun h6 => ?_)
      · exfalso; omega
      · refine g_aload_n C dX4_filledBodies_9 rfl ?_
        refine g_get C FX4_11 dX4_filledBodies_10 (by assumption) rfl ?_
        refine g_iload_n C dX4_filledBodies_13 rfl ?_
        refine g_aald C dX4_filledBodies_14 (by assumption) rfl rfl rfl (by omega) (by decide) ?_
        rw [hf k (by omega)]
        refine g_get C FX4_50 dX4_filledBodies_15 (by assumption) rfl ?_
        refine g_if_le C dX4_filledBodies_18 (tgt := 27) (by decide) (by omega) (fun h18 => ?_) (fun h18 => ?_)
        · have e : fil B (k + 1) = fil B k := by rw [fil, if_neg (by omega)]
          refine g_iinc C dX4_filledBodies_27 (by decide) rfl rfl ?_
          dsimp only [List.set]
          refine g_goto C dX4_filledBodies_30 (tgt := 4) (by decide) ?_
          have q := ih (k + 1) (by omega)
          rw [e] at q
          exact q
        · have e : fil B (k + 1) = fil B k ||| 2 ^ k := by rw [fil, if_pos (by omega)]
          refine g_iload_n C dX4_filledBodies_21 rfl ?_
          refine g_iconst C dX4_filledBodies_22 ?_
          refine g_iload_n C dX4_filledBodies_23 rfl ?_
          refine g_ishl C dX4_filledBodies_24 (by omega) ?_
          refine g_top (ax_1p k) ?_
          refine g_ior C dX4_filledBodies_25 (ax_orN _ _) ?_
          refine g_istore_n C dX4_filledBodies_26 (by decide) rfl ?_
          dsimp only [List.set]
          refine g_iinc C dX4_filledBodies_27 (by decide) rfl rfl ?_
          dsimp only [List.set]
          refine g_goto C dX4_filledBodies_30 (tgt := 4) (by decide) ?_
          have q := ih (k + 1) (by omega)
          rw [e] at q
          exact q
  refine g_iconst C dX4_filledBodies_0 ?_
  refine g_istore_n C dX4_filledBodies_1 (by decide) rfl ?_
  dsimp only [List.set]
  refine g_iconst C dX4_filledBodies_2 ?_
  refine g_istore_n C dX4_filledBodies_3 (by decide) rfl ?_
  dsimp only [List.set]
  exact loop 4 0 (by omega)
theorem t_count {h : ax_H} {B K : Nat → List Pt3} {km : Nat} (H : wd h B K km) {w : Int} (hw : -2147483648 ≤ w ∧ w < 2147483648) : ax_Mt MX4_count [rv 0, iv w] h (fun r h' => r = some (iv (scount B km w)) ∧ wd h' B K km ∧ ax_sm 0 169 h h') := by
  have hm := ax_sm.rf (lo := 0) (hi := 169) h
  obtain ⟨h0, ⟨f, h1, hf⟩, -⟩ := H.1
  refine ax_ri (L0 := [some (rv 0), some (iv w)]) rfl rfl (Nat.le_of_ble_eq_true rfl) rfl ?_
  intro p9 l9 e9 R9 s9 m9 args9 below9 meth9 c9 b9 D9 dA9 Q9 C kr
  refine g_iload_n C dX4_count_0 rfl ?_
  refine g_iconst C dX4_count_1 ?_
  refine g_bipush C dX4_count_2 (by decide) ?_
  refine g_S C (t_isWithin hw (by omega) (by omega)) dX4_count_4 KX4_isWithin LX4_42 SX4_isWithin (by decide) rfl rfl (Nat.le_of_ble_eq_true rfl) ⟨rfl, rfl⟩ ?_
  dsimp only [Option.toList, List.cons_append, List.nil_append]
  refine g_if_ne C dX4_count_7 (tgt := 13) (by decide) ifr (fun h7 => ?_) (fun h7 => ?_)
  · have w7 : 0 ≤ w ∧ w ≤ 6 := if1 h7
    refine g_iload_n C dX4_count_13 rfl ?_
    refine g_iconst C dX4_count_14 ?_
    refine g_icmp_ge C dX4_count_15 (tgt := 28) (by decide) (by omega) (by omega) (fun h15 => ?_) (fun h15 => ?_)
    · refine g_iload_n C dX4_count_28 rfl ?_
      rcases (show w = 4 ∨ w = 5 ∨ w = 6 by omega) with rfl | rfl | rfl
      · refine g_lookup C dX4_count_29 (off := 27) (tgt := 56) (by decide) (by decide) (by decide) (by decide) ?_
        refine g_aload_n C dX4_count_56 rfl ?_
        refine g_V C (t_pointsOfAll H) dX4_count_57 KX4_pointsOfAll LX4_183 IX4_pointsOfAll VX4_pointsOfAll (by decide) rfl (by assumption) rfl rfl rfl (Nat.le_of_ble_eq_true rfl) ⟨rfl, rfl⟩ ?_
        dsimp only [Option.toList, List.cons_append, List.nil_append]
        exact kr _ _ _ _ dX4_count_60 ⟨congrArg (fun z => some (iv z)) (by unfold scount; (repeat (first | rw [if_pos (by omega)] | rw [if_neg (by omega)]))), H, hm⟩ hm.1
      · refine g_lookup C dX4_count_29 (off := 32) (tgt := 61) (by decide) (by decide) (by decide) (by decide) ?_
        refine g_aload_n C dX4_count_61 rfl ?_
        refine g_V C (t_filledBodies H) dX4_count_62 KX4_filledBodies LX4_186 IX4_filledBodies VX4_filledBodies (by decide) rfl (by assumption) rfl rfl rfl (Nat.le_of_ble_eq_true rfl) ⟨rfl, rfl⟩ ?_
        dsimp only [Option.toList, List.cons_append, List.nil_append]
        exact kr _ _ _ _ dX4_count_65 ⟨congrArg (fun z => some (iv z)) (by unfold scount; (repeat (first | rw [if_pos (by omega)] | rw [if_neg (by omega)]))), H, hm⟩ hm.1
      · refine g_lookup C dX4_count_29 (off := 37) (tgt := 66) (by decide) (by decide) (by decide) (by decide) ?_
        refine g_aload_n C dX4_count_66 rfl ?_
        refine g_get C FX4_180 dX4_count_67 (by assumption) rfl ?_
        exact kr _ _ _ _ dX4_count_70 ⟨congrArg (fun z => some (iv z)) (by unfold scount; (repeat (first | rw [if_pos (by omega)] | rw [if_neg (by omega)]))), H, hm⟩ hm.1
    · obtain ⟨n, rfl⟩ : ∃ n : Nat, w = (n : Int) := ⟨w.toNat, by omega⟩
      obtain ⟨X, Y, V, hB, -, hO⟩ := H.of (n := n) (by omega)
      have ⟨k0, k1, k2, k3⟩ := hB
      refine g_aload_n C dX4_count_18 rfl ?_
      refine g_get C FX4_11 dX4_count_19 (by assumption) rfl ?_
      refine g_iload_n C dX4_count_22 rfl ?_
      refine g_aald C dX4_count_23 (by assumption) rfl rfl rfl (by omega) (by decide) ?_
      rw [hf n (by omega)]
      refine g_get C FX4_50 dX4_count_24 (by assumption) rfl ?_
      exact kr _ _ _ _ dX4_count_27 ⟨congrArg (fun z => some (iv z)) (by unfold scount; rw [Int.toNat_natCast]; (repeat (first | rw [if_pos (by omega)] | rw [if_neg (by omega)]))), H, hm⟩ hm.1
  · have w7 : ¬ (0 ≤ w ∧ w ≤ 6) := if0 h7
    refine g_bipush C dX4_count_10 (by decide) ?_
    exact kr _ _ _ _ dX4_count_12 ⟨congrArg (fun z => some (iv z)) (by unfold scount; (repeat (first | rw [if_pos (by omega)] | rw [if_neg (by omega)]))), H, hm⟩ hm.1
/-! images -/
theorem wd.eqv {h : ax_H} {B K B2 K2 : Nat → List Pt3} {km : Nat} (H : wd h B K km) (e : ∀ i, i < 4 → B i = B2 i) (f : ∀ i, i < 8 → K i = K2 i) : wd h B2 K2 km := by
  obtain ⟨a1, a2, a3, a4, a5, a6, a7, a8, a9⟩ := H
  exact ⟨a1, a2, a3, a4, fun i hi => by rw [← e i hi]; exact a5 i hi, fun i hi => by rw [← f i hi]; exact a6 i hi, fun i hi => by rw [← e i hi]; exact a7 i hi, fun i hi => by rw [← f i hi]; exact a8 i hi, a9⟩
def kpt (B K : Nat → List Pt3) (k i j : Nat) : List Pt3 := if 4 * k ≤ j ∧ j < 4 * k + i then B (j - 4 * k) else K j
def rst (B K : Nat → List Pt3) (k i j : Nat) : List Pt3 := if j < i then K (4 * k + j) else B j
def simage (B K : Nat → List Pt3) (km : Nat) (k : Int) : Int × (Nat → List Pt3) × Nat := if ¬ (0 ≤ k ∧ k ≤ 1) then (-2, K, km) else (1, kpt B K k.toNat 4, km ||| 2 ^ k.toNat)
def srestore (B K : Nat → List Pt3) (km : Nat) (k : Int) : Int × (Nat → List Pt3) := if ¬ (0 ≤ k ∧ k ≤ 1) then (-2, B) else if ¬ (km / 2 ^ k.toNat % 2 = 1) then (-3, B) else (1, rst B K k.toNat 4)
theorem wd.km {h : ax_H} {B K : Nat → List Pt3} {km km2 : Nat} (H : wd h B K km) (h2 : km2 < 4) : wd (h.set 0 (.inr (4, [rv 1, rv 2, iv (km2 : Int), rv 3, rv 7, rv 107]))) B K km2 ∧ ax_sm 0 1 h (h.set 0 (.inr (4, [rv 1, rv 2, iv (km2 : Int), rv 3, rv 7, rv 107]))) := by
  obtain ⟨⟨b1, ⟨f, b2, b3⟩, ⟨g, b4, b5⟩, ⟨k, b6, b7⟩⟩, a2, a3, a4, a5, a6, a7, a8, a9⟩ := H
  have S : ax_sm 0 1 h (h.set 0 (.inr (4, [rv 1, rv 2, iv (km2 : Int), rv 3, rv 7, rv 107]))) := ax_sm.set b1 rfl (by omega) (by omega)
  refine ⟨⟨⟨ax_gs b1, ⟨f, (S.2 1 (by omega)).trans b2, b3⟩, ⟨g, (S.2 2 (by omega)).trans b4, b5⟩, ⟨k, (S.2 107 (by omega)).trans b6, b7⟩⟩, a2.sm S (by omega), a3.sm S (by omega), a4.sm S (by omega), fun i hi => (a5 i hi).sm S (by omega), fun i hi => (a6 i hi).sm S (by omega), a7, a8, h2⟩, S⟩
theorem t_image {h : ax_H} {B K : Nat → List Pt3} {km : Nat} (H : wd h B K km) {k : Int} (hk : -2147483648 ≤ k ∧ k < 2147483648) : ax_Mt MX4_image [rv 0, iv k] h (fun r h' => r = some (iv (simage B K km k).1) ∧ wd h' B (simage B K km k).2.1 (simage B K km k).2.2 ∧ ax_sm 0 169 h h') := by
  have hm := ax_sm.rf (lo := 0) (hi := 169) h
  refine ax_ri (L0 := [some (rv 0), some (iv k), none]) rfl rfl (Nat.le_of_ble_eq_true rfl) rfl ?_
  intro p9 l9 e9 R9 s9 m9 args9 below9 meth9 c9 b9 D9 dA9 Q9 C kr
  by_cases c : 0 ≤ k ∧ k ≤ 1
  · obtain ⟨n, rfl⟩ : ∃ n : Nat, k = (n : Int) := ⟨k.toNat, by omega⟩
    have loop : ∀ (d i : Nat) (hh : ax_H), i + d = 4 → wd hh B (kpt B K n i) km → ax_sm 0 169 h hh → ax_G p9 l9 e9 R9 s9 m9 args9 below9 meth9 c9 b9 D9 dA9 MX4_image.2.2.1 h.length (ax_sz h) Q9 (14) ([some (rv 0), some (iv (n : Int)), some (iv (i : Int))]) ([]) (hh) := by
      intro d
      induction d with
      | zero =>
        intro i hh hi H hm
        have e : i = 4 := by omega
        subst e
        obtain ⟨h0, -⟩ := H.1
        have hk4 := H.2.2.2.2.2.2.2.2
        have hb2 : km ||| 2 ^ n < 4 := by
          have : (2 : Nat) ^ n < 2 ^ 2 := Nat.pow_lt_pow_right (by decide) (by omega)
          exact Nat.or_lt_two_pow (n := 2) hk4 this
        refine g_iload_n C dX4_image_14 rfl ?_
        refine g_iconst C dX4_image_15 ?_
        refine g_icmp_ge C dX4_image_16 (tgt := 44) (by decide) (by omega) (by omega) (fun h16 => ?_) (fun h16 => ?_)
        · refine g_aload_n C dX4_image_44 rfl ?_
          refine g_dup C dX4_image_45 ?_
          refine g_get C FX4_180 dX4_image_46 (by assumption) rfl ?_
          refine g_iconst C dX4_image_49 ?_
          refine g_iload_n C dX4_image_50 rfl ?_
          refine g_ishl C dX4_image_51 (by omega) ?_
          refine g_top (ax_1p n) ?_
          refine g_ior C dX4_image_52 (ax_orN _ _) ?_
          refine g_put C FX4_180 dX4_image_53 (by assumption) rfl rfl (Nat.le_of_ble_eq_true rfl) ?_
          dsimp only [List.set]
          refine g_iconst C dX4_image_56 ?_
          have q := H.km hb2
          have e : simage B K km (n : Int) = (1, kpt B K n 4, km ||| 2 ^ n) := by (unfold simage; rw [Int.toNat_natCast]; (repeat (first | rw [if_pos (by omega)] | rw [if_neg (by omega)])))
          refine kr _ _ _ _ dX4_image_57 ?_ (hm.tr (q.2.wide (by omega) (by omega))).1
          rw [e]
          exact ⟨rfl, q.1, hm.tr (q.2.wide (by omega) (by omega))⟩
        · exfalso; omega
      | succ d ih =>
        intro i hh hi H hm
        obtain ⟨h0, ⟨f, h1, hf⟩, ⟨g, h2, hg⟩, -⟩ := H.1
        obtain ⟨X, Y, V, hB, hE, hO⟩ := H.of (n := i) (by omega)
        obtain ⟨X1, Y1, V1, hB1, -⟩ := H.2.2.2.2.2.1 (4 * n + i) (by omega)
        have ⟨k0, k1, k2, k3⟩ := hB1
        refine g_iload_n C dX4_image_14 rfl ?_
        refine g_iconst C dX4_image_15 ?_
        refine g_icmp_ge C dX4_image_16 (tgt := 44) (by decide) (by omega) (by omega) (fun h16 => ?_) (fun h16 => ?_)
        · exfalso; omega
        · refine g_aload_n C dX4_image_19 rfl ?_
          refine g_get C FX4_15 dX4_image_20 (by assumption) rfl ?_
          refine g_iload_n C dX4_image_23 rfl ?_
          refine g_iconst C dX4_image_24 ?_
          refine g_imul C dX4_image_25 ?_
          refine g_iload_n C dX4_image_26 rfl ?_
          refine g_iadd C dX4_image_27 ?_
          refine g_top (show _ = ((4 * n + i : Nat) : Int) by omega) ?_
          refine g_aald C dX4_image_28 (by assumption) rfl rfl rfl (by omega) (by decide) ?_
          rw [hg (4 * n + i) (by omega)]
          refine g_aload_n C dX4_image_29 rfl ?_
          refine g_get C FX4_11 dX4_image_30 (by assumption) rfl ?_
          refine g_iload_n C dX4_image_33 rfl ?_
          refine g_aald C dX4_image_34 (by assumption) rfl rfl rfl (by omega) (by decide) ?_
          rw [hf i (by omega)]
          refine g_RV C (t_copyFrom hB1 hB hO.1 (by omega)) dX4_image_35 KX0_copyFrom LX4_176 IX0_copyFrom VX0_copyFrom (by decide) rfl (by assumption) rfl rfl rfl (Nat.le_of_ble_eq_true rfl) ?_
          intro r1 g1 hP1 hz1
          obtain ⟨rfl, X2, Y2, V2, hB2, hm2, e2⟩ := hP1
          dsimp only [Option.toList, List.cons_append, List.nil_append]
          refine g_iinc C dX4_image_38 (by decide) rfl rfl ?_
          dsimp only [List.set]
          refine g_goto C dX4_image_41 (tgt := 14) (by decide) ?_
          exact ih (i + 1) _ (by omega) ((H.kb (by omega) (l := B i) hm2 ⟨X2, Y2, V2, hB2, fun j hj => by have := e2 j hj; have z := hE j hj; rw [this.1, this.2.1, this.2.2]; exact z⟩ (H.2.2.2.2.2.2.1 i (by omega))).eqv (fun _ _ => rfl) (fun j hj => by
            unfold va_up kpt
            by_cases q : j = 4 * n + i
            · rw [if_pos q, if_pos (by omega), show j - 4 * n = i by omega]
            · rw [if_neg q]
              by_cases z : 4 * n ≤ j ∧ j < 4 * n + i
              · rw [if_pos z, if_pos (by omega)]
              · rw [if_neg z, if_neg (by omega)])) (hm.tr (hm2.wide (by omega) (by omega)))
    refine g_iload_n C dX4_image_0 rfl ?_
    refine g_iconst C dX4_image_1 ?_
    refine g_iconst C dX4_image_2 ?_
    refine g_S C (t_isWithin hk (by omega) (by omega)) dX4_image_3 KX4_isWithin LX4_42 SX4_isWithin (by decide) rfl rfl (Nat.le_of_ble_eq_true rfl) ⟨rfl, rfl⟩ ?_
    dsimp only [Option.toList, List.cons_append, List.nil_append]
    refine g_if_ne C dX4_image_6 (tgt := 12) (by decide) ifr (fun h6 => ?_) (fun h6 => ?_)
    · have w6 : 0 ≤ (n : Int) ∧ (n : Int) ≤ 1 := if1 h6
      refine g_iconst C dX4_image_12 ?_
      refine g_istore_n C dX4_image_13 (by decide) rfl ?_
      dsimp only [List.set]
      exact loop 4 0 _ (by omega) (H.eqv (fun _ _ => rfl) (fun j hj => by unfold kpt; rw [if_neg (by omega)])) hm
    · have w6 : ¬ (0 ≤ (n : Int) ∧ (n : Int) ≤ 1) := if0 h6
      exfalso; omega
  · refine g_iload_n C dX4_image_0 rfl ?_
    refine g_iconst C dX4_image_1 ?_
    refine g_iconst C dX4_image_2 ?_
    refine g_S C (t_isWithin hk (by omega) (by omega)) dX4_image_3 KX4_isWithin LX4_42 SX4_isWithin (by decide) rfl rfl (Nat.le_of_ble_eq_true rfl) ⟨rfl, rfl⟩ ?_
    dsimp only [Option.toList, List.cons_append, List.nil_append]
    refine g_if_ne C dX4_image_6 (tgt := 12) (by decide) ifr (fun h6 => ?_) (fun h6 => ?_)
    · have w6 : 0 ≤ k ∧ k ≤ 1 := if1 h6
      exfalso; omega
    · have w6 : ¬ (0 ≤ k ∧ k ≤ 1) := if0 h6
      refine g_bipush C dX4_image_9 (by decide) ?_
      have e : simage B K km k = (-2, K, km) := by (unfold simage; (repeat (first | rw [if_pos (by omega)] | rw [if_neg (by omega)])))
      exact kr _ _ _ _ dX4_image_11 (by rw [e]; exact ⟨rfl, H, hm⟩) hm.1
theorem t_restore {h : ax_H} {B K : Nat → List Pt3} {km : Nat} (H : wd h B K km) {k : Int} (hk : -2147483648 ≤ k ∧ k < 2147483648) : ax_Mt MX4_restore [rv 0, iv k] h (fun r h' => r = some (iv (srestore B K km k).1) ∧ wd h' (srestore B K km k).2 K km ∧ ax_sm 0 169 h h') := by
  have hm := ax_sm.rf (lo := 0) (hi := 169) h
  refine ax_ri (L0 := [some (rv 0), some (iv k), none]) rfl rfl (Nat.le_of_ble_eq_true rfl) rfl ?_
  intro p9 l9 e9 R9 s9 m9 args9 below9 meth9 c9 b9 D9 dA9 Q9 C kr
  by_cases c : 0 ≤ k ∧ k ≤ 1
  · obtain ⟨n, rfl⟩ : ∃ n : Nat, k = (n : Int) := ⟨k.toNat, by omega⟩
    have loop : bt km n → ∀ (d i : Nat) (hh : ax_H), i + d = 4 → wd hh (rst B K n i) K km → ax_sm 0 169 h hh → ax_G p9 l9 e9 R9 s9 m9 args9 below9 meth9 c9 b9 D9 dA9 MX4_restore.2.2.1 h.length (ax_sz h) Q9 (28) ([some (rv 0), some (iv (n : Int)), some (iv (i : Int))]) ([]) (hh) := by
      intro hbt d
      induction d with
      | zero =>
        intro i hh hi H hm
        have e : i = 4 := by omega
        subst e
        refine g_iload_n C dX4_restore_28 rfl ?_
        refine g_iconst C dX4_restore_29 ?_
        refine g_icmp_ge C dX4_restore_30 (tgt := 58) (by decide) (by omega) (by omega) (fun h30 => ?_) (fun h30 => ?_)
        · refine g_iconst C dX4_restore_58 ?_
          have e : srestore B K km (n : Int) = (1, rst B K n 4) := by (unfold srestore; rw [Int.toNat_natCast, if_neg (by omega), if_neg (fun z => z hbt)])
          refine kr _ _ _ _ dX4_restore_59 ?_ hm.1
          rw [e]
          exact ⟨rfl, H, hm⟩
        · exfalso; omega
      | succ d ih =>
        intro i hh hi H hm
        obtain ⟨h0, ⟨f, h1, hf⟩, ⟨g, h2, hg⟩, -⟩ := H.1
        obtain ⟨X, Y, V, hB, hE, hO⟩ := H.of (n := i) (by omega)
        obtain ⟨X1, Y1, V1, hB1, hE1⟩ := H.2.2.2.2.2.1 (4 * n + i) (by omega)
        have hK1 := H.2.2.2.2.2.2.2.1 (4 * n + i) (by omega)
        have ⟨k0, k1, k2, k3⟩ := hB
        refine g_iload_n C dX4_restore_28 rfl ?_
        refine g_iconst C dX4_restore_29 ?_
        refine g_icmp_ge C dX4_restore_30 (tgt := 58) (by decide) (by omega) (by omega) (fun h30 => ?_) (fun h30 => ?_)
        · exfalso; omega
        · refine g_aload_n C dX4_restore_33 rfl ?_
          refine g_get C FX4_11 dX4_restore_34 (by assumption) rfl ?_
          refine g_iload_n C dX4_restore_37 rfl ?_
          refine g_aald C dX4_restore_38 (by assumption) rfl rfl rfl (by omega) (by decide) ?_
          rw [hf i (by omega)]
          refine g_aload_n C dX4_restore_39 rfl ?_
          refine g_get C FX4_15 dX4_restore_40 (by assumption) rfl ?_
          refine g_iload_n C dX4_restore_43 rfl ?_
          refine g_iconst C dX4_restore_44 ?_
          refine g_imul C dX4_restore_45 ?_
          refine g_iload_n C dX4_restore_46 rfl ?_
          refine g_iadd C dX4_restore_47 ?_
          refine g_top (show _ = ((4 * n + i : Nat) : Int) by omega) ?_
          refine g_aald C dX4_restore_48 (by assumption) rfl rfl rfl (by omega) (by decide) ?_
          rw [hg (4 * n + i) (by omega)]
          refine g_RV C (t_copyFrom hB hB1 hK1.1.1 (by omega)) dX4_restore_49 KX0_copyFrom LX4_176 IX0_copyFrom VX0_copyFrom (by decide) rfl (by assumption) rfl rfl rfl (Nat.le_of_ble_eq_true rfl) ?_
          intro r1 g1 hP1 hz1
          obtain ⟨rfl, X2, Y2, V2, hB2, hm2, e2⟩ := hP1
          dsimp only [Option.toList, List.cons_append, List.nil_append]
          refine g_iinc C dX4_restore_52 (by decide) rfl rfl ?_
          dsimp only [List.set]
          refine g_goto C dX4_restore_55 (tgt := 28) (by decide) ?_
          exact ih (i + 1) _ (by omega) ((H.bo (by omega) (l := K (4 * n + i)) hm2 ⟨X2, Y2, V2, hB2, fun j hj => by have := e2 j hj; have z := hE1 j hj; rw [this.1, this.2.1, this.2.2]; exact z⟩ hK1).eqv (fun j hj => by
            unfold va_up rst
            by_cases q : j = i
            · rw [if_pos q, if_pos (by omega), q]
            · rw [if_neg q]
              by_cases z : j < i
              · rw [if_pos z, if_pos (by omega)]
              · rw [if_neg z, if_neg (by omega)]) (fun _ _ => rfl)) (hm.tr (hm2.wide (by omega) (by omega)))
    obtain ⟨h0, -⟩ := H.1
    have hk4 := H.2.2.2.2.2.2.2.2
    have hbit := Nat.mod_lt (km / 2 ^ n) (show 2 > 0 by decide)
    refine g_iload_n C dX4_restore_0 rfl ?_
    refine g_iconst C dX4_restore_1 ?_
    refine g_iconst C dX4_restore_2 ?_
    refine g_S C (t_isWithin hk (by omega) (by omega)) dX4_restore_3 KX4_isWithin LX4_42 SX4_isWithin (by decide) rfl rfl (Nat.le_of_ble_eq_true rfl) ⟨rfl, rfl⟩ ?_
    dsimp only [Option.toList, List.cons_append, List.nil_append]
    refine g_if_ne C dX4_restore_6 (tgt := 12) (by decide) ifr (fun h6 => ?_) (fun h6 => ?_)
    · have w6 : 0 ≤ (n : Int) ∧ (n : Int) ≤ 1 := if1 h6
      refine g_aload_n C dX4_restore_12 rfl ?_
      refine g_get C FX4_180 dX4_restore_13 (by assumption) rfl ?_
      refine g_iload_n C dX4_restore_16 rfl ?_
      refine g_ishr C dX4_restore_17 (by omega) (by omega) ?_
      refine g_iconst C dX4_restore_18 ?_
      refine g_iand C dX4_restore_19 ax_bit ?_
      refine g_if_ne C dX4_restore_20 (tgt := 26) (by decide) (by omega) (fun h20 => ?_) (fun h20 => ?_)
      · refine g_iconst C dX4_restore_26 ?_
        refine g_istore_n C dX4_restore_27 (by decide) rfl ?_
        dsimp only [List.set]
        exact loop (show km / 2 ^ n % 2 = 1 by omega) 4 0 _ (by omega) (H.eqv (fun j hj => by unfold rst; rw [if_neg (by omega)]) (fun _ _ => rfl)) hm
      · refine g_bipush C dX4_restore_23 (by decide) ?_
        have e : srestore B K km (n : Int) = (-3, B) := by (unfold srestore; rw [Int.toNat_natCast, if_neg (by omega), if_pos (by omega)])
        exact kr _ _ _ _ dX4_restore_25 (by rw [e]; exact ⟨rfl, H, hm⟩) hm.1
    · have w6 : ¬ (0 ≤ (n : Int) ∧ (n : Int) ≤ 1) := if0 h6
      exfalso; omega
  · refine g_iload_n C dX4_restore_0 rfl ?_
    refine g_iconst C dX4_restore_1 ?_
    refine g_iconst C dX4_restore_2 ?_
    refine g_S C (t_isWithin hk (by omega) (by omega)) dX4_restore_3 KX4_isWithin LX4_42 SX4_isWithin (by decide) rfl rfl (Nat.le_of_ble_eq_true rfl) ⟨rfl, rfl⟩ ?_
    dsimp only [Option.toList, List.cons_append, List.nil_append]
    refine g_if_ne C dX4_restore_6 (tgt := 12) (by decide) ifr (fun h6 => ?_) (fun h6 => ?_)
    · have w6 : 0 ≤ k ∧ k ≤ 1 := if1 h6
      exfalso; omega
    · have w6 : ¬ (0 ≤ k ∧ k ≤ 1) := if0 h6
      refine g_bipush C dX4_restore_9 (by decide) ?_
      have e : srestore B K km k = (-2, B) := by (unfold srestore; (repeat (first | rw [if_pos (by omega)] | rw [if_neg (by omega)])))
      exact kr _ _ _ _ dX4_restore_11 (by rw [e]; exact ⟨rfl, H, hm⟩) hm.1
