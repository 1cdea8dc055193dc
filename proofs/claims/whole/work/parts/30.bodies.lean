theorem if0 {p : Prop} [Decidable p] (h : (if p then (1 : Int) else 0) = 0) : ¬ p := fun q => by rw [if_pos q] at h; exact absurd h (by decide)
theorem if1 {p : Prop} [Decidable p] (h : ¬ (if p then (1 : Int) else 0) = 0) : p := by
  by_cases q : p
  · exact q
  · rw [if_neg q] at h; exact absurd rfl h
theorem ifr {p : Prop} [Decidable p] : -2147483648 ≤ (if p then (1 : Int) else 0) ∧ (if p then (1 : Int) else 0) < 2147483648 := by split <;> omega
/-! lists of points -/
theorem l3_app {l : List Pt3} {q : Pt3} {j : Nat} (h : j < l.length) : (l ++ [q]).getD j (0, 0, 0) = l.getD j (0, 0, 0) := by
  rw [List.getD_eq_getElem?_getD, List.getD_eq_getElem?_getD, List.getElem?_append_left h]
theorem l3_last {l : List Pt3} {q : Pt3} : (l ++ [q]).getD l.length (0, 0, 0) = q := by
  rw [List.getD_eq_getElem?_getD, List.getElem?_append_right (Nat.le_refl _), Nat.sub_self]; rfl
theorem l3_set {l : List Pt3} {q : Pt3} {k j : Nat} (hk : k < l.length) : (l.set k q).getD j (0, 0, 0) = if j = k then q else l.getD j (0, 0, 0) := by
  rw [List.getD_eq_getElem?_getD, List.getD_eq_getElem?_getD, List.getElem?_set]
  by_cases c : k = j
  · subst c; rw [if_pos rfl, if_pos hk, if_pos rfl]; rfl
  · rw [if_neg c, if_neg (fun z => c z.symm)]
theorem l3_del {l : List Pt3} {k j : Nat} : (l.eraseIdx k).getD j (0, 0, 0) = if j < k then l.getD j (0, 0, 0) else l.getD (j + 1) (0, 0, 0) := by
  rw [List.getD_eq_getElem?_getD, List.getElem?_eraseIdx]
  by_cases c : j < k
  · rw [if_pos c, if_pos c, List.getD_eq_getElem?_getD]
  · rw [if_neg c, if_neg c, List.getD_eq_getElem?_getD]
theorem l3_dn {l : List Pt3} {k : Nat} (h : k < l.length) : (l.eraseIdx k).length = l.length - 1 := by rw [List.length_eraseIdx, if_pos h]
theorem find_is {X Y : Nat → Int} {x y : Int} : ∀ (d k : Nat), (bo_find X Y x y d k = -1 ∧ ∀ j, k ≤ j → j < k + d → ¬ (X j = x ∧ Y j = y)) ∨ ∃ j, k ≤ j ∧ j < k + d ∧ bo_find X Y x y d k = (j : Int) ∧ X j = x ∧ Y j = y ∧ ∀ i, k ≤ i → i < j → ¬ (X i = x ∧ Y i = y)
  | 0, k => Or.inl ⟨rfl, fun j h1 h2 => by omega⟩
  | d + 1, k => by
    rw [bo_find]
    by_cases c : X k = x ∧ Y k = y
    · rw [if_pos c]; exact Or.inr ⟨k, by omega, by omega, rfl, c.1, c.2, fun i h1 h2 => by omega⟩
    · rw [if_neg c]
      rcases find_is (X := X) (Y := Y) (x := x) (y := y) d (k + 1) with ⟨h1, h2⟩ | ⟨j, h1, h2, h3, h4, h5, h6⟩
      · refine Or.inl ⟨h1, fun j q1 q2 => ?_⟩
        by_cases z : j = k
        · subst z; exact c
        · exact h2 j (by omega) (by omega)
      · refine Or.inr ⟨j, by omega, by omega, h3, h4, h5, fun i q1 q2 => ?_⟩
        by_cases z : i = k
        · subst z; exact c
        · exact h6 i (by omega) q2
theorem bl_ok.app {l : List Pt3} (H : bl_ok l) {x y w : Int} (h7 : l.length < 7) (hx : 0 ≤ x ∧ x ≤ 12) (hy : 0 ≤ y ∧ y ≤ 12) (hw : 0 ≤ w ∧ w ≤ 50) (hf : ∀ j, j < l.length → ¬ (lx l j = x ∧ ly l j = y)) : bl_ok (l ++ [(x, y, w)]) := by
  obtain ⟨⟨-, h1⟩, h2⟩ := H
  have e1 : ∀ k, k < l.length → lx (l ++ [(x, y, w)]) k = lx l k ∧ ly (l ++ [(x, y, w)]) k = ly l k ∧ lv (l ++ [(x, y, w)]) k = lv l k := fun k hk => by unfold lx ly lv; rw [l3_app hk]; exact ⟨rfl, rfl, rfl⟩
  have e2 : lx (l ++ [(x, y, w)]) l.length = x ∧ ly (l ++ [(x, y, w)]) l.length = y ∧ lv (l ++ [(x, y, w)]) l.length = w := by unfold lx ly lv; rw [l3_last]; exact ⟨rfl, rfl, rfl⟩
  have eL : (l ++ [(x, y, w)]).length = l.length + 1 := by rw [List.length_append]; rfl
  refine ⟨⟨by omega, fun k hk => ?_⟩, fun i j hi hj q1 q2 => ?_⟩
  · by_cases c : k = l.length
    · subst c; rw [e2.1, e2.2.1, e2.2.2]; exact ⟨hx, hy, hw⟩
    · have := e1 k (by omega); rw [this.1, this.2.1, this.2.2]; exact h1 k (by omega)
  · by_cases ci : i = l.length
    · by_cases cj : j = l.length
      · omega
      · have := e1 j (by omega)
        subst ci
        rw [e2.1, this.1] at q1; rw [e2.2.1, this.2.1] at q2
        exact absurd ⟨q1.symm, q2.symm⟩ (hf j (by omega))
    · by_cases cj : j = l.length
      · have := e1 i (by omega)
        subst cj
        rw [e2.1, this.1] at q1; rw [e2.2.1, this.2.1] at q2
        exact absurd ⟨q1, q2⟩ (hf i (by omega))
      · have a1 := e1 i (by omega)
        have a2 := e1 j (by omega)
        rw [a1.1, a2.1] at q1; rw [a1.2.1, a2.2.1] at q2
        exact h2 i j (by omega) (by omega) q1 q2
theorem bl_ok.set {l : List Pt3} (H : bl_ok l) {k : Nat} {x y w : Int} (hk : k < l.length) (hx : lx l k = x) (hy : ly l k = y) (hw : 0 ≤ w ∧ w ≤ 50) : bl_ok (l.set k (x, y, w)) := by
  obtain ⟨⟨h0, h1⟩, h2⟩ := H
  have e1 : ∀ j, lx (l.set k (x, y, w)) j = lx l j ∧ ly (l.set k (x, y, w)) j = ly l j ∧ lv (l.set k (x, y, w)) j = if j = k then w else lv l j := fun j => by
    unfold lx ly lv at *
    rw [l3_set hk]
    by_cases c : j = k
    · subst c; rw [if_pos rfl, if_pos rfl]; exact ⟨hx.symm, hy.symm, rfl⟩
    · rw [if_neg c, if_neg c]; exact ⟨rfl, rfl, rfl⟩
  refine ⟨⟨by rw [List.length_set]; exact h0, fun j hj => ?_⟩, fun i j hi hj q1 q2 => ?_⟩
  · rw [List.length_set] at hj
    have := h1 j hj
    rw [(e1 j).1, (e1 j).2.1, (e1 j).2.2]
    refine ⟨this.1, this.2.1, ?_⟩
    split
    · exact hw
    · exact this.2.2
  · rw [List.length_set] at hi hj
    rw [(e1 i).1, (e1 j).1] at q1; rw [(e1 i).2.1, (e1 j).2.1] at q2
    exact h2 i j hi hj q1 q2
theorem bl_ok.del {l : List Pt3} (H : bl_ok l) {k : Nat} (hk : k < l.length) : bl_ok (l.eraseIdx k) := by
  obtain ⟨⟨h0, h1⟩, h2⟩ := H
  have e1 : ∀ j, lx (l.eraseIdx k) j = lx l (if j < k then j else j + 1) ∧ ly (l.eraseIdx k) j = ly l (if j < k then j else j + 1) ∧ lv (l.eraseIdx k) j = lv l (if j < k then j else j + 1) := fun j => by
    unfold lx ly lv
    rw [l3_del]
    by_cases c : j < k
    · rw [if_pos c, if_pos c]; exact ⟨rfl, rfl, rfl⟩
    · rw [if_neg c, if_neg c]; exact ⟨rfl, rfl, rfl⟩
  have eL := l3_dn hk
  refine ⟨⟨by omega, fun j hj => ?_⟩, fun i j hi hj q1 q2 => ?_⟩
  · rw [(e1 j).1, (e1 j).2.1, (e1 j).2.2]; exact h1 _ (by split <;> omega)
  · rw [(e1 i).1, (e1 j).1] at q1; rw [(e1 i).2.1, (e1 j).2.1] at q2
    have := h2 _ _ (by split <;> omega) (by split <;> omega) q1 q2
    split at this <;> split at this <;> omega
theorem bl_nil : bl_ok [] := ⟨⟨by decide, fun k hk => absurd hk (Nat.not_lt_zero _)⟩, fun i j hi => absurd hi (Nat.not_lt_zero _)⟩
theorem wd.of {h : ax_H} {B K : Nat → List Pt3} {km : Nat} (H : wd h B K km) {n : Nat} (hn : n < 4) : ∃ X Y V, bo_at h (121 + 4 * n) X Y V (B n).length ∧ (∀ k, k < (B n).length → X k = lx (B n) k ∧ Y k = ly (B n) k ∧ V k = lv (B n) k) ∧ bo_ok X Y V (B n).length := by
  obtain ⟨X, Y, V, h1, h2⟩ := H.2.2.2.2.1 n hn
  exact ⟨X, Y, V, h1, h2, (H.2.2.2.2.2.2.1 n hn).1.cg h2⟩
theorem t_bodyA {h : ax_H} {B K : Nat → List Pt3} {km n : Nat} (H : wd h B K km) (hn : n < 4) : ax_Met MX4_bodyAt [rv 0, iv (n : Int)] h (some (rv (121 + 4 * n))) h := by
  have := t_bodyAt H.1 (x := (n : Int)) (by omega)
  rw [if_pos (by omega), Int.toNat_natCast] at this
  exact this
theorem t_bodyN {h : ax_H} {B K : Nat → List Pt3} {km : Nat} {b : Int} (H : wd h B K km) (hb : -2147483648 ≤ b ∧ b < 2147483648) (hn : ¬ (0 ≤ b ∧ b ≤ 3)) : ax_Met MX4_bodyAt [rv 0, iv b] h (some nv) h := by
  have := t_bodyAt H.1 hb
  rw [if_neg hn] at this
  exact this
/-! 1 put -/
def fnd (l : List Pt3) (x y : Int) : Int := bo_find (lx l) (ly l) x y l.length 0
def sput (B : Nat → List Pt3) (b x y w : Int) : Int × (Nat → List Pt3) :=
  if ¬ (0 ≤ b ∧ b ≤ 3) then (-1, B) else if ¬ ((0 ≤ x ∧ x ≤ 12) ∧ (0 ≤ y ∧ y ≤ 12) ∧ (0 ≤ w ∧ w ≤ 50)) then (-2, B)
  else if fnd (B b.toNat) x y < 0 then (if (B b.toNat).length < 7 then (((B b.toNat).length : Int), va_up B b.toNat (B b.toNat ++ [(x, y, w)])) else (-4, B))
  else (fnd (B b.toNat) x y, va_up B b.toNat ((B b.toNat).set (fnd (B b.toNat) x y).toNat (x, y, w)))
theorem t_put {h : ax_H} {B K : Nat → List Pt3} {km : Nat} (H : wd h B K km) {b x y w : Int} (hb : -2147483648 ≤ b ∧ b < 2147483648) (hx : -2147483648 ≤ x ∧ x < 2147483648) (hy : -2147483648 ≤ y ∧ y < 2147483648) (hw : -2147483648 ≤ w ∧ w < 2147483648) : ax_Mt MX4_put [rv 0, iv b, iv x, iv y, iv w] h (fun r h' => r = some (iv (sput B b x y w).1) ∧ wd h' (sput B b x y w).2 K km ∧ ax_sm 0 169 h h') := by
  have hm := ax_sm.rf (lo := 0) (hi := 169) h
  have g0 := H.1.1
  refine ax_ri (L0 := [some (rv 0), some (iv b), some (iv x), some (iv y), some (iv w), none, none]) rfl rfl (Nat.le_of_ble_eq_true rfl) rfl ?_
  intro p9 l9 e9 R9 s9 m9 args9 below9 meth9 c9 b9 D9 dA9 Q9 C kr
  by_cases c : 0 ≤ b ∧ b ≤ 3
  · obtain ⟨n, rfl⟩ : ∃ n : Nat, b = (n : Int) := ⟨b.toNat, by omega⟩
    have hn : n < 4 := by omega
    obtain ⟨X, Y, V, hB, hE, hO⟩ := H.of hn
    have ⟨h0, h1, h2, h3⟩ := hB
    have hL := hO.1
    have hf : bo_find X Y x y (B n).length 0 = fnd (B n) x y := find_cg _ 0 (fun j q1 q2 => ⟨(hE j (by omega)).1, (hE j (by omega)).2.1⟩)
    have hf2 := find_is (X := lx (B n)) (Y := ly (B n)) (x := x) (y := y) (B n).length 0
    have hfr : -1 ≤ fnd (B n) x y ∧ fnd (B n) x y < (B n).length := by rcases hf2 with ⟨q, -⟩ | ⟨j, q1, q2, q, -⟩ <;> (unfold fnd; omega)
    refine g_aload_n C dX4_put_0 rfl ?_
    refine g_iload_n C dX4_put_1 rfl ?_
    refine g_V C (t_bodyA H hn) dX4_put_2 KX4_bodyAt LX4_38 IX4_bodyAt VX4_bodyAt (by decide) rfl (by assumption) rfl rfl rfl (Nat.le_of_ble_eq_true rfl) ⟨rfl, rfl⟩ ?_
    dsimp only [Option.toList, List.cons_append, List.nil_append]
    refine g_astore C dX4_put_5 (by decide) rfl ?_
    dsimp only [List.set]
    refine g_aload C dX4_put_7 rfl ?_
    refine g_ifnonnull C dX4_put_9 (tgt := 14) (by decide) ?_
    refine g_iload_n C dX4_put_14 rfl ?_
    refine g_iconst C dX4_put_15 ?_
    refine g_bipush C dX4_put_16 (by decide) ?_
    refine g_S C (t_isWithin hx (by omega) (by omega)) dX4_put_18 KX4_isWithin LX4_42 SX4_isWithin (by decide) rfl rfl (Nat.le_of_ble_eq_true rfl) ⟨rfl, rfl⟩ ?_
    dsimp only [Option.toList, List.cons_append, List.nil_append]
    refine g_if_eq C dX4_put_21 (tgt := 45) (by decide) ifr (fun h21 => ?_) (fun h21 => ?_)
    · have w21 : ¬ (0 ≤ x ∧ x ≤ 12) := if0 h21
      refine g_bipush C dX4_put_45 (by decide) ?_
      have e : sput B (n : Int) x y w = (-2, B) := by (unfold sput; (repeat (first | rw [if_pos (by omega)] | rw [if_neg (by omega)])))
      exact kr _ _ _ _ dX4_put_47 (by rw [e]; exact ⟨rfl, H, hm⟩) hm.1
    · have w21 : 0 ≤ x ∧ x ≤ 12 := if1 h21
      refine g_iload_n C dX4_put_24 rfl ?_
      refine g_iconst C dX4_put_25 ?_
      refine g_bipush C dX4_put_26 (by decide) ?_
      refine g_S C (t_isWithin hy (by omega) (by omega)) dX4_put_28 KX4_isWithin LX4_42 SX4_isWithin (by decide) rfl rfl (Nat.le_of_ble_eq_true rfl) ⟨rfl, rfl⟩ ?_
      dsimp only [Option.toList, List.cons_append, List.nil_append]
      refine g_if_eq C dX4_put_31 (tgt := 45) (by decide) ifr (fun h31 => ?_) (fun h31 => ?_)
      · have w31 : ¬ (0 ≤ y ∧ y ≤ 12) := if0 h31
        refine g_bipush C dX4_put_45 (by decide) ?_
        have e : sput B (n : Int) x y w = (-2, B) := by (unfold sput; (repeat (first | rw [if_pos (by omega)] | rw [if_neg (by omega)])))
        exact kr _ _ _ _ dX4_put_47 (by rw [e]; exact ⟨rfl, H, hm⟩) hm.1
      · have w31 : 0 ≤ y ∧ y ≤ 12 := if1 h31
        refine g_iload C dX4_put_34 rfl ?_
        refine g_iconst C dX4_put_36 ?_
        refine g_bipush C dX4_put_37 (by decide) ?_
        refine g_S C (t_isWithin hw (by omega) (by omega)) dX4_put_39 KX4_isWithin LX4_42 SX4_isWithin (by decide) rfl rfl (Nat.le_of_ble_eq_true rfl) ⟨rfl, rfl⟩ ?_
        dsimp only [Option.toList, List.cons_append, List.nil_append]
        refine g_if_ne C dX4_put_42 (tgt := 48) (by decide) ifr (fun h42 => ?_) (fun h42 => ?_)
        · have w42 : 0 ≤ w ∧ w ≤ 50 := if1 h42
          refine g_aload C dX4_put_48 rfl ?_
          refine g_iload_n C dX4_put_50 rfl ?_
          refine g_iload_n C dX4_put_51 rfl ?_
          refine g_V C (t_find hB hO (by omega) (by omega)) dX4_put_52 KX0_find LX4_46 IX0_find VX0_find (by decide) rfl (by assumption) rfl rfl rfl (Nat.le_of_ble_eq_true rfl) ⟨rfl, rfl⟩ ?_
          dsimp only [Option.toList, List.cons_append, List.nil_append]
          rw [hf]
          refine g_istore C dX4_put_55 (by decide) rfl ?_
          dsimp only [List.set]
          refine g_iload C dX4_put_57 rfl ?_
          refine g_if_ge C dX4_put_59 (tgt := 87) (by decide) (by omega) (fun h59 => ?_) (fun h59 => ?_)
          · refine g_aload C dX4_put_87 rfl ?_
            obtain ⟨k, q1, q2, q3, q4, q5, -⟩ := hf2.resolve_left (fun z => by have := z.1; unfold fnd at *; omega)
            have q3 : fnd (B n) x y = (k : Int) := q3
            rw [q3]
            refine g_get C FX4_58 dX4_put_89 (by assumption) rfl ?_
            refine g_iload C dX4_put_92 rfl ?_
            refine g_iload C dX4_put_94 rfl ?_
            refine g_iast C dX4_put_96 (by assumption) rfl (by omega) (by decide) ?_
            refine bo_s_V hB (ax_sm.rf h) ?_
            intro h9 hB9 hm9
            refine g_iload C dX4_put_97 rfl ?_
            have e : sput B (n : Int) x y w = ((k : Int), va_up B n ((B n).set k (x, y, w))) := by (unfold sput; rw [Int.toNat_natCast, q3, Int.toNat_natCast]; (repeat (first | rw [if_pos (by omega)] | rw [if_neg (by omega)])))
            refine kr _ _ _ _ dX4_put_99 ?_ hm9.1
            rw [e]
            refine ⟨rfl, H.bo hn hm9 ⟨_, _, _, by rw [List.length_set]; exact hB9, fun j hj => ?_⟩ ((H.2.2.2.2.2.2.1 n hn).set (by omega) q4 q5 w42), hm9.wide (by omega) (by omega)⟩
            rw [List.length_set] at hj
            unfold lx ly lv; rw [l3_set (by omega)]
            have ej := hE j hj
            by_cases q : j = k
            · subst q; simp only [va_up, if_pos]; exact ⟨ej.1.trans q4, ej.2.1.trans q5, trivial⟩
            · simp only [va_up, if_neg q]; exact ej
          · refine g_aload C dX4_put_62 rfl ?_
            refine g_get C FX4_50 dX4_put_64 (by assumption) rfl ?_
            refine g_bipush C dX4_put_67 (by decide) ?_
            refine g_icmp_ge C dX4_put_69 (tgt := 84) (by decide) (by omega) (by omega) (fun h69 => ?_) (fun h69 => ?_)
            · refine g_bipush C dX4_put_84 (by decide) ?_
              have e : sput B (n : Int) x y w = (-4, B) := by (unfold sput; rw [Int.toNat_natCast]; (repeat (first | rw [if_pos (by omega)] | rw [if_neg (by omega)])))
              exact kr _ _ _ _ dX4_put_86 (by rw [e]; exact ⟨rfl, H, hm⟩) hm.1
            · refine g_aload C dX4_put_72 rfl ?_
              refine g_iload_n C dX4_put_74 rfl ?_
              refine g_iload_n C dX4_put_75 rfl ?_
              refine g_iload C dX4_put_76 rfl ?_
              refine g_RV C (t_append hB (by omega)) dX4_put_78 KX0_append LX4_54 IX0_append VX0_append (by decide) rfl (by assumption) rfl rfl rfl (Nat.le_of_ble_eq_true rfl) ?_
              intro r1 h1 hP1 hz1
              obtain ⟨rfl, hB1, hm1⟩ := hP1
              dsimp only [Option.toList, List.cons_append, List.nil_append]
              refine g_goto C dX4_put_81 (tgt := 86) (by decide) ?_
              have e : sput B (n : Int) x y w = (((B n).length : Int), va_up B n (B n ++ [(x, y, w)])) := by (unfold sput; rw [Int.toNat_natCast]; (repeat (first | rw [if_pos (by omega)] | rw [if_neg (by omega)])))
              have hg := hf2.resolve_right (fun ⟨j, z1, z2, z3, _⟩ => by have z3 : fnd (B n) x y = (j : Int) := z3; omega)
              refine kr _ _ _ _ dX4_put_86 ?_ hz1
              rw [e]
              refine ⟨rfl, H.bo hn hm1 ⟨_, _, _, by rw [List.length_append]; exact hB1, fun k hk => ?_⟩ ((H.2.2.2.2.2.2.1 n hn).app (by omega) w21 w31 w42 (fun j hj => hg.2 j (by omega) (by omega))), hm1.wide (by omega) (by omega)⟩
              rw [List.length_append] at hk
              have hk : k < (B n).length + 1 := hk
              by_cases q : k = (B n).length
              · subst q; unfold lx ly lv; rw [l3_last]; simp [va_up]
              · unfold lx ly lv; rw [l3_app (by omega)]; simp only [va_up, if_neg q]; exact hE k (by omega)
        · have w42 : ¬ (0 ≤ w ∧ w ≤ 50) := if0 h42
          refine g_bipush C dX4_put_45 (by decide) ?_
          have e : sput B (n : Int) x y w = (-2, B) := by (unfold sput; (repeat (first | rw [if_pos (by omega)] | rw [if_neg (by omega)])))
          exact kr _ _ _ _ dX4_put_47 (by rw [e]; exact ⟨rfl, H, hm⟩) hm.1
  · refine g_aload_n C dX4_put_0 rfl ?_
    refine g_iload_n C dX4_put_1 rfl ?_
    refine g_V C (t_bodyN H hb c) dX4_put_2 KX4_bodyAt LX4_38 IX4_bodyAt VX4_bodyAt (by decide) rfl (by assumption) rfl rfl rfl (Nat.le_of_ble_eq_true rfl) ⟨rfl, rfl⟩ ?_
    dsimp only [Option.toList, List.cons_append, List.nil_append]
    refine g_astore C dX4_put_5 (by decide) rfl ?_
    dsimp only [List.set]
    refine g_aload C dX4_put_7 rfl ?_
    refine g_ifnonnullN C dX4_put_9 ?_
    refine g_iconst C dX4_put_12 ?_
    have e : sput B b x y w = (-1, B) := by (unfold sput; (repeat (first | rw [if_pos (by omega)] | rw [if_neg (by omega)])))
    exact kr _ _ _ _ dX4_put_13 (by rw [e]; exact ⟨rfl, H, hm⟩) hm.1
