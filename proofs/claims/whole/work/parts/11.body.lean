/-! small rows on numbers -/
theorem mb {u x U M : Int} (h1 : -U ≤ u ∧ u ≤ U) (h3 : 0 ≤ x ∧ x ≤ M) : -(U * M) ≤ u * x ∧ u * x ≤ U * M := by
  have hU : 0 ≤ U := by omega
  have a1 : u * x ≤ U * x := Int.mul_le_mul_of_nonneg_right h1.2 h3.1
  have a2 : U * x ≤ U * M := Int.mul_le_mul_of_nonneg_left h3.2 hU
  have a3 : (-U) * x ≤ u * x := Int.mul_le_mul_of_nonneg_right h1.1 h3.1
  have a4 : (-U) * x = -(U * x) := Int.neg_mul U x
  omega
theorem ax_orN (x y : Nat) : Int32.ofInt (x : Int) ||| Int32.ofInt (y : Int) = Int32.ofInt ((x ||| y : Nat) : Int) := by
  apply Int32.toBitVec_inj.1
  simp only [Int32.toBitVec_or, Int32.toBitVec_ofInt, BitVec.ofInt_natCast]
  apply BitVec.eq_of_getLsbD_eq
  intro i hi
  simp [hi]
theorem ax_andN (x y : Nat) : Int32.ofInt (x : Int) &&& Int32.ofInt (y : Int) = Int32.ofInt ((x &&& y : Nat) : Int) := by
  apply Int32.toBitVec_inj.1
  simp only [Int32.toBitVec_and, Int32.toBitVec_ofInt, BitVec.ofInt_natCast]
  apply BitVec.eq_of_getLsbD_eq
  intro i hi
  simp [hi]
theorem ax_1p (k : Nat) : (1 : Int) * 2 ^ k = ((2 ^ k : Nat) : Int) := by simp
/-! Body -/
def bo_find (X Y : Nat → Int) (x y : Int) : Nat → Nat → Int
  | 0, _ => -1
  | d + 1, k => if X k = x ∧ Y k = y then (k : Int) else bo_find X Y x y d (k + 1)
def bo_ok (X Y V : Nat → Int) (n : Nat) : Prop := n ≤ 7 ∧ ∀ k, k < n → (0 ≤ X k ∧ X k ≤ 12) ∧ (0 ≤ Y k ∧ Y k ≤ 12) ∧ (0 ≤ V k ∧ V k ≤ 50)
theorem t_has {h : ax_H} {a n : Nat} {X Y V : Nat → Int} (hB : bo_at h a X Y V n) (hn : n ≤ 7) {k : Int} (hk : -2147483648 ≤ k ∧ k < 2147483648) : ax_Met MX0_has [rv a, iv k] h (some (iv (if 0 ≤ k ∧ k < n then 1 else 0))) h := by
  obtain ⟨h0, h1, h2, h3⟩ := hB
  refine ax_mz (L0 := [some (rv a), some (iv k)]) rfl rfl (Nat.le_refl _) (Nat.le_refl _) (Nat.le_of_ble_eq_true rfl) rfl ?_
  intro p9 l9 e9 R9 s9 m9 args9 below9 meth9 c9 b9 D9 dA9 Q9 C kr
  refine g_iload_n C dX0_has_0 rfl ?_
  refine g_if_lt C dX0_has_1 (tgt := 16) (by decide) (by omega) (fun h1 => ?_) (fun h1 => ?_)
  · refine g_iconst C dX0_has_16 ?_
    first | exact kr _ _ _ dX0_has_17 (Or.inr rfl) (by rw [if_pos (by omega)]) | exact kr _ _ _ dX0_has_17 (Or.inl rfl) (by rw [if_neg (by omega)])
  · refine g_iload_n C dX0_has_4 rfl ?_
    refine g_aload_n C dX0_has_5 rfl ?_
    refine g_get C FX0_21 dX0_has_6 (by assumption) rfl ?_
    refine g_icmp_ge C dX0_has_9 (tgt := 16) (by decide) (by omega) (by omega) (fun h9 => ?_) (fun h9 => ?_)
    · refine g_iconst C dX0_has_16 ?_
      first | exact kr _ _ _ dX0_has_17 (Or.inr rfl) (by rw [if_pos (by omega)]) | exact kr _ _ _ dX0_has_17 (Or.inl rfl) (by rw [if_neg (by omega)])
    · refine g_iconst C dX0_has_12 ?_
      refine g_goto C dX0_has_13 (tgt := 17) (by decide) ?_
      first | exact kr _ _ _ dX0_has_17 (Or.inr rfl) (by rw [if_pos (by omega)]) | exact kr _ _ _ dX0_has_17 (Or.inl rfl) (by rw [if_neg (by omega)])
theorem t_all {h : ax_H} {a n : Nat} {X Y V : Nat → Int} (hB : bo_at h a X Y V n) (hn : n ≤ 7) : ax_Met MX0_all [rv a] h (some (iv (((2 ^ n - 1 : Nat) : Int)))) h := by
  obtain ⟨h0, h1, h2, h3⟩ := hB
  refine ax_mi (L0 := [some (rv a)]) rfl rfl (Nat.le_refl _) (Nat.le_refl _) (Nat.le_of_ble_eq_true rfl) rfl ?_
  intro p9 l9 e9 R9 s9 m9 args9 below9 meth9 c9 b9 D9 dA9 Q9 C kr
  refine g_iconst C dX0_all_0 ?_
  refine g_aload_n C dX0_all_1 rfl ?_
  refine g_get C FX0_21 dX0_all_2 (by assumption) rfl ?_
  refine g_ishl C dX0_all_5 (by omega) ?_
  refine g_iconst C dX0_all_6 ?_
  refine g_isub C dX0_all_7 ?_
  exact kr _ _ _ dX0_all_8 (congrArg (fun z => some (iv z)) (by have := Nat.two_pow_pos n; rw [ax_1p]; omega))
theorem t_find {h : ax_H} {a n : Nat} {X Y V : Nat → Int} (hB : bo_at h a X Y V n) (ho : bo_ok X Y V n) {x y : Int} (hx : -2147483648 ≤ x ∧ x < 2147483648) (hy : -2147483648 ≤ y ∧ y < 2147483648) : ax_Met MX0_find [rv a, iv x, iv y] h (some (iv (bo_find X Y x y n 0))) h := by
  obtain ⟨h0, h1, h2, h3⟩ := hB
  refine ax_mi (L0 := [some (rv a), some (iv x), some (iv y), none]) rfl rfl (Nat.le_refl _) (Nat.le_refl _) (Nat.le_of_ble_eq_true rfl) rfl ?_
  intro p9 l9 e9 R9 s9 m9 args9 below9 meth9 c9 b9 D9 dA9 Q9 C kr
  have loop : ∀ (d k : Nat), k + d = n → bo_find X Y x y n 0 = bo_find X Y x y d k → ax_G p9 l9 e9 R9 s9 m9 args9 below9 meth9 c9 b9 D9 dA9 MX0_find.2.2.1 h.length (ax_sz h) Q9 (2) ([some (rv a), some (iv x), some (iv y), some (iv (k : Int))]) ([]) (h) := by
    intro d
    induction d with
    | zero =>
      intro k hk e
      have hn := ho.1
      refine g_iload_n C dX0_find_2 rfl ?_
      refine g_aload_n C dX0_find_3 rfl ?_
      refine g_get C FX0_21 dX0_find_4 (by assumption) rfl ?_
      refine g_icmp_ge C dX0_find_7 (tgt := 38) (by decide) (by omega) (by omega) (fun h7 => ?_) (fun h7 => ?_)
      · refine g_iconst C dX0_find_38 ?_
        exact kr _ _ _ dX0_find_39 (congrArg (fun z => some (iv z)) e)
      · exfalso; omega
    | succ d ih =>
      intro k hk e
      have hn := ho.1
      have hb := ho.2 k (by omega)
      rw [bo_find] at e
      refine g_iload_n C dX0_find_2 rfl ?_
      refine g_aload_n C dX0_find_3 rfl ?_
      refine g_get C FX0_21 dX0_find_4 (by assumption) rfl ?_
      refine g_icmp_ge C dX0_find_7 (tgt := 38) (by decide) (by omega) (by omega) (fun h7 => ?_) (fun h7 => ?_)
      · exfalso; omega
      · refine g_aload_n C dX0_find_10 rfl ?_
        refine g_get C FX0_9 dX0_find_11 (by assumption) rfl ?_
        refine g_iload_n C dX0_find_14 rfl ?_
        refine g_iald C dX0_find_15 (by assumption) rfl (by omega) (by decide) ?_
        refine g_iload_n C dX0_find_16 rfl ?_
        refine g_icmp_ne C dX0_find_17 (tgt := 32) (by decide) (by omega) (by omega) (fun h17 => ?_) (fun h17 => ?_)
        · rw [if_neg (by omega)] at e
          refine g_iinc C dX0_find_32 (by decide) rfl rfl ?_
          dsimp only [List.set]
          refine g_goto C dX0_find_35 (tgt := 2) (by decide) ?_
          exact ih (k + 1) (by omega) e
        · refine g_aload_n C dX0_find_20 rfl ?_
          refine g_get C FX0_15 dX0_find_21 (by assumption) rfl ?_
          refine g_iload_n C dX0_find_24 rfl ?_
          refine g_iald C dX0_find_25 (by assumption) rfl (by omega) (by decide) ?_
          refine g_iload_n C dX0_find_26 rfl ?_
          refine g_icmp_ne C dX0_find_27 (tgt := 32) (by decide) (by omega) (by omega) (fun h27 => ?_) (fun h27 => ?_)
          · rw [if_neg (by omega)] at e
            refine g_iinc C dX0_find_32 (by decide) rfl rfl ?_
            dsimp only [List.set]
            refine g_goto C dX0_find_35 (tgt := 2) (by decide) ?_
            exact ih (k + 1) (by omega) e
          · rw [if_pos ⟨h17, h27⟩] at e
            refine g_iload_n C dX0_find_30 rfl ?_
            exact kr _ _ _ dX0_find_31 (congrArg (fun z => some (iv z)) e)
  refine g_iconst C dX0_find_0 ?_
  refine g_istore_n C dX0_find_1 (by decide) rfl ?_
  dsimp only [List.set]
  exact loop n 0 (by omega) rfl
theorem t_append {h : ax_H} {a n : Nat} {X Y V : Nat → Int} (hB : bo_at h a X Y V n) (hn : n < 7) {x y w : Int} : ax_Mt MX0_append [rv a, iv x, iv y, iv w] h (fun r h' => r = some (iv (n : Int)) ∧ bo_at h' a (va_up X n x) (va_up Y n y) (va_up V n w) (n + 1) ∧ ax_sm a (a + 4) h h') := by
  have hs := ax_sm.rf (lo := a) (hi := a + 4) h
  refine ax_ri (L0 := [some (rv a), some (iv x), some (iv y), some (iv w)]) rfl rfl (Nat.le_of_ble_eq_true rfl) rfl ?_
  intro p9 l9 e9 R9 s9 m9 args9 below9 meth9 c9 b9 D9 dA9 Q9 C kr
  have ⟨h0, h1, h2, h3⟩ := hB
  refine g_aload_n C dX0_append_0 rfl ?_
  refine g_get C FX0_21 dX0_append_1 (by assumption) rfl ?_
  refine g_bipush C dX0_append_4 (by decide) ?_
  refine g_icmp_lt C dX0_append_6 (tgt := 11) (by decide) (by omega) (by omega) (fun h6 => ?_) (fun h6 => ?_)
  · refine g_aload_n C dX0_append_11 rfl ?_
    refine g_get C FX0_9 dX0_append_12 (by assumption) rfl ?_
    refine g_aload_n C dX0_append_15 rfl ?_
    refine g_get C FX0_21 dX0_append_16 (by assumption) rfl ?_
    refine g_iload_n C dX0_append_19 rfl ?_
    refine g_iast C dX0_append_20 (by assumption) rfl (by omega) (by decide) ?_
    refine bo_s_X hB hs ?_
    intro h1 hB hs
    have ⟨h0, h1, h2, h3⟩ := hB
    refine g_aload_n C dX0_append_21 rfl ?_
    refine g_get C FX0_15 dX0_append_22 (by assumption) rfl ?_
    refine g_aload_n C dX0_append_25 rfl ?_
    refine g_get C FX0_21 dX0_append_26 (by assumption) rfl ?_
    refine g_iload_n C dX0_append_29 rfl ?_
    refine g_iast C dX0_append_30 (by assumption) rfl (by omega) (by decide) ?_
    refine bo_s_Y hB hs ?_
    intro h1 hB hs
    have ⟨h0, h1, h2, h3⟩ := hB
    refine g_aload_n C dX0_append_31 rfl ?_
    refine g_get C FX0_18 dX0_append_32 (by assumption) rfl ?_
    refine g_aload_n C dX0_append_35 rfl ?_
    refine g_get C FX0_21 dX0_append_36 (by assumption) rfl ?_
    refine g_iload_n C dX0_append_39 rfl ?_
    refine g_iast C dX0_append_40 (by assumption) rfl (by omega) (by decide) ?_
    refine bo_s_V hB hs ?_
    intro h1 hB hs
    have ⟨h0, h1, h2, h3⟩ := hB
    refine g_aload_n C dX0_append_41 rfl ?_
    refine g_dup C dX0_append_42 ?_
    refine g_get C FX0_21 dX0_append_43 (by assumption) rfl ?_
    refine g_iconst C dX0_append_46 ?_
    refine g_iadd C dX0_append_47 ?_
    refine g_put C FX0_21 dX0_append_48 (by assumption) rfl rfl (Nat.le_of_ble_eq_true rfl) ?_
    dsimp only [List.set]
    refine bo_s_n (n + 1) rfl hB hs ?_
    intro h1 hB hs
    have ⟨h0, h1, h2, h3⟩ := hB
    refine g_aload_n C dX0_append_51 rfl ?_
    refine g_get C FX0_21 dX0_append_52 (by assumption) rfl ?_
    refine g_iconst C dX0_append_55 ?_
    refine g_isub C dX0_append_56 ?_
    exact kr _ _ _ _ dX0_append_57 ⟨congrArg (fun z => some (iv z)) (by omega), hB, hs⟩ hs.1
  · exfalso; omega
theorem t_remove {h : ax_H} {a n k : Nat} {X Y V : Nat → Int} (hB : bo_at h a X Y V n) (hn : n ≤ 7) (hk : k < n) : ax_Mt MX0_remove [rv a, iv (k : Int)] h (fun r h' => r = none ∧ ∃ X' Y' V' : Nat → Int, bo_at h' a X' Y' V' (n - 1) ∧ ax_sm a (a + 4) h h' ∧ (∀ i, i < k → X' i = X i ∧ Y' i = Y i ∧ V' i = V i) ∧ (∀ i, k ≤ i → i + 1 < n → X' i = X (i + 1) ∧ Y' i = Y (i + 1) ∧ V' i = V (i + 1))) := by
  have hs := ax_sm.rf (lo := a) (hi := a + 4) h
  refine ax_rv (L0 := [some (rv a), some (iv (k : Int)), none]) rfl rfl (Nat.le_of_ble_eq_true rfl) rfl ?_
  intro p9 l9 e9 R9 s9 m9 args9 below9 meth9 c9 b9 D9 dA9 Q9 C kr
  have loop : ∀ (d i : Nat) (hh : ax_H) (X1 Y1 V1 : Nat → Int), i + d = n → k < i → bo_at hh a X1 Y1 V1 n → ax_sm a (a + 4) h hh → (∀ j, j < k → X1 j = X j ∧ Y1 j = Y j ∧ V1 j = V j) → (∀ j, k ≤ j → j + 1 < i → X1 j = X (j + 1) ∧ Y1 j = Y (j + 1) ∧ V1 j = V (j + 1)) → (∀ j, i ≤ j → X1 j = X j ∧ Y1 j = Y j ∧ V1 j = V j) → ax_G p9 l9 e9 R9 s9 m9 args9 below9 meth9 c9 b9 D9 dA9 MX0_remove.2.2.1 h.length (ax_sz h) Q9 (13) ([some (rv a), some (iv (k : Int)), some (iv (i : Int))]) ([]) (hh) := by
    intro d
    induction d with
    | zero =>
      intro i hh X1 Y1 V1 hi hki hB hs g1 g2 g3
      have ⟨h0, h1, h2, h3⟩ := hB
      refine g_iload_n C dX0_remove_13 rfl ?_
      refine g_aload_n C dX0_remove_14 rfl ?_
      refine g_get C FX0_21 dX0_remove_15 (by assumption) rfl ?_
      refine g_icmp_ge C dX0_remove_18 (tgt := 69) (by decide) (by omega) (by omega) (fun h18 => ?_) (fun h18 => ?_)
      · refine g_aload_n C dX0_remove_69 rfl ?_
        refine g_dup C dX0_remove_70 ?_
        refine g_get C FX0_21 dX0_remove_71 (by assumption) rfl ?_
        refine g_iconst C dX0_remove_74 ?_
        refine g_isub C dX0_remove_75 ?_
        refine g_put C FX0_21 dX0_remove_76 (by assumption) rfl rfl (Nat.le_of_ble_eq_true rfl) ?_
        dsimp only [List.set]
        refine bo_s_n (n - 1) (by omega) hB hs ?_
        intro h1 hB hs
        exact kr _ _ _ dX0_remove_79 ⟨rfl, X1, Y1, V1, hB, hs, g1, fun j h1 h2 => g2 j h1 (by omega)⟩ hs.1
      · exfalso; omega
    | succ d ih =>
      intro i hh X1 Y1 V1 hi hki hB hs g1 g2 g3
      have ⟨h0, h1, h2, h3⟩ := hB
      have gi := g3 i (Nat.le_refl i)
      refine g_iload_n C dX0_remove_13 rfl ?_
      refine g_aload_n C dX0_remove_14 rfl ?_
      refine g_get C FX0_21 dX0_remove_15 (by assumption) rfl ?_
      refine g_icmp_ge C dX0_remove_18 (tgt := 69) (by decide) (by omega) (by omega) (fun h18 => ?_) (fun h18 => ?_)
      · exfalso; omega
      · refine g_aload_n C dX0_remove_21 rfl ?_
        refine g_get C FX0_9 dX0_remove_22 (by assumption) rfl ?_
        refine g_iload_n C dX0_remove_25 rfl ?_
        refine g_iconst C dX0_remove_26 ?_
        refine g_isub C dX0_remove_27 ?_
        refine g_aload_n C dX0_remove_28 rfl ?_
        refine g_get C FX0_9 dX0_remove_29 (by assumption) rfl ?_
        refine g_iload_n C dX0_remove_32 rfl ?_
        refine g_iald C dX0_remove_33 (by assumption) rfl (by omega) (by decide) ?_
        refine g_iast C dX0_remove_34 (by assumption) (show (i : Int) - 1 = ((i - 1 : Nat) : Int) by omega) (by omega) (by decide) ?_
        refine bo_s_X hB hs ?_
        intro h1 hB hs
        have ⟨h0, h1, h2, h3⟩ := hB
        refine g_aload_n C dX0_remove_35 rfl ?_
        refine g_get C FX0_15 dX0_remove_36 (by assumption) rfl ?_
        refine g_iload_n C dX0_remove_39 rfl ?_
        refine g_iconst C dX0_remove_40 ?_
        refine g_isub C dX0_remove_41 ?_
        refine g_aload_n C dX0_remove_42 rfl ?_
        refine g_get C FX0_15 dX0_remove_43 (by assumption) rfl ?_
        refine g_iload_n C dX0_remove_46 rfl ?_
        refine g_iald C dX0_remove_47 (by assumption) rfl (by omega) (by decide) ?_
        refine g_iast C dX0_remove_48 (by assumption) (show (i : Int) - 1 = ((i - 1 : Nat) : Int) by omega) (by omega) (by decide) ?_
        refine bo_s_Y hB hs ?_
        intro h1 hB hs
        have ⟨h0, h1, h2, h3⟩ := hB
        refine g_aload_n C dX0_remove_49 rfl ?_
        refine g_get C FX0_18 dX0_remove_50 (by assumption) rfl ?_
        refine g_iload_n C dX0_remove_53 rfl ?_
        refine g_iconst C dX0_remove_54 ?_
        refine g_isub C dX0_remove_55 ?_
        refine g_aload_n C dX0_remove_56 rfl ?_
        refine g_get C FX0_18 dX0_remove_57 (by assumption) rfl ?_
        refine g_iload_n C dX0_remove_60 rfl ?_
        refine g_iald C dX0_remove_61 (by assumption) rfl (by omega) (by decide) ?_
        refine g_iast C dX0_remove_62 (by assumption) (show (i : Int) - 1 = ((i - 1 : Nat) : Int) by omega) (by omega) (by decide) ?_
        refine bo_s_V hB hs ?_
        intro h1 hB hs
        have ⟨h0, h1, h2, h3⟩ := hB
        refine g_iinc C dX0_remove_63 (by decide) rfl rfl ?_
        dsimp only [List.set]
        refine g_goto C dX0_remove_66 (tgt := 13) (by decide) ?_
        refine ih (i + 1) _ _ _ _ (by omega) (by omega) hB hs (fun j hj => ?_) (fun j h1 h2 => ?_) (fun j hj => ?_)
        · simp only [va_up, if_neg (show ¬ j = i - 1 by omega)]; exact g1 j hj
        · by_cases hj : j = i - 1
          · subst hj; simp only [va_up, if_pos]; rw [gi.1, gi.2.1, gi.2.2, show i - 1 + 1 = i by omega]; exact ⟨rfl, rfl, rfl⟩
          · simp only [va_up, if_neg hj]; exact g2 j h1 (by omega)
        · simp only [va_up, if_neg (show ¬ j = i - 1 by omega)]; exact g3 j (by omega)
  have ⟨h0, h1, h2, h3⟩ := hB
  refine g_aload_n C dX0_remove_0 rfl ?_
  refine g_iload_n C dX0_remove_1 rfl ?_
  refine g_V C (t_has hB hn (by omega)) dX0_remove_2 KX0_has LX0_25 IX0_has VX0_has (by decide) rfl (by assumption) rfl rfl rfl (Nat.le_of_ble_eq_true rfl) ⟨rfl, rfl⟩ ?_
  dsimp only [Option.toList, List.cons_append, List.nil_append]
  rw [if_pos (by omega)]
  refine g_if_ne C dX0_remove_5 (tgt := 9) (by decide) (by omega) (fun h5 => ?_) (fun h5 => ?_)
  · refine g_iload_n C dX0_remove_9 rfl ?_
    refine g_iconst C dX0_remove_10 ?_
    refine g_iadd C dX0_remove_11 ?_
    refine g_istore_n C dX0_remove_12 (by decide) rfl ?_
    dsimp only [List.set]
    exact loop (n - (k + 1)) (k + 1) h X Y V (by omega) (by omega) hB hs (fun _ _ => ⟨rfl, rfl, rfl⟩) (fun j h1 h2 => by omega) (fun _ _ => ⟨rfl, rfl, rfl⟩)
  · exact absurd h5 (by decide)
theorem t_copyFrom {h : ax_H} {a a2 n n2 : Nat} {X Y V X2 Y2 V2 : Nat → Int} (hB : bo_at h a X Y V n) (hB2 : bo_at h a2 X2 Y2 V2 n2) (hn : n2 ≤ 7) (hd : a + 4 ≤ a2 ∨ a2 + 4 ≤ a) : ax_Mt MX0_copyFrom [rv a, rv a2] h (fun r h' => r = none ∧ ∃ X' Y' V' : Nat → Int, bo_at h' a X' Y' V' n2 ∧ ax_sm a (a + 4) h h' ∧ (∀ i, i < n2 → X' i = X2 i ∧ Y' i = Y2 i ∧ V' i = V2 i)) := by
  have hs := ax_sm.rf (lo := a) (hi := a + 4) h
  refine ax_rv (L0 := [some (rv a), some (rv a2), none]) rfl rfl (Nat.le_of_ble_eq_true rfl) rfl ?_
  intro p9 l9 e9 R9 s9 m9 args9 below9 meth9 c9 b9 D9 dA9 Q9 C kr
  have loop : ∀ (d i : Nat) (hh : ax_H) (X1 Y1 V1 : Nat → Int), i + d = n2 → bo_at hh a X1 Y1 V1 n → ax_sm a (a + 4) h hh → (∀ j, j < i → X1 j = X2 j ∧ Y1 j = Y2 j ∧ V1 j = V2 j) → ax_G p9 l9 e9 R9 s9 m9 args9 below9 meth9 c9 b9 D9 dA9 MX0_copyFrom.2.2.1 h.length (ax_sz h) Q9 (2) ([some (rv a), some (rv a2), some (iv (i : Int))]) ([]) (hh) := by
    intro d
    induction d with
    | zero =>
      intro i hh X1 Y1 V1 hi hB hs g1
      have ⟨h0, h1, h2, h3⟩ := hB
      have ⟨k0, k1, k2, k3⟩ := hB2.sm hs (by omega)
      refine g_iload_n C dX0_copyFrom_2 rfl ?_
      refine g_aload_n C dX0_copyFrom_3 rfl ?_
      refine g_get C FX0_21 dX0_copyFrom_4 (by assumption) rfl ?_
      refine g_icmp_ge C dX0_copyFrom_7 (tgt := 52) (by decide) (by omega) (by omega) (fun h7 => ?_) (fun h7 => ?_)
      · refine g_aload_n C dX0_copyFrom_52 rfl ?_
        refine g_aload_n C dX0_copyFrom_53 rfl ?_
        refine g_get C FX0_21 dX0_copyFrom_54 (by assumption) rfl ?_
        refine g_put C FX0_21 dX0_copyFrom_57 (by assumption) rfl rfl (Nat.le_of_ble_eq_true rfl) ?_
        dsimp only [List.set]
        refine bo_s_n n2 rfl hB hs ?_
        intro h1 hB hs
        exact kr _ _ _ dX0_copyFrom_60 ⟨rfl, X1, Y1, V1, hB, hs, fun j hj => g1 j (by omega)⟩ hs.1
      · exfalso; omega
    | succ d ih =>
      intro i hh X1 Y1 V1 hi hB hs g1
      have ⟨h0, h1, h2, h3⟩ := hB
      have ⟨k0, k1, k2, k3⟩ := hB2.sm hs (by omega)
      refine g_iload_n C dX0_copyFrom_2 rfl ?_
      refine g_aload_n C dX0_copyFrom_3 rfl ?_
      refine g_get C FX0_21 dX0_copyFrom_4 (by assumption) rfl ?_
      refine g_icmp_ge C dX0_copyFrom_7 (tgt := 52) (by decide) (by omega) (by omega) (fun h7 => ?_) (fun h7 => ?_)
      · exfalso; omega
      · refine g_aload_n C dX0_copyFrom_10 rfl ?_
        refine g_get C FX0_9 dX0_copyFrom_11 (by assumption) rfl ?_
        refine g_iload_n C dX0_copyFrom_14 rfl ?_
        refine g_aload_n C dX0_copyFrom_15 rfl ?_
        refine g_get C FX0_9 dX0_copyFrom_16 (by assumption) rfl ?_
        refine g_iload_n C dX0_copyFrom_19 rfl ?_
        refine g_iald C dX0_copyFrom_20 (by assumption) rfl (by omega) (by decide) ?_
        refine g_iast C dX0_copyFrom_21 (by assumption) rfl (by omega) (by decide) ?_
        refine bo_s_X hB hs ?_
        intro h1 hB hs
        have ⟨h0, h1, h2, h3⟩ := hB
        have ⟨k0, k1, k2, k3⟩ := hB2.sm hs (by omega)
        refine g_aload_n C dX0_copyFrom_22 rfl ?_
        refine g_get C FX0_15 dX0_copyFrom_23 (by assumption) rfl ?_
        refine g_iload_n C dX0_copyFrom_26 rfl ?_
        refine g_aload_n C dX0_copyFrom_27 rfl ?_
        refine g_get C FX0_15 dX0_copyFrom_28 (by assumption) rfl ?_
        refine g_iload_n C dX0_copyFrom_31 rfl ?_
        refine g_iald C dX0_copyFrom_32 (by assumption) rfl (by omega) (by decide) ?_
        refine g_iast C dX0_copyFrom_33 (by assumption) rfl (by omega) (by decide) ?_
        refine bo_s_Y hB hs ?_
        intro h1 hB hs
        have ⟨h0, h1, h2, h3⟩ := hB
        have ⟨k0, k1, k2, k3⟩ := hB2.sm hs (by omega)
        refine g_aload_n C dX0_copyFrom_34 rfl ?_
        refine g_get C FX0_18 dX0_copyFrom_35 (by assumption) rfl ?_
        refine g_iload_n C dX0_copyFrom_38 rfl ?_
        refine g_aload_n C dX0_copyFrom_39 rfl ?_
        refine g_get C FX0_18 dX0_copyFrom_40 (by assumption) rfl ?_
        refine g_iload_n C dX0_copyFrom_43 rfl ?_
        refine g_iald C dX0_copyFrom_44 (by assumption) rfl (by omega) (by decide) ?_
        refine g_iast C dX0_copyFrom_45 (by assumption) rfl (by omega) (by decide) ?_
        refine bo_s_V hB hs ?_
        intro h1 hB hs
        have ⟨h0, h1, h2, h3⟩ := hB
        have ⟨k0, k1, k2, k3⟩ := hB2.sm hs (by omega)
        refine g_iinc C dX0_copyFrom_46 (by decide) rfl rfl ?_
        dsimp only [List.set]
        refine g_goto C dX0_copyFrom_49 (tgt := 2) (by decide) ?_
        refine ih (i + 1) _ _ _ _ (by omega) hB hs (fun j hj => ?_)
        by_cases hji : j = i
        · subst hji; simp [va_up]
        · simp only [va_up, if_neg hji]; exact g1 j (by omega)
  refine g_iconst C dX0_copyFrom_0 ?_
  refine g_istore_n C dX0_copyFrom_1 (by decide) rfl ?_
  dsimp only [List.set]
  exact loop n2 0 h X Y V (by omega) hB hs (fun j hj => by omega)
def bo_h (X Y V : Nat → Int) (u v w : Int) (k : Nat) : Int := w * V k + u * X k + v * Y k
/-- of the first k heights f: which are least, as a set of bits; the least one -/
def bo_low (f : Nat → Int) : Nat → Nat × Int
  | 0 => (0, 0)
  | k + 1 => if (bo_low f k).1 = 0 ∨ f k < (bo_low f k).2 then (2 ^ k, f k) else if f k = (bo_low f k).2 then ((bo_low f k).1 ||| 2 ^ k, (bo_low f k).2) else bo_low f k
theorem bo_low_lt (f : Nat → Int) : ∀ k, (bo_low f k).1 < 2 ^ k
  | 0 => by simp [bo_low]
  | k + 1 => by
    have := bo_low_lt f k
    have h2 : 2 ^ (k + 1) = 2 ^ k * 2 := Nat.pow_succ 2 k
    rw [bo_low]
    split
    · show 2 ^ k < _; have := Nat.two_pow_pos k; omega
    · split
      · show _ ||| 2 ^ k < _
        exact Nat.or_lt_two_pow (by omega) (by have := Nat.two_pow_pos k; omega)
      · omega
theorem bo_low_in (f : Nat → Int) (B : Int) : ∀ k, (∀ j, j < k → -B ≤ f j ∧ f j ≤ B) → 0 ≤ B → -B ≤ (bo_low f k).2 ∧ (bo_low f k).2 ≤ B
  | 0, _, hB => by simp [bo_low]; omega
  | k + 1, hf, hB => by
    have := bo_low_in f B k (fun j hj => hf j (by omega)) hB
    have := hf k (by omega)
    rw [bo_low]
    split
    · assumption
    · split <;> assumption
theorem bo_h_in {X Y V : Nat → Int} {n : Nat} (ho : bo_ok X Y V n) {u v w : Int} (hu : -1000000 ≤ u ∧ u ≤ 1000000) (hv : -1000000 ≤ v ∧ v ≤ 1000000) (hw : -1000000 ≤ w ∧ w ≤ 1000000) : ∀ j, j < n → -74000000 ≤ bo_h X Y V u v w j ∧ bo_h X Y V u v w j ≤ 74000000 := fun j hj => by
  obtain ⟨a1, a2, a3⟩ := ho.2 j hj
  have b1 := mb (U := 1000000) (M := 50) hw a3
  have b2 := mb (U := 1000000) (M := 12) hu a1
  have b3 := mb (U := 1000000) (M := 12) hv a2
  unfold bo_h
  omega
theorem t_lowest {h : ax_H} {a n : Nat} {X Y V : Nat → Int} (hB : bo_at h a X Y V n) (ho : bo_ok X Y V n) {u v w : Int} (hu : -1000000 ≤ u ∧ u ≤ 1000000) (hv : -1000000 ≤ v ∧ v ≤ 1000000) (hw : -1000000 ≤ w ∧ w ≤ 1000000) : ax_Met MX0_lowest [rv a, iv u, iv v, iv w] h (some (iv ((bo_low (bo_h X Y V u v w) n).1 : Int))) h := by
  obtain ⟨h0, h1, h2, h3⟩ := hB
  refine ax_mi (L0 := [some (rv a), some (iv u), some (iv v), some (iv w), none, none, none, none]) rfl rfl (Nat.le_refl _) (Nat.le_refl _) (Nat.le_of_ble_eq_true rfl) rfl ?_
  intro p9 l9 e9 R9 s9 m9 args9 below9 meth9 c9 b9 D9 dA9 Q9 C kr
  have hn := ho.1
  generalize hf : bo_h X Y V u v w = f at *
  have hfk : ∀ k, f k = w * V k + u * X k + v * Y k := fun k => by rw [← hf]; rfl
  have hin := bo_h_in ho hu hv hw
  rw [hf] at hin
  have loop : ∀ (d k : Nat) (x7 : Option ax_V), k + d = n → ax_G p9 l9 e9 R9 s9 m9 args9 below9 meth9 c9 b9 D9 dA9 MX0_lowest.2.2.1 h.length (ax_sz h) Q9 (9) ([some (rv a), some (iv u), some (iv v), some (iv w), some (iv ((bo_low f k).1 : Int)), some (iv (bo_low f k).2), some (iv (k : Int)), x7]) ([]) (h) := by
    intro d
    induction d with
    | zero =>
      intro k x7 hk
      have e : k = n := by omega
      subst e
      refine g_iload C dX0_lowest_9 rfl ?_
      refine g_aload_n C dX0_lowest_11 rfl ?_
      refine g_get C FX0_21 dX0_lowest_12 (by assumption) rfl ?_
      refine g_icmp_ge C dX0_lowest_15 (tgt := 96) (by decide) (by omega) (by omega) (fun h15 => ?_) (fun h15 => ?_)
      · refine g_iload C dX0_lowest_96 rfl ?_
        exact kr _ _ _ dX0_lowest_98 rfl
      · exfalso; omega
    | succ d ih =>
      intro k x7 hk
      have b1 := bo_low_in f 74000000 k (fun j hj => hin j (by omega)) (by omega)
      have b2 := hin k (by omega)
      have b3 := bo_low_lt f k
      have b4 : 2 ^ k ≤ 2 ^ 7 := Nat.pow_le_pow_right (by decide) (by omega)
      refine g_iload C dX0_lowest_9 rfl ?_
      refine g_aload_n C dX0_lowest_11 rfl ?_
      refine g_get C FX0_21 dX0_lowest_12 (by assumption) rfl ?_
      refine g_icmp_ge C dX0_lowest_15 (tgt := 96) (by decide) (by omega) (by omega) (fun h15 => ?_) (fun h15 => ?_)
      · exfalso; omega
      · refine g_iload_n C dX0_lowest_18 rfl ?_
        refine g_aload_n C dX0_lowest_19 rfl ?_
        refine g_get C FX0_18 dX0_lowest_20 (by assumption) rfl ?_
        refine g_iload C dX0_lowest_23 rfl ?_
        refine g_iald C dX0_lowest_25 (by assumption) rfl (by omega) (by decide) ?_
        refine g_imul C dX0_lowest_26 ?_
        refine g_iload_n C dX0_lowest_27 rfl ?_
        refine g_aload_n C dX0_lowest_28 rfl ?_
        refine g_get C FX0_9 dX0_lowest_29 (by assumption) rfl ?_
        refine g_iload C dX0_lowest_32 rfl ?_
        refine g_iald C dX0_lowest_34 (by assumption) rfl (by omega) (by decide) ?_
        refine g_imul C dX0_lowest_35 ?_
        refine g_iadd C dX0_lowest_36 ?_
        refine g_iload_n C dX0_lowest_37 rfl ?_
        refine g_aload_n C dX0_lowest_38 rfl ?_
        refine g_get C FX0_15 dX0_lowest_39 (by assumption) rfl ?_
        refine g_iload C dX0_lowest_42 rfl ?_
        refine g_iald C dX0_lowest_44 (by assumption) rfl (by omega) (by decide) ?_
        refine g_imul C dX0_lowest_45 ?_
        refine g_iadd C dX0_lowest_46 ?_
        rw [← hfk k]
        refine g_istore C dX0_lowest_47 (by decide) rfl ?_
        dsimp only [List.set]
        refine g_iload C dX0_lowest_49 rfl ?_
        refine g_if_eq C dX0_lowest_51 (tgt := 61) (by decide) (by omega) (fun h51 => ?_) (fun h51 => ?_)
        · have e : bo_low f (k + 1) = (2 ^ k, f k) := by rw [bo_low, if_pos (Or.inl (by omega))]
          refine g_iload C dX0_lowest_61 rfl ?_
          refine g_istore C dX0_lowest_63 (by decide) rfl ?_
          dsimp only [List.set]
          refine g_iconst C dX0_lowest_65 ?_
          refine g_iload C dX0_lowest_66 rfl ?_
          refine g_ishl C dX0_lowest_68 (by omega) ?_
          refine g_top (ax_1p k) ?_
          refine g_istore C dX0_lowest_69 (by decide) rfl ?_
          dsimp only [List.set]
          refine g_goto C dX0_lowest_71 (tgt := 90) (by decide) ?_
          refine g_iinc C dX0_lowest_90 (by decide) rfl rfl ?_
          dsimp only [List.set]
          refine g_goto C dX0_lowest_93 (tgt := 9) (by decide) ?_
          have q := ih (k + 1) (some (iv (f k))) (by omega)
          rw [e] at q
          exact q
        · refine g_iload C dX0_lowest_54 rfl ?_
          refine g_iload C dX0_lowest_56 rfl ?_
          refine g_icmp_ge C dX0_lowest_58 (tgt := 74) (by decide) (by omega) (by omega) (fun h58 => ?_) (fun h58 => ?_)
          · have e0 : ¬ ((bo_low f k).1 = 0 ∨ f k < (bo_low f k).2) := by omega
            refine g_iload C dX0_lowest_74 rfl ?_
            refine g_iload C dX0_lowest_76 rfl ?_
            refine g_icmp_ne C dX0_lowest_78 (tgt := 90) (by decide) (by omega) (by omega) (fun h78 => ?_) (fun h78 => ?_)
            · have e : bo_low f (k + 1) = bo_low f k := by rw [bo_low, if_neg e0, if_neg h78]
              refine g_iinc C dX0_lowest_90 (by decide) rfl rfl ?_
              dsimp only [List.set]
              refine g_goto C dX0_lowest_93 (tgt := 9) (by decide) ?_
              have q := ih (k + 1) (some (iv (f k))) (by omega)
              rw [e] at q
              exact q
            · have e : bo_low f (k + 1) = ((bo_low f k).1 ||| 2 ^ k, (bo_low f k).2) := by rw [bo_low, if_neg e0, if_pos h78]
              refine g_iload C dX0_lowest_81 rfl ?_
              refine g_iconst C dX0_lowest_83 ?_
              refine g_iload C dX0_lowest_84 rfl ?_
              refine g_ishl C dX0_lowest_86 (by omega) ?_
              refine g_top (ax_1p k) ?_
              refine g_ior C dX0_lowest_87 (ax_orN _ _) ?_
              refine g_istore C dX0_lowest_88 (by decide) rfl ?_
              dsimp only [List.set]
              refine g_iinc C dX0_lowest_90 (by decide) rfl rfl ?_
              dsimp only [List.set]
              refine g_goto C dX0_lowest_93 (tgt := 9) (by decide) ?_
              have q := ih (k + 1) (some (iv (f k))) (by omega)
              rw [e] at q
              exact q
          · have e : bo_low f (k + 1) = (2 ^ k, f k) := by rw [bo_low, if_pos (Or.inr (by omega))]
            refine g_iload C dX0_lowest_61 rfl ?_
            refine g_istore C dX0_lowest_63 (by decide) rfl ?_
            dsimp only [List.set]
            refine g_iconst C dX0_lowest_65 ?_
            refine g_iload C dX0_lowest_66 rfl ?_
            refine g_ishl C dX0_lowest_68 (by omega) ?_
            refine g_top (ax_1p k) ?_
            refine g_istore C dX0_lowest_69 (by decide) rfl ?_
            dsimp only [List.set]
            refine g_goto C dX0_lowest_71 (tgt := 90) (by decide) ?_
            refine g_iinc C dX0_lowest_90 (by decide) rfl rfl ?_
            dsimp only [List.set]
            refine g_goto C dX0_lowest_93 (tgt := 9) (by decide) ?_
            have q := ih (k + 1) (some (iv (f k))) (by omega)
            rw [e] at q
            exact q
  refine g_iconst C dX0_lowest_0 ?_
  refine g_istore C dX0_lowest_1 (by decide) rfl ?_
  dsimp only [List.set]
  refine g_iconst C dX0_lowest_3 ?_
  refine g_istore C dX0_lowest_4 (by decide) rfl ?_
  dsimp only [List.set]
  refine g_iconst C dX0_lowest_6 ?_
  refine g_istore C dX0_lowest_7 (by decide) rfl ?_
  dsimp only [List.set]
  exact loop n 0 none (by omega)
