theorem bss_succ (X Y : Nat → Int) (n T : Nat) (X2 Y2 : Nat → Int) (n2 T2 : Nat) (x y : Int) : bss X Y (n + 1) T X2 Y2 n2 T2 x y ↔ bss X Y n T X2 Y2 n2 T2 x y ∨ (bt T n ∧ ∃ j, j < n2 ∧ bt T2 j ∧ X n + X2 j = x ∧ Y n + Y2 j = y) := by
  constructor
  · rintro ⟨k, h1, h2, h3⟩
    by_cases q : k = n
    · subst q; exact Or.inr ⟨h2, h3⟩
    · exact Or.inl ⟨k, by omega, h2, h3⟩
  · rintro (⟨k, h1, h2, h3⟩ | ⟨h2, h3⟩)
    · exact ⟨k, by omega, h2, h3⟩
    · exact ⟨n, by omega, h2, h3⟩
theorem t_gatherSums {h : ax_H} {a aa ab n n2 T T2 : Nat} {X Y V X2 Y2 V2 : Nat → Int} (hR : rg_any h a) (hA : bo_at h aa X Y V n) (hB : bo_at h ab X2 Y2 V2 n2) (ho : bo_ok X Y V n) (ho2 : bo_ok X2 Y2 V2 n2) (hT : T < 2147483648) (hT2 : T2 < 2147483648) (hd : aa + 4 ≤ a ∨ a + 4 ≤ aa) (hd2 : ab + 4 ≤ a ∨ a + 4 ≤ ab) : ax_Mt MX3_gatherSums [rv a, rv aa, iv (T : Int), rv ab, iv (T2 : Int)] h (fun v h' => v = some (rv a) ∧ rg_of h' a (bss X Y n T X2 Y2 n2 T2) ∧ ax_sm a (a + 4) h h') := by
  have hm := ax_sm.rf (lo := a) (hi := a + 4) h
  have hn := ho.1
  have hn2 := ho2.1
  refine ax_ra (L0 := [some (rv a), some (rv aa), some (iv (T : Int)), some (rv ab), some (iv (T2 : Int)), none, none]) rfl rfl (Or.inl ⟨_, rfl⟩) (Nat.le_of_ble_eq_true rfl) rfl ?_
  intro p9 l9 e9 R9 s9 m9 args9 below9 meth9 c9 b9 D9 dA9 Q9 C kr
  have inner : ∀ (i : Nat), i < n → (∀ hh : ax_H, rg_pre hh a (bss X Y (i + 1) T X2 Y2 n2 T2) (7 * (i + 1)) → ax_sm a (a + 4) h hh → ax_G p9 l9 e9 R9 s9 m9 args9 below9 meth9 c9 b9 D9 dA9 MX3_gatherSums.2.2.1 h.length (ax_sz h) Q9 (8) ([some (rv a), some (rv aa), some (iv (T : Int)), some (rv ab), some (iv (T2 : Int)), some (iv ((i + 1 : Nat) : Int)), some (iv (n2 : Int))]) ([]) (hh)) → ∀ (d j : Nat) (hh : ax_H), j + d = n2 → rg_pre hh a (fun x y => bss X Y i T X2 Y2 n2 T2 x y ∨ (bt T i ∧ ∃ j', j' < j ∧ bt T2 j' ∧ X i + X2 j' = x ∧ Y i + Y2 j' = y)) (7 * i + j) → ax_sm a (a + 4) h hh → ax_G p9 l9 e9 R9 s9 m9 args9 below9 meth9 c9 b9 D9 dA9 MX3_gatherSums.2.2.1 h.length (ax_sz h) Q9 (20) ([some (rv a), some (rv aa), some (iv (T : Int)), some (rv ab), some (iv (T2 : Int)), some (iv (i : Int)), some (iv (j : Int))]) ([]) (hh) := by
    intro i hi K d
    have hbi := ho.2 i hi
    have hbit := Nat.mod_lt (T / 2 ^ i) (show 2 > 0 by decide)
    induction d with
    | zero =>
      intro j hh hj hP hm
      obtain ⟨fs, hf⟩ := hP.ob
      have ⟨k0, k1, k2, k3⟩ := hA.sm hm hd
      have ⟨l0, l1, l2, l3⟩ := hB.sm hm hd2
      have e9 : j = n2 := by omega
      subst e9
      refine g_iload C dX3_gatherSums_20 rfl ?_
      refine g_aload_n C dX3_gatherSums_22 rfl ?_
      refine g_get C FX3_25 dX3_gatherSums_23 (by assumption) rfl ?_
      refine g_icmp_ge C dX3_gatherSums_26 (tgt := 88) (by decide) (by omega) (by omega) (fun h26 => ?_) (fun h26 => ?_)
      · refine g_iinc C dX3_gatherSums_88 (by decide) rfl rfl ?_
        dsimp only [List.set]
        refine g_goto C dX3_gatherSums_91 (tgt := 8) (by decide) ?_
        exact K hh (hP.eqv (fun x y => by rw [bss_succ]) (by omega)) hm
      · exfalso; omega
    | succ d ih =>
      intro j hh hj hP hm
      obtain ⟨fs, hf⟩ := hP.ob
      have ⟨k0, k1, k2, k3⟩ := hA.sm hm hd
      have ⟨l0, l1, l2, l3⟩ := hB.sm hm hd2
      have hbj := ho2.2 j (by omega)
      have hbit2 := Nat.mod_lt (T2 / 2 ^ j) (show 2 > 0 by decide)
      refine g_iload C dX3_gatherSums_20 rfl ?_
      refine g_aload_n C dX3_gatherSums_22 rfl ?_
      refine g_get C FX3_25 dX3_gatherSums_23 (by assumption) rfl ?_
      refine g_icmp_ge C dX3_gatherSums_26 (tgt := 88) (by decide) (by omega) (by omega) (fun h26 => ?_) (fun h26 => ?_)
      · exfalso; omega
      · refine g_iload_n C dX3_gatherSums_29 rfl ?_
        refine g_iload C dX3_gatherSums_30 rfl ?_
        refine g_ishr C dX3_gatherSums_32 (by omega) (by omega) ?_
        refine g_iconst C dX3_gatherSums_33 ?_
        refine g_iand C dX3_gatherSums_34 ax_bit ?_
        refine g_if_eq C dX3_gatherSums_35 (tgt := 82) (by decide) (by omega) (fun h35 => ?_) (fun h35 => ?_)
        · have hP := hP.eqv (bd2 := 7 * i + (j + 1)) (S2 := fun x y => bss X Y i T X2 Y2 n2 T2 x y ∨ (bt T i ∧ ∃ j', j' < j + 1 ∧ bt T2 j' ∧ X i + X2 j' = x ∧ Y i + Y2 j' = y)) (fun x y => ⟨fun q => q.elim Or.inl (fun ⟨z1, j', z2, z3⟩ => Or.inr ⟨z1, j', by omega, z3⟩), fun q => q.elim Or.inl (fun ⟨z1, _⟩ => by have : T / 2 ^ i % 2 = 1 := z1; omega)⟩) (by omega)
          refine g_iinc C dX3_gatherSums_82 (by decide) rfl rfl ?_
          dsimp only [List.set]
          refine g_goto C dX3_gatherSums_85 (tgt := 20) (by decide) ?_
          exact ih (j + 1) _ (by omega) hP hm
        · refine g_iload C dX3_gatherSums_38 rfl ?_
          refine g_iload C dX3_gatherSums_40 rfl ?_
          refine g_ishr C dX3_gatherSums_42 (by omega) (by omega) ?_
          refine g_iconst C dX3_gatherSums_43 ?_
          refine g_iand C dX3_gatherSums_44 ax_bit ?_
          refine g_if_eq C dX3_gatherSums_45 (tgt := 82) (by decide) (by omega) (fun h45 => ?_) (fun h45 => ?_)
          · have hP := hP.eqv (bd2 := 7 * i + (j + 1)) (S2 := fun x y => bss X Y i T X2 Y2 n2 T2 x y ∨ (bt T i ∧ ∃ j', j' < j + 1 ∧ bt T2 j' ∧ X i + X2 j' = x ∧ Y i + Y2 j' = y)) (fun x y => ⟨fun q => q.elim Or.inl (fun ⟨z1, j', z2, z3⟩ => Or.inr ⟨z1, j', by omega, z3⟩), fun q => q.elim Or.inl (fun ⟨z1, j', z2, z3⟩ => Or.inr ⟨z1, j', by
              by_cases c : j' = j
              · subst c; have : T2 / 2 ^ j' % 2 = 1 := z3.1; omega
              · omega, z3⟩)⟩) (by omega)
            refine g_iinc C dX3_gatherSums_82 (by decide) rfl rfl ?_
            dsimp only [List.set]
            refine g_goto C dX3_gatherSums_85 (tgt := 20) (by decide) ?_
            exact ih (j + 1) _ (by omega) hP hm
          · refine g_aload_n C dX3_gatherSums_48 rfl ?_
            refine g_aload_n C dX3_gatherSums_49 rfl ?_
            refine g_get C FX3_28 dX3_gatherSums_50 (by assumption) rfl ?_
            refine g_iload C dX3_gatherSums_53 rfl ?_
            refine g_iald C dX3_gatherSums_55 (by assumption) rfl (by omega) (by decide) ?_
            refine g_aload_n C dX3_gatherSums_56 rfl ?_
            refine g_get C FX3_28 dX3_gatherSums_57 (by assumption) rfl ?_
            refine g_iload C dX3_gatherSums_60 rfl ?_
            refine g_iald C dX3_gatherSums_62 (by assumption) rfl (by omega) (by decide) ?_
            refine g_iadd C dX3_gatherSums_63 ?_
            refine g_aload_n C dX3_gatherSums_64 rfl ?_
            refine g_get C FX3_31 dX3_gatherSums_65 (by assumption) rfl ?_
            refine g_iload C dX3_gatherSums_68 rfl ?_
            refine g_iald C dX3_gatherSums_70 (by assumption) rfl (by omega) (by decide) ?_
            refine g_aload_n C dX3_gatherSums_71 rfl ?_
            refine g_get C FX3_31 dX3_gatherSums_72 (by assumption) rfl ?_
            refine g_iload C dX3_gatherSums_75 rfl ?_
            refine g_iald C dX3_gatherSums_77 (by assumption) rfl (by omega) (by decide) ?_
            refine g_iadd C dX3_gatherSums_78 ?_
            refine g_RV C (t_inc hP (by omega) (show 0 ≤ X i + X2 j ∧ X i + X2 j ≤ 84 by omega) (show 0 ≤ Y i + Y2 j ∧ Y i + Y2 j ≤ 84 by omega)) dX3_gatherSums_79 KX3_include LX3_34 IX3_include VX3_include (by decide) rfl (by assumption) rfl rfl rfl (Nat.le_of_ble_eq_true rfl) ?_
            intro r1 h1 hP1 hz1
            obtain ⟨rfl, hP, hm1⟩ := hP1
            have hm := hm.tr hm1
            have b1 : bt T i := show T / 2 ^ i % 2 = 1 by omega
            have b2 : bt T2 j := show T2 / 2 ^ j % 2 = 1 by omega
            have hP := hP.eqv (bd2 := 7 * i + (j + 1)) (S2 := fun x y => bss X Y i T X2 Y2 n2 T2 x y ∨ (bt T i ∧ ∃ j', j' < j + 1 ∧ bt T2 j' ∧ X i + X2 j' = x ∧ Y i + Y2 j' = y)) (fun x y => ⟨fun q => q.elim (fun q => q.elim Or.inl (fun ⟨z1, j', z2, z3⟩ => Or.inr ⟨z1, j', by omega, z3⟩)) (fun z => Or.inr ⟨b1, j, by omega, b2, z.1.symm, z.2.symm⟩), fun q => q.elim (fun q => Or.inl (Or.inl q)) (fun ⟨z1, j', z2, z3⟩ => by
              by_cases c : j' = j
              · subst c; exact Or.inr ⟨z3.2.1.symm, z3.2.2.symm⟩
              · exact Or.inl (Or.inr ⟨z1, j', by omega, z3⟩))⟩) (by omega)
            dsimp only [Option.toList, List.cons_append, List.nil_append]
            refine g_iinc C dX3_gatherSums_82 (by decide) rfl rfl ?_
            dsimp only [List.set]
            refine g_goto C dX3_gatherSums_85 (tgt := 20) (by decide) ?_
            exact ih (j + 1) _ (by omega) hP hm
  have outer : ∀ (d i : Nat) (hh : ax_H) (x6 : Option ax_V), i + d = n → rg_pre hh a (bss X Y i T X2 Y2 n2 T2) (7 * i) → ax_sm a (a + 4) h hh → ax_G p9 l9 e9 R9 s9 m9 args9 below9 meth9 c9 b9 D9 dA9 MX3_gatherSums.2.2.1 h.length (ax_sz h) Q9 (8) ([some (rv a), some (rv aa), some (iv (T : Int)), some (rv ab), some (iv (T2 : Int)), some (iv (i : Int)), x6]) ([]) (hh) := by
    intro d
    induction d with
    | zero =>
      intro i hh x6 hi hP hm
      obtain ⟨fs, hf⟩ := hP.ob
      have ⟨k0, k1, k2, k3⟩ := hA.sm hm hd
      have e9 : i = n := by omega
      subst e9
      refine g_iload C dX3_gatherSums_8 rfl ?_
      refine g_aload_n C dX3_gatherSums_10 rfl ?_
      refine g_get C FX3_25 dX3_gatherSums_11 (by assumption) rfl ?_
      refine g_icmp_ge C dX3_gatherSums_14 (tgt := 94) (by decide) (by omega) (by omega) (fun h14 => ?_) (fun h14 => ?_)
      · refine g_aload_n C dX3_gatherSums_94 rfl ?_
        refine g_RV C (t_fc hP (by omega)) dX3_gatherSums_95 KX3_findCorners LX3_38 IX3_findCorners VX3_findCorners (by decide) rfl (by assumption) rfl rfl rfl (Nat.le_of_ble_eq_true rfl) ?_
        intro r1 h1 hP1 hz1
        obtain ⟨rfl, hR, hm1⟩ := hP1
        dsimp only [Option.toList, List.cons_append, List.nil_append]
        exact kr _ _ _ _ dX3_gatherSums_98 ⟨rfl, hR, hm.tr hm1⟩ (hm.tr hm1).1
      · exfalso; omega
    | succ d ih =>
      intro i hh x6 hi hP hm
      obtain ⟨fs, hf⟩ := hP.ob
      have ⟨k0, k1, k2, k3⟩ := hA.sm hm hd
      refine g_iload C dX3_gatherSums_8 rfl ?_
      refine g_aload_n C dX3_gatherSums_10 rfl ?_
      refine g_get C FX3_25 dX3_gatherSums_11 (by assumption) rfl ?_
      refine g_icmp_ge C dX3_gatherSums_14 (tgt := 94) (by decide) (by omega) (by omega) (fun h14 => ?_) (fun h14 => ?_)
      · exfalso; omega
      · refine g_iconst C dX3_gatherSums_17 ?_
        refine g_istore C dX3_gatherSums_18 (by decide) rfl ?_
        dsimp only [List.set]
        exact inner i (by omega) (fun hh q1 q2 => ih (i + 1) hh _ (by omega) q1 q2) n2 0 hh (by omega) (hP.eqv (fun x y => ⟨Or.inl, fun q => q.elim id (fun ⟨_, j', z, _⟩ => by omega)⟩) (by omega)) hm
  obtain ⟨xs, ys, sz, rd, cn, hR⟩ := hR
  have ⟨h0, h1, h2, h3⟩ := hR
  refine g_aload_n C dX3_gatherSums_0 rfl ?_
  refine g_iconst C dX3_gatherSums_1 ?_
  refine g_put C FX3_21 dX3_gatherSums_2 (by assumption) rfl rfl (Nat.le_of_ble_eq_true rfl) ?_
  dsimp only [List.set]
  refine rg_s_sz 0 rfl hR hm ?_
  intro h9 hR hm
  refine g_iconst C dX3_gatherSums_5 ?_
  refine g_istore C dX3_gatherSums_6 (by decide) rfl ?_
  dsimp only [List.set]
  exact outer n 0 _ none (by omega) ((rg_pre0 hR).eqv (fun x y => ⟨fun q => q.elim, fun ⟨k, hk, _⟩ => by omega⟩) (Nat.le_refl _)) hm
/-! the fan -/
def fsm (X : Nat → Int) (T : Nat) : Nat → Int
  | 0 => 0
  | k + 1 => fsm X T k + ((T / 2 ^ k % 2 : Nat) : Int) * X k
theorem fsm_in {X : Nat → Int} {T : Nat} : ∀ k, (∀ j, j < k → 0 ≤ X j ∧ X j ≤ 12) → 0 ≤ fsm X T k ∧ fsm X T k ≤ 12 * k
  | 0, _ => by simp [fsm]
  | k + 1, hX => by
    have a := fsm_in (X := X) (T := T) k (fun j hj => hX j (by omega))
    have b := hX k (by omega)
    have hb := Nat.mod_lt (T / 2 ^ k) (show 2 > 0 by decide)
    rw [fsm]
    have c : T / 2 ^ k % 2 = 0 ∨ T / 2 ^ k % 2 = 1 := by omega
    rcases c with c | c
    · rw [c, Int.natCast_zero, Int.zero_mul]; omega
    · rw [c, Int.natCast_one, Int.one_mul]; omega
def fan (X Y : Nat → Int) (n t : Nat) (x y : Int) : Prop := ∃ T, T < t ∧ fsm X T n = x ∧ fsm Y T n = y
theorem t_gatherFan {h : ax_H} {a ab n : Nat} {X Y V : Nat → Int} (hR : rg_any h a) (hB : bo_at h ab X Y V n) (ho : bo_ok X Y V n) (hd : ab + 4 ≤ a ∨ a + 4 ≤ ab) : ax_Mt MX3_gatherFan [rv a, rv ab] h (fun v h' => v = some (rv a) ∧ rg_of h' a (fan X Y n (2 ^ n)) ∧ ax_sm a (a + 4) h h') := by
  have hm := ax_sm.rf (lo := a) (hi := a + 4) h
  have hn := ho.1
  have hp := Nat.two_pow_pos n
  have hp7 : 2 ^ n ≤ 2 ^ 7 := Nat.pow_le_pow_right (by decide) hn
  have hp8 : 2 ^ 7 = 128 := rfl
  refine ax_ra (L0 := [some (rv a), some (rv ab), none, none, none, none]) rfl rfl (Or.inl ⟨_, rfl⟩) (Nat.le_of_ble_eq_true rfl) rfl ?_
  intro p9 l9 e9 R9 s9 m9 args9 below9 meth9 c9 b9 D9 dA9 Q9 C kr
  have inner : ∀ (T : Nat) (hh : ax_H), T < 2 ^ n → bo_at hh ab X Y V n → ax_G p9 l9 e9 R9 s9 m9 args9 below9 meth9 c9 b9 D9 dA9 MX3_gatherFan.2.2.1 h.length (ax_sz h) Q9 (74) ([some (rv a), some (rv ab), some (iv (T : Int)), some (iv (fsm X T n)), some (iv (fsm Y T n)), some (iv (n : Int))]) ([]) (hh) → ∀ (d k : Nat), k + d = n → ax_G p9 l9 e9 R9 s9 m9 args9 below9 meth9 c9 b9 D9 dA9 MX3_gatherFan.2.2.1 h.length (ax_sz h) Q9 (23) ([some (rv a), some (rv ab), some (iv (T : Int)), some (iv (fsm X T k)), some (iv (fsm Y T k)), some (iv (k : Int))]) ([]) (hh) := by
    intro T hh hT hB K d
    have ⟨k0, k1, k2, k3⟩ := hB
    induction d with
    | zero =>
      intro k hk
      have e9 : k = n := by omega
      subst e9
      refine g_iload C dX3_gatherFan_23 rfl ?_
      refine g_aload_n C dX3_gatherFan_25 rfl ?_
      refine g_get C FX3_25 dX3_gatherFan_26 (by assumption) rfl ?_
      refine g_icmp_ge C dX3_gatherFan_29 (tgt := 74) (by decide) (by omega) (by omega) (fun h29 => ?_) (fun h29 => ?_)
      · exact K
      · exfalso; omega
    | succ d ih =>
      intro k hk
      refine g_iload C dX3_gatherFan_23 rfl ?_
      refine g_aload_n C dX3_gatherFan_25 rfl ?_
      refine g_get C FX3_25 dX3_gatherFan_26 (by assumption) rfl ?_
      refine g_icmp_ge C dX3_gatherFan_29 (tgt := 74) (by decide) (by omega) (by omega) (fun h29 => ?_) (fun h29 => ?_)
      · exfalso; omega
      · refine g_iload_n C dX3_gatherFan_32 rfl ?_
        refine g_iload_n C dX3_gatherFan_33 rfl ?_
        refine g_iload C dX3_gatherFan_34 rfl ?_
        refine g_ishr C dX3_gatherFan_36 (by omega) (by omega) ?_
        refine g_iconst C dX3_gatherFan_37 ?_
        refine g_iand C dX3_gatherFan_38 ax_bit ?_
        refine g_aload_n C dX3_gatherFan_39 rfl ?_
        refine g_get C FX3_28 dX3_gatherFan_40 (by assumption) rfl ?_
        refine g_iload C dX3_gatherFan_43 rfl ?_
        refine g_iald C dX3_gatherFan_45 (by assumption) rfl (by omega) (by decide) ?_
        refine g_imul C dX3_gatherFan_46 ?_
        refine g_iadd C dX3_gatherFan_47 ?_
        refine g_istore_n C dX3_gatherFan_48 (by decide) rfl ?_
        dsimp only [List.set]
        refine g_iload C dX3_gatherFan_49 rfl ?_
        refine g_iload_n C dX3_gatherFan_51 rfl ?_
        refine g_iload C dX3_gatherFan_52 rfl ?_
        refine g_ishr C dX3_gatherFan_54 (by omega) (by omega) ?_
        refine g_iconst C dX3_gatherFan_55 ?_
        refine g_iand C dX3_gatherFan_56 ax_bit ?_
        refine g_aload_n C dX3_gatherFan_57 rfl ?_
        refine g_get C FX3_31 dX3_gatherFan_58 (by assumption) rfl ?_
        refine g_iload C dX3_gatherFan_61 rfl ?_
        refine g_iald C dX3_gatherFan_63 (by assumption) rfl (by omega) (by decide) ?_
        refine g_imul C dX3_gatherFan_64 ?_
        refine g_iadd C dX3_gatherFan_65 ?_
        refine g_istore C dX3_gatherFan_66 (by decide) rfl ?_
        dsimp only [List.set]
        refine g_iinc C dX3_gatherFan_68 (by decide) rfl rfl ?_
        dsimp only [List.set]
        refine g_goto C dX3_gatherFan_71 (tgt := 23) (by decide) ?_
        exact ih (k + 1) (by omega)
  have outer : ∀ (d T : Nat) (hh : ax_H) (x3 x4 x5 : Option ax_V), T + d = 2 ^ n → rg_pre hh a (fan X Y n T) T → ax_sm a (a + 4) h hh → ax_G p9 l9 e9 R9 s9 m9 args9 below9 meth9 c9 b9 D9 dA9 MX3_gatherFan.2.2.1 h.length (ax_sz h) Q9 (7) ([some (rv a), some (rv ab), some (iv (T : Int)), x3, x4, x5]) ([]) (hh) := by
    intro d
    induction d with
    | zero =>
      intro T hh x3 x4 x5 hT hP hm
      obtain ⟨fs, hf⟩ := hP.ob
      have hB := hB.sm hm hd
      have ⟨k0, k1, k2, k3⟩ := hB
      have e9 : T = 2 ^ n := by omega
      subst e9
      refine g_iload_n C dX3_gatherFan_7 rfl ?_
      refine g_aload_n C dX3_gatherFan_8 rfl ?_
      refine g_V C (t_all hB hn) dX3_gatherFan_9 KX0_all LX3_42 IX0_all VX0_all (by decide) rfl (by assumption) rfl rfl rfl (Nat.le_of_ble_eq_true rfl) ⟨rfl, rfl⟩ ?_
      dsimp only [Option.toList, List.cons_append, List.nil_append]
      refine g_icmp_gt C dX3_gatherFan_12 (tgt := 87) (by decide) (by omega) (by omega) (fun h12 => ?_) (fun h12 => ?_)
      · refine g_aload_n C dX3_gatherFan_87 rfl ?_
        refine g_RV C (t_fc hP (by omega)) dX3_gatherFan_88 KX3_findCorners LX3_38 IX3_findCorners VX3_findCorners (by decide) rfl (by assumption) rfl rfl rfl (Nat.le_of_ble_eq_true rfl) ?_
        intro r1 h1 hP1 hz1
        obtain ⟨rfl, hR, hm1⟩ := hP1
        dsimp only [Option.toList, List.cons_append, List.nil_append]
        exact kr _ _ _ _ dX3_gatherFan_91 ⟨rfl, hR, hm.tr hm1⟩ (hm.tr hm1).1
      · exfalso; omega
    | succ d ih =>
      intro T hh x3 x4 x5 hT hP hm
      obtain ⟨fs, hf⟩ := hP.ob
      have hB9 := hB.sm hm hd
      have ⟨k0, k1, k2, k3⟩ := hB9
      have f1 := fsm_in (X := X) (T := T) n (fun j hj => (ho.2 j hj).1)
      have f2 := fsm_in (X := Y) (T := T) n (fun j hj => (ho.2 j hj).2.1)
      refine g_iload_n C dX3_gatherFan_7 rfl ?_
      refine g_aload_n C dX3_gatherFan_8 rfl ?_
      refine g_V C (t_all hB9 hn) dX3_gatherFan_9 KX0_all LX3_42 IX0_all VX0_all (by decide) rfl (by assumption) rfl rfl rfl (Nat.le_of_ble_eq_true rfl) ⟨rfl, rfl⟩ ?_
      dsimp only [Option.toList, List.cons_append, List.nil_append]
      refine g_icmp_gt C dX3_gatherFan_12 (tgt := 87) (by decide) (by omega) (by omega) (fun h12 => ?_) (fun h12 => ?_)
      · exfalso; omega
      · refine g_iconst C dX3_gatherFan_15 ?_
        refine g_istore_n C dX3_gatherFan_16 (by decide) rfl ?_
        dsimp only [List.set]
        refine g_iconst C dX3_gatherFan_17 ?_
        refine g_istore C dX3_gatherFan_18 (by decide) rfl ?_
        dsimp only [List.set]
        refine g_iconst C dX3_gatherFan_20 ?_
        refine g_istore C dX3_gatherFan_21 (by decide) rfl ?_
        dsimp only [List.set]
        refine inner T hh (by omega) hB9 ?_ n 0 (by omega)
        refine g_aload_n C dX3_gatherFan_74 rfl ?_
        refine g_iload_n C dX3_gatherFan_75 rfl ?_
        refine g_iload C dX3_gatherFan_76 rfl ?_
        refine g_RV C (t_inc hP (by omega) (show 0 ≤ fsm X T n ∧ fsm X T n ≤ 84 by omega) (show 0 ≤ fsm Y T n ∧ fsm Y T n ≤ 84 by omega)) dX3_gatherFan_78 KX3_include LX3_34 IX3_include VX3_include (by decide) rfl hf rfl rfl rfl (by decide) ?_
        rintro r1 h1 ⟨rfl, hP, hm1⟩ hz1
        dsimp only [Option.toList, List.cons_append, List.nil_append]
        refine g_iinc C dX3_gatherFan_81 (by decide) rfl rfl ?_
        dsimp only [List.set]
        refine g_goto C dX3_gatherFan_84 (tgt := 7) (by decide) ?_
        refine ih (T + 1) _ _ _ _ (by omega) (hP.eqv (fun x y => ⟨fun q => q.elim (fun ⟨z, z1, z2⟩ => ⟨z, by omega, z2⟩) (fun z => ⟨T, by omega, z.1.symm, z.2.symm⟩), fun ⟨z, z1, z2⟩ => ?_⟩) (by omega)) (hm.tr hm1)
        by_cases c : z = T
        · subst c; exact Or.inr ⟨z2.1.symm, z2.2.symm⟩
        · exact Or.inl ⟨z, by omega, z2⟩
  obtain ⟨xs, ys, sz, rd, cn, hR⟩ := hR
  have ⟨h0, h1, h2, h3⟩ := hR
  refine g_aload_n C dX3_gatherFan_0 rfl ?_
  refine g_iconst C dX3_gatherFan_1 ?_
  refine g_put C FX3_21 dX3_gatherFan_2 (by assumption) rfl rfl (Nat.le_of_ble_eq_true rfl) ?_
  dsimp only [List.set]
  refine rg_s_sz 0 rfl hR hm ?_
  intro h9 hR hm
  refine g_iconst C dX3_gatherFan_5 ?_
  refine g_istore_n C dX3_gatherFan_6 (by decide) rfl ?_
  dsimp only [List.set]
  exact outer (2 ^ n) 0 _ none none none (by omega) ((rg_pre0 hR).eqv (fun x y => ⟨fun q => q.elim, fun ⟨k, hk, _⟩ => by omega⟩) (Nat.le_refl _)) hm
