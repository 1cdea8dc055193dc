section MF
variable {h : ax_H} {a : Nat} {s : MS} {c : MC} {xs ys : Nat → Int} {pt : Nat} {co : Nat → Int} {cc : Nat} {B K : Nat → List Pt3} {km : Nat}
theorem fsm_st {X : Nat → Int} {T k : Nat} : (T / 2 ^ k % 2 = 1 → fsm X T (k + 1) = fsm X T k + X k) ∧ (¬ T / 2 ^ k % 2 = 1 → fsm X T (k + 1) = fsm X T k + 0) := by
  have hb := Nat.mod_lt (T / 2 ^ k) (show 2 > 0 by decide)
  constructor
  · intro q; rw [fsm, q]; simp
  · intro q; rw [fsm, show T / 2 ^ k % 2 = 0 by omega]; simp
theorem r_fan (H : mw h a B K km) {b w : Int} (hb : -2147483648 ≤ b ∧ b < 2147483648) (hw : -2147483648 ≤ w ∧ w < 2147483648) : ax_Mt MX5_fan [rv a, iv b, iv w] h (fun r h' => r = some (iv (sfan B b w)) ∧ mw h' a B K km ∧ ax_sm a (a + 12) h h') := by
  have hm := ax_sm.rf (lo := a) (hi := a + 12) h
  have ⟨s, c, xs, ys, pt, co, cc, M, S⟩ := H
  refine ax_ri (L0 := [some (rv a), some (iv b), some (iv w), none, none, none, none]) rfl rfl (Nat.le_of_ble_eq_true rfl) rfl ?_
  intro p9 l9 e9 R9 s9 m9 args9 below9 meth9 c9 b9 D9 dA9 Q9 C kr
  have part : ∀ m : Nat, b = (m : Int) → m < 4 → (0 ≤ w ∧ w ≤ 2) → ax_G p9 l9 e9 R9 s9 m9 args9 below9 meth9 c9 b9 D9 dA9 MX5_fan.2.2.1 h.length (ax_sz h) Q9 (21) ([some (rv a), some (iv (m : Int)), some (iv w), none, none, none, none]) ([]) (h) := by
    intro m eb hm4 hw2
    have hn := S.2.1.len hm4
    have ho := (S.2.1 m hm4).1
    have hp := Nat.two_pow_pos (B m).length
    have hp7 : 2 ^ (B m).length ≤ 2 ^ 7 := Nat.pow_le_pow_right (by decide) hn
    have hp8 : 2 ^ 7 = 128 := rfl
    have inner : ∀ (T : Nat) (hh : ax_H), T < 2 ^ (B m).length → (∃ xs ys pt co cc, mz hh a s c xs ys pt co cc) → ax_G p9 l9 e9 R9 s9 m9 args9 below9 meth9 c9 b9 D9 dA9 MX5_fan.2.2.1 h.length (ax_sz h) Q9 (116) ([some (rv a), some (iv (m : Int)), some (iv w), some (iv (T : Int)), some (iv (fsm (lx (B m)) T (B m).length)), some (iv (fsm (ly (B m)) T (B m).length)), some (iv ((B m).length : Int))]) ([]) (hh) → ∀ (d k : Nat), k + d = (B m).length → ax_G p9 l9 e9 R9 s9 m9 args9 below9 meth9 c9 b9 D9 dA9 MX5_fan.2.2.1 h.length (ax_sz h) Q9 (48) ([some (rv a), some (iv (m : Int)), some (iv w), some (iv (T : Int)), some (iv (fsm (lx (B m)) T k)), some (iv (fsm (ly (B m)) T k)), some (iv (k : Int))]) ([]) (hh) := by
      intro T hh hT hM K9 d
      obtain ⟨xs, ys, pt, co, cc, M⟩ := hM
      have ⟨h0, h1, h2, h3, h4, h5, h6, h7, h8, h9, h10, h11⟩ := M
      induction d with
      | zero =>
        intro k hk
        have e9 : k = (B m).length := by omega
        subst e9
        refine g_iload C dX5_fan_48 rfl ?_
        refine g_aload_n C dX5_fan_50 rfl ?_
        refine g_iload_n C dX5_fan_51 rfl ?_
        refine g_V C (r_many M S hm4) dX5_fan_52 KX5_many LX5_56 IX5_many VX5_many (by decide) rfl (by assumption) rfl rfl rfl (Nat.le_of_ble_eq_true rfl) ⟨rfl, rfl⟩ ?_
        dsimp only [Option.toList, List.cons_append, List.nil_append]
        refine g_icmp_ge C dX5_fan_55 (tgt := 116) (by decide) (by omega) (by omega) (fun h55 => ?_) (fun h55 => ?_)
        · exact K9
        · exfalso; omega
      | succ d ih =>
        intro k hk
        have st := ih (k + 1) (by omega)
        have f1 := fsm_st (X := lx (B m)) (T := T) (k := k)
        have f2 := fsm_st (X := ly (B m)) (T := T) (k := k)
        refine g_iload C dX5_fan_48 rfl ?_
        refine g_aload_n C dX5_fan_50 rfl ?_
        refine g_iload_n C dX5_fan_51 rfl ?_
        refine g_V C (r_many M S hm4) dX5_fan_52 KX5_many LX5_56 IX5_many VX5_many (by decide) rfl (by assumption) rfl rfl rfl (Nat.le_of_ble_eq_true rfl) ⟨rfl, rfl⟩ ?_
        dsimp only [Option.toList, List.cons_append, List.nil_append]
        refine g_icmp_ge C dX5_fan_55 (tgt := 116) (by decide) (by omega) (by omega) (fun h55 => ?_) (fun h55 => ?_)
        · exfalso; omega
        · refine g_iload C dX5_fan_58 rfl ?_
          refine g_iload_n C dX5_fan_60 rfl ?_
          refine g_iload C dX5_fan_61 rfl ?_
          refine g_S C (r_has (T := T) (k := k) (by omega) (by omega)) dX5_fan_63 KX5_has LX5_80 SX5_has (by decide) rfl rfl (Nat.le_of_ble_eq_true rfl) ⟨rfl, rfl⟩ ?_
          dsimp only [Option.toList, List.cons_append, List.nil_append]
          refine g_if_eq C dX5_fan_66 (tgt := 80) (by decide) ifr (fun h66 => ?_) (fun h66 => ?_)
          · have w66 : ¬ (T / 2 ^ k % 2 = 1) := if0 h66
            rw [f1.2 w66, f2.2 w66] at st
            refine g_iconst C dX5_fan_80 ?_
            refine g_iadd C dX5_fan_81 ?_
            refine g_istore C dX5_fan_82 (by decide) rfl ?_
            dsimp only [List.set]
            refine g_iload C dX5_fan_84 rfl ?_
            refine g_iload_n C dX5_fan_86 rfl ?_
            refine g_iload C dX5_fan_87 rfl ?_
            refine g_S C (r_has (T := T) (k := k) (by omega) (by omega)) dX5_fan_89 KX5_has LX5_80 SX5_has (by decide) rfl rfl (Nat.le_of_ble_eq_true rfl) ⟨rfl, rfl⟩ ?_
            dsimp only [Option.toList, List.cons_append, List.nil_append]
            refine g_if_eq C dX5_fan_92 (tgt := 106) (by decide) ifr (fun h92 => ?_) (fun h92 => ?_)
            · have w92 : ¬ (T / 2 ^ k % 2 = 1) := if0 h92
              refine g_iconst C dX5_fan_106 ?_
              refine g_iadd C dX5_fan_107 ?_
              refine g_istore C dX5_fan_108 (by decide) rfl ?_
              dsimp only [List.set]
              refine g_iinc C dX5_fan_110 (by decide) rfl rfl ?_
              dsimp only [List.set]
              refine g_goto C dX5_fan_113 (tgt := 48) (by decide) ?_
              first | exact st | exact absurd w92 w66 | exact absurd w66 w92
            · have w92 : T / 2 ^ k % 2 = 1 := if1 h92
              refine g_aload_n C dX5_fan_95 rfl ?_
              refine g_iload_n C dX5_fan_96 rfl ?_
              refine g_iload C dX5_fan_97 rfl ?_
              refine g_iconst C dX5_fan_99 ?_
              refine g_V C (r_of_1 M S hm4 (k := k) (by omega)) dX5_fan_100 KX5_of LX5_60 IX5_of VX5_of (by decide) rfl (by assumption) rfl rfl rfl (Nat.le_of_ble_eq_true rfl) ⟨rfl, rfl⟩ ?_
              dsimp only [Option.toList, List.cons_append, List.nil_append]
              refine g_goto C dX5_fan_103 (tgt := 107) (by decide) ?_
              refine g_iadd C dX5_fan_107 ?_
              refine g_istore C dX5_fan_108 (by decide) rfl ?_
              dsimp only [List.set]
              refine g_iinc C dX5_fan_110 (by decide) rfl rfl ?_
              dsimp only [List.set]
              refine g_goto C dX5_fan_113 (tgt := 48) (by decide) ?_
              first | exact st | exact absurd w92 w66 | exact absurd w66 w92
          · have w66 : T / 2 ^ k % 2 = 1 := if1 h66
            rw [f1.1 w66, f2.1 w66] at st
            refine g_aload_n C dX5_fan_69 rfl ?_
            refine g_iload_n C dX5_fan_70 rfl ?_
            refine g_iload C dX5_fan_71 rfl ?_
            refine g_iconst C dX5_fan_73 ?_
            refine g_V C (r_of_0 M S hm4 (k := k) (by omega)) dX5_fan_74 KX5_of LX5_60 IX5_of VX5_of (by decide) rfl (by assumption) rfl rfl rfl (Nat.le_of_ble_eq_true rfl) ⟨rfl, rfl⟩ ?_
            dsimp only [Option.toList, List.cons_append, List.nil_append]
            refine g_goto C dX5_fan_77 (tgt := 81) (by decide) ?_
            refine g_iadd C dX5_fan_81 ?_
            refine g_istore C dX5_fan_82 (by decide) rfl ?_
            dsimp only [List.set]
            refine g_iload C dX5_fan_84 rfl ?_
            refine g_iload_n C dX5_fan_86 rfl ?_
            refine g_iload C dX5_fan_87 rfl ?_
            refine g_S C (r_has (T := T) (k := k) (by omega) (by omega)) dX5_fan_89 KX5_has LX5_80 SX5_has (by decide) rfl rfl (Nat.le_of_ble_eq_true rfl) ⟨rfl, rfl⟩ ?_
            dsimp only [Option.toList, List.cons_append, List.nil_append]
            refine g_if_eq C dX5_fan_92 (tgt := 106) (by decide) ifr (fun h92 => ?_) (fun h92 => ?_)
            · have w92 : ¬ (T / 2 ^ k % 2 = 1) := if0 h92
              refine g_iconst C dX5_fan_106 ?_
              refine g_iadd C dX5_fan_107 ?_
              refine g_istore C dX5_fan_108 (by decide) rfl ?_
              dsimp only [List.set]
              refine g_iinc C dX5_fan_110 (by decide) rfl rfl ?_
              dsimp only [List.set]
              refine g_goto C dX5_fan_113 (tgt := 48) (by decide) ?_
              first | exact st | exact absurd w92 w66 | exact absurd w66 w92
            · have w92 : T / 2 ^ k % 2 = 1 := if1 h92
              refine g_aload_n C dX5_fan_95 rfl ?_
              refine g_iload_n C dX5_fan_96 rfl ?_
              refine g_iload C dX5_fan_97 rfl ?_
              refine g_iconst C dX5_fan_99 ?_
              refine g_V C (r_of_1 M S hm4 (k := k) (by omega)) dX5_fan_100 KX5_of LX5_60 IX5_of VX5_of (by decide) rfl (by assumption) rfl rfl rfl (Nat.le_of_ble_eq_true rfl) ⟨rfl, rfl⟩ ?_
              dsimp only [Option.toList, List.cons_append, List.nil_append]
              refine g_goto C dX5_fan_103 (tgt := 107) (by decide) ?_
              refine g_iadd C dX5_fan_107 ?_
              refine g_istore C dX5_fan_108 (by decide) rfl ?_
              dsimp only [List.set]
              refine g_iinc C dX5_fan_110 (by decide) rfl rfl ?_
              dsimp only [List.set]
              refine g_goto C dX5_fan_113 (tgt := 48) (by decide) ?_
              first | exact st | exact absurd w92 w66 | exact absurd w66 w92
    have outer : ∀ (d T : Nat) (hh : ax_H) (x3 x4 x5 : Option ax_V), T + d = 2 ^ (B m).length → mp hh a s c (fan (lx (B m)) (ly (B m)) (B m).length T) T → ax_sm a (a + 12) h hh → ax_G p9 l9 e9 R9 s9 m9 args9 below9 meth9 c9 b9 D9 dA9 MX5_fan.2.2.1 h.length (ax_sz h) Q9 (28) ([some (rv a), some (iv (m : Int)), some (iv w), some (iv (T : Int)), x3, x4, x5]) ([]) (hh) := by
      intro d
      induction d with
      | zero =>
        intro T hh x3 x4 x5 hT hP hm
        have ⟨xs, ys, pt, co, cc, M, _⟩ := hP
        have ⟨h0, h1, h2, h3, h4, h5, h6, h7, h8, h9, h10, h11⟩ := M
        have e9 : T = 2 ^ (B m).length := by omega
        subst e9
        refine g_iload_n C dX5_fan_28 rfl ?_
        refine g_iconst C dX5_fan_29 ?_
        refine g_aload_n C dX5_fan_30 rfl ?_
        refine g_iload_n C dX5_fan_31 rfl ?_
        refine g_V C (r_many M S hm4) dX5_fan_32 KX5_many LX5_56 IX5_many VX5_many (by decide) rfl (by assumption) rfl rfl rfl (Nat.le_of_ble_eq_true rfl) ⟨rfl, rfl⟩ ?_
        dsimp only [Option.toList, List.cons_append, List.nil_append]
        refine g_ishl C dX5_fan_35 (by omega) ?_
        refine g_top (ax_1p (B m).length) ?_
        refine g_icmp_ge C dX5_fan_36 (tgt := 130) (by decide) (by omega) (by omega) (fun h36 => ?_) (fun h36 => ?_)
        · refine g_aload_n C dX5_fan_130 rfl ?_
          refine g_RV C (r_lc hP (by omega)) dX5_fan_131 KX5_layCorners LX5_88 IX5_layCorners VX5_layCorners (by decide) rfl (by assumption) rfl rfl rfl (Nat.le_of_ble_eq_true rfl) ?_
          intro r1 h1 hP1 hz1
          obtain ⟨rfl, ⟨xs1, ys1, pt1, co1, cc1, M1, L1⟩, hm1⟩ := hP1
          have hm1 := hm.tr hm1
          have ⟨q0, q1, q2, q3, q4, q5, q6, q7, q8, q9, q10, q11⟩ := M1
          have hZ1 : pt1 = hZ (SF (B m)) := hZ_is L1.2.1 L1.2.2.2.1
          have hC1 : cc1 = (hC (SF (B m))).1 := L1.2.2.2.2.1
          dsimp only [Option.toList, List.cons_append, List.nil_append]
          refine g_iload_n C dX5_fan_134 rfl ?_
          refine g_if_ne C dX5_fan_135 (tgt := 145) (by decide) (by omega) (fun h135 => ?_) (fun h135 => ?_)
          · refine g_iload_n C dX5_fan_145 rfl ?_
            refine g_iconst C dX5_fan_146 ?_
            refine g_icmp_ne C dX5_fan_147 (tgt := 157) (by decide) (by omega) (by omega) (fun h147 => ?_) (fun h147 => ?_)
            · refine g_aload_n C dX5_fan_157 rfl ?_
              refine g_get C FX5_63 dX5_fan_158 (by assumption) rfl ?_
              exact kr _ _ _ _ dX5_fan_161 ⟨congrArg (fun z => some (iv z)) (by unfold sfan; rw [eb, Int.toNat_natCast, ← hZ1, ← hC1]; (repeat (first | rw [if_pos (by omega)] | rw [if_neg (by omega)])); try rfl), ⟨s, c, _, _, _, _, _, M1, S⟩, hm1⟩ hm1.1
            · refine g_aload_n C dX5_fan_150 rfl ?_
              refine g_get C FX5_74 dX5_fan_151 (by assumption) rfl ?_
              refine g_goto C dX5_fan_154 (tgt := 161) (by decide) ?_
              exact kr _ _ _ _ dX5_fan_161 ⟨congrArg (fun z => some (iv z)) (by unfold sfan; rw [eb, Int.toNat_natCast, ← hZ1, ← hC1]; (repeat (first | rw [if_pos (by omega)] | rw [if_neg (by omega)])); try rfl), ⟨s, c, _, _, _, _, _, M1, S⟩, hm1⟩ hm1.1
          · refine g_aload_n C dX5_fan_138 rfl ?_
            refine g_V C (r_area M1 L1) dX5_fan_139 KX5_area LX5_97 IX5_area VX5_area (by decide) rfl (by assumption) rfl rfl rfl (Nat.le_of_ble_eq_true rfl) ⟨rfl, rfl⟩ ?_
            dsimp only [Option.toList, List.cons_append, List.nil_append]
            refine g_goto C dX5_fan_142 (tgt := 161) (by decide) ?_
            exact kr _ _ _ _ dX5_fan_161 ⟨congrArg (fun z => some (iv z)) (by unfold sfan; rw [eb, Int.toNat_natCast, ← hZ1, ← hC1]; (repeat (first | rw [if_pos (by omega)] | rw [if_neg (by omega)])); try rfl), ⟨s, c, _, _, _, _, _, M1, S⟩, hm1⟩ hm1.1
        · exfalso; omega
      | succ d ih =>
        intro T hh x3 x4 x5 hT hP hm
        have ⟨xs, ys, pt, co, cc, M, _⟩ := hP
        have ⟨h0, h1, h2, h3, h4, h5, h6, h7, h8, h9, h10, h11⟩ := M
        have f1 := fsm_in (X := lx (B m)) (T := T) (B m).length (fun j hj => (ho.2 j hj).1)
        have f2 := fsm_in (X := ly (B m)) (T := T) (B m).length (fun j hj => (ho.2 j hj).2.1)
        have tail : ax_G p9 l9 e9 R9 s9 m9 args9 below9 meth9 c9 b9 D9 dA9 MX5_fan.2.2.1 h.length (ax_sz h) Q9 (116) ([some (rv a), some (iv (m : Int)), some (iv w), some (iv (T : Int)), some (iv (fsm (lx (B m)) T (B m).length)), some (iv (fsm (ly (B m)) T (B m).length)), some (iv ((B m).length : Int))]) ([]) (hh) := by
          refine g_aload_n C dX5_fan_116 rfl ?_
          refine g_iload C dX5_fan_117 rfl ?_
          refine g_iload C dX5_fan_119 rfl ?_
          refine g_RV C (r_inc hP (by omega) (show 0 ≤ fsm (lx (B m)) T (B m).length ∧ fsm (lx (B m)) T (B m).length ≤ 84 by omega) (show 0 ≤ fsm (ly (B m)) T (B m).length ∧ fsm (ly (B m)) T (B m).length ≤ 84 by omega)) dX5_fan_121 KX5_addPoint LX5_84 IX5_addPoint VX5_addPoint (by decide) rfl (by assumption) rfl rfl rfl (Nat.le_of_ble_eq_true rfl) ?_
          intro r1 h1 hP1 hz1
          obtain ⟨rfl, hP, hm1⟩ := hP1
          dsimp only [Option.toList, List.cons_append, List.nil_append]
          refine g_iinc C dX5_fan_124 (by decide) rfl rfl ?_
          dsimp only [List.set]
          refine g_goto C dX5_fan_127 (tgt := 28) (by decide) ?_
          exact ih (T + 1) _ _ _ _ (by omega) (hP.eqv (fun x y => ⟨fun q => q.elim (fun ⟨z, z1, z2⟩ => ⟨z, by omega, z2⟩) (fun z => ⟨T, by omega, z.1.symm, z.2.symm⟩), fun ⟨z, z1, z2⟩ => by
            by_cases c : z = T
            · subst c; exact Or.inr ⟨z2.1.symm, z2.2.symm⟩
            · exact Or.inl ⟨z, by omega, z2⟩⟩) (by omega)) (hm.tr hm1)
        refine g_iload_n C dX5_fan_28 rfl ?_
        refine g_iconst C dX5_fan_29 ?_
        refine g_aload_n C dX5_fan_30 rfl ?_
        refine g_iload_n C dX5_fan_31 rfl ?_
        refine g_V C (r_many M S hm4) dX5_fan_32 KX5_many LX5_56 IX5_many VX5_many (by decide) rfl (by assumption) rfl rfl rfl (Nat.le_of_ble_eq_true rfl) ⟨rfl, rfl⟩ ?_
        dsimp only [Option.toList, List.cons_append, List.nil_append]
        refine g_ishl C dX5_fan_35 (by omega) ?_
        refine g_top (ax_1p (B m).length) ?_
        refine g_icmp_ge C dX5_fan_36 (tgt := 130) (by decide) (by omega) (by omega) (fun h36 => ?_) (fun h36 => ?_)
        · exfalso; omega
        · refine g_iconst C dX5_fan_39 ?_
          refine g_istore C dX5_fan_40 (by decide) rfl ?_
          dsimp only [List.set]
          refine g_iconst C dX5_fan_42 ?_
          refine g_istore C dX5_fan_43 (by decide) rfl ?_
          dsimp only [List.set]
          refine g_iconst C dX5_fan_45 ?_
          refine g_istore C dX5_fan_46 (by decide) rfl ?_
          dsimp only [List.set]
          exact inner T hh (by omega) ⟨_, _, _, _, _, M⟩ tail (B m).length 0 (by omega)
    have ⟨h0, h1, h2, h3, h4, h5, h6, h7, h8, h9, h10, h11⟩ := M
    refine g_aload_n C dX5_fan_21 rfl ?_
    refine g_iconst C dX5_fan_22 ?_
    refine g_put C FX5_63 dX5_fan_23 (by assumption) rfl rfl (Nat.le_of_ble_eq_true rfl) ?_
    dsimp only [List.set]
    refine mo_s_pt 0 rfl M hm ?_
    intro h9 M hm
    refine g_iconst C dX5_fan_26 ?_
    refine g_istore_n C dX5_fan_27 (by decide) rfl ?_
    dsimp only [List.set]
    exact outer (2 ^ (B m).length) 0 _ _ _ _ (by omega) ((mp0 M).eqv (fun x y => ⟨fun q => q.elim, fun ⟨k, hk, _⟩ => by omega⟩) (Nat.le_refl _)) hm
  refine g_iload_n C dX5_fan_0 rfl ?_
  refine g_S C (r_isBody hb) dX5_fan_1 KX5_isBody LX5_52 SX5_isBody (by decide) rfl rfl (Nat.le_of_ble_eq_true rfl) ⟨rfl, rfl⟩ ?_
  dsimp only [Option.toList, List.cons_append, List.nil_append]
  refine g_if_ne C dX5_fan_4 (tgt := 9) (by decide) ifr (fun h4 => ?_) (fun h4 => ?_)
  · have w4 : 0 ≤ b ∧ b ≤ 3 := if1 h4
    refine g_iload_n C dX5_fan_9 rfl ?_
    refine g_iconst C dX5_fan_10 ?_
    refine g_iconst C dX5_fan_11 ?_
    refine g_S C (r_in hw (by omega) (by omega)) dX5_fan_12 KX5_in LX5_44 SX5_in (by decide) rfl rfl (Nat.le_of_ble_eq_true rfl) ⟨rfl, rfl⟩ ?_
    dsimp only [Option.toList, List.cons_append, List.nil_append]
    refine g_if_ne C dX5_fan_15 (tgt := 21) (by decide) ifr (fun h15 => ?_) (fun h15 => ?_)
    · have w15 : 0 ≤ w ∧ w ≤ 2 := if1 h15
      obtain ⟨n, eb⟩ : ∃ n : Nat, b = (n : Int) := ⟨b.toNat, by omega⟩
      have q := part n eb (by omega) w15
      rw [← eb] at q
      exact q
    · have w15 : ¬ (0 ≤ w ∧ w ≤ 2) := if0 h15
      refine g_bipush C dX5_fan_18 (by decide) ?_
      exact kr _ _ _ _ dX5_fan_20 ⟨congrArg (fun z => some (iv z)) (by unfold sfan; (repeat (first | rw [if_pos (by omega)] | rw [if_neg (by omega)]))), H, hm⟩ hm.1
  · have w4 : ¬ (0 ≤ b ∧ b ≤ 3) := if0 h4
    refine g_iconst C dX5_fan_7 ?_
    exact kr _ _ _ _ dX5_fan_8 ⟨congrArg (fun z => some (iv z)) (by unfold sfan; (repeat (first | rw [if_pos (by omega)] | rw [if_neg (by omega)]))), H, hm⟩ hm.1
/-! roots -/
theorem r_power {h : ax_H} {v p : Int} {n : Nat} (hv : 0 ≤ v ∧ v < p) (hp : 2 ≤ p ∧ p ≤ 13) (hn : n ≤ 12) : ax_Met MX5_power [iv v, iv (n : Int), iv p] h (some (iv (pw v p n))) h := by
  refine ax_mi (L0 := [some (iv v), some (iv (n : Int)), some (iv p), none, none]) rfl rfl (Nat.le_refl _) (Nat.le_refl _) (Nat.le_of_ble_eq_true rfl) rfl ?_
  intro p9 l9 e9 R9 s9 m9 args9 below9 meth9 c9 b9 D9 dA9 Q9 C kr
  have loop : ∀ (d k : Nat), k + d = n → ax_G p9 l9 e9 R9 s9 m9 args9 below9 meth9 c9 b9 D9 dA9 MX5_power.2.2.1 h.length (ax_sz h) Q9 (5) ([some (iv v), some (iv (n : Int)), some (iv p), some (iv (pw v p k)), some (iv (k : Int))]) ([]) (h) := by
    intro d
    induction d with
    | zero =>
      intro k hk
      have e : k = n := by omega
      subst e
      have b := pw_in hv.1 hp.1 k
      have e2 : (pw v p k).tmod p = pw v p k := by rw [Int.tmod_eq_emod_of_nonneg b.1]; exact Int.emod_eq_of_lt b.1 b.2
      refine g_iload C dX5_power_5 rfl ?_
      refine g_iload_n C dX5_power_7 rfl ?_
      refine g_icmp_ge C dX5_power_8 (tgt := 23) (by decide) (by omega) (by omega) (fun h8 => ?_) (fun h8 => ?_)
      · refine g_iload_n C dX5_power_23 rfl ?_
        refine g_iload_n C dX5_power_24 rfl ?_
        refine g_irem C dX5_power_25 (by omega) (by omega) (by omega) ?_
        exact kr _ _ _ dX5_power_26 (by rw [e2])
      · exfalso; omega
    | succ d ih =>
      intro k hk
      have b := pw_in hv.1 hp.1 k
      have b2 := mb (u := pw v p k) (x := v) (U := 13) (M := 13) (by omega) (by omega)
      refine g_iload C dX5_power_5 rfl ?_
      refine g_iload_n C dX5_power_7 rfl ?_
      refine g_icmp_ge C dX5_power_8 (tgt := 23) (by decide) (by omega) (by omega) (fun h8 => ?_) (fun h8 => ?_)
      · exfalso; omega
      · refine g_iload_n C dX5_power_11 rfl ?_
        refine g_iload_n C dX5_power_12 rfl ?_
        refine g_imul C dX5_power_13 ?_
        refine g_iload_n C dX5_power_14 rfl ?_
        refine g_irem C dX5_power_15 (by omega) (by omega) (by omega) ?_
        refine g_istore_n C dX5_power_16 (by decide) rfl ?_
        dsimp only [List.set]
        refine g_iinc C dX5_power_17 (by decide) rfl rfl ?_
        dsimp only [List.set]
        refine g_goto C dX5_power_20 (tgt := 5) (by decide) ?_
        exact ih (k + 1) (by omega)
  refine g_iconst C dX5_power_0 ?_
  refine g_istore_n C dX5_power_1 (by decide) rfl ?_
  dsimp only [List.set]
  refine g_iconst C dX5_power_2 ?_
  refine g_istore C dX5_power_3 (by decide) rfl ?_
  dsimp only [List.set]
  exact loop n 0 (by omega)
theorem r_holds (M : mz h a s c xs ys pt co cc) (S : msi s B K km) {n i j q : Nat} (hn : n < 4) (hq : 2 ≤ q ∧ q ≤ 13) (hi : i < q) (hj : j < q) : ax_Met MX5_holds [rv a, iv (n : Int), iv (i : Int), iv (j : Int), iv (q : Int)] h (some (iv (if isr (B n) i j q then 1 else 0))) h := by
  have hO := (S.2.1 n hn).1
  have hL := hO.1
  have ⟨h0, h1, h2, h3, h4, h5, h6, h7, h8, h9, h10, h11⟩ := M
  have hin := fun k (hk : k ≤ (B n).length) => vsm_in (X := lx (B n)) (Y := ly (B n)) (V := lv (B n)) (x := (i : Int)) (y := (j : Int)) (p := (q : Int)) (by omega) (by omega) (by omega) k (fun z hz => (hO.2 z (by omega)).2.2)
  refine ax_mz (L0 := [some (rv a), some (iv (n : Int)), some (iv (i : Int)), some (iv (j : Int)), some (iv (q : Int)), none, none]) rfl rfl (Nat.le_refl _) (Nat.le_refl _) (Nat.le_of_ble_eq_true rfl) rfl ?_
  intro p9 l9 e9 R9 s9 m9 args9 below9 meth9 c9 b9 D9 dA9 Q9 C kr
  have loop : ∀ (d k : Nat), k + d = (B n).length → ax_G p9 l9 e9 R9 s9 m9 args9 below9 meth9 c9 b9 D9 dA9 MX5_holds.2.2.1 h.length (ax_sz h) Q9 (6) ([some (rv a), some (iv (n : Int)), some (iv (i : Int)), some (iv (j : Int)), some (iv (q : Int)), some (iv (vsm (lx (B n)) (ly (B n)) (lv (B n)) (i : Int) (j : Int) (q : Int) k)), some (iv (k : Int))]) ([]) (h) := by
    intro d
    induction d with
    | zero =>
      intro k hk
      have e : k = (B n).length := by omega
      subst e
      have b := hin (B n).length (Nat.le_refl _)
      have b2 := tmod_in (x := vsm (lx (B n)) (ly (B n)) (lv (B n)) (i : Int) (j : Int) (q : Int) (B n).length) (p := (q : Int)) b.1 (by omega)
      refine g_iload C dX5_holds_6 rfl ?_
      refine g_aload_n C dX5_holds_8 rfl ?_
      refine g_iload_n C dX5_holds_9 rfl ?_
      refine g_V C (r_many M S hn) dX5_holds_10 KX5_many LX5_56 IX5_many VX5_many (by decide) rfl (by assumption) rfl rfl rfl (Nat.le_of_ble_eq_true rfl) ⟨rfl, rfl⟩ ?_
      dsimp only [Option.toList, List.cons_append, List.nil_append]
      refine g_icmp_ge C dX5_holds_13 (tgt := 65) (by decide) (by omega) (by omega) (fun h13 => ?_) (fun h13 => ?_)
      · refine g_iload C dX5_holds_65 rfl ?_
        refine g_iload C dX5_holds_67 rfl ?_
        refine g_irem C dX5_holds_69 (by omega) (by omega) (by omega) ?_
        refine g_if_ne C dX5_holds_70 (tgt := 77) (by decide) (by omega) (fun h70 => ?_) (fun h70 => ?_)
        · refine g_iconst C dX5_holds_77 ?_
          first | exact kr _ _ _ dX5_holds_78 (by decide) (by rw [if_neg (fun z : isr (B n) i j q => h70 z)]) | exact kr _ _ _ dX5_holds_78 (by decide) (by rw [if_pos (show isr (B n) i j q from h70)])
        · refine g_iconst C dX5_holds_73 ?_
          refine g_goto C dX5_holds_74 (tgt := 78) (by decide) ?_
          first | exact kr _ _ _ dX5_holds_78 (by decide) (by rw [if_neg (fun z : isr (B n) i j q => h70 z)]) | exact kr _ _ _ dX5_holds_78 (by decide) (by rw [if_pos (show isr (B n) i j q from h70)])
      · exfalso; omega
    | succ d ih =>
      intro k hk
      have hk2 := hO.2 k (by omega)
      have p1 := r_power (h := h) (v := (i : Int)) (p := (q : Int)) (n := (lx (B n) k).toNat) (by omega) (by omega) (by omega)
      have p2 := r_power (h := h) (v := (j : Int)) (p := (q : Int)) (n := (ly (B n) k).toNat) (by omega) (by omega) (by omega)
      rw [show (((lx (B n) k).toNat : Nat) : Int) = lx (B n) k by omega] at p1
      rw [show (((ly (B n) k).toNat : Nat) : Int) = ly (B n) k by omega] at p2
      refine g_iload C dX5_holds_6 rfl ?_
      refine g_aload_n C dX5_holds_8 rfl ?_
      refine g_iload_n C dX5_holds_9 rfl ?_
      refine g_V C (r_many M S hn) dX5_holds_10 KX5_many LX5_56 IX5_many VX5_many (by decide) rfl (by assumption) rfl rfl rfl (Nat.le_of_ble_eq_true rfl) ⟨rfl, rfl⟩ ?_
      dsimp only [Option.toList, List.cons_append, List.nil_append]
      refine g_icmp_ge C dX5_holds_13 (tgt := 65) (by decide) (by omega) (by omega) (fun h13 => ?_) (fun h13 => ?_)
      · exfalso; omega
      · refine g_iload C dX5_holds_16 rfl ?_
        refine g_aload_n C dX5_holds_18 rfl ?_
        refine g_iload_n C dX5_holds_19 rfl ?_
        refine g_iload C dX5_holds_20 rfl ?_
        refine g_iconst C dX5_holds_22 ?_
        refine g_V C (r_of_2 M S hn (k := k) (by omega)) dX5_holds_23 KX5_of LX5_60 IX5_of VX5_of (by decide) rfl (by assumption) rfl rfl rfl (Nat.le_of_ble_eq_true rfl) ⟨rfl, rfl⟩ ?_
        dsimp only [Option.toList, List.cons_append, List.nil_append]
        refine g_iload_n C dX5_holds_26 rfl ?_
        refine g_aload_n C dX5_holds_27 rfl ?_
        refine g_iload_n C dX5_holds_28 rfl ?_
        refine g_iload C dX5_holds_29 rfl ?_
        refine g_iconst C dX5_holds_31 ?_
        refine g_V C (r_of_0 M S hn (k := k) (by omega)) dX5_holds_32 KX5_of LX5_60 IX5_of VX5_of (by decide) rfl (by assumption) rfl rfl rfl (Nat.le_of_ble_eq_true rfl) ⟨rfl, rfl⟩ ?_
        dsimp only [Option.toList, List.cons_append, List.nil_append]
        refine g_iload C dX5_holds_35 rfl ?_
        refine g_S C (p1) dX5_holds_37 KX5_power LX5_166 SX5_power (by decide) rfl rfl (Nat.le_of_ble_eq_true rfl) ⟨rfl, rfl⟩ ?_
        dsimp only [Option.toList, List.cons_append, List.nil_append]
        refine g_imul C dX5_holds_40 ?_
        refine g_iload_n C dX5_holds_41 rfl ?_
        refine g_aload_n C dX5_holds_42 rfl ?_
        refine g_iload_n C dX5_holds_43 rfl ?_
        refine g_iload C dX5_holds_44 rfl ?_
        refine g_iconst C dX5_holds_46 ?_
        refine g_V C (r_of_1 M S hn (k := k) (by omega)) dX5_holds_47 KX5_of LX5_60 IX5_of VX5_of (by decide) rfl (by assumption) rfl rfl rfl (Nat.le_of_ble_eq_true rfl) ⟨rfl, rfl⟩ ?_
        dsimp only [Option.toList, List.cons_append, List.nil_append]
        refine g_iload C dX5_holds_50 rfl ?_
        refine g_S C (p2) dX5_holds_52 KX5_power LX5_166 SX5_power (by decide) rfl rfl (Nat.le_of_ble_eq_true rfl) ⟨rfl, rfl⟩ ?_
        dsimp only [Option.toList, List.cons_append, List.nil_append]
        refine g_imul C dX5_holds_55 ?_
        refine g_iadd C dX5_holds_56 ?_
        refine g_istore C dX5_holds_57 (by decide) rfl ?_
        dsimp only [List.set]
        refine g_iinc C dX5_holds_59 (by decide) rfl rfl ?_
        dsimp only [List.set]
        refine g_goto C dX5_holds_62 (tgt := 6) (by decide) ?_
        exact ih (k + 1) (by omega)
  refine g_iconst C dX5_holds_0 ?_
  refine g_istore C dX5_holds_1 (by decide) rfl ?_
  dsimp only [List.set]
  refine g_iconst C dX5_holds_3 ?_
  refine g_istore C dX5_holds_4 (by decide) rfl ?_
  dsimp only [List.set]
  exact loop (B n).length 0 (by omega)
theorem r_roots (H : mw h a B K km) {b b2 p : Int} (hb : -2147483648 ≤ b ∧ b < 2147483648) (hb2 : -2147483648 ≤ b2 ∧ b2 < 2147483648) (hp : -2147483648 ≤ p ∧ p < 2147483648) : ax_Mt MX5_roots [rv a, iv b, iv b2, iv p] h (fun r h' => r = some (iv (sroots B b b2 p)) ∧ mw h' a B K km ∧ ax_sm a (a + 12) h h') := by
  have hm := ax_sm.rf (lo := a) (hi := a + 12) h
  have ⟨s, c, xs, ys, pt, co, cc, M, S⟩ := H
  have ⟨h0, h1, h2, h3, h4, h5, h6, h7, h8, h9, h10, h11⟩ := M
  refine ax_ri (L0 := [some (rv a), some (iv b), some (iv b2), some (iv p), none, none, none]) rfl rfl (Nat.le_of_ble_eq_true rfl) rfl ?_
  intro p9 l9 e9 R9 s9 m9 args9 below9 meth9 c9 b9 D9 dA9 Q9 C kr
  have part : ∀ n m q : Nat, b = (n : Int) → b2 = (m : Int) → p = (q : Int) → n < 4 → m < 4 → (p = 2 ∨ p = 3 ∨ p = 5 ∨ p = 7 ∨ p = 11 ∨ p = 13) → ax_G p9 l9 e9 R9 s9 m9 args9 below9 meth9 c9 b9 D9 dA9 MX5_roots.2.2.1 h.length (ax_sz h) Q9 (52) ([some (rv a), some (iv (n : Int)), some (iv (m : Int)), some (iv (q : Int)), none, none, none]) ([]) (h) := by
    intro n m q eb eb2 eq hn hm4 hP
    have inner : ∀ (i : Nat), 1 ≤ i → i < q → (∀ (x6 : Option ax_V), ax_G p9 l9 e9 R9 s9 m9 args9 below9 meth9 c9 b9 D9 dA9 MX5_roots.2.2.1 h.length (ax_sz h) Q9 (58) ([some (rv a), some (iv (n : Int)), some (iv (m : Int)), some (iv (q : Int)), some (iv (rco (B n) (B m) (q : Int) (q - 1) i)), some (iv ((i + 1 : Nat) : Int)), x6]) ([]) (h)) → ∀ (d j : Nat), j + d = q → 1 ≤ j → ax_G p9 l9 e9 R9 s9 m9 args9 below9 meth9 c9 b9 D9 dA9 MX5_roots.2.2.1 h.length (ax_sz h) Q9 (67) ([some (rv a), some (iv (n : Int)), some (iv (m : Int)), some (iv (q : Int)), some (iv (rco (B n) (B m) (q : Int) (q - 1) (i - 1) + rci (B n) (B m) (q : Int) i (j - 1))), some (iv (i : Int)), some (iv (j : Int))]) ([]) (h) := by
      intro i hi1 hi2 K9 d
      induction d with
      | zero =>
        intro j hj hj1
        have e : j = q := by omega
        subst e
        obtain ⟨i0, rfl⟩ : ∃ i0, i = i0 + 1 := ⟨i - 1, by omega⟩
        refine g_iload C dX5_roots_67 rfl ?_
        refine g_iload_n C dX5_roots_69 rfl ?_
        refine g_icmp_ge C dX5_roots_70 (tgt := 115) (by decide) (by omega) (by omega) (fun h70 => ?_) (fun h70 => ?_)
        · refine g_iinc C dX5_roots_115 (by decide) rfl rfl ?_
          dsimp only [List.set]
          refine g_goto C dX5_roots_118 (tgt := 58) (by decide) ?_
          exact K9 _
        · exfalso; omega
      | succ d ih =>
        intro j hj hj1
        obtain ⟨j0, rfl⟩ : ∃ j0, j = j0 + 1 := ⟨j - 1, by omega⟩
        have e := ih (j0 + 1 + 1) (by omega) (by omega)
        rw [show j0 + 1 + 1 - 1 = j0 + 1 from rfl, rci] at e
        refine g_iload C dX5_roots_67 rfl ?_
        refine g_iload_n C dX5_roots_69 rfl ?_
        refine g_icmp_ge C dX5_roots_70 (tgt := 115) (by decide) (by omega) (by omega) (fun h70 => ?_) (fun h70 => ?_)
        · exfalso; omega
        · refine g_iload C dX5_roots_73 rfl ?_
          refine g_aload_n C dX5_roots_75 rfl ?_
          refine g_iload_n C dX5_roots_76 rfl ?_
          refine g_iload C dX5_roots_77 rfl ?_
          refine g_iload C dX5_roots_79 rfl ?_
          refine g_iload_n C dX5_roots_81 rfl ?_
          refine g_V C (r_holds M S hn (show 2 ≤ q ∧ q ≤ 13 by omega) hi2 (show j0 + 1 < q by omega)) dX5_roots_82 KX5_holds LX5_169 IX5_holds VX5_holds (by decide) rfl (by assumption) rfl rfl rfl (Nat.le_of_ble_eq_true rfl) ⟨rfl, rfl⟩ ?_
          dsimp only [Option.toList, List.cons_append, List.nil_append]
          refine g_if_eq C dX5_roots_85 (tgt := 105) (by decide) ifr (fun h85 => ?_) (fun h85 => ?_)
          · have w85 : ¬ (isr (B n) (i : Int) ((j0 + 1 : Nat) : Int) (q : Int)) := if0 h85
            rw [if_neg (fun z : both (B n) (B m) (q : Int) i (j0 + 1) => w85 z.1), ← Int.add_assoc] at e
            refine g_iconst C dX5_roots_105 ?_
            refine g_iadd C dX5_roots_106 ?_
            refine g_istore C dX5_roots_107 (by decide) rfl ?_
            dsimp only [List.set]
            refine g_iinc C dX5_roots_109 (by decide) rfl rfl ?_
            dsimp only [List.set]
            refine g_goto C dX5_roots_112 (tgt := 67) (by decide) ?_
            exact e
          · have w85 : isr (B n) (i : Int) ((j0 + 1 : Nat) : Int) (q : Int) := if1 h85
            refine g_aload_n C dX5_roots_88 rfl ?_
            refine g_iload_n C dX5_roots_89 rfl ?_
            refine g_iload C dX5_roots_90 rfl ?_
            refine g_iload C dX5_roots_92 rfl ?_
            refine g_iload_n C dX5_roots_94 rfl ?_
            refine g_V C (r_holds M S hm4 (show 2 ≤ q ∧ q ≤ 13 by omega) hi2 (show j0 + 1 < q by omega)) dX5_roots_95 KX5_holds LX5_169 IX5_holds VX5_holds (by decide) rfl (by assumption) rfl rfl rfl (Nat.le_of_ble_eq_true rfl) ⟨rfl, rfl⟩ ?_
            dsimp only [Option.toList, List.cons_append, List.nil_append]
            refine g_if_eq C dX5_roots_98 (tgt := 105) (by decide) ifr (fun h98 => ?_) (fun h98 => ?_)
            · have w98 : ¬ (isr (B m) (i : Int) ((j0 + 1 : Nat) : Int) (q : Int)) := if0 h98
              rw [if_neg (fun z : both (B n) (B m) (q : Int) i (j0 + 1) => w98 z.2), ← Int.add_assoc] at e
              refine g_iconst C dX5_roots_105 ?_
              refine g_iadd C dX5_roots_106 ?_
              refine g_istore C dX5_roots_107 (by decide) rfl ?_
              dsimp only [List.set]
              refine g_iinc C dX5_roots_109 (by decide) rfl rfl ?_
              dsimp only [List.set]
              refine g_goto C dX5_roots_112 (tgt := 67) (by decide) ?_
              exact e
            · have w98 : isr (B m) (i : Int) ((j0 + 1 : Nat) : Int) (q : Int) := if1 h98
              rw [if_pos (show both (B n) (B m) (q : Int) i (j0 + 1) from ⟨w85, w98⟩), ← Int.add_assoc] at e
              refine g_iconst C dX5_roots_101 ?_
              refine g_goto C dX5_roots_102 (tgt := 106) (by decide) ?_
              refine g_iadd C dX5_roots_106 ?_
              refine g_istore C dX5_roots_107 (by decide) rfl ?_
              dsimp only [List.set]
              refine g_iinc C dX5_roots_109 (by decide) rfl rfl ?_
              dsimp only [List.set]
              refine g_goto C dX5_roots_112 (tgt := 67) (by decide) ?_
              exact e
    have outer : ∀ (d i : Nat) (x6 : Option ax_V), i + d = q → 1 ≤ i → ax_G p9 l9 e9 R9 s9 m9 args9 below9 meth9 c9 b9 D9 dA9 MX5_roots.2.2.1 h.length (ax_sz h) Q9 (58) ([some (rv a), some (iv (n : Int)), some (iv (m : Int)), some (iv (q : Int)), some (iv (rco (B n) (B m) (q : Int) (q - 1) (i - 1))), some (iv (i : Int)), x6]) ([]) (h) := by
      intro d
      induction d with
      | zero =>
        intro i x6 hi hi1
        have e : i = q := by omega
        subst e
        refine g_iload C dX5_roots_58 rfl ?_
        refine g_iload_n C dX5_roots_60 rfl ?_
        refine g_icmp_ge C dX5_roots_61 (tgt := 121) (by decide) (by omega) (by omega) (fun h61 => ?_) (fun h61 => ?_)
        · refine g_iload C dX5_roots_121 rfl ?_
          exact kr _ _ _ _ dX5_roots_123 ⟨congrArg (fun z => some (iv z)) (by unfold sroots; rw [eq, eb, eb2, Int.toNat_natCast, Int.toNat_natCast, Int.toNat_natCast]; (repeat (first | rw [if_pos (by omega)] | rw [if_neg (by omega)]))), H, hm⟩ hm.1
        · exfalso; omega
      | succ d ih =>
        intro i x6 hi hi1
        refine g_iload C dX5_roots_58 rfl ?_
        refine g_iload_n C dX5_roots_60 rfl ?_
        refine g_icmp_ge C dX5_roots_61 (tgt := 121) (by decide) (by omega) (by omega) (fun h61 => ?_) (fun h61 => ?_)
        · exfalso; omega
        · refine g_iconst C dX5_roots_64 ?_
          refine g_istore C dX5_roots_65 (by decide) rfl ?_
          dsimp only [List.set]
          have q9 := inner i hi1 (by omega) (fun x6 => ih (i + 1) x6 (by omega) (by omega)) (q - 1) 1 (by omega) (by omega)
          rw [show rci (B n) (B m) (q : Int) i (1 - 1) = 0 from rfl, Int.add_zero] at q9
          exact q9
    refine g_iconst C dX5_roots_52 ?_
    refine g_istore C dX5_roots_53 (by decide) rfl ?_
    dsimp only [List.set]
    refine g_iconst C dX5_roots_55 ?_
    refine g_istore C dX5_roots_56 (by decide) rfl ?_
    dsimp only [List.set]
    exact outer (q - 1) 1 _ (by omega) (by omega)
  refine g_iload_n C dX5_roots_0 rfl ?_
  refine g_S C (r_isBody hb) dX5_roots_1 KX5_isBody LX5_52 SX5_isBody (by decide) rfl rfl (Nat.le_of_ble_eq_true rfl) ⟨rfl, rfl⟩ ?_
  dsimp only [Option.toList, List.cons_append, List.nil_append]
  refine g_if_eq C dX5_roots_4 (tgt := 14) (by decide) ifr (fun h4 => ?_) (fun h4 => ?_)
  · have w4 : ¬ (0 ≤ b ∧ b ≤ 3) := if0 h4
    refine g_iconst C dX5_roots_14 ?_
    exact kr _ _ _ _ dX5_roots_15 ⟨congrArg (fun z => some (iv z)) (by unfold sroots; (repeat (first | rw [if_pos (by omega)] | rw [if_neg (by omega)]))), H, hm⟩ hm.1
  · have w4 : 0 ≤ b ∧ b ≤ 3 := if1 h4
    refine g_iload_n C dX5_roots_7 rfl ?_
    refine g_S C (r_isBody hb2) dX5_roots_8 KX5_isBody LX5_52 SX5_isBody (by decide) rfl rfl (Nat.le_of_ble_eq_true rfl) ⟨rfl, rfl⟩ ?_
    dsimp only [Option.toList, List.cons_append, List.nil_append]
    refine g_if_ne C dX5_roots_11 (tgt := 16) (by decide) ifr (fun h11 => ?_) (fun h11 => ?_)
    · have w11 : 0 ≤ b2 ∧ b2 ≤ 3 := if1 h11
      refine g_iload_n C dX5_roots_16 rfl ?_
      refine g_iconst C dX5_roots_17 ?_
      refine g_icmp_eq C dX5_roots_18 (tgt := 52) (by decide) (by omega) (by omega) (fun h18 => ?_) (fun h18 => ?_)
      · obtain ⟨n, eb⟩ : ∃ n : Nat, b = (n : Int) := ⟨b.toNat, by omega⟩
        obtain ⟨m, eb2⟩ : ∃ n : Nat, b2 = (n : Int) := ⟨b2.toNat, by omega⟩
        obtain ⟨q, eq⟩ : ∃ n : Nat, p = (n : Int) := ⟨p.toNat, by omega⟩
        have q9 := part n m q eb eb2 eq (by omega) (by omega) (by omega)
        rw [← eb, ← eb2, ← eq] at q9
        exact q9
      · refine g_iload_n C dX5_roots_21 rfl ?_
        refine g_iconst C dX5_roots_22 ?_
        refine g_icmp_eq C dX5_roots_23 (tgt := 52) (by decide) (by omega) (by omega) (fun h23 => ?_) (fun h23 => ?_)
        · obtain ⟨n, eb⟩ : ∃ n : Nat, b = (n : Int) := ⟨b.toNat, by omega⟩
          obtain ⟨m, eb2⟩ : ∃ n : Nat, b2 = (n : Int) := ⟨b2.toNat, by omega⟩
          obtain ⟨q, eq⟩ : ∃ n : Nat, p = (n : Int) := ⟨p.toNat, by omega⟩
          have q9 := part n m q eb eb2 eq (by omega) (by omega) (by omega)
          rw [← eb, ← eb2, ← eq] at q9
          exact q9
        · refine g_iload_n C dX5_roots_26 rfl ?_
          refine g_iconst C dX5_roots_27 ?_
          refine g_icmp_eq C dX5_roots_28 (tgt := 52) (by decide) (by omega) (by omega) (fun h28 => ?_) (fun h28 => ?_)
          · obtain ⟨n, eb⟩ : ∃ n : Nat, b = (n : Int) := ⟨b.toNat, by omega⟩
            obtain ⟨m, eb2⟩ : ∃ n : Nat, b2 = (n : Int) := ⟨b2.toNat, by omega⟩
            obtain ⟨q, eq⟩ : ∃ n : Nat, p = (n : Int) := ⟨p.toNat, by omega⟩
            have q9 := part n m q eb eb2 eq (by omega) (by omega) (by omega)
            rw [← eb, ← eb2, ← eq] at q9
            exact q9
          · refine g_iload_n C dX5_roots_31 rfl ?_
            refine g_bipush C dX5_roots_32 (by decide) ?_
            refine g_icmp_eq C dX5_roots_34 (tgt := 52) (by decide) (by omega) (by omega) (fun h34 => ?_) (fun h34 => ?_)
            · obtain ⟨n, eb⟩ : ∃ n : Nat, b = (n : Int) := ⟨b.toNat, by omega⟩
              obtain ⟨m, eb2⟩ : ∃ n : Nat, b2 = (n : Int) := ⟨b2.toNat, by omega⟩
              obtain ⟨q, eq⟩ : ∃ n : Nat, p = (n : Int) := ⟨p.toNat, by omega⟩
              have q9 := part n m q eb eb2 eq (by omega) (by omega) (by omega)
              rw [← eb, ← eb2, ← eq] at q9
              exact q9
            · refine g_iload_n C dX5_roots_37 rfl ?_
              refine g_bipush C dX5_roots_38 (by decide) ?_
              refine g_icmp_eq C dX5_roots_40 (tgt := 52) (by decide) (by omega) (by omega) (fun h40 => ?_) (fun h40 => ?_)
              · obtain ⟨n, eb⟩ : ∃ n : Nat, b = (n : Int) := ⟨b.toNat, by omega⟩
                obtain ⟨m, eb2⟩ : ∃ n : Nat, b2 = (n : Int) := ⟨b2.toNat, by omega⟩
                obtain ⟨q, eq⟩ : ∃ n : Nat, p = (n : Int) := ⟨p.toNat, by omega⟩
                have q9 := part n m q eb eb2 eq (by omega) (by omega) (by omega)
                rw [← eb, ← eb2, ← eq] at q9
                exact q9
              · refine g_iload_n C dX5_roots_43 rfl ?_
                refine g_bipush C dX5_roots_44 (by decide) ?_
                refine g_icmp_eq C dX5_roots_46 (tgt := 52) (by decide) (by omega) (by omega) (fun h46 => ?_) (fun h46 => ?_)
                · obtain ⟨n, eb⟩ : ∃ n : Nat, b = (n : Int) := ⟨b.toNat, by omega⟩
                  obtain ⟨m, eb2⟩ : ∃ n : Nat, b2 = (n : Int) := ⟨b2.toNat, by omega⟩
                  obtain ⟨q, eq⟩ : ∃ n : Nat, p = (n : Int) := ⟨p.toNat, by omega⟩
                  have q9 := part n m q eb eb2 eq (by omega) (by omega) (by omega)
                  rw [← eb, ← eb2, ← eq] at q9
                  exact q9
                · refine g_bipush C dX5_roots_49 (by decide) ?_
                  exact kr _ _ _ _ dX5_roots_51 ⟨congrArg (fun z => some (iv z)) (by unfold sroots; (repeat (first | rw [if_pos (by omega)] | rw [if_neg (by omega)]))), H, hm⟩ hm.1
    · have w11 : ¬ (0 ≤ b2 ∧ b2 ≤ 3) := if0 h11
      refine g_iconst C dX5_roots_14 ?_
      exact kr _ _ _ _ dX5_roots_15 ⟨congrArg (fun z => some (iv z)) (by unfold sroots; (repeat (first | rw [if_pos (by omega)] | rw [if_neg (by omega)]))), H, hm⟩ hm.1
end MF
