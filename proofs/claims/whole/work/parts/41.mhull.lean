section MH
variable {h : ax_H} {a : Nat} {s : MS} {c : MC} {xs ys : Nat → Int} {pt : Nat} {co : Nat → Int} {cc : Nat} {B K : Nat → List Pt3} {km : Nat}
theorem r_laySums (M : mz h a s c xs ys pt co cc) (S : msi s B K km) {b b2 T T2 : Nat} (hb : b < 4) (hb2 : b2 < 4) (hT : T < 2147483648) (hT2 : T2 < 2147483648) : ax_Mt MX5_laySums [rv a, iv (b : Int), iv (T : Int), iv (b2 : Int), iv (T2 : Int)] h (fun r h' => r = none ∧ ml h' a s c (S2 (B b) T (B b2) T2) ∧ ax_sm a (a + 12) h h') := by
  have hm := ax_sm.rf (lo := a) (hi := a + 12) h
  have hn := S.2.1.len hb
  have hn2 := S.2.1.len hb2
  have ho := (S.2.1 b hb).1
  have ho2 := (S.2.1 b2 hb2).1
  unfold S2
  generalize eX : lx (B b) = X at *
  generalize eY : ly (B b) = Y at *
  generalize eX2 : lx (B b2) = X2 at *
  generalize eY2 : ly (B b2) = Y2 at *
  generalize en : (B b).length = n at *
  generalize en2 : (B b2).length = n2 at *
  refine ax_rv (L0 := [some (rv a), some (iv (b : Int)), some (iv (T : Int)), some (iv (b2 : Int)), some (iv (T2 : Int)), none, none]) rfl rfl (Nat.le_of_ble_eq_true rfl) rfl ?_
  intro p9 l9 e9 R9 s9 m9 args9 below9 meth9 c9 b9 D9 dA9 Q9 C kr
  have inner : ∀ (i : Nat), i < n → (∀ hh : ax_H, mp hh a s c (bss X Y (i + 1) T X2 Y2 n2 T2) (7 * (i + 1)) → ax_sm a (a + 12) h hh → ax_G p9 l9 e9 R9 s9 m9 args9 below9 meth9 c9 b9 D9 dA9 MX5_laySums.2.2.1 h.length (ax_sz h) Q9 (8) ([some (rv a), some (iv (b : Int)), some (iv (T : Int)), some (iv (b2 : Int)), some (iv (T2 : Int)), some (iv ((i + 1 : Nat) : Int)), some (iv (n2 : Int))]) ([]) (hh)) → ∀ (d j : Nat) (hh : ax_H), j + d = n2 → mp hh a s c (fun x y => bss X Y i T X2 Y2 n2 T2 x y ∨ (bt T i ∧ ∃ j', j' < j ∧ bt T2 j' ∧ X i + X2 j' = x ∧ Y i + Y2 j' = y)) (7 * i + j) → ax_sm a (a + 12) h hh → ax_G p9 l9 e9 R9 s9 m9 args9 below9 meth9 c9 b9 D9 dA9 MX5_laySums.2.2.1 h.length (ax_sz h) Q9 (21) ([some (rv a), some (iv (b : Int)), some (iv (T : Int)), some (iv (b2 : Int)), some (iv (T2 : Int)), some (iv (i : Int)), some (iv (j : Int))]) ([]) (hh) := by
    intro i hi K9 d
    have hbi := ho.2 i hi
    induction d with
    | zero =>
      intro j hh hj hP hm
      have ⟨xs, ys, pt, co, cc, M, _⟩ := hP
      have ⟨h0, h1, h2, h3, h4, h5, h6, h7, h8, h9, h10, h11⟩ := M
      have hM := r_many M S hb2
      rw [en2] at hM
      have e9 : j = n2 := by omega
      subst e9
      refine g_iload C dX5_laySums_21 rfl ?_
      refine g_aload_n C dX5_laySums_23 rfl ?_
      refine g_iload_n C dX5_laySums_24 rfl ?_
      refine g_V C (hM) dX5_laySums_25 KX5_many LX5_56 IX5_many VX5_many (by decide) rfl (by assumption) rfl rfl rfl (Nat.le_of_ble_eq_true rfl) ⟨rfl, rfl⟩ ?_
      dsimp only [Option.toList, List.cons_append, List.nil_append]
      refine g_icmp_ge C dX5_laySums_28 (tgt := 94) (by decide) (by omega) (by omega) (fun h28 => ?_) (fun h28 => ?_)
      · refine g_iinc C dX5_laySums_94 (by decide) rfl rfl ?_
        dsimp only [List.set]
        refine g_goto C dX5_laySums_97 (tgt := 8) (by decide) ?_
        exact K9 hh (hP.eqv (fun x y => by rw [bss_succ]) (by omega)) hm
      · exfalso; omega
    | succ d ih =>
      intro j hh hj hP hm
      have ⟨xs, ys, pt, co, cc, M, _⟩ := hP
      have ⟨h0, h1, h2, h3, h4, h5, h6, h7, h8, h9, h10, h11⟩ := M
      have hM := r_many M S hb2
      rw [en2] at hM
      have m1 := r_of_0 M S hb (k := i) (by omega)
      have m2 := r_of_1 M S hb (k := i) (by omega)
      have m3 := r_of_0 M S hb2 (k := j) (by omega)
      have m4 := r_of_1 M S hb2 (k := j) (by omega)
      rw [eX] at m1; rw [eY] at m2; rw [eX2] at m3; rw [eY2] at m4
      have hbj := ho2.2 j (by omega)
      have step : ∀ (g : ax_H), mp g a s c (fun x y => bss X Y i T X2 Y2 n2 T2 x y ∨ (bt T i ∧ ∃ j', j' < j + 1 ∧ bt T2 j' ∧ X i + X2 j' = x ∧ Y i + Y2 j' = y)) (7 * i + (j + 1)) → ax_sm a (a + 12) h g → ax_G p9 l9 e9 R9 s9 m9 args9 below9 meth9 c9 b9 D9 dA9 MX5_laySums.2.2.1 h.length (ax_sz h) Q9 (88) ([some (rv a), some (iv (b : Int)), some (iv (T : Int)), some (iv (b2 : Int)), some (iv (T2 : Int)), some (iv (i : Int)), some (iv (j : Int))]) ([]) (g) := by
        intro g hP hm
        refine g_iincT C dX5_laySums_88 (by decide) rfl (show _ = ((j + 1 : Nat) : Int) by omega) rfl ?_
        dsimp only [List.set]
        refine g_goto C dX5_laySums_91 (tgt := 21) (by decide) ?_
        exact ih (j + 1) _ (by omega) hP hm
      refine g_iload C dX5_laySums_21 rfl ?_
      refine g_aload_n C dX5_laySums_23 rfl ?_
      refine g_iload_n C dX5_laySums_24 rfl ?_
      refine g_V C (hM) dX5_laySums_25 KX5_many LX5_56 IX5_many VX5_many (by decide) rfl (by assumption) rfl rfl rfl (Nat.le_of_ble_eq_true rfl) ⟨rfl, rfl⟩ ?_
      dsimp only [Option.toList, List.cons_append, List.nil_append]
      refine g_icmp_ge C dX5_laySums_28 (tgt := 94) (by decide) (by omega) (by omega) (fun h28 => ?_) (fun h28 => ?_)
      · exfalso; omega
      · refine g_iload_n C dX5_laySums_31 rfl ?_
        refine g_iload C dX5_laySums_32 rfl ?_
        refine g_S C (r_has (T := T) (k := i) hT (by omega)) dX5_laySums_34 KX5_has LX5_80 SX5_has (by decide) rfl rfl (Nat.le_of_ble_eq_true rfl) ⟨rfl, rfl⟩ ?_
        dsimp only [Option.toList, List.cons_append, List.nil_append]
        refine g_if_eq C dX5_laySums_37 (tgt := 88) (by decide) ifr (fun h37 => ?_) (fun h37 => ?_)
        · have w37 : ¬ (T / 2 ^ i % 2 = 1) := if0 h37
          exact step _ (hP.eqv (fun x y => ⟨fun q => q.elim Or.inl (fun ⟨z1, j', z2, z3⟩ => Or.inr ⟨z1, j', by omega, z3⟩), fun q => q.elim Or.inl (fun ⟨z1, _⟩ => absurd z1 w37)⟩) (by omega)) hm
        · have w37 : T / 2 ^ i % 2 = 1 := if1 h37
          refine g_iload C dX5_laySums_40 rfl ?_
          refine g_iload C dX5_laySums_42 rfl ?_
          refine g_S C (r_has (T := T2) (k := j) hT2 (by omega)) dX5_laySums_44 KX5_has LX5_80 SX5_has (by decide) rfl rfl (Nat.le_of_ble_eq_true rfl) ⟨rfl, rfl⟩ ?_
          dsimp only [Option.toList, List.cons_append, List.nil_append]
          refine g_if_eq C dX5_laySums_47 (tgt := 88) (by decide) ifr (fun h47 => ?_) (fun h47 => ?_)
          · have w47 : ¬ (T2 / 2 ^ j % 2 = 1) := if0 h47
            exact step _ (hP.eqv (fun x y => ⟨fun q => q.elim Or.inl (fun ⟨z1, j', z2, z3⟩ => Or.inr ⟨z1, j', by omega, z3⟩), fun q => q.elim Or.inl (fun ⟨z1, j', z2, z3⟩ => Or.inr ⟨z1, j', by
              by_cases c : j' = j
              · subst c; exact absurd z3.1 w47
              · omega, z3⟩)⟩) (by omega)) hm
          · have w47 : T2 / 2 ^ j % 2 = 1 := if1 h47
            refine g_aload_n C dX5_laySums_50 rfl ?_
            refine g_aload_n C dX5_laySums_51 rfl ?_
            refine g_iload_n C dX5_laySums_52 rfl ?_
            refine g_iload C dX5_laySums_53 rfl ?_
            refine g_iconst C dX5_laySums_55 ?_
            refine g_V C (m1) dX5_laySums_56 KX5_of LX5_60 IX5_of VX5_of (by decide) rfl (by assumption) rfl rfl rfl (Nat.le_of_ble_eq_true rfl) ⟨rfl, rfl⟩ ?_
            dsimp only [Option.toList, List.cons_append, List.nil_append]
            refine g_aload_n C dX5_laySums_59 rfl ?_
            refine g_iload_n C dX5_laySums_60 rfl ?_
            refine g_iload C dX5_laySums_61 rfl ?_
            refine g_iconst C dX5_laySums_63 ?_
            refine g_V C (m3) dX5_laySums_64 KX5_of LX5_60 IX5_of VX5_of (by decide) rfl (by assumption) rfl rfl rfl (Nat.le_of_ble_eq_true rfl) ⟨rfl, rfl⟩ ?_
            dsimp only [Option.toList, List.cons_append, List.nil_append]
            refine g_iadd C dX5_laySums_67 ?_
            refine g_aload_n C dX5_laySums_68 rfl ?_
            refine g_iload_n C dX5_laySums_69 rfl ?_
            refine g_iload C dX5_laySums_70 rfl ?_
            refine g_iconst C dX5_laySums_72 ?_
            refine g_V C (m2) dX5_laySums_73 KX5_of LX5_60 IX5_of VX5_of (by decide) rfl (by assumption) rfl rfl rfl (Nat.le_of_ble_eq_true rfl) ⟨rfl, rfl⟩ ?_
            dsimp only [Option.toList, List.cons_append, List.nil_append]
            refine g_aload_n C dX5_laySums_76 rfl ?_
            refine g_iload_n C dX5_laySums_77 rfl ?_
            refine g_iload C dX5_laySums_78 rfl ?_
            refine g_iconst C dX5_laySums_80 ?_
            refine g_V C (m4) dX5_laySums_81 KX5_of LX5_60 IX5_of VX5_of (by decide) rfl (by assumption) rfl rfl rfl (Nat.le_of_ble_eq_true rfl) ⟨rfl, rfl⟩ ?_
            dsimp only [Option.toList, List.cons_append, List.nil_append]
            refine g_iadd C dX5_laySums_84 ?_
            refine g_RV C (r_inc hP (by omega) (show 0 ≤ X i + X2 j ∧ X i + X2 j ≤ 84 by omega) (show 0 ≤ Y i + Y2 j ∧ Y i + Y2 j ≤ 84 by omega)) dX5_laySums_85 KX5_addPoint LX5_84 IX5_addPoint VX5_addPoint (by decide) rfl (by assumption) rfl rfl rfl (Nat.le_of_ble_eq_true rfl) ?_
            intro r1 h1 hP1 hz1
            obtain ⟨rfl, hP, hm1⟩ := hP1
            dsimp only [Option.toList, List.cons_append, List.nil_append]
            exact step _ (hP.eqv (fun x y => ⟨fun q => q.elim (fun q => q.elim Or.inl (fun ⟨z1, j', z2, z3⟩ => Or.inr ⟨z1, j', by omega, z3⟩)) (fun z => Or.inr ⟨w37, j, by omega, w47, z.1.symm, z.2.symm⟩), fun q => q.elim (fun q => Or.inl (Or.inl q)) (fun ⟨z1, j', z2, z3⟩ => by
              by_cases c : j' = j
              · subst c; exact Or.inr ⟨z3.2.1.symm, z3.2.2.symm⟩
              · exact Or.inl (Or.inr ⟨z1, j', by omega, z3⟩))⟩) (by omega)) (hm.tr hm1)
  have outer : ∀ (d i : Nat) (hh : ax_H) (x6 : Option ax_V), i + d = n → mp hh a s c (bss X Y i T X2 Y2 n2 T2) (7 * i) → ax_sm a (a + 12) h hh → ax_G p9 l9 e9 R9 s9 m9 args9 below9 meth9 c9 b9 D9 dA9 MX5_laySums.2.2.1 h.length (ax_sz h) Q9 (8) ([some (rv a), some (iv (b : Int)), some (iv (T : Int)), some (iv (b2 : Int)), some (iv (T2 : Int)), some (iv (i : Int)), x6]) ([]) (hh) := by
    intro d
    induction d with
    | zero =>
      intro i hh x6 hi hP hm
      have ⟨xs, ys, pt, co, cc, M, _⟩ := hP
      have ⟨h0, h1, h2, h3, h4, h5, h6, h7, h8, h9, h10, h11⟩ := M
      have hM := r_many M S hb
      rw [en] at hM
      have e9 : i = n := by omega
      subst e9
      refine g_iload C dX5_laySums_8 rfl ?_
      refine g_aload_n C dX5_laySums_10 rfl ?_
      refine g_iload_n C dX5_laySums_11 rfl ?_
      refine g_V C (hM) dX5_laySums_12 KX5_many LX5_56 IX5_many VX5_many (by decide) rfl (by assumption) rfl rfl rfl (Nat.le_of_ble_eq_true rfl) ⟨rfl, rfl⟩ ?_
      dsimp only [Option.toList, List.cons_append, List.nil_append]
      refine g_icmp_ge C dX5_laySums_15 (tgt := 100) (by decide) (by omega) (by omega) (fun h15 => ?_) (fun h15 => ?_)
      · refine g_aload_n C dX5_laySums_100 rfl ?_
        refine g_RV C (r_lc hP (by omega)) dX5_laySums_101 KX5_layCorners LX5_88 IX5_layCorners VX5_layCorners (by decide) rfl (by assumption) rfl rfl rfl (Nat.le_of_ble_eq_true rfl) ?_
        intro r1 h1 hP1 hz1
        obtain ⟨rfl, hR, hm1⟩ := hP1
        dsimp only [Option.toList, List.cons_append, List.nil_append]
        exact kr _ _ _ dX5_laySums_104 ⟨rfl, hR, hm.tr hm1⟩ (hm.tr hm1).1
      · exfalso; omega
    | succ d ih =>
      intro i hh x6 hi hP hm
      have ⟨xs, ys, pt, co, cc, M, _⟩ := hP
      have ⟨h0, h1, h2, h3, h4, h5, h6, h7, h8, h9, h10, h11⟩ := M
      have hM := r_many M S hb
      rw [en] at hM
      refine g_iload C dX5_laySums_8 rfl ?_
      refine g_aload_n C dX5_laySums_10 rfl ?_
      refine g_iload_n C dX5_laySums_11 rfl ?_
      refine g_V C (hM) dX5_laySums_12 KX5_many LX5_56 IX5_many VX5_many (by decide) rfl (by assumption) rfl rfl rfl (Nat.le_of_ble_eq_true rfl) ⟨rfl, rfl⟩ ?_
      dsimp only [Option.toList, List.cons_append, List.nil_append]
      refine g_icmp_ge C dX5_laySums_15 (tgt := 100) (by decide) (by omega) (by omega) (fun h15 => ?_) (fun h15 => ?_)
      · exfalso; omega
      · refine g_iconst C dX5_laySums_18 ?_
        refine g_istore C dX5_laySums_19 (by decide) rfl ?_
        dsimp only [List.set]
        exact inner i (by omega) (fun hh q1 q2 => ih (i + 1) hh _ (by omega) q1 q2) n2 0 hh (by omega) (hP.eqv (fun x y => ⟨Or.inl, fun q => q.elim id (fun ⟨_, j', z, _⟩ => by omega)⟩) (by omega)) hm
  have ⟨h0, h1, h2, h3, h4, h5, h6, h7, h8, h9, h10, h11⟩ := M
  refine g_aload_n C dX5_laySums_0 rfl ?_
  refine g_iconst C dX5_laySums_1 ?_
  refine g_put C FX5_63 dX5_laySums_2 (by assumption) rfl rfl (Nat.le_of_ble_eq_true rfl) ?_
  dsimp only [List.set]
  refine mo_s_pt 0 rfl M hm ?_
  intro h9 M hm
  refine g_iconst C dX5_laySums_5 ?_
  refine g_istore C dX5_laySums_6 (by decide) rfl ?_
  dsimp only [List.set]
  exact outer n 0 _ none (by omega) ((mp0 M).eqv (fun x y => ⟨fun q => q.elim, fun ⟨k, hk, _⟩ => by omega⟩) (Nat.le_refl _)) hm
theorem r_areaOf (M : mz h a s c xs ys pt co cc) (S : msi s B K km) {b T : Nat} (hb : b < 4) (hT : T < 2147483648) : ax_Mt MX5_areaOf [rv a, iv (b : Int), iv (T : Int)] h (fun r h' => r = some (iv (hA (S1 (B b) T))) ∧ (∃ xs' ys' pt' co' cc', mz h' a s c xs' ys' pt' co' cc') ∧ ax_sm a (a + 12) h h') := by
  have hm := ax_sm.rf (lo := a) (hi := a + 12) h
  have ⟨h0, h1, h2, h3, h4, h5, h6, h7, h8, h9, h10, h11⟩ := M
  refine ax_ri (L0 := [some (rv a), some (iv (b : Int)), some (iv (T : Int))]) rfl rfl (Nat.le_of_ble_eq_true rfl) rfl ?_
  intro p9 l9 e9 R9 s9 m9 args9 below9 meth9 c9 b9 D9 dA9 Q9 C kr
  refine g_aload_n C dX5_areaOf_0 rfl ?_
  refine g_iload_n C dX5_areaOf_1 rfl ?_
  refine g_iload_n C dX5_areaOf_2 rfl ?_
  refine g_RV C (r_layBody M S hb hT) dX5_areaOf_3 KX5_layBody LX5_94 IX5_layBody VX5_layBody (by decide) rfl (by assumption) rfl rfl rfl (Nat.le_of_ble_eq_true rfl) ?_
  intro r1 g1 hP1 hz1
  obtain ⟨rfl, hm1, xs', ys', pt', co', cc', M1, L1, -⟩ := hP1
  have ⟨q0, q1, q2, q3, q4, q5, q6, q7, q8, q9, q10, q11⟩ := M1
  dsimp only [Option.toList, List.cons_append, List.nil_append]
  refine g_aload_n C dX5_areaOf_6 rfl ?_
  refine g_V C (r_area M1 L1) dX5_areaOf_7 KX5_area LX5_97 IX5_area VX5_area (by decide) rfl (by assumption) rfl rfl rfl (Nat.le_of_ble_eq_true rfl) ⟨rfl, rfl⟩ ?_
  dsimp only [Option.toList, List.cons_append, List.nil_append]
  exact kr _ _ _ _ dX5_areaOf_10 ⟨rfl, ⟨_, _, _, _, _, M1⟩, hm1⟩ hm1.1
theorem r_spanOf (M : mz h a s c xs ys pt co cc) (S : msi s B K km) {b T : Nat} (hb : b < 4) (hT : T < 2147483648) : ax_Mt MX5_spanOf [rv a, iv (b : Int), iv (T : Int)] h (fun r h' => r = some (iv (hS (S1 (B b) T))) ∧ (∃ xs' ys' pt' co' cc', mz h' a s c xs' ys' pt' co' cc') ∧ ax_sm a (a + 12) h h') := by
  have hm := ax_sm.rf (lo := a) (hi := a + 12) h
  have ⟨h0, h1, h2, h3, h4, h5, h6, h7, h8, h9, h10, h11⟩ := M
  refine ax_ri (L0 := [some (rv a), some (iv (b : Int)), some (iv (T : Int))]) rfl rfl (Nat.le_of_ble_eq_true rfl) rfl ?_
  intro p9 l9 e9 R9 s9 m9 args9 below9 meth9 c9 b9 D9 dA9 Q9 C kr
  refine g_aload_n C dX5_spanOf_0 rfl ?_
  refine g_iload_n C dX5_spanOf_1 rfl ?_
  refine g_iload_n C dX5_spanOf_2 rfl ?_
  refine g_RV C (r_layBody M S hb hT) dX5_spanOf_3 KX5_layBody LX5_94 IX5_layBody VX5_layBody (by decide) rfl (by assumption) rfl rfl rfl (Nat.le_of_ble_eq_true rfl) ?_
  intro r1 g1 hP1 hz1
  obtain ⟨rfl, hm1, xs', ys', pt', co', cc', M1, L1, -⟩ := hP1
  have ⟨q0, q1, q2, q3, q4, q5, q6, q7, q8, q9, q10, q11⟩ := M1
  dsimp only [Option.toList, List.cons_append, List.nil_append]
  refine g_aload_n C dX5_spanOf_6 rfl ?_
  refine g_V C (r_span M1 L1) dX5_spanOf_7 KX5_span LX5_104 IX5_span VX5_span (by decide) rfl (by assumption) rfl rfl rfl (Nat.le_of_ble_eq_true rfl) ⟨rfl, rfl⟩ ?_
  dsimp only [Option.toList, List.cons_append, List.nil_append]
  exact kr _ _ _ _ dX5_spanOf_10 ⟨rfl, ⟨_, _, _, _, _, M1⟩, hm1⟩ hm1.1
theorem r_areaOfSums (M : mz h a s c xs ys pt co cc) (S : msi s B K km) {b b2 T T2 : Nat} (hb : b < 4) (hb2 : b2 < 4) (hT : T < 2147483648) (hT2 : T2 < 2147483648) : ax_Mt MX5_areaOfSums [rv a, iv (b : Int), iv (T : Int), iv (b2 : Int), iv (T2 : Int)] h (fun r h' => r = some (iv (hA (S2 (B b) T (B b2) T2))) ∧ (∃ xs' ys' pt' co' cc', mz h' a s c xs' ys' pt' co' cc') ∧ ax_sm a (a + 12) h h') := by
  have hm := ax_sm.rf (lo := a) (hi := a + 12) h
  have ⟨h0, h1, h2, h3, h4, h5, h6, h7, h8, h9, h10, h11⟩ := M
  refine ax_ri (L0 := [some (rv a), some (iv (b : Int)), some (iv (T : Int)), some (iv (b2 : Int)), some (iv (T2 : Int))]) rfl rfl (Nat.le_of_ble_eq_true rfl) rfl ?_
  intro p9 l9 e9 R9 s9 m9 args9 below9 meth9 c9 b9 D9 dA9 Q9 C kr
  refine g_aload_n C dX5_areaOfSums_0 rfl ?_
  refine g_iload_n C dX5_areaOfSums_1 rfl ?_
  refine g_iload_n C dX5_areaOfSums_2 rfl ?_
  refine g_iload_n C dX5_areaOfSums_3 rfl ?_
  refine g_iload C dX5_areaOfSums_4 rfl ?_
  refine g_RV C (r_laySums M S hb hb2 hT hT2) dX5_areaOfSums_6 KX5_laySums LX5_107 IX5_laySums VX5_laySums (by decide) rfl (by assumption) rfl rfl rfl (Nat.le_of_ble_eq_true rfl) ?_
  intro r1 g1 hP1 hz1
  obtain ⟨rfl, ⟨xs', ys', pt', co', cc', M1, L1⟩, hm1⟩ := hP1
  have ⟨q0, q1, q2, q3, q4, q5, q6, q7, q8, q9, q10, q11⟩ := M1
  dsimp only [Option.toList, List.cons_append, List.nil_append]
  refine g_aload_n C dX5_areaOfSums_9 rfl ?_
  refine g_V C (r_area M1 L1) dX5_areaOfSums_10 KX5_area LX5_97 IX5_area VX5_area (by decide) rfl (by assumption) rfl rfl rfl (Nat.le_of_ble_eq_true rfl) ⟨rfl, rfl⟩ ?_
  dsimp only [Option.toList, List.cons_append, List.nil_append]
  exact kr _ _ _ _ dX5_areaOfSums_13 ⟨rfl, ⟨_, _, _, _, _, M1⟩, hm1⟩ hm1.1
theorem r_corner (H : mw h a B K km) {b i : Int} (hb : -2147483648 ≤ b ∧ b < 2147483648) (hi : -2147483648 ≤ i ∧ i < 2147483648) : ax_Mt MX5_corner [rv a, iv b, iv i] h (fun r h' => r = some (iv (scorner B b i)) ∧ mw h' a B K km ∧ ax_sm a (a + 12) h h') := by
  have hm := ax_sm.rf (lo := a) (hi := a + 12) h
  have ⟨s, c, xs, ys, pt, co, cc, M, S⟩ := H
  have ⟨h0, h1, h2, h3, h4, h5, h6, h7, h8, h9, h10, h11⟩ := M
  refine ax_ri (L0 := [some (rv a), some (iv b), some (iv i)]) rfl rfl (Nat.le_of_ble_eq_true rfl) rfl ?_
  intro p9 l9 e9 R9 s9 m9 args9 below9 meth9 c9 b9 D9 dA9 Q9 C kr
  refine g_iload_n C dX5_corner_0 rfl ?_
  refine g_S C (r_isBody hb) dX5_corner_1 KX5_isBody LX5_52 SX5_isBody (by decide) rfl rfl (Nat.le_of_ble_eq_true rfl) ⟨rfl, rfl⟩ ?_
  dsimp only [Option.toList, List.cons_append, List.nil_append]
  refine g_if_ne C dX5_corner_4 (tgt := 9) (by decide) ifr (fun h4 => ?_) (fun h4 => ?_)
  · have w4 : 0 ≤ b ∧ b ≤ 3 := if1 h4
    obtain ⟨n, rfl⟩ : ∃ n : Nat, b = (n : Int) := ⟨b.toNat, by omega⟩
    have hL := S.2.1.len (b := n) (by omega)
    have hO := S.2.1 n (by omega)
    refine g_aload_n C dX5_corner_9 rfl ?_
    refine g_iload_n C dX5_corner_10 rfl ?_
    refine g_bipush C dX5_corner_11 (by decide) ?_
    refine g_RV C (r_layBody M S (b := n) (T := 127) (by omega) (by decide)) dX5_corner_13 KX5_layBody LX5_94 IX5_layBody VX5_layBody (by decide) rfl (by assumption) rfl rfl rfl (Nat.le_of_ble_eq_true rfl) ?_
    intro r1 g1 hP1 hz1
    obtain ⟨rfl, hm1, xs', ys', pt', co', cc', M1, L1, e7⟩ := hP1
    have e7 := e7 rfl
    have ⟨q0, q1, q2, q3, q4, q5, q6, q7, q8, q9, q10, q11⟩ := M1
    obtain ⟨lr, li, lp, eS, ec, hc, r, hL1⟩ := L1
    dsimp only [Option.toList, List.cons_append, List.nil_append]
    refine g_iload_n C dX5_corner_16 rfl ?_
    refine g_iconst C dX5_corner_17 ?_
    refine g_aload_n C dX5_corner_18 rfl ?_
    refine g_get C FX5_74 dX5_corner_19 (by assumption) rfl ?_
    refine g_iconst C dX5_corner_22 ?_
    refine g_isub C dX5_corner_23 ?_
    refine g_S C (r_in hi (by omega) (by omega)) dX5_corner_24 KX5_in LX5_44 SX5_in (by decide) rfl rfl (Nat.le_of_ble_eq_true rfl) ⟨rfl, rfl⟩ ?_
    dsimp only [Option.toList, List.cons_append, List.nil_append]
    refine g_if_eq C dX5_corner_27 (tgt := 39) (by decide) ifr (fun h27 => ?_) (fun h27 => ?_)
    · have w27 : ¬ (0 ≤ i ∧ i ≤ (cc' : Int) - 1) := if0 h27
      refine g_bipush C dX5_corner_39 (by decide) ?_
      exact kr _ _ _ _ dX5_corner_41 ⟨congrArg (fun z => some (iv z)) (by unfold scorner; rw [Int.toNat_natCast, ← ec]; (repeat (first | rw [if_pos (by omega)] | rw [if_neg (by omega)]))), ⟨s, c, _, _, _, _, _, M1, S⟩, hm1⟩ hm1.1
    · have w27 : 0 ≤ i ∧ i ≤ (cc' : Int) - 1 := if1 h27
      obtain ⟨j, rfl⟩ : ∃ n : Nat, i = (n : Int) := ⟨i.toNat, by omega⟩
      have hj := hL1 j (by omega)
      refine g_aload_n C dX5_corner_30 rfl ?_
      refine g_get C FX5_26 dX5_corner_31 (by assumption) rfl ?_
      refine g_iload_n C dX5_corner_34 rfl ?_
      refine g_iald C dX5_corner_35 (by assumption) rfl (by omega) (by decide) ?_
      rw [hj.1]
      refine g_goto C dX5_corner_36 (tgt := 41) (by decide) ?_
      exact kr _ _ _ _ dX5_corner_41 ⟨congrArg (fun z => some (iv z)) (by
        unfold scorner; rw [Int.toNat_natCast, Int.toNat_natCast, ← ec]
        rw [if_neg (by omega), if_neg (by omega), ← hj.2.2.1, ← hj.2.2.2]
        have z := e7.2 (r j) (by omega)
        rw [z.1, z.2]
        unfold fnd
        rcases find_is (X := lx (B n)) (Y := ly (B n)) (x := lx (B n) (r j)) (y := ly (B n) (r j)) (B n).length 0 with ⟨w1, w2⟩ | ⟨k, w1, w2, w3, w4, w5, w6⟩
        · exact absurd ⟨rfl, rfl⟩ (w2 (r j) (by omega) (by omega))
        · rw [w3, hO.2 k (r j) (by omega) (by omega) w4 w5]), ⟨s, c, _, _, _, _, _, M1, S⟩, hm1⟩ hm1.1
  · have w4 : ¬ (0 ≤ b ∧ b ≤ 3) := if0 h4
    refine g_iconst C dX5_corner_7 ?_
    exact kr _ _ _ _ dX5_corner_8 ⟨congrArg (fun z => some (iv z)) (by unfold scorner; (repeat (first | rw [if_pos (by omega)] | rw [if_neg (by omega)]))), H, hm⟩ hm.1
theorem r_sum (H : mw h a B K km) {b b2 w : Int} (hb : -2147483648 ≤ b ∧ b < 2147483648) (hb2 : -2147483648 ≤ b2 ∧ b2 < 2147483648) (hw : -2147483648 ≤ w ∧ w < 2147483648) : ax_Mt MX5_sum [rv a, iv b, iv b2, iv w] h (fun r h' => r = some (iv (ssum B b b2 w)) ∧ mw h' a B K km ∧ ax_sm a (a + 12) h h') := by
  have hm := ax_sm.rf (lo := a) (hi := a + 12) h
  have ⟨s, c, xs, ys, pt, co, cc, M, S⟩ := H
  have ⟨h0, h1, h2, h3, h4, h5, h6, h7, h8, h9, h10, h11⟩ := M
  refine ax_ri (L0 := [some (rv a), some (iv b), some (iv b2), some (iv w)]) rfl rfl (Nat.le_of_ble_eq_true rfl) rfl ?_
  intro p9 l9 e9 R9 s9 m9 args9 below9 meth9 c9 b9 D9 dA9 Q9 C kr
  refine g_iload_n C dX5_sum_0 rfl ?_
  refine g_S C (r_isBody hb) dX5_sum_1 KX5_isBody LX5_52 SX5_isBody (by decide) rfl rfl (Nat.le_of_ble_eq_true rfl) ⟨rfl, rfl⟩ ?_
  dsimp only [Option.toList, List.cons_append, List.nil_append]
  refine g_if_eq C dX5_sum_4 (tgt := 14) (by decide) ifr (fun h4 => ?_) (fun h4 => ?_)
  · have w4 : ¬ (0 ≤ b ∧ b ≤ 3) := if0 h4
    refine g_iconst C dX5_sum_14 ?_
    exact kr _ _ _ _ dX5_sum_15 ⟨congrArg (fun z => some (iv z)) (by unfold ssum; (repeat (first | rw [if_pos (by omega)] | rw [if_neg (by omega)]))), H, hm⟩ hm.1
  · have w4 : 0 ≤ b ∧ b ≤ 3 := if1 h4
    refine g_iload_n C dX5_sum_7 rfl ?_
    refine g_S C (r_isBody hb2) dX5_sum_8 KX5_isBody LX5_52 SX5_isBody (by decide) rfl rfl (Nat.le_of_ble_eq_true rfl) ⟨rfl, rfl⟩ ?_
    dsimp only [Option.toList, List.cons_append, List.nil_append]
    refine g_if_ne C dX5_sum_11 (tgt := 16) (by decide) ifr (fun h11 => ?_) (fun h11 => ?_)
    · have w11 : 0 ≤ b2 ∧ b2 ≤ 3 := if1 h11
      refine g_iload_n C dX5_sum_16 rfl ?_
      refine g_iconst C dX5_sum_17 ?_
      refine g_iconst C dX5_sum_18 ?_
      refine g_S C (r_in hw (by omega) (by omega)) dX5_sum_19 KX5_in LX5_44 SX5_in (by decide) rfl rfl (Nat.le_of_ble_eq_true rfl) ⟨rfl, rfl⟩ ?_
      dsimp only [Option.toList, List.cons_append, List.nil_append]
      refine g_if_ne C dX5_sum_22 (tgt := 28) (by decide) ifr (fun h22 => ?_) (fun h22 => ?_)
      · have w22 : 0 ≤ w ∧ w ≤ 3 := if1 h22
        obtain ⟨n, rfl⟩ : ∃ n : Nat, b = (n : Int) := ⟨b.toNat, by omega⟩
        obtain ⟨m, rfl⟩ : ∃ n : Nat, b2 = (n : Int) := ⟨b2.toNat, by omega⟩
        have hn : n < 4 := by omega
        have hm4 : m < 4 := by omega
        have hL := S.2.1.len hn
        have hL2 := S.2.1.len hm4
        refine g_iload_n C dX5_sum_28 rfl ?_
        refine g_iconst C dX5_sum_29 ?_
        refine g_icmp_ne C dX5_sum_30 (tgt := 80) (by decide) (by omega) (by omega) (fun h30 => ?_) (fun h30 => ?_)
        · refine g_aload_n C dX5_sum_80 rfl ?_
          refine g_iload_n C dX5_sum_81 rfl ?_
          refine g_bipush C dX5_sum_82 (by decide) ?_
          refine g_iload_n C dX5_sum_84 rfl ?_
          refine g_bipush C dX5_sum_85 (by decide) ?_
          refine g_RV C (r_laySums M S hn hm4 (T := 127) (T2 := 127) (by decide) (by decide)) dX5_sum_87 KX5_laySums LX5_107 IX5_laySums VX5_laySums (by decide) rfl (by assumption) rfl rfl rfl (Nat.le_of_ble_eq_true rfl) ?_
          intro r1 g1 hP1 hz1
          obtain ⟨rfl, ⟨xs1, ys1, pt1, co1, cc1, M1, L1⟩, hm1⟩ := hP1
          have ⟨q0, q1, q2, q3, q4, q5, q6, q7, q8, q9, q10, q11⟩ := M1
          have hZ1 := hZ_is L1.2.1 L1.2.2.2.1
          have hC1 := L1.2.2.2.2.1
          dsimp only [Option.toList, List.cons_append, List.nil_append]
          refine g_iload_n C dX5_sum_90 rfl ?_
          refine g_if_ne C dX5_sum_91 (tgt := 101) (by decide) (by omega) (fun h91 => ?_) (fun h91 => ?_)
          · refine g_iload_n C dX5_sum_101 rfl ?_
            refine g_iconst C dX5_sum_102 ?_
            refine g_icmp_ne C dX5_sum_103 (tgt := 113) (by decide) (by omega) (by omega) (fun h103 => ?_) (fun h103 => ?_)
            · refine g_aload_n C dX5_sum_113 rfl ?_
              refine g_get C FX5_74 dX5_sum_114 (by assumption) rfl ?_
              exact kr _ _ _ _ dX5_sum_117 ⟨congrArg (fun z => some (iv z)) (by unfold ssum; rw [Int.toNat_natCast, Int.toNat_natCast, ← hZ1, ← hC1]; (repeat (first | rw [if_pos (by omega)] | rw [if_neg (by omega)]))), ⟨s, c, _, _, _, _, _, M1, S⟩, hm1⟩ hm1.1
            · refine g_aload_n C dX5_sum_106 rfl ?_
              refine g_V C (r_area M1 L1) dX5_sum_107 KX5_area LX5_97 IX5_area VX5_area (by decide) rfl (by assumption) rfl rfl rfl (Nat.le_of_ble_eq_true rfl) ⟨rfl, rfl⟩ ?_
              dsimp only [Option.toList, List.cons_append, List.nil_append]
              refine g_goto C dX5_sum_110 (tgt := 117) (by decide) ?_
              exact kr _ _ _ _ dX5_sum_117 ⟨congrArg (fun z => some (iv z)) (by unfold ssum; rw [Int.toNat_natCast, Int.toNat_natCast, ← hZ1, ← hC1]; (repeat (first | rw [if_pos (by omega)] | rw [if_neg (by omega)]))), ⟨s, c, _, _, _, _, _, M1, S⟩, hm1⟩ hm1.1
          · refine g_aload_n C dX5_sum_94 rfl ?_
            refine g_get C FX5_63 dX5_sum_95 (by assumption) rfl ?_
            refine g_goto C dX5_sum_98 (tgt := 117) (by decide) ?_
            exact kr _ _ _ _ dX5_sum_117 ⟨congrArg (fun z => some (iv z)) (by unfold ssum; rw [Int.toNat_natCast, Int.toNat_natCast, ← hZ1, ← hC1]; (repeat (first | rw [if_pos (by omega)] | rw [if_neg (by omega)]))), ⟨s, c, _, _, _, _, _, M1, S⟩, hm1⟩ hm1.1
        · refine g_aload_n C dX5_sum_33 rfl ?_
          refine g_iload_n C dX5_sum_34 rfl ?_
          refine g_V C (r_many M S hn) dX5_sum_35 KX5_many LX5_56 IX5_many VX5_many (by decide) rfl (by assumption) rfl rfl rfl (Nat.le_of_ble_eq_true rfl) ⟨rfl, rfl⟩ ?_
          dsimp only [Option.toList, List.cons_append, List.nil_append]
          refine g_if_eq C dX5_sum_38 (tgt := 49) (by decide) (by omega) (fun h38 => ?_) (fun h38 => ?_)
          · refine g_iconst C dX5_sum_49 ?_
            refine g_goto C dX5_sum_50 (tgt := 79) (by decide) ?_
            exact kr _ _ _ _ dX5_sum_79 ⟨congrArg (fun z => some (iv z)) (by unfold ssum; rw [Int.toNat_natCast, Int.toNat_natCast]; (repeat (first | rw [if_pos (by omega)] | rw [if_neg (by omega)]))), H, hm⟩ hm.1
          · refine g_aload_n C dX5_sum_41 rfl ?_
            refine g_iload_n C dX5_sum_42 rfl ?_
            refine g_V C (r_many M S hm4) dX5_sum_43 KX5_many LX5_56 IX5_many VX5_many (by decide) rfl (by assumption) rfl rfl rfl (Nat.le_of_ble_eq_true rfl) ⟨rfl, rfl⟩ ?_
            dsimp only [Option.toList, List.cons_append, List.nil_append]
            refine g_if_ne C dX5_sum_46 (tgt := 53) (by decide) (by omega) (fun h46 => ?_) (fun h46 => ?_)
            · refine g_aload_n C dX5_sum_53 rfl ?_
              refine g_iload_n C dX5_sum_54 rfl ?_
              refine g_bipush C dX5_sum_55 (by decide) ?_
              refine g_iload_n C dX5_sum_57 rfl ?_
              refine g_bipush C dX5_sum_58 (by decide) ?_
              refine g_RV C (r_areaOfSums M S hn hm4 (T := 127) (T2 := 127) (by decide) (by decide)) dX5_sum_60 KX5_areaOfSums LX5_111 IX5_areaOfSums VX5_areaOfSums (by decide) rfl (by assumption) rfl rfl rfl (Nat.le_of_ble_eq_true rfl) ?_
              intro r1 g1 hP1 hz1
              obtain ⟨rfl, ⟨xs1, ys1, pt1, co1, cc1, M1⟩, hm1⟩ := hP1
              have ⟨q0, q1, q2, q3, q4, q5, q6, q7, q8, q9, q10, q11⟩ := M1
              dsimp only [Option.toList, List.cons_append, List.nil_append]
              refine g_aload_n C dX5_sum_63 rfl ?_
              refine g_iload_n C dX5_sum_64 rfl ?_
              refine g_bipush C dX5_sum_65 (by decide) ?_
              refine g_RV C (r_areaOf M1 S hn (T := 127) (by decide)) dX5_sum_67 KX5_areaOf LX5_115 IX5_areaOf VX5_areaOf (by decide) rfl (by assumption) rfl rfl rfl (Nat.le_of_ble_eq_true rfl) ?_
              intro r1 g1 hP1 hz1
              obtain ⟨rfl, ⟨xs1, ys1, pt1, co1, cc1, M1⟩, hm2⟩ := hP1
              have hm1 := hm1.tr hm2
              have ⟨q0, q1, q2, q3, q4, q5, q6, q7, q8, q9, q10, q11⟩ := M1
              dsimp only [Option.toList, List.cons_append, List.nil_append]
              refine g_isub C dX5_sum_70 ?_
              refine g_aload_n C dX5_sum_71 rfl ?_
              refine g_iload_n C dX5_sum_72 rfl ?_
              refine g_bipush C dX5_sum_73 (by decide) ?_
              refine g_RV C (r_areaOf M1 S hm4 (T := 127) (by decide)) dX5_sum_75 KX5_areaOf LX5_115 IX5_areaOf VX5_areaOf (by decide) rfl (by assumption) rfl rfl rfl (Nat.le_of_ble_eq_true rfl) ?_
              intro r1 g1 hP1 hz1
              obtain ⟨rfl, ⟨xs1, ys1, pt1, co1, cc1, M1⟩, hm2⟩ := hP1
              have hm1 := hm1.tr hm2
              dsimp only [Option.toList, List.cons_append, List.nil_append]
              refine g_isub C dX5_sum_78 ?_
              exact kr _ _ _ _ dX5_sum_79 ⟨congrArg (fun z => some (iv z)) (by unfold ssum; rw [Int.toNat_natCast, Int.toNat_natCast]; (repeat (first | rw [if_pos (by omega)] | rw [if_neg (by omega)]))), ⟨s, c, _, _, _, _, _, M1, S⟩, hm1⟩ hm1.1
            · refine g_iconst C dX5_sum_49 ?_
              refine g_goto C dX5_sum_50 (tgt := 79) (by decide) ?_
              exact kr _ _ _ _ dX5_sum_79 ⟨congrArg (fun z => some (iv z)) (by unfold ssum; rw [Int.toNat_natCast, Int.toNat_natCast]; (repeat (first | rw [if_pos (by omega)] | rw [if_neg (by omega)]))), H, hm⟩ hm.1
      · have w22 : ¬ (0 ≤ w ∧ w ≤ 3) := if0 h22
        refine g_bipush C dX5_sum_25 (by decide) ?_
        exact kr _ _ _ _ dX5_sum_27 ⟨congrArg (fun z => some (iv z)) (by unfold ssum; (repeat (first | rw [if_pos (by omega)] | rw [if_neg (by omega)]))), H, hm⟩ hm.1
    · have w11 : ¬ (0 ≤ b2 ∧ b2 ≤ 3) := if0 h11
      refine g_iconst C dX5_sum_14 ?_
      exact kr _ _ _ _ dX5_sum_15 ⟨congrArg (fun z => some (iv z)) (by unfold ssum; (repeat (first | rw [if_pos (by omega)] | rw [if_neg (by omega)]))), H, hm⟩ hm.1
theorem r_sumCorner (H : mw h a B K km) {b b2 i w : Int} (hb : -2147483648 ≤ b ∧ b < 2147483648) (hb2 : -2147483648 ≤ b2 ∧ b2 < 2147483648) (hi : -2147483648 ≤ i ∧ i < 2147483648) (hw : -2147483648 ≤ w ∧ w < 2147483648) : ax_Mt MX5_sumCorner [rv a, iv b, iv b2, iv i, iv w] h (fun r h' => r = some (iv (ssc B b b2 i w)) ∧ mw h' a B K km ∧ ax_sm a (a + 12) h h') := by
  have hm := ax_sm.rf (lo := a) (hi := a + 12) h
  have ⟨s, c, xs, ys, pt, co, cc, M, S⟩ := H
  have ⟨h0, h1, h2, h3, h4, h5, h6, h7, h8, h9, h10, h11⟩ := M
  refine ax_ri (L0 := [some (rv a), some (iv b), some (iv b2), some (iv i), some (iv w)]) rfl rfl (Nat.le_of_ble_eq_true rfl) rfl ?_
  intro p9 l9 e9 R9 s9 m9 args9 below9 meth9 c9 b9 D9 dA9 Q9 C kr
  refine g_iload_n C dX5_sumCorner_0 rfl ?_
  refine g_S C (r_isBody hb) dX5_sumCorner_1 KX5_isBody LX5_52 SX5_isBody (by decide) rfl rfl (Nat.le_of_ble_eq_true rfl) ⟨rfl, rfl⟩ ?_
  dsimp only [Option.toList, List.cons_append, List.nil_append]
  refine g_if_eq C dX5_sumCorner_4 (tgt := 14) (by decide) ifr (fun h4 => ?_) (fun h4 => ?_)
  · have w4 : ¬ (0 ≤ b ∧ b ≤ 3) := if0 h4
    refine g_iconst C dX5_sumCorner_14 ?_
    exact kr _ _ _ _ dX5_sumCorner_15 ⟨congrArg (fun z => some (iv z)) (by unfold ssc; (repeat (first | rw [if_pos (by omega)] | rw [if_neg (by omega)]))), H, hm⟩ hm.1
  · have w4 : 0 ≤ b ∧ b ≤ 3 := if1 h4
    refine g_iload_n C dX5_sumCorner_7 rfl ?_
    refine g_S C (r_isBody hb2) dX5_sumCorner_8 KX5_isBody LX5_52 SX5_isBody (by decide) rfl rfl (Nat.le_of_ble_eq_true rfl) ⟨rfl, rfl⟩ ?_
    dsimp only [Option.toList, List.cons_append, List.nil_append]
    refine g_if_ne C dX5_sumCorner_11 (tgt := 16) (by decide) ifr (fun h11 => ?_) (fun h11 => ?_)
    · have w11 : 0 ≤ b2 ∧ b2 ≤ 3 := if1 h11
      refine g_iload C dX5_sumCorner_16 rfl ?_
      refine g_iconst C dX5_sumCorner_18 ?_
      refine g_iconst C dX5_sumCorner_19 ?_
      refine g_S C (r_in hw (by omega) (by omega)) dX5_sumCorner_20 KX5_in LX5_44 SX5_in (by decide) rfl rfl (Nat.le_of_ble_eq_true rfl) ⟨rfl, rfl⟩ ?_
      dsimp only [Option.toList, List.cons_append, List.nil_append]
      refine g_if_ne C dX5_sumCorner_23 (tgt := 29) (by decide) ifr (fun h23 => ?_) (fun h23 => ?_)
      · have w23 : 0 ≤ w ∧ w ≤ 1 := if1 h23
        obtain ⟨n, rfl⟩ : ∃ n : Nat, b = (n : Int) := ⟨b.toNat, by omega⟩
        obtain ⟨m, rfl⟩ : ∃ n : Nat, b2 = (n : Int) := ⟨b2.toNat, by omega⟩
        refine g_aload_n C dX5_sumCorner_29 rfl ?_
        refine g_iload_n C dX5_sumCorner_30 rfl ?_
        refine g_bipush C dX5_sumCorner_31 (by decide) ?_
        refine g_iload_n C dX5_sumCorner_33 rfl ?_
        refine g_bipush C dX5_sumCorner_34 (by decide) ?_
        refine g_RV C (r_laySums M S (b := n) (b2 := m) (by omega) (by omega) (T := 127) (T2 := 127) (by decide) (by decide)) dX5_sumCorner_36 KX5_laySums LX5_107 IX5_laySums VX5_laySums (by decide) rfl (by assumption) rfl rfl rfl (Nat.le_of_ble_eq_true rfl) ?_
        intro r1 g1 hP1 hz1
        obtain ⟨rfl, ⟨xs1, ys1, pt1, co1, cc1, M1, L1⟩, hm1⟩ := hP1
        have ⟨q0, q1, q2, q3, q4, q5, q6, q7, q8, q9, q10, q11⟩ := M1
        obtain ⟨lr, li, lp, eS, ec, hc, r, hL1⟩ := L1
        dsimp only [Option.toList, List.cons_append, List.nil_append]
        refine g_iload_n C dX5_sumCorner_39 rfl ?_
        refine g_iconst C dX5_sumCorner_40 ?_
        refine g_aload_n C dX5_sumCorner_41 rfl ?_
        refine g_get C FX5_74 dX5_sumCorner_42 (by assumption) rfl ?_
        refine g_iconst C dX5_sumCorner_45 ?_
        refine g_isub C dX5_sumCorner_46 ?_
        refine g_S C (r_in hi (by omega) (by omega)) dX5_sumCorner_47 KX5_in LX5_44 SX5_in (by decide) rfl rfl (Nat.le_of_ble_eq_true rfl) ⟨rfl, rfl⟩ ?_
        dsimp only [Option.toList, List.cons_append, List.nil_append]
        refine g_if_ne C dX5_sumCorner_50 (tgt := 56) (by decide) ifr (fun h50 => ?_) (fun h50 => ?_)
        · have w50 : 0 ≤ i ∧ i ≤ (cc1 : Int) - 1 := if1 h50
          obtain ⟨j, rfl⟩ : ∃ n : Nat, i = (n : Int) := ⟨i.toNat, by omega⟩
          have hj := hL1 j (by omega)
          refine g_iload C dX5_sumCorner_56 rfl ?_
          refine g_if_ne C dX5_sumCorner_58 (tgt := 75) (by decide) (by omega) (fun h58 => ?_) (fun h58 => ?_)
          · refine g_aload_n C dX5_sumCorner_75 rfl ?_
            refine g_get C FX5_23 dX5_sumCorner_76 (by assumption) rfl ?_
            refine g_aload_n C dX5_sumCorner_79 rfl ?_
            refine g_get C FX5_26 dX5_sumCorner_80 (by assumption) rfl ?_
            refine g_iload_n C dX5_sumCorner_83 rfl ?_
            refine g_iald C dX5_sumCorner_84 (by assumption) rfl (by omega) (by decide) ?_
            rw [hj.1]
            refine g_iald C dX5_sumCorner_85 (by assumption) rfl (by omega) (by decide) ?_
            rw [hj.2.2.2]
            exact kr _ _ _ _ dX5_sumCorner_86 ⟨congrArg (fun z => some (iv z)) (by unfold ssc; rw [Int.toNat_natCast, Int.toNat_natCast, Int.toNat_natCast, ← ec]; (repeat (first | rw [if_pos (by omega)] | rw [if_neg (by omega)]))), ⟨s, c, _, _, _, _, _, M1, S⟩, hm1⟩ hm1.1
          · refine g_aload_n C dX5_sumCorner_61 rfl ?_
            refine g_get C FX5_20 dX5_sumCorner_62 (by assumption) rfl ?_
            refine g_aload_n C dX5_sumCorner_65 rfl ?_
            refine g_get C FX5_26 dX5_sumCorner_66 (by assumption) rfl ?_
            refine g_iload_n C dX5_sumCorner_69 rfl ?_
            refine g_iald C dX5_sumCorner_70 (by assumption) rfl (by omega) (by decide) ?_
            rw [hj.1]
            refine g_iald C dX5_sumCorner_71 (by assumption) rfl (by omega) (by decide) ?_
            rw [hj.2.2.1]
            refine g_goto C dX5_sumCorner_72 (tgt := 86) (by decide) ?_
            exact kr _ _ _ _ dX5_sumCorner_86 ⟨congrArg (fun z => some (iv z)) (by unfold ssc; rw [Int.toNat_natCast, Int.toNat_natCast, Int.toNat_natCast, ← ec]; (repeat (first | rw [if_pos (by omega)] | rw [if_neg (by omega)]))), ⟨s, c, _, _, _, _, _, M1, S⟩, hm1⟩ hm1.1
        · have w50 : ¬ (0 ≤ i ∧ i ≤ (cc1 : Int) - 1) := if0 h50
          refine g_bipush C dX5_sumCorner_53 (by decide) ?_
          exact kr _ _ _ _ dX5_sumCorner_55 ⟨congrArg (fun z => some (iv z)) (by unfold ssc; rw [Int.toNat_natCast, Int.toNat_natCast, ← ec]; (repeat (first | rw [if_pos (by omega)] | rw [if_neg (by omega)]))), ⟨s, c, _, _, _, _, _, M1, S⟩, hm1⟩ hm1.1
      · have w23 : ¬ (0 ≤ w ∧ w ≤ 1) := if0 h23
        refine g_bipush C dX5_sumCorner_26 (by decide) ?_
        exact kr _ _ _ _ dX5_sumCorner_28 ⟨congrArg (fun z => some (iv z)) (by unfold ssc; (repeat (first | rw [if_pos (by omega)] | rw [if_neg (by omega)]))), H, hm⟩ hm.1
    · have w11 : ¬ (0 ≤ b2 ∧ b2 ≤ 3) := if0 h11
      refine g_iconst C dX5_sumCorner_14 ?_
      exact kr _ _ _ _ dX5_sumCorner_15 ⟨congrArg (fun z => some (iv z)) (by unfold ssc; (repeat (first | rw [if_pos (by omega)] | rw [if_neg (by omega)]))), H, hm⟩ hm.1
end MH
