/-! the reference: put, take, images, count -/
section MP
variable {h : ax_H} {a : Nat} {s : MS} {c : MC} {xs ys : Nat → Int} {pt : Nat} {co : Nat → Int} {cc : Nat} {B K : Nat → List Pt3} {km : Nat}
theorem r_many0 (M : mz h a s c xs ys pt co cc) {b : Nat} (hb : b < 4) : ax_Met MX5_many [rv a, iv (b : Int)] h (some (iv (s.1 b))) h := by
  have ⟨h0, h1, h2, h3, h4, h5, h6, h7, h8, h9, h10, h11⟩ := M
  refine ax_mi (L0 := [some (rv a), some (iv (b : Int))]) rfl rfl (Nat.le_refl _) (Nat.le_refl _) (Nat.le_of_ble_eq_true rfl) rfl ?_
  intro p9 l9 e9 R9 s9 m9 args9 below9 meth9 c9 b9 D9 dA9 Q9 C kr
  refine g_aload_n C dX5_many_0 rfl ?_
  refine g_get C FX5_7 dX5_many_1 (by assumption) rfl ?_
  refine g_iconst C dX5_many_4 ?_
  refine g_iload_n C dX5_many_5 rfl ?_
  refine g_iadd C dX5_many_6 ?_
  refine g_top (show _ = (b : Int) by omega) ?_
  refine g_iald C dX5_many_7 (by assumption) rfl (by omega) (by decide) ?_
  exact kr _ _ _ dX5_many_8 rfl
theorem r_put (H : mw h a B K km) {b x y w : Int} (hb : -2147483648 ≤ b ∧ b < 2147483648) (hx : -2147483648 ≤ x ∧ x < 2147483648) (hy : -2147483648 ≤ y ∧ y < 2147483648) (hw : -2147483648 ≤ w ∧ w < 2147483648) : ax_Mt MX5_put [rv a, iv b, iv x, iv y, iv w] h (fun r h' => r = some (iv (sput B b x y w).1) ∧ mw h' a (sput B b x y w).2 K km ∧ ax_sm a (a + 12) h h') := by
  have hm := ax_sm.rf (lo := a) (hi := a + 12) h
  have ⟨s, c, xs, ys, pt, co, cc, M, S⟩ := H
  have ⟨h0, h1, h2, h3, h4, h5, h6, h7, h8, h9, h10, h11⟩ := M
  refine ax_ri (L0 := [some (rv a), some (iv b), some (iv x), some (iv y), some (iv w), none]) rfl rfl (Nat.le_of_ble_eq_true rfl) rfl ?_
  intro p9 l9 e9 R9 s9 m9 args9 below9 meth9 c9 b9 D9 dA9 Q9 C kr
  have part : ∀ n : Nat, b = (n : Int) → n < 4 → (0 ≤ x ∧ x ≤ 12) → (0 ≤ y ∧ y ≤ 12) → (0 ≤ w ∧ w ≤ 50) → ax_G p9 l9 e9 R9 s9 m9 args9 below9 meth9 c9 b9 D9 dA9 MX5_put.2.2.1 h.length (ax_sz h) Q9 (46) ([some (rv a), some (iv (n : Int)), some (iv x), some (iv y), some (iv w), some (iv 0)]) ([]) (h) := by
    intro n eb hn hx2 hy2 hw2
    have hL := S.2.1.len hn
    have hO := S.2.1 n hn
    have eS : (S.1 n hn).1 = (S.1 n hn).1 := rfl
    have es := (S.1 n hn).1
    have hf2 := find_is (X := lx (B n)) (Y := ly (B n)) (x := x) (y := y) (B n).length 0
    obtain ⟨J, hJ1, hJ2, hJ3, hJ4⟩ : ∃ J : Nat, J ≤ (B n).length ∧ (∀ i, i < J → ¬ (lx (B n) i = x ∧ ly (B n) i = y)) ∧ (J = (B n).length → fnd (B n) x y = -1) ∧ (J < (B n).length → fnd (B n) x y = (J : Int) ∧ lx (B n) J = x ∧ ly (B n) J = y) := by
      rcases hf2 with ⟨q1, q2⟩ | ⟨j, q1, q2, q3, q4, q5, q6⟩
      · exact ⟨(B n).length, Nat.le_refl _, fun i hi => q2 i (by omega) (by omega), fun _ => q1, fun z => absurd z (Nat.lt_irrefl _)⟩
      · exact ⟨j, by omega, fun i hi => q6 i (by omega) hi, fun z => by omega, fun _ => ⟨q3, q4, q5⟩⟩
    have tail : ax_G p9 l9 e9 R9 s9 m9 args9 below9 meth9 c9 b9 D9 dA9 MX5_put.2.2.1 h.length (ax_sz h) Q9 (86) ([some (rv a), some (iv (n : Int)), some (iv x), some (iv y), some (iv w), some (iv (J : Int))]) ([]) (h) := by
      have fin : ∀ (l : List Pt3) (N : Int) (h9 : ax_H), J < 7 → sput B (n : Int) x y w = ((J : Int), va_up B n l) → N = (l.length : Int) → J < l.length → bl_ok l → (∀ k, k < l.length → k ≠ J → lx l k = lx (B n) k ∧ ly l k = ly (B n) k ∧ lv l k = lv (B n) k ∧ k < (B n).length) → (lx l J = x ∧ ly l J = y ∧ lv l J = w) → mz h9 a (va_up s.1 n N, s.2) c xs ys pt co cc → ax_sm a (a + 12) h h9 → ax_G p9 l9 e9 R9 s9 m9 args9 below9 meth9 c9 b9 D9 dA9 MX5_put.2.2.1 h.length (ax_sz h) Q9 (126) ([some (rv a), some (iv (n : Int)), some (iv x), some (iv y), some (iv w), some (iv (J : Int))]) ([]) (h9) := by
        intro l N h9 hJ7 eq eN hJl hl e1 e2 M hm
        have ⟨h0, h1, h2, h3, h4, h5, h6, h7, h8, h9, h10, h11⟩ := M
        have hl7 := hl.1.1
        refine g_aload_n C dX5_put_126 rfl ?_
        refine g_get C FX5_7 dX5_put_127 (by assumption) rfl ?_
        refine g_iload_n C dX5_put_130 rfl ?_
        refine g_iload C dX5_put_131 rfl ?_
        refine g_iconst C dX5_put_133 ?_
        refine g_S C (r_at) dX5_put_134 KX5_at LX5_48 SX5_at (by decide) rfl rfl (Nat.le_of_ble_eq_true rfl) ⟨rfl, rfl⟩ ?_
        dsimp only [Option.toList, List.cons_append, List.nil_append]
        refine g_iload_n C dX5_put_137 rfl ?_
        refine g_iast C dX5_put_138 (by assumption) (show 4 + 21 * (n : Int) + 3 * (J : Int) + 0 = ((4 + 21 * n + 3 * J : Nat) : Int) by omega) (by omega) (by decide) ?_
        refine mo_s_sa M hm ?_
        intro h9 M hm
        have ⟨h0, h1, h2, h3, h4, h5, h6, h7, h8, h9, h10, h11⟩ := M
        refine g_aload_n C dX5_put_139 rfl ?_
        refine g_get C FX5_7 dX5_put_140 (by assumption) rfl ?_
        refine g_iload_n C dX5_put_143 rfl ?_
        refine g_iload C dX5_put_144 rfl ?_
        refine g_iconst C dX5_put_146 ?_
        refine g_S C (r_at) dX5_put_147 KX5_at LX5_48 SX5_at (by decide) rfl rfl (Nat.le_of_ble_eq_true rfl) ⟨rfl, rfl⟩ ?_
        dsimp only [Option.toList, List.cons_append, List.nil_append]
        refine g_iload_n C dX5_put_150 rfl ?_
        refine g_iast C dX5_put_151 (by assumption) (show 4 + 21 * (n : Int) + 3 * (J : Int) + 1 = ((4 + 21 * n + 3 * J + 1 : Nat) : Int) by omega) (by omega) (by decide) ?_
        refine mo_s_sa M hm ?_
        intro h9 M hm
        have ⟨h0, h1, h2, h3, h4, h5, h6, h7, h8, h9, h10, h11⟩ := M
        refine g_aload_n C dX5_put_152 rfl ?_
        refine g_get C FX5_7 dX5_put_153 (by assumption) rfl ?_
        refine g_iload_n C dX5_put_156 rfl ?_
        refine g_iload C dX5_put_157 rfl ?_
        refine g_iconst C dX5_put_159 ?_
        refine g_S C (r_at) dX5_put_160 KX5_at LX5_48 SX5_at (by decide) rfl rfl (Nat.le_of_ble_eq_true rfl) ⟨rfl, rfl⟩ ?_
        dsimp only [Option.toList, List.cons_append, List.nil_append]
        refine g_iload C dX5_put_163 rfl ?_
        refine g_iast C dX5_put_165 (by assumption) (show 4 + 21 * (n : Int) + 3 * (J : Int) + 2 = ((4 + 21 * n + 3 * J + 2 : Nat) : Int) by omega) (by omega) (by decide) ?_
        refine mo_s_sa M hm ?_
        intro h9 M hm
        refine g_iload C dX5_put_166 rfl ?_
        refine kr _ _ _ _ dX5_put_168 ?_ hm.1
        rw [eb, eq]
        refine ⟨rfl, ⟨(va_up (va_up (va_up (va_up s.1 n N) (4 + 21 * n + 3 * J) x) (4 + 21 * n + 3 * J + 1) y) (4 + 21 * n + 3 * J + 2) w, s.2), c, xs, ys, pt, co, cc, M, S.up hn hl ?_ ?_ ?_⟩, hm⟩
        · rw [va_ne (by omega), va_ne (by omega), va_ne (by omega), va_eq, eN]
        · intro k hk
          by_cases q : k = J
          · subst q
            rw [va_ne (by omega), va_ne (by omega), va_eq, va_ne (by omega), va_eq, va_eq]
            exact ⟨e2.1.symm, e2.2.1.symm, e2.2.2.symm⟩
          · have z := e1 k hk q
            rw [va_ne (by omega), va_ne (by omega), va_ne (by omega), va_ne (by omega), va_ne (by omega), va_ne (by omega), va_ne (by omega), va_ne (by omega), va_ne (by omega), va_ne (by omega), va_ne (by omega), va_ne (by omega), z.1, z.2.1, z.2.2.1]
            exact (S.1 n hn).2 k z.2.2.2
        · intro i z1 z2 z3
          rw [va_ne (by omega), va_ne (by omega), va_ne (by omega), va_ne (by omega)]
      refine g_iload C dX5_put_86 rfl ?_
      refine g_bipush C dX5_put_88 (by decide) ?_
      refine g_icmp_ne C dX5_put_90 (tgt := 96) (by decide) (by omega) (by omega) (fun h90 => ?_) (fun h90 => ?_)
      · refine g_aload_n C dX5_put_96 rfl ?_
        refine g_get C FX5_7 dX5_put_97 (by assumption) rfl ?_
        refine g_iconst C dX5_put_100 ?_
        refine g_iload_n C dX5_put_101 rfl ?_
        refine g_iadd C dX5_put_102 ?_
        refine g_top (show _ = (n : Int) by omega) ?_
        refine g_iload C dX5_put_103 rfl ?_
        refine g_aload_n C dX5_put_105 rfl ?_
        refine g_iload_n C dX5_put_106 rfl ?_
        refine g_V C (r_many M S hn) dX5_put_107 KX5_many LX5_56 IX5_many VX5_many (by decide) rfl (by assumption) rfl rfl rfl (Nat.le_of_ble_eq_true rfl) ⟨rfl, rfl⟩ ?_
        dsimp only [Option.toList, List.cons_append, List.nil_append]
        refine g_icmp_ne C dX5_put_110 (tgt := 120) (by decide) (by omega) (by omega) (fun h110 => ?_) (fun h110 => ?_)
        · refine g_aload_n C dX5_put_120 rfl ?_
          refine g_iload_n C dX5_put_121 rfl ?_
          refine g_V C (r_many M S hn) dX5_put_122 KX5_many LX5_56 IX5_many VX5_many (by decide) rfl (by assumption) rfl rfl rfl (Nat.le_of_ble_eq_true rfl) ⟨rfl, rfl⟩ ?_
          dsimp only [Option.toList, List.cons_append, List.nil_append]
          refine g_iast C dX5_put_125 (by assumption) rfl (by omega) (by decide) ?_
          refine mo_s_sa M hm ?_
          intro h9 M9 hm9
          first
            | exact fin (B n ++ [(x, y, w)]) _ _ (by omega) (by
                have q := hJ3 (by omega)
                unfold sput; rw [Int.toNat_natCast]; (repeat (first | rw [if_pos (by omega)] | rw [if_neg (by omega)])); rw [show (B n).length = J by omega]) (by rw [List.length_append, List.length_singleton]; omega) (by rw [List.length_append, List.length_singleton]; omega) (hO.app (by omega) hx2 hy2 hw2 (fun j hj => hJ2 j (by omega))) (fun k hk hk2 => by
                  rw [List.length_append, List.length_singleton] at hk
                  unfold lx ly lv; rw [l3_app (by omega)]; exact ⟨rfl, rfl, rfl, by omega⟩) (by
                  rw [show J = (B n).length by omega]; unfold lx ly lv; rw [l3_last]; exact ⟨rfl, rfl, rfl⟩) M9 hm9
            | exact fin ((B n).set J (x, y, w)) _ _ (by omega) (by
                have q := hJ4 (by omega)
                unfold sput; rw [Int.toNat_natCast, q.1, Int.toNat_natCast]; (repeat (first | rw [if_pos (by omega)] | rw [if_neg (by omega)]))) (by rw [List.length_set]) (by rw [List.length_set]; omega) (hO.set (by omega) (hJ4 (by omega)).2.1 (hJ4 (by omega)).2.2 hw2) (fun k hk hk2 => by
                  rw [List.length_set] at hk
                  unfold lx ly lv; rw [l3_set (by omega), if_neg hk2]; exact ⟨rfl, rfl, rfl, hk⟩) (by
                  unfold lx ly lv; rw [l3_set (by omega), if_pos rfl]; exact ⟨rfl, rfl, rfl⟩) M9 hm9
        · refine g_iload C dX5_put_113 rfl ?_
          refine g_iconst C dX5_put_115 ?_
          refine g_iadd C dX5_put_116 ?_
          refine g_goto C dX5_put_117 (tgt := 125) (by decide) ?_
          refine g_iast C dX5_put_125 (by assumption) rfl (by omega) (by decide) ?_
          refine mo_s_sa M hm ?_
          intro h9 M9 hm9
          first
            | exact fin (B n ++ [(x, y, w)]) _ _ (by omega) (by
                have q := hJ3 (by omega)
                unfold sput; rw [Int.toNat_natCast]; (repeat (first | rw [if_pos (by omega)] | rw [if_neg (by omega)])); rw [show (B n).length = J by omega]) (by rw [List.length_append, List.length_singleton]; omega) (by rw [List.length_append, List.length_singleton]; omega) (hO.app (by omega) hx2 hy2 hw2 (fun j hj => hJ2 j (by omega))) (fun k hk hk2 => by
                  rw [List.length_append, List.length_singleton] at hk
                  unfold lx ly lv; rw [l3_app (by omega)]; exact ⟨rfl, rfl, rfl, by omega⟩) (by
                  rw [show J = (B n).length by omega]; unfold lx ly lv; rw [l3_last]; exact ⟨rfl, rfl, rfl⟩) M9 hm9
            | exact fin ((B n).set J (x, y, w)) _ _ (by omega) (by
                have q := hJ4 (by omega)
                unfold sput; rw [Int.toNat_natCast, q.1, Int.toNat_natCast]; (repeat (first | rw [if_pos (by omega)] | rw [if_neg (by omega)]))) (by rw [List.length_set]) (by rw [List.length_set]; omega) (hO.set (by omega) (hJ4 (by omega)).2.1 (hJ4 (by omega)).2.2 hw2) (fun k hk hk2 => by
                  rw [List.length_set] at hk
                  unfold lx ly lv; rw [l3_set (by omega), if_neg hk2]; exact ⟨rfl, rfl, rfl, hk⟩) (by
                  unfold lx ly lv; rw [l3_set (by omega), if_pos rfl]; exact ⟨rfl, rfl, rfl⟩) M9 hm9
      · have e : sput B (n : Int) x y w = (-4, B) := by (have q := hJ3 (by omega); unfold sput; rw [Int.toNat_natCast]; (repeat (first | rw [if_pos (by omega)] | rw [if_neg (by omega)])))
        refine g_bipush C dX5_put_93 (by decide) ?_
        exact kr _ _ _ _ dX5_put_95 (by rw [eb, e]; exact ⟨rfl, H, hm⟩) hm.1
    have loop : ∀ (d k : Nat), k + d = J → ax_G p9 l9 e9 R9 s9 m9 args9 below9 meth9 c9 b9 D9 dA9 MX5_put.2.2.1 h.length (ax_sz h) Q9 (46) ([some (rv a), some (iv (n : Int)), some (iv x), some (iv y), some (iv w), some (iv (k : Int))]) ([]) (h) := by
      intro d
      induction d with
      | zero =>
        intro k hk
        have e : k = J := by omega
        subst e
        refine g_iload C dX5_put_46 rfl ?_
        refine g_aload_n C dX5_put_48 rfl ?_
        refine g_iload_n C dX5_put_49 rfl ?_
        refine g_V C (r_many M S hn) dX5_put_50 KX5_many LX5_56 IX5_many VX5_many (by decide) rfl (by assumption) rfl rfl rfl (Nat.le_of_ble_eq_true rfl) ⟨rfl, rfl⟩ ?_
        dsimp only [Option.toList, List.cons_append, List.nil_append]
        refine g_icmp_ge C dX5_put_53 (tgt := 86) (by decide) (by omega) (by omega) (fun h53 => ?_) (fun h53 => ?_)
        · exact tail
        · have q := hJ4 (by omega)
          have q2 := hO.1.2 k (by omega)
          refine g_aload_n C dX5_put_56 rfl ?_
          refine g_iload_n C dX5_put_57 rfl ?_
          refine g_iload C dX5_put_58 rfl ?_
          refine g_iconst C dX5_put_60 ?_
          refine g_V C (r_of_0 M S hn (k := k) (by omega)) dX5_put_61 KX5_of LX5_60 IX5_of VX5_of (by decide) rfl (by assumption) rfl rfl rfl (Nat.le_of_ble_eq_true rfl) ⟨rfl, rfl⟩ ?_
          dsimp only [Option.toList, List.cons_append, List.nil_append]
          refine g_iload_n C dX5_put_64 rfl ?_
          refine g_icmp_ne C dX5_put_65 (tgt := 80) (by decide) (by omega) (by omega) (fun h65 => ?_) (fun h65 => ?_)
          · exact absurd q.2.1 h65
          · refine g_aload_n C dX5_put_68 rfl ?_
            refine g_iload_n C dX5_put_69 rfl ?_
            refine g_iload C dX5_put_70 rfl ?_
            refine g_iconst C dX5_put_72 ?_
            refine g_V C (r_of_1 M S hn (k := k) (by omega)) dX5_put_73 KX5_of LX5_60 IX5_of VX5_of (by decide) rfl (by assumption) rfl rfl rfl (Nat.le_of_ble_eq_true rfl) ⟨rfl, rfl⟩ ?_
            dsimp only [Option.toList, List.cons_append, List.nil_append]
            refine g_iload_n C dX5_put_76 rfl ?_
            refine g_icmp_eq C dX5_put_77 (tgt := 86) (by decide) (by omega) (by omega) (fun h77 => ?_) (fun h77 => ?_)
            · exact tail
            · exact absurd q.2.2 h77
      | succ d ih =>
        intro k hk
        have q := hJ2 k (by omega)
        have q2 := hO.1.2 k (by omega)
        refine g_iload C dX5_put_46 rfl ?_
        refine g_aload_n C dX5_put_48 rfl ?_
        refine g_iload_n C dX5_put_49 rfl ?_
        refine g_V C (r_many M S hn) dX5_put_50 KX5_many LX5_56 IX5_many VX5_many (by decide) rfl (by assumption) rfl rfl rfl (Nat.le_of_ble_eq_true rfl) ⟨rfl, rfl⟩ ?_
        dsimp only [Option.toList, List.cons_append, List.nil_append]
        refine g_icmp_ge C dX5_put_53 (tgt := 86) (by decide) (by omega) (by omega) (fun h53 => ?_) (fun h53 => ?_)
        · exfalso; omega
        · refine g_aload_n C dX5_put_56 rfl ?_
          refine g_iload_n C dX5_put_57 rfl ?_
          refine g_iload C dX5_put_58 rfl ?_
          refine g_iconst C dX5_put_60 ?_
          refine g_V C (r_of_0 M S hn (k := k) (by omega)) dX5_put_61 KX5_of LX5_60 IX5_of VX5_of (by decide) rfl (by assumption) rfl rfl rfl (Nat.le_of_ble_eq_true rfl) ⟨rfl, rfl⟩ ?_
          dsimp only [Option.toList, List.cons_append, List.nil_append]
          refine g_iload_n C dX5_put_64 rfl ?_
          refine g_icmp_ne C dX5_put_65 (tgt := 80) (by decide) (by omega) (by omega) (fun h65 => ?_) (fun h65 => ?_)
          · refine g_iinc C dX5_put_80 (by decide) rfl rfl ?_
            dsimp only [List.set]
            refine g_goto C dX5_put_83 (tgt := 46) (by decide) ?_
            exact ih (k + 1) (by omega)
          · refine g_aload_n C dX5_put_68 rfl ?_
            refine g_iload_n C dX5_put_69 rfl ?_
            refine g_iload C dX5_put_70 rfl ?_
            refine g_iconst C dX5_put_72 ?_
            refine g_V C (r_of_1 M S hn (k := k) (by omega)) dX5_put_73 KX5_of LX5_60 IX5_of VX5_of (by decide) rfl (by assumption) rfl rfl rfl (Nat.le_of_ble_eq_true rfl) ⟨rfl, rfl⟩ ?_
            dsimp only [Option.toList, List.cons_append, List.nil_append]
            refine g_iload_n C dX5_put_76 rfl ?_
            refine g_icmp_eq C dX5_put_77 (tgt := 86) (by decide) (by omega) (by omega) (fun h77 => ?_) (fun h77 => ?_)
            · exact absurd ⟨h65, h77⟩ q
            · refine g_iinc C dX5_put_80 (by decide) rfl rfl ?_
              dsimp only [List.set]
              refine g_goto C dX5_put_83 (tgt := 46) (by decide) ?_
              exact ih (k + 1) (by omega)
    exact loop J 0 (by omega)
  refine g_iload_n C dX5_put_0 rfl ?_
  refine g_S C (r_isBody hb) dX5_put_1 KX5_isBody LX5_52 SX5_isBody (by decide) rfl rfl (Nat.le_of_ble_eq_true rfl) ⟨rfl, rfl⟩ ?_
  dsimp only [Option.toList, List.cons_append, List.nil_append]
  refine g_if_ne C dX5_put_4 (tgt := 9) (by decide) ifr (fun h4 => ?_) (fun h4 => ?_)
  · have w4 : 0 ≤ b ∧ b ≤ 3 := if1 h4
    refine g_iload_n C dX5_put_9 rfl ?_
    refine g_iconst C dX5_put_10 ?_
    refine g_bipush C dX5_put_11 (by decide) ?_
    refine g_S C (r_in hx (by omega) (by omega)) dX5_put_13 KX5_in LX5_44 SX5_in (by decide) rfl rfl (Nat.le_of_ble_eq_true rfl) ⟨rfl, rfl⟩ ?_
    dsimp only [Option.toList, List.cons_append, List.nil_append]
    refine g_if_eq C dX5_put_16 (tgt := 40) (by decide) ifr (fun h16 => ?_) (fun h16 => ?_)
    · have w16 : ¬ (0 ≤ x ∧ x ≤ 12) := if0 h16
      refine g_bipush C dX5_put_40 (by decide) ?_
      have e : sput B b x y w = (-2, B) := by (unfold sput; (repeat (first | rw [if_pos (by omega)] | rw [if_neg (by omega)])))
      exact kr _ _ _ _ dX5_put_42 (by rw [e]; exact ⟨rfl, H, hm⟩) hm.1
    · have w16 : 0 ≤ x ∧ x ≤ 12 := if1 h16
      refine g_iload_n C dX5_put_19 rfl ?_
      refine g_iconst C dX5_put_20 ?_
      refine g_bipush C dX5_put_21 (by decide) ?_
      refine g_S C (r_in hy (by omega) (by omega)) dX5_put_23 KX5_in LX5_44 SX5_in (by decide) rfl rfl (Nat.le_of_ble_eq_true rfl) ⟨rfl, rfl⟩ ?_
      dsimp only [Option.toList, List.cons_append, List.nil_append]
      refine g_if_eq C dX5_put_26 (tgt := 40) (by decide) ifr (fun h26 => ?_) (fun h26 => ?_)
      · have w26 : ¬ (0 ≤ y ∧ y ≤ 12) := if0 h26
        refine g_bipush C dX5_put_40 (by decide) ?_
        have e : sput B b x y w = (-2, B) := by (unfold sput; (repeat (first | rw [if_pos (by omega)] | rw [if_neg (by omega)])))
        exact kr _ _ _ _ dX5_put_42 (by rw [e]; exact ⟨rfl, H, hm⟩) hm.1
      · have w26 : 0 ≤ y ∧ y ≤ 12 := if1 h26
        refine g_iload C dX5_put_29 rfl ?_
        refine g_iconst C dX5_put_31 ?_
        refine g_bipush C dX5_put_32 (by decide) ?_
        refine g_S C (r_in hw (by omega) (by omega)) dX5_put_34 KX5_in LX5_44 SX5_in (by decide) rfl rfl (Nat.le_of_ble_eq_true rfl) ⟨rfl, rfl⟩ ?_
        dsimp only [Option.toList, List.cons_append, List.nil_append]
        refine g_if_ne C dX5_put_37 (tgt := 43) (by decide) ifr (fun h37 => ?_) (fun h37 => ?_)
        · have w37 : 0 ≤ w ∧ w ≤ 50 := if1 h37
          refine g_iconst C dX5_put_43 ?_
          refine g_istore C dX5_put_44 (by decide) rfl ?_
          dsimp only [List.set]
          obtain ⟨n, eb⟩ : ∃ n : Nat, b = (n : Int) := ⟨b.toNat, by omega⟩
          have q := part n eb (by omega) w16 w26 w37
          rw [← eb] at q
          exact q
        · have w37 : ¬ (0 ≤ w ∧ w ≤ 50) := if0 h37
          refine g_bipush C dX5_put_40 (by decide) ?_
          have e : sput B b x y w = (-2, B) := by (unfold sput; (repeat (first | rw [if_pos (by omega)] | rw [if_neg (by omega)])))
          exact kr _ _ _ _ dX5_put_42 (by rw [e]; exact ⟨rfl, H, hm⟩) hm.1
  · have w4 : ¬ (0 ≤ b ∧ b ≤ 3) := if0 h4
    refine g_iconst C dX5_put_7 ?_
    have e : sput B b x y w = (-1, B) := by (unfold sput; (repeat (first | rw [if_pos (by omega)] | rw [if_neg (by omega)])))
    exact kr _ _ _ _ dX5_put_8 (by rw [e]; exact ⟨rfl, H, hm⟩) hm.1
theorem r_take (H : mw h a B K km) {b k : Int} (hb : -2147483648 ≤ b ∧ b < 2147483648) (hk : -2147483648 ≤ k ∧ k < 2147483648) : ax_Mt MX5_take [rv a, iv b, iv k] h (fun r h' => r = some (iv (stake B b k).1) ∧ mw h' a (stake B b k).2 K km ∧ ax_sm a (a + 12) h h') := by
  have hm := ax_sm.rf (lo := a) (hi := a + 12) h
  have ⟨s, c, xs, ys, pt, co, cc, M, S⟩ := H
  have ⟨h0, h1, h2, h3, h4, h5, h6, h7, h8, h9, h10, h11⟩ := M
  refine ax_ri (L0 := [some (rv a), some (iv b), some (iv k), none]) rfl rfl (Nat.le_of_ble_eq_true rfl) rfl ?_
  intro p9 l9 e9 R9 s9 m9 args9 below9 meth9 c9 b9 D9 dA9 Q9 C kr
  have part : ∀ n j : Nat, b = (n : Int) → k = (j : Int) → n < 4 → j < (B n).length → ∀ (d i : Nat) (hh : ax_H) (sb : Nat → Int), i + d = 4 + 21 * n + 3 * ((B n).length - 1) → 4 + 21 * n + 3 * j ≤ i → mz hh a (sb, s.2) c xs ys pt co cc → ax_sm a (a + 12) h hh → sb n = (B n).length - 1 → (∀ z, z < 88 → z ≠ n → sb z = if 4 + 21 * n + 3 * j ≤ z ∧ z < i then s.1 (z + 3) else s.1 z) → ax_G p9 l9 e9 R9 s9 m9 args9 below9 meth9 c9 b9 D9 dA9 MX5_take.2.2.1 h.length (ax_sz h) Q9 (46) ([some (rv a), some (iv (n : Int)), some (iv (j : Int)), some (iv (i : Int))]) ([]) (hh) := by
    intro n j eb ek hn hj d
    have hL := S.2.1.len hn
    have es := (S.1 n hn).1
    induction d with
    | zero =>
      intro i hh sb hi hi2 M hm e1 e2
      have ⟨h0, h1, h2, h3, h4, h5, h6, h7, h8, h9, h10, h11⟩ := M
      refine g_iload_n C dX5_take_46 rfl ?_
      refine g_iload_n C dX5_take_47 rfl ?_
      refine g_aload_n C dX5_take_48 rfl ?_
      refine g_iload_n C dX5_take_49 rfl ?_
      refine g_V C (r_many0 M hn) dX5_take_50 KX5_many LX5_56 IX5_many VX5_many (by decide) rfl (by assumption) rfl rfl rfl (Nat.le_of_ble_eq_true rfl) ⟨rfl, rfl⟩ ?_
      dsimp only [Option.toList, List.cons_append, List.nil_append]
      rw [e1]
      refine g_iconst C dX5_take_53 ?_
      refine g_S C (r_at) dX5_take_54 KX5_at LX5_48 SX5_at (by decide) rfl rfl (Nat.le_of_ble_eq_true rfl) ⟨rfl, rfl⟩ ?_
      dsimp only [Option.toList, List.cons_append, List.nil_append]
      refine g_icmp_ge C dX5_take_57 (tgt := 80) (by decide) (by omega) (by omega) (fun h57 => ?_) (fun h57 => ?_)
      · refine g_aload_n C dX5_take_80 rfl ?_
        refine g_iload_n C dX5_take_81 rfl ?_
        refine g_V C (r_many0 M hn) dX5_take_82 KX5_many LX5_56 IX5_many VX5_many (by decide) rfl (by assumption) rfl rfl rfl (Nat.le_of_ble_eq_true rfl) ⟨rfl, rfl⟩ ?_
        dsimp only [Option.toList, List.cons_append, List.nil_append]
        rw [e1]
        have e : stake B (n : Int) (j : Int) = (((B n).length : Int) - 1, va_up B n ((B n).eraseIdx j)) := by (unfold stake; rw [Int.toNat_natCast, Int.toNat_natCast]; (repeat (first | rw [if_pos (by omega)] | rw [if_neg (by omega)])))
        refine kr _ _ _ _ dX5_take_85 ?_ hm.1
        rw [eb, ek, e]
        have eL := l3_dn (l := B n) (k := j) hj
        refine ⟨rfl, ⟨(sb, s.2), c, xs, ys, pt, co, cc, M, S.up hn ((S.2.1 n hn).del hj) (by rw [e1]; omega) (fun z hz => ?_) (fun z z1 z2 z3 => by rw [e2 z z1 z2, if_neg (by omega)])⟩, hm⟩
        rw [eL] at hz
        rw [e2 _ (by omega) (by omega), e2 _ (by omega) (by omega), e2 _ (by omega) (by omega)]
        unfold lx ly lv; rw [l3_del]
        by_cases q : z < j
        · rw [if_pos q, if_neg (by omega), if_neg (by omega), if_neg (by omega)]; exact (S.1 n hn).2 z (by omega)
        · rw [if_neg q, if_pos (by omega), if_pos (by omega), if_pos (by omega)]
          have := (S.1 n hn).2 (z + 1) (by omega)
          rw [show 4 + 21 * n + 3 * z + 3 = 4 + 21 * n + 3 * (z + 1) by omega, show 4 + 21 * n + 3 * z + 1 + 3 = 4 + 21 * n + 3 * (z + 1) + 1 by omega, show 4 + 21 * n + 3 * z + 2 + 3 = 4 + 21 * n + 3 * (z + 1) + 2 by omega]
          exact this
      · exfalso; omega
    | succ d ih =>
      intro i hh sb hi hi2 M hm e1 e2
      have ⟨h0, h1, h2, h3, h4, h5, h6, h7, h8, h9, h10, h11⟩ := M
      have e3 : sb (i + 3) = s.1 (i + 3) := by rw [e2 _ (by omega) (by omega), if_neg (by omega)]
      refine g_iload_n C dX5_take_46 rfl ?_
      refine g_iload_n C dX5_take_47 rfl ?_
      refine g_aload_n C dX5_take_48 rfl ?_
      refine g_iload_n C dX5_take_49 rfl ?_
      refine g_V C (r_many0 M hn) dX5_take_50 KX5_many LX5_56 IX5_many VX5_many (by decide) rfl (by assumption) rfl rfl rfl (Nat.le_of_ble_eq_true rfl) ⟨rfl, rfl⟩ ?_
      dsimp only [Option.toList, List.cons_append, List.nil_append]
      rw [e1]
      refine g_iconst C dX5_take_53 ?_
      refine g_S C (r_at) dX5_take_54 KX5_at LX5_48 SX5_at (by decide) rfl rfl (Nat.le_of_ble_eq_true rfl) ⟨rfl, rfl⟩ ?_
      dsimp only [Option.toList, List.cons_append, List.nil_append]
      refine g_icmp_ge C dX5_take_57 (tgt := 80) (by decide) (by omega) (by omega) (fun h57 => ?_) (fun h57 => ?_)
      · exfalso; omega
      · refine g_aload_n C dX5_take_60 rfl ?_
        refine g_get C FX5_7 dX5_take_61 (by assumption) rfl ?_
        refine g_iload_n C dX5_take_64 rfl ?_
        refine g_aload_n C dX5_take_65 rfl ?_
        refine g_get C FX5_7 dX5_take_66 (by assumption) rfl ?_
        refine g_iload_n C dX5_take_69 rfl ?_
        refine g_iconst C dX5_take_70 ?_
        refine g_iadd C dX5_take_71 ?_
        refine g_top (show _ = ((i + 3 : Nat) : Int) by omega) ?_
        refine g_iald C dX5_take_72 (by assumption) rfl (by omega) (by decide) ?_
        refine g_iast C dX5_take_73 (by assumption) rfl (by omega) (by decide) ?_
        refine mo_s_sa M hm ?_
        intro h9 M hm
        refine g_iinc C dX5_take_74 (by decide) rfl rfl ?_
        dsimp only [List.set]
        refine g_goto C dX5_take_77 (tgt := 46) (by decide) ?_
        exact ih (i + 1) _ (va_up sb i (sb (i + 3))) (by omega) (by omega) M hm (by rw [va_ne (by omega)]; exact e1) (fun z z1 z2 => by
          by_cases q : z = i
          · subst q; rw [va_eq, if_pos (by omega)]; exact e3
          · rw [va_ne q, e2 z z1 z2]
            by_cases q2 : 4 + 21 * n + 3 * j ≤ z ∧ z < i
            · rw [if_pos q2, if_pos (by omega)]
            · rw [if_neg q2, if_neg (by omega)])
  refine g_iload_n C dX5_take_0 rfl ?_
  refine g_S C (r_isBody hb) dX5_take_1 KX5_isBody LX5_52 SX5_isBody (by decide) rfl rfl (Nat.le_of_ble_eq_true rfl) ⟨rfl, rfl⟩ ?_
  dsimp only [Option.toList, List.cons_append, List.nil_append]
  refine g_if_ne C dX5_take_4 (tgt := 9) (by decide) ifr (fun h4 => ?_) (fun h4 => ?_)
  · have w4 : 0 ≤ b ∧ b ≤ 3 := if1 h4
    obtain ⟨n, eb⟩ : ∃ n : Nat, b = (n : Int) := ⟨b.toNat, by omega⟩
    have hn : n < 4 := by omega
    have hL := S.2.1.len hn
    have es := (S.1 n hn).1
    rw [eb]
    refine g_iload_n C dX5_take_9 rfl ?_
    refine g_iconst C dX5_take_10 ?_
    refine g_aload_n C dX5_take_11 rfl ?_
    refine g_iload_n C dX5_take_12 rfl ?_
    refine g_V C (r_many M S hn) dX5_take_13 KX5_many LX5_56 IX5_many VX5_many (by decide) rfl (by assumption) rfl rfl rfl (Nat.le_of_ble_eq_true rfl) ⟨rfl, rfl⟩ ?_
    dsimp only [Option.toList, List.cons_append, List.nil_append]
    refine g_iconst C dX5_take_16 ?_
    refine g_isub C dX5_take_17 ?_
    refine g_S C (r_in hk (by omega) (by omega)) dX5_take_18 KX5_in LX5_44 SX5_in (by decide) rfl rfl (Nat.le_of_ble_eq_true rfl) ⟨rfl, rfl⟩ ?_
    dsimp only [Option.toList, List.cons_append, List.nil_append]
    refine g_if_ne C dX5_take_21 (tgt := 27) (by decide) ifr (fun h21 => ?_) (fun h21 => ?_)
    · have w21 : 0 ≤ k ∧ k ≤ ((B n).length : Int) - 1 := if1 h21
      obtain ⟨j, ek⟩ : ∃ n : Nat, k = (n : Int) := ⟨k.toNat, by omega⟩
      rw [ek]
      refine g_aload_n C dX5_take_27 rfl ?_
      refine g_get C FX5_7 dX5_take_28 (by assumption) rfl ?_
      refine g_iconst C dX5_take_31 ?_
      refine g_iload_n C dX5_take_32 rfl ?_
      refine g_iadd C dX5_take_33 ?_
      refine g_top (show _ = (n : Int) by omega) ?_
      refine g_dup2 C dX5_take_34 ?_
      refine g_iald C dX5_take_35 (by assumption) rfl (by omega) (by decide) ?_
      refine g_iconst C dX5_take_36 ?_
      refine g_isub C dX5_take_37 ?_
      refine g_iast C dX5_take_38 (by assumption) rfl (by omega) (by decide) ?_
      refine mo_s_sa M hm ?_
      intro h9 M9 hm9
      refine g_iload_n C dX5_take_39 rfl ?_
      refine g_iload_n C dX5_take_40 rfl ?_
      refine g_iconst C dX5_take_41 ?_
      refine g_S C (r_at) dX5_take_42 KX5_at LX5_48 SX5_at (by decide) rfl rfl (Nat.le_of_ble_eq_true rfl) ⟨rfl, rfl⟩ ?_
      dsimp only [Option.toList, List.cons_append, List.nil_append]
      refine g_top (show _ = ((4 + 21 * n + 3 * j : Nat) : Int) by omega) ?_
      refine g_istore_n C dX5_take_45 (by decide) rfl ?_
      dsimp only [List.set]
      exact part n j eb ek hn (by omega) (3 * ((B n).length - 1 - j)) (4 + 21 * n + 3 * j) _ (va_up s.1 n (s.1 n - 1)) (by omega) (by omega) M9 hm9 (by rw [va_eq, es]) (fun z z1 z2 => by rw [va_ne z2, if_neg (by omega)])
    · have w21 : ¬ (0 ≤ k ∧ k ≤ ((B n).length : Int) - 1) := if0 h21
      refine g_bipush C dX5_take_24 (by decide) ?_
      have e : stake B (n : Int) k = (-2, B) := by (unfold stake; rw [Int.toNat_natCast]; (repeat (first | rw [if_pos (by omega)] | rw [if_neg (by omega)])))
      exact kr _ _ _ _ dX5_take_26 (by rw [eb, e]; exact ⟨rfl, H, hm⟩) hm.1
  · have w4 : ¬ (0 ≤ b ∧ b ≤ 3) := if0 h4
    refine g_iconst C dX5_take_7 ?_
    have e : stake B b k = (-1, B) := by (unfold stake; (repeat (first | rw [if_pos (by omega)] | rw [if_neg (by omega)])))
    exact kr _ _ _ _ dX5_take_8 (by rw [e]; exact ⟨rfl, H, hm⟩) hm.1
end MP
/-! images, count -/
section MI
variable {h : ax_H} {a : Nat} {B K : Nat → List Pt3} {km : Nat}
theorem mst.cg {sa sb : Nat → Int} {B B2 : Nat → List Pt3} (H : mst sa B) (hL : ∀ b, b < 4 → (B b).length ≤ 7) (e : ∀ j, j < 88 → sb j = sa j) (f : ∀ b, b < 4 → B b = B2 b) : mst sb B2 := fun b hb => by
  have h1 := H b hb
  have h2 := hL b hb
  rw [← f b hb]
  refine ⟨by rw [e b (by omega)]; exact h1.1, fun k hk => ?_⟩
  rw [e _ (by omega), e _ (by omega), e _ (by omega)]
  exact h1.2 k hk
theorem km_or : ∀ km, km < 4 → ∀ k, k < 2 → ∀ j, j < 2 → ((km ||| 2 ^ k) / 2 ^ j % 2 = if j = k then 1 else km / 2 ^ j % 2) ∧ (km ||| 2 ^ k) < 4 := by decide
theorem km_is : ∀ km, km < 4 → km / 2 ^ 0 % 2 + 2 * (km / 2 ^ 1 % 2) = km := by decide
theorem r_image (H : mw h a B K km) {k : Int} (hk : -2147483648 ≤ k ∧ k < 2147483648) : ax_Mt MX5_image [rv a, iv k] h (fun r h' => r = some (iv (simage B K km k).1) ∧ mw h' a B (simage B K km k).2.1 (simage B K km k).2.2 ∧ ax_sm a (a + 12) h h') := by
  have hm := ax_sm.rf (lo := a) (hi := a + 12) h
  have ⟨s, c, xs, ys, pt, co, cc, M, S⟩ := H
  refine ax_ri (L0 := [some (rv a), some (iv k), none]) rfl rfl (Nat.le_of_ble_eq_true rfl) rfl ?_
  intro p9 l9 e9 R9 s9 m9 args9 below9 meth9 c9 b9 D9 dA9 Q9 C kr
  have part : ∀ n : Nat, k = (n : Int) → n < 2 → ∀ (d i : Nat) (hh : ax_H) (im : Nat → Int), i + d = 88 → mz hh a (s.1, im, s.2.2) c xs ys pt co cc → ax_sm a (a + 12) h hh → (∀ z, z < 176 → im z = if 88 * n ≤ z ∧ z < 88 * n + i then s.1 (z - 88 * n) else s.2.1 z) → ax_G p9 l9 e9 R9 s9 m9 args9 below9 meth9 c9 b9 D9 dA9 MX5_image.2.2.1 h.length (ax_sz h) Q9 (14) ([some (rv a), some (iv (n : Int)), some (iv (i : Int))]) ([]) (hh) := by
    intro n ek hn d
    induction d with
    | zero =>
      intro i hh im hi M hm e
      have ⟨h0, h1, h2, h3, h4, h5, h6, h7, h8, h9, h10, h11⟩ := M
      have e8 : i = 88 := by omega
      subst e8
      refine g_iload_n C dX5_image_14 rfl ?_
      refine g_bipush C dX5_image_15 (by decide) ?_
      refine g_icmp_ge C dX5_image_17 (tgt := 43) (by decide) (by omega) (by omega) (fun h17 => ?_) (fun h17 => ?_)
      · refine g_aload_n C dX5_image_43 rfl ?_
        refine g_get C FX5_16 dX5_image_44 (by assumption) rfl ?_
        refine g_iload_n C dX5_image_47 rfl ?_
        refine g_iconst C dX5_image_48 ?_
        refine g_zast C dX5_image_49 (by assumption) (by omega) rfl (by omega) (by decide) ?_
        refine mo_s_kp M hm ?_
        intro h9 M hm
        refine g_iconst C dX5_image_50 ?_
        have es : simage B K km (n : Int) = (1, kpt B K n 4, km ||| 2 ^ n) := by (unfold simage; rw [Int.toNat_natCast]; (repeat (first | rw [if_pos (by omega)] | rw [if_neg (by omega)])))
        refine kr _ _ _ _ dX5_image_51 ?_ hm.1
        rw [ek, es]
        refine ⟨rfl, ⟨(s.1, im, va_up s.2.2 n 1), c, xs, ys, pt, co, cc, M, S.1, S.2.1, fun j hj => ?_, fun j hj => ?_, (km_or km S.2.2.2.2 n hn 0 (by omega)).2⟩, hm⟩
        · by_cases q : j = n
          · subst q
            refine ⟨S.1.cg (fun z hz => S.2.1.len hz) (fun z hz => ?_) (fun z hz => by show B z = kpt B K j 4 (4 * j + z); unfold kpt; rw [if_pos (by omega), show 4 * j + z - 4 * j = z by omega]), fun z hz => ?_⟩
            · show im (88 * j + z) = _
              rw [e _ (by omega), if_pos (by omega), show 88 * j + z - 88 * j = z by omega]
            · show bl_ok (kpt B K j 4 (4 * j + z))
              unfold kpt; rw [if_pos (by omega), show 4 * j + z - 4 * j = z by omega]; exact S.2.1 z hz
          · have hh := S.2.2.1 j hj
            refine ⟨hh.1.cg (fun z hz => (hh.2 z hz).1.1) (fun z hz => ?_) (fun z hz => by show K (4 * j + z) = kpt B K n 4 (4 * j + z); unfold kpt; rw [if_neg (by omega)]), fun z hz => ?_⟩
            · show im (88 * j + z) = _
              rw [e _ (by omega), if_neg (by omega)]
            · show bl_ok (kpt B K n 4 (4 * j + z))
              unfold kpt; rw [if_neg (by omega)]; exact hh.2 z hz
        · show va_up s.2.2 n 1 j = _
          rw [(km_or km S.2.2.2.2 n hn j hj).1]
          by_cases q : j = n
          · rw [q, va_eq, if_pos rfl]; rfl
          · rw [va_ne q, if_neg q]; exact S.2.2.2.1 j hj
      · exfalso; omega
    | succ d ih =>
      intro i hh im hi M hm e
      have ⟨h0, h1, h2, h3, h4, h5, h6, h7, h8, h9, h10, h11⟩ := M
      refine g_iload_n C dX5_image_14 rfl ?_
      refine g_bipush C dX5_image_15 (by decide) ?_
      refine g_icmp_ge C dX5_image_17 (tgt := 43) (by decide) (by omega) (by omega) (fun h17 => ?_) (fun h17 => ?_)
      · exfalso; omega
      · refine g_aload_n C dX5_image_20 rfl ?_
        refine g_get C FX5_13 dX5_image_21 (by assumption) rfl ?_
        refine g_bipush C dX5_image_24 (by decide) ?_
        refine g_iload_n C dX5_image_26 rfl ?_
        refine g_imul C dX5_image_27 ?_
        refine g_iload_n C dX5_image_28 rfl ?_
        refine g_iadd C dX5_image_29 ?_
        refine g_top (show _ = ((88 * n + i : Nat) : Int) by omega) ?_
        refine g_aload_n C dX5_image_30 rfl ?_
        refine g_get C FX5_7 dX5_image_31 (by assumption) rfl ?_
        refine g_iload_n C dX5_image_34 rfl ?_
        refine g_iald C dX5_image_35 (by assumption) rfl (by omega) (by decide) ?_
        refine g_iast C dX5_image_36 (by assumption) rfl (by omega) (by decide) ?_
        refine mo_s_im M hm ?_
        intro h9 M hm
        refine g_iinc C dX5_image_37 (by decide) rfl rfl ?_
        dsimp only [List.set]
        refine g_goto C dX5_image_40 (tgt := 14) (by decide) ?_
        exact ih (i + 1) _ (va_up im (88 * n + i) (s.1 i)) (by omega) M hm (fun z z1 => by
          by_cases q : z = 88 * n + i
          · rw [q, va_eq, if_pos (by omega), show 88 * n + i - 88 * n = i by omega]
          · rw [va_ne q, e z z1]
            by_cases q2 : 88 * n ≤ z ∧ z < 88 * n + i
            · rw [if_pos q2, if_pos (by omega)]
            · rw [if_neg q2, if_neg (by omega)])
  have ⟨h0, h1, h2, h3, h4, h5, h6, h7, h8, h9, h10, h11⟩ := M
  refine g_iload_n C dX5_image_0 rfl ?_
  refine g_iconst C dX5_image_1 ?_
  refine g_iconst C dX5_image_2 ?_
  refine g_S C (r_in hk (by omega) (by omega)) dX5_image_3 KX5_in LX5_44 SX5_in (by decide) rfl rfl (Nat.le_of_ble_eq_true rfl) ⟨rfl, rfl⟩ ?_
  dsimp only [Option.toList, List.cons_append, List.nil_append]
  refine g_if_ne C dX5_image_6 (tgt := 12) (by decide) ifr (fun h6 => ?_) (fun h6 => ?_)
  · have w6 : 0 ≤ k ∧ k ≤ 1 := if1 h6
    refine g_iconst C dX5_image_12 ?_
    refine g_istore_n C dX5_image_13 (by decide) rfl ?_
    dsimp only [List.set]
    obtain ⟨n, ek⟩ : ∃ n : Nat, k = (n : Int) := ⟨k.toNat, by omega⟩
    have q := part n ek (by omega) 88 0 h s.2.1 (by omega) M hm (fun z hz => by rw [if_neg (by omega)])
    rw [← ek] at q
    exact q
  · have w6 : ¬ (0 ≤ k ∧ k ≤ 1) := if0 h6
    refine g_bipush C dX5_image_9 (by decide) ?_
    have e : simage B K km k = (-2, K, km) := by (unfold simage; (repeat (first | rw [if_pos (by omega)] | rw [if_neg (by omega)])))
    exact kr _ _ _ _ dX5_image_11 (by rw [e]; exact ⟨rfl, H, hm⟩) hm.1
theorem r_restore (H : mw h a B K km) {k : Int} (hk : -2147483648 ≤ k ∧ k < 2147483648) : ax_Mt MX5_restore [rv a, iv k] h (fun r h' => r = some (iv (srestore B K km k).1) ∧ mw h' a (srestore B K km k).2 K km ∧ ax_sm a (a + 12) h h') := by
  have hm := ax_sm.rf (lo := a) (hi := a + 12) h
  have ⟨s, c, xs, ys, pt, co, cc, M, S⟩ := H
  refine ax_ri (L0 := [some (rv a), some (iv k), none]) rfl rfl (Nat.le_of_ble_eq_true rfl) rfl ?_
  intro p9 l9 e9 R9 s9 m9 args9 below9 meth9 c9 b9 D9 dA9 Q9 C kr
  have part : ∀ n : Nat, k = (n : Int) → n < 2 → km / 2 ^ n % 2 = 1 → ∀ (d i : Nat) (hh : ax_H) (sa : Nat → Int), i + d = 88 → mz hh a (sa, s.2) c xs ys pt co cc → ax_sm a (a + 12) h hh → (∀ z, z < i → sa z = s.2.1 (88 * n + z)) → ax_G p9 l9 e9 R9 s9 m9 args9 below9 meth9 c9 b9 D9 dA9 MX5_restore.2.2.1 h.length (ax_sz h) Q9 (26) ([some (rv a), some (iv (n : Int)), some (iv (i : Int))]) ([]) (hh) := by
    intro n ek hn hbt d
    induction d with
    | zero =>
      intro i hh im hi M hm e
      have ⟨h0, h1, h2, h3, h4, h5, h6, h7, h8, h9, h10, h11⟩ := M
      have e8 : i = 88 := by omega
      subst e8
      have hh := S.2.2.1 n hn
      refine g_iload_n C dX5_restore_26 rfl ?_
      refine g_bipush C dX5_restore_27 (by decide) ?_
      refine g_icmp_ge C dX5_restore_29 (tgt := 55) (by decide) (by omega) (by omega) (fun h29 => ?_) (fun h29 => ?_)
      · refine g_iconst C dX5_restore_55 ?_
        have es : srestore B K km (n : Int) = (1, rst B K n 4) := by (unfold srestore; rw [Int.toNat_natCast]; (repeat (first | rw [if_pos (by omega)] | rw [if_neg (by omega)])))
        refine kr _ _ _ _ dX5_restore_56 ?_ hm.1
        rw [ek, es]
        refine ⟨rfl, ⟨(im, s.2), c, xs, ys, pt, co, cc, M, hh.1.cg (fun z hz => (hh.2 z hz).1.1) (fun z hz => e z hz) (fun z hz => by show K (4 * n + z) = rst B K n 4 z; unfold rst; rw [if_pos hz]), fun z hz => ?_, S.2.2⟩, hm⟩
        show bl_ok (rst B K n 4 z)
        unfold rst; rw [if_pos hz]; exact hh.2 z hz
      · exfalso; omega
    | succ d ih =>
      intro i hh im hi M hm e
      have ⟨h0, h1, h2, h3, h4, h5, h6, h7, h8, h9, h10, h11⟩ := M
      refine g_iload_n C dX5_restore_26 rfl ?_
      refine g_bipush C dX5_restore_27 (by decide) ?_
      refine g_icmp_ge C dX5_restore_29 (tgt := 55) (by decide) (by omega) (by omega) (fun h29 => ?_) (fun h29 => ?_)
      · exfalso; omega
      · refine g_aload_n C dX5_restore_32 rfl ?_
        refine g_get C FX5_7 dX5_restore_33 (by assumption) rfl ?_
        refine g_iload_n C dX5_restore_36 rfl ?_
        refine g_aload_n C dX5_restore_37 rfl ?_
        refine g_get C FX5_13 dX5_restore_38 (by assumption) rfl ?_
        refine g_bipush C dX5_restore_41 (by decide) ?_
        refine g_iload_n C dX5_restore_43 rfl ?_
        refine g_imul C dX5_restore_44 ?_
        refine g_iload_n C dX5_restore_45 rfl ?_
        refine g_iadd C dX5_restore_46 ?_
        refine g_top (show _ = ((88 * n + i : Nat) : Int) by omega) ?_
        refine g_iald C dX5_restore_47 (by assumption) rfl (by omega) (by decide) ?_
        refine g_iast C dX5_restore_48 (by assumption) rfl (by omega) (by decide) ?_
        refine mo_s_sa M hm ?_
        intro h9 M hm
        refine g_iinc C dX5_restore_49 (by decide) rfl rfl ?_
        dsimp only [List.set]
        refine g_goto C dX5_restore_52 (tgt := 26) (by decide) ?_
        exact ih (i + 1) _ (va_up im i (s.2.1 (88 * n + i))) (by omega) M hm (fun z z1 => by
          by_cases q : z = i
          · rw [q, va_eq]
          · rw [va_ne q]; exact e z (by omega))
  have ⟨h0, h1, h2, h3, h4, h5, h6, h7, h8, h9, h10, h11⟩ := M
  refine g_iload_n C dX5_restore_0 rfl ?_
  refine g_iconst C dX5_restore_1 ?_
  refine g_iconst C dX5_restore_2 ?_
  refine g_S C (r_in hk (by omega) (by omega)) dX5_restore_3 KX5_in LX5_44 SX5_in (by decide) rfl rfl (Nat.le_of_ble_eq_true rfl) ⟨rfl, rfl⟩ ?_
  dsimp only [Option.toList, List.cons_append, List.nil_append]
  refine g_if_ne C dX5_restore_6 (tgt := 12) (by decide) ifr (fun h6 => ?_) (fun h6 => ?_)
  · have w6 : 0 ≤ k ∧ k ≤ 1 := if1 h6
    obtain ⟨n, ek⟩ : ∃ n : Nat, k = (n : Int) := ⟨k.toNat, by omega⟩
    have eb := S.2.2.2.1 n (by omega)
    have hb := Nat.mod_lt (km / 2 ^ n) (show 2 > 0 by decide)
    refine g_aload_n C dX5_restore_12 rfl ?_
    refine g_get C FX5_16 dX5_restore_13 (by assumption) rfl ?_
    refine g_iload_n C dX5_restore_16 rfl ?_
    refine g_zald C dX5_restore_17 (by assumption) ek (by omega) (by decide) ?_
    rw [eb]
    refine g_if_ne C dX5_restore_18 (tgt := 24) (by decide) (by omega) (fun h18 => ?_) (fun h18 => ?_)
    · refine g_iconst C dX5_restore_24 ?_
      refine g_istore_n C dX5_restore_25 (by decide) rfl ?_
      dsimp only [List.set]
      have q := part n ek (by omega) (by omega) 88 0 h s.1 (by omega) M hm (fun z hz => by omega)
      rw [← ek] at q
      exact q
    · refine g_bipush C dX5_restore_21 (by decide) ?_
      have e : srestore B K km k = (-3, B) := by (unfold srestore; rw [ek, Int.toNat_natCast]; (repeat (first | rw [if_pos (by omega)] | rw [if_neg (by omega)])))
      exact kr _ _ _ _ dX5_restore_23 (by rw [e]; exact ⟨rfl, H, hm⟩) hm.1
  · have w6 : ¬ (0 ≤ k ∧ k ≤ 1) := if0 h6
    refine g_bipush C dX5_restore_9 (by decide) ?_
    have e : srestore B K km k = (-2, B) := by (unfold srestore; (repeat (first | rw [if_pos (by omega)] | rw [if_neg (by omega)])))
    exact kr _ _ _ _ dX5_restore_11 (by rw [e]; exact ⟨rfl, H, hm⟩) hm.1
theorem r_count (H : mw h a B K km) {w : Int} (hw : -2147483648 ≤ w ∧ w < 2147483648) : ax_Mt MX5_count [rv a, iv w] h (fun r h' => r = some (iv (scount B km w)) ∧ mw h' a B K km ∧ ax_sm a (a + 12) h h') := by
  have hm := ax_sm.rf (lo := a) (hi := a + 12) h
  have ⟨s, c, xs, ys, pt, co, cc, M, S⟩ := H
  have ⟨h0, h1, h2, h3, h4, h5, h6, h7, h8, h9, h10, h11⟩ := M
  refine ax_ri (L0 := [some (rv a), some (iv w), none, none, none]) rfl rfl (Nat.le_of_ble_eq_true rfl) rfl ?_
  intro p9 l9 e9 R9 s9 m9 args9 below9 meth9 c9 b9 D9 dA9 Q9 C kr
  have loop : ¬ (0 ≤ w ∧ w ≤ 3) → ∀ (d k : Nat), k + d = 4 → ax_G p9 l9 e9 R9 s9 m9 args9 below9 meth9 c9 b9 D9 dA9 MX5_count.2.2.1 h.length (ax_sz h) Q9 (20) ([some (rv a), some (iv w), some (iv (tot B k : Int)), some (iv (fil B k : Int)), some (iv (k : Int))]) ([]) (h) := by
    intro hnw d
    induction d with
    | zero =>
      intro k hk
      have e : k = 4 := by omega
      subst e
      have k0 := S.2.2.2.1 0 (by omega)
      have k1 := S.2.2.2.1 1 (by omega)
      have kk := km_is km S.2.2.2.2
      have b0 := Nat.mod_lt (km / 2 ^ 0) (show 2 > 0 by decide)
      have b1 := Nat.mod_lt (km / 2 ^ 1) (show 2 > 0 by decide)
      refine g_iload C dX5_count_20 rfl ?_
      refine g_iconst C dX5_count_22 ?_
      refine g_icmp_ge C dX5_count_23 (tgt := 61) (by decide) (by omega) (by omega) (fun h23 => ?_) (fun h23 => ?_)
      · refine g_iload_n C dX5_count_61 rfl ?_
        rcases (show w = 4 ∨ w = 5 ∨ w = 6 ∨ (w ≠ 4 ∧ w ≠ 5 ∧ w ≠ 6) by omega) with rfl | rfl | rfl | hsw
        · refine g_tableIn C dX5_count_62 (off := 26) (tgt := 88) (by decide) (by decide) (by decide) (by decide) (by decide) ?_
          refine g_iload_n C dX5_count_88 rfl ?_
          exact kr _ _ _ _ dX5_count_89 ⟨congrArg (fun z => some (iv z)) (by unfold scount; (repeat (first | rw [if_pos (by omega)] | rw [if_neg (by omega)]))), H, hm⟩ hm.1
        · refine g_tableIn C dX5_count_62 (off := 28) (tgt := 90) (by decide) (by decide) (by decide) (by decide) (by decide) ?_
          refine g_iload_n C dX5_count_90 rfl ?_
          exact kr _ _ _ _ dX5_count_91 ⟨congrArg (fun z => some (iv z)) (by unfold scount; (repeat (first | rw [if_pos (by omega)] | rw [if_neg (by omega)]))), H, hm⟩ hm.1
        · refine g_tableIn C dX5_count_62 (off := 30) (tgt := 92) (by decide) (by decide) (by decide) (by decide) (by decide) ?_
          refine g_aload_n C dX5_count_92 rfl ?_
          refine g_get C FX5_16 dX5_count_93 (by assumption) rfl ?_
          refine g_iconst C dX5_count_96 ?_
          refine g_zald C dX5_count_97 (by assumption) (show (0 : Int) = ((0 : Nat) : Int) from rfl) (by omega) (by decide) ?_
          rw [k0]
          refine g_if_eq C dX5_count_98 (tgt := 105) (by decide) (by omega) (fun h98 => ?_) (fun h98 => ?_)
          · refine g_iconst C dX5_count_105 ?_
            refine g_aload_n C dX5_count_106 rfl ?_
            refine g_get C FX5_16 dX5_count_107 (by assumption) rfl ?_
            refine g_iconst C dX5_count_110 ?_
            refine g_zald C dX5_count_111 (by assumption) (show (1 : Int) = ((1 : Nat) : Int) from rfl) (by omega) (by decide) ?_
            rw [k1]
            refine g_if_eq C dX5_count_112 (tgt := 119) (by decide) (by omega) (fun h112 => ?_) (fun h112 => ?_)
            · refine g_iconst C dX5_count_119 ?_
              refine g_iadd C dX5_count_120 ?_
              exact kr _ _ _ _ dX5_count_121 ⟨congrArg (fun z => some (iv z)) (by unfold scount; rw [if_neg (by omega), if_neg (by omega), if_neg (by omega), if_pos (by omega)]; omega), H, hm⟩ hm.1
            · refine g_iconst C dX5_count_115 ?_
              refine g_goto C dX5_count_116 (tgt := 120) (by decide) ?_
              refine g_iadd C dX5_count_120 ?_
              exact kr _ _ _ _ dX5_count_121 ⟨congrArg (fun z => some (iv z)) (by unfold scount; rw [if_neg (by omega), if_neg (by omega), if_neg (by omega), if_pos (by omega)]; omega), H, hm⟩ hm.1
          · refine g_iconst C dX5_count_101 ?_
            refine g_goto C dX5_count_102 (tgt := 106) (by decide) ?_
            refine g_aload_n C dX5_count_106 rfl ?_
            refine g_get C FX5_16 dX5_count_107 (by assumption) rfl ?_
            refine g_iconst C dX5_count_110 ?_
            refine g_zald C dX5_count_111 (by assumption) (show (1 : Int) = ((1 : Nat) : Int) from rfl) (by omega) (by decide) ?_
            rw [k1]
            refine g_if_eq C dX5_count_112 (tgt := 119) (by decide) (by omega) (fun h112 => ?_) (fun h112 => ?_)
            · refine g_iconst C dX5_count_119 ?_
              refine g_iadd C dX5_count_120 ?_
              exact kr _ _ _ _ dX5_count_121 ⟨congrArg (fun z => some (iv z)) (by unfold scount; rw [if_neg (by omega), if_neg (by omega), if_neg (by omega), if_pos (by omega)]; omega), H, hm⟩ hm.1
            · refine g_iconst C dX5_count_115 ?_
              refine g_goto C dX5_count_116 (tgt := 120) (by decide) ?_
              refine g_iadd C dX5_count_120 ?_
              exact kr _ _ _ _ dX5_count_121 ⟨congrArg (fun z => some (iv z)) (by unfold scount; rw [if_neg (by omega), if_neg (by omega), if_neg (by omega), if_pos (by omega)]; omega), H, hm⟩ hm.1
        · refine g_tableOut C dX5_count_62 (tgt := 122) (by omega) (by omega) (by decide) ?_
          refine g_bipush C dX5_count_122 (by decide) ?_
          exact kr _ _ _ _ dX5_count_124 ⟨congrArg (fun z => some (iv z)) (by unfold scount; (repeat (first | rw [if_pos (by omega)] | rw [if_neg (by omega)]))), H, hm⟩ hm.1
      · exfalso; omega
    | succ d ih =>
      intro k hk
      have hL := S.2.1.len (b := k) (by omega)
      refine g_iload C dX5_count_20 rfl ?_
      refine g_iconst C dX5_count_22 ?_
      refine g_icmp_ge C dX5_count_23 (tgt := 61) (by decide) (by omega) (by omega) (fun h23 => ?_) (fun h23 => ?_)
      · exfalso; omega
      · refine g_iload_n C dX5_count_26 rfl ?_
        refine g_aload_n C dX5_count_27 rfl ?_
        refine g_iload C dX5_count_28 rfl ?_
        refine g_V C (r_many M S (b := k) (by omega)) dX5_count_30 KX5_many LX5_56 IX5_many VX5_many (by decide) rfl (by assumption) rfl rfl rfl (Nat.le_of_ble_eq_true rfl) ⟨rfl, rfl⟩ ?_
        dsimp only [Option.toList, List.cons_append, List.nil_append]
        refine g_iadd C dX5_count_33 ?_
        refine g_top (show _ = ((tot B (k + 1) : Nat) : Int) by rw [tot]; omega) ?_
        refine g_istore_n C dX5_count_34 (by decide) rfl ?_
        dsimp only [List.set]
        refine g_iload_n C dX5_count_35 rfl ?_
        refine g_aload_n C dX5_count_36 rfl ?_
        refine g_iload C dX5_count_37 rfl ?_
        refine g_V C (r_many M S (b := k) (by omega)) dX5_count_39 KX5_many LX5_56 IX5_many VX5_many (by decide) rfl (by assumption) rfl rfl rfl (Nat.le_of_ble_eq_true rfl) ⟨rfl, rfl⟩ ?_
        dsimp only [Option.toList, List.cons_append, List.nil_append]
        refine g_if_le C dX5_count_42 (tgt := 52) (by decide) (by omega) (fun h42 => ?_) (fun h42 => ?_)
        · have e : fil B (k + 1) = fil B k ||| 0 := by rw [fil, if_neg (by omega), Nat.or_zero]
          refine g_iconst C dX5_count_52 ?_
          refine g_ior C dX5_count_53 (ax_orN _ _) ?_
          refine g_istore_n C dX5_count_54 (by decide) rfl ?_
          dsimp only [List.set]
          refine g_iinc C dX5_count_55 (by decide) rfl rfl ?_
          dsimp only [List.set]
          refine g_goto C dX5_count_58 (tgt := 20) (by decide) ?_
          have q := ih (k + 1) (by omega)
          rw [e] at q
          exact q
        · have e : fil B (k + 1) = fil B k ||| 2 ^ k := by rw [fil, if_pos (by omega)]
          refine g_iconst C dX5_count_45 ?_
          refine g_iload C dX5_count_46 rfl ?_
          refine g_ishl C dX5_count_48 (by omega) ?_
          refine g_top (ax_1p k) ?_
          refine g_goto C dX5_count_49 (tgt := 53) (by decide) ?_
          refine g_ior C dX5_count_53 (ax_orN _ _) ?_
          refine g_istore_n C dX5_count_54 (by decide) rfl ?_
          dsimp only [List.set]
          refine g_iinc C dX5_count_55 (by decide) rfl rfl ?_
          dsimp only [List.set]
          refine g_goto C dX5_count_58 (tgt := 20) (by decide) ?_
          have q := ih (k + 1) (by omega)
          rw [e] at q
          exact q
  refine g_iload_n C dX5_count_0 rfl ?_
  refine g_S C (r_isBody hw) dX5_count_1 KX5_isBody LX5_52 SX5_isBody (by decide) rfl rfl (Nat.le_of_ble_eq_true rfl) ⟨rfl, rfl⟩ ?_
  dsimp only [Option.toList, List.cons_append, List.nil_append]
  refine g_if_eq C dX5_count_4 (tgt := 13) (by decide) ifr (fun h4 => ?_) (fun h4 => ?_)
  · have w4 : ¬ (0 ≤ w ∧ w ≤ 3) := if0 h4
    refine g_iconst C dX5_count_13 ?_
    refine g_istore_n C dX5_count_14 (by decide) rfl ?_
    dsimp only [List.set]
    refine g_iconst C dX5_count_15 ?_
    refine g_istore_n C dX5_count_16 (by decide) rfl ?_
    dsimp only [List.set]
    refine g_iconst C dX5_count_17 ?_
    refine g_istore C dX5_count_18 (by decide) rfl ?_
    dsimp only [List.set]
    exact loop w4 4 0 (by omega)
  · have w4 : 0 ≤ w ∧ w ≤ 3 := if1 h4
    obtain ⟨n, rfl⟩ : ∃ n : Nat, w = (n : Int) := ⟨w.toNat, by omega⟩
    refine g_aload_n C dX5_count_7 rfl ?_
    refine g_iload_n C dX5_count_8 rfl ?_
    refine g_V C (r_many M S (b := n) (by omega)) dX5_count_9 KX5_many LX5_56 IX5_many VX5_many (by decide) rfl (by assumption) rfl rfl rfl (Nat.le_of_ble_eq_true rfl) ⟨rfl, rfl⟩ ?_
    dsimp only [Option.toList, List.cons_append, List.nil_append]
    exact kr _ _ _ _ dX5_count_12 ⟨congrArg (fun z => some (iv z)) (by unfold scount; rw [Int.toNat_natCast]; (repeat (first | rw [if_pos (by omega)] | rw [if_neg (by omega)]))), H, hm⟩ hm.1
end MI
