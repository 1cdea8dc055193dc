/-! the reference: its cells -/
section MD
variable {h : ax_H} {a : Nat} {s : MS} {us vs lw fi se : Nat → Int} {ce : Nat} {xs ys : Nat → Int} {pt : Nat} {co : Nat → Int} {cc : Nat} {B K : Nat → List Pt3} {km : Nat}
abbrev mcx (h : ax_H) (a : Nat) (s : MS) (us vs lw : Nat → Int) (ce : Nat) (fi se xs ys : Nat → Int) (pt : Nat) (co : Nat → Int) (cc : Nat) : Prop := mo_at h a s.1 s.2.1 s.2.2 xs ys pt co cc us vs lw ce fi se
def cmR (t r : Tr) : Int := if t.1 * r.2.2 - r.1 * t.2.2 = 0 then t.2.1 * r.2.2 - r.2.1 * t.2.2 else t.1 * r.2.2 - r.1 * t.2.2
theorem cmR_gt (t r : Tr) : 0 < cmR t r ↔ tlt r t := by
  unfold cmR tlt
  split <;> omega
theorem cmR_lt (t r : Tr) : cmR t r < 0 ↔ tlt t r := by
  unfold cmR tlt
  split <;> omega
theorem cmR_eq (t r : Tr) : cmR t r = 0 ↔ teq t r := by
  unfold cmR teq
  split <;> omega
theorem p8 {x y : Int} (h1 : -10000 ≤ x ∧ x ≤ 10000) (h2 : -10000 ≤ y ∧ y ≤ 10000) : -100000000 ≤ x * y ∧ x * y ≤ 100000000 := mb2 (U := 10000) (M := 10000) h1 h2
theorem cmR_in {t r : Tr} (ht : tbd t) (hr : tbd r) : -200000000 ≤ cmR t r ∧ cmR t r ≤ 200000000 := by
  unfold tbd at ht hr
  have b1 := p8 (x := t.1) (y := r.2.2) (by omega) (by omega)
  have b2 := p8 (x := r.1) (y := t.2.2) (by omega) (by omega)
  have b3 := p8 (x := t.2.1) (y := r.2.2) (by omega) (by omega)
  have b4 := p8 (x := r.2.1) (y := t.2.2) (by omega) (by omega)
  unfold cmR; split <;> omega
theorem r_compare (M : mcx h a s us vs lw ce fi se xs ys pt co cc) {t : Tr} {i : Nat} (hi : i < 512) (ht : tbd t) (hr : tbd (us i, vs i, lw i)) : ax_Met MX5_compare [rv a, iv t.1, iv t.2.1, iv t.2.2, iv (i : Int)] h (some (iv (cmR t (us i, vs i, lw i)))) h := by
  have ⟨h0, h1, h2, h3, h4, h5, h6, h7, h8, h9, h10, h11⟩ := M
  have b := cmR_in ht hr
  unfold tbd at ht hr
  dsimp only at hr
  have b1 := p8 (x := t.1) (y := lw i) (by omega) (by omega)
  have b2 := p8 (x := us i) (y := t.2.2) (by omega) (by omega)
  unfold cmR
  refine ax_mi (L0 := [some (rv a), some (iv t.1), some (iv t.2.1), some (iv t.2.2), some (iv (i : Int)), none]) rfl rfl (Nat.le_refl _) (Nat.le_refl _) (Nat.le_of_ble_eq_true rfl) rfl ?_
  intro p9 l9 e9 R9 s9 m9 args9 below9 meth9 c9 b9 D9 dA9 Q9 C kr
  refine g_iload_n C dX5_compare_0 rfl ?_
  refine g_aload_n C dX5_compare_1 rfl ?_
  refine g_get C FX5_35 dX5_compare_2 (by assumption) rfl ?_
  refine g_iload C dX5_compare_5 rfl ?_
  refine g_iald C dX5_compare_7 (by assumption) rfl (by omega) (by decide) ?_
  refine g_imul C dX5_compare_8 ?_
  refine g_aload_n C dX5_compare_9 rfl ?_
  refine g_get C FX5_29 dX5_compare_10 (by assumption) rfl ?_
  refine g_iload C dX5_compare_13 rfl ?_
  refine g_iald C dX5_compare_15 (by assumption) rfl (by omega) (by decide) ?_
  refine g_iload_n C dX5_compare_16 rfl ?_
  refine g_imul C dX5_compare_17 ?_
  refine g_isub C dX5_compare_18 ?_
  refine g_istore C dX5_compare_19 (by decide) rfl ?_
  dsimp only [List.set]
  refine g_iload C dX5_compare_21 rfl ?_
  refine g_if_eq C dX5_compare_23 (tgt := 31) (by decide) (by omega) (fun h23 => ?_) (fun h23 => ?_)
  · skip
    refine g_iload_n C dX5_compare_31 rfl ?_
    refine g_aload_n C dX5_compare_32 rfl ?_
    refine g_get C FX5_35 dX5_compare_33 (by assumption) rfl ?_
    refine g_iload C dX5_compare_36 rfl ?_
    refine g_iald C dX5_compare_38 (by assumption) rfl (by omega) (by decide) ?_
    refine g_imul C dX5_compare_39 ?_
    refine g_aload_n C dX5_compare_40 rfl ?_
    refine g_get C FX5_32 dX5_compare_41 (by assumption) rfl ?_
    refine g_iload C dX5_compare_44 rfl ?_
    refine g_iald C dX5_compare_46 (by assumption) rfl (by omega) (by decide) ?_
    refine g_iload_n C dX5_compare_47 rfl ?_
    refine g_imul C dX5_compare_48 ?_
    refine g_isub C dX5_compare_49 ?_
    first | exact kr _ _ _ dX5_compare_50 (by rw [if_pos h23]) | exact kr _ _ _ dX5_compare_50 (by rw [if_neg h23])
  · refine g_iload C dX5_compare_26 rfl ?_
    refine g_goto C dX5_compare_28 (tgt := 50) (by decide) ?_
    first | exact kr _ _ _ dX5_compare_50 (by rw [if_pos h23]) | exact kr _ _ _ dX5_compare_50 (by rw [if_neg h23])
theorem r_addCell (M : mcx h a s us vs lw ce fi se xs ys pt co cc) {t : Tr} (ht : tbd t) (hs : tsr (fun i => (us i, vs i, lw i)) ce) (hb : ∀ i, i < ce → tbd (us i, vs i, lw i)) (hce : ce ≤ 100) : ax_Mt MX5_addCell [rv a, iv t.1, iv t.2.1, iv t.2.2] h (fun r h' => r = none ∧ ax_sm a (a + 12) h h' ∧ ∃ us' vs' lw' ce', mcx h' a s us' vs' lw' ce' fi se xs ys pt co cc ∧ tsr (fun i => (us' i, vs' i, lw' i)) ce' ∧ (∀ i, i < ce' → (us' i, vs' i, lw' i) = t ∨ ∃ j, j < ce ∧ (us' i, vs' i, lw' i) = (us j, vs j, lw j)) ∧ (∀ j, j < ce → ∃ i, i < ce' ∧ (us' i, vs' i, lw' i) = (us j, vs j, lw j)) ∧ ∃ i, i < ce' ∧ teq t (us' i, vs' i, lw' i)) := by
  have hm := ax_sm.rf (lo := a) (hi := a + 12) h
  have ⟨h0, h1, h2, h3, h4, h5, h6, h7, h8, h9, h10, h11⟩ := M
  refine ax_rv (L0 := [some (rv a), some (iv t.1), some (iv t.2.1), some (iv t.2.2), none, none]) rfl rfl (Nat.le_of_ble_eq_true rfl) rfl ?_
  intro p9 l9 e9 R9 s9 m9 args9 below9 meth9 c9 b9 D9 dA9 Q9 C kr
  have ins : ∀ (q : Nat), q ≤ ce → (∀ i, i < q → tlt (us i, vs i, lw i) t) → (∀ i, q ≤ i → i < ce → tlt t (us i, vs i, lw i)) → ∀ (d i : Nat) (hh : ax_H) (u1 v1 l1 : Nat → Int), q + d = i → i ≤ ce → mcx hh a s u1 v1 l1 ce fi se xs ys pt co cc → ax_sm a (a + 12) h hh → (∀ j, j < i → u1 j = us j ∧ v1 j = vs j ∧ l1 j = lw j) → (∀ j, i < j → j ≤ ce → u1 j = us (j - 1) ∧ v1 j = vs (j - 1) ∧ l1 j = lw (j - 1)) → ax_G p9 l9 e9 R9 s9 m9 args9 below9 meth9 c9 b9 D9 dA9 MX5_addCell.2.2.1 h.length (ax_sz h) Q9 (58) ([some (rv a), some (iv t.1), some (iv t.2.1), some (iv t.2.2), some (iv (q : Int)), some (iv (i : Int))]) ([]) (hh) := by
    intro q hq hl hg d
    induction d with
    | zero =>
      intro i hh u1 v1 l1 hi hic M hm e1 e2
      have ⟨h0, h1, h2, h3, h4, h5, h6, h7, h8, h9, h10, h11⟩ := M
      have ei : i = q := by omega
      subst ei
      refine g_iload C dX5_addCell_58 rfl ?_
      refine g_iload C dX5_addCell_60 rfl ?_
      refine g_icmp_le C dX5_addCell_62 (tgt := 119) (by decide) (by omega) (by omega) (fun h62 => ?_) (fun h62 => ?_)
      · refine g_aload_n C dX5_addCell_119 rfl ?_
        refine g_get C FX5_29 dX5_addCell_120 (by assumption) rfl ?_
        refine g_iload C dX5_addCell_123 rfl ?_
        refine g_iload_n C dX5_addCell_125 rfl ?_
        refine g_iast C dX5_addCell_126 (by assumption) rfl (by omega) (by decide) ?_
        refine mo_s_us M hm ?_
        intro h9 M hm
        have ⟨h0, h1, h2, h3, h4, h5, h6, h7, h8, h9, h10, h11⟩ := M
        refine g_aload_n C dX5_addCell_127 rfl ?_
        refine g_get C FX5_32 dX5_addCell_128 (by assumption) rfl ?_
        refine g_iload C dX5_addCell_131 rfl ?_
        refine g_iload_n C dX5_addCell_133 rfl ?_
        refine g_iast C dX5_addCell_134 (by assumption) rfl (by omega) (by decide) ?_
        refine mo_s_vs M hm ?_
        intro h9 M hm
        have ⟨h0, h1, h2, h3, h4, h5, h6, h7, h8, h9, h10, h11⟩ := M
        refine g_aload_n C dX5_addCell_135 rfl ?_
        refine g_get C FX5_35 dX5_addCell_136 (by assumption) rfl ?_
        refine g_iload C dX5_addCell_139 rfl ?_
        refine g_iload_n C dX5_addCell_141 rfl ?_
        refine g_iast C dX5_addCell_142 (by assumption) rfl (by omega) (by decide) ?_
        refine mo_s_lw M hm ?_
        intro h9 M hm
        have ⟨h0, h1, h2, h3, h4, h5, h6, h7, h8, h9, h10, h11⟩ := M
        refine g_aload_n C dX5_addCell_143 rfl ?_
        refine g_dup C dX5_addCell_144 ?_
        refine g_get C FX5_118 dX5_addCell_145 (by assumption) rfl ?_
        refine g_iconst C dX5_addCell_148 ?_
        refine g_iadd C dX5_addCell_149 ?_
        refine g_put C FX5_118 dX5_addCell_150 (by assumption) rfl rfl (Nat.le_of_ble_eq_true rfl) ?_
        dsimp only [List.set]
        refine mo_s_ce (ce + 1) rfl M hm ?_
        intro h9 M hm
        refine kr _ _ _ dX5_addCell_153 ⟨rfl, hm, va_up u1 i t.1, va_up v1 i t.2.1, va_up l1 i t.2.2, ce + 1, M, ?_, ?_, ?_, ?_⟩ hm.1
        · refine tsr_ins (k := i) hs (ht.2.2.1) hic hl hg (fun j hj => ?_) ?_ (fun j hj hj2 => ?_)
          · rw [va_ne (by omega), va_ne (by omega), va_ne (by omega), (e1 j hj).1, (e1 j hj).2.1, (e1 j hj).2.2]
          · rw [va_eq, va_eq, va_eq]
          · rw [va_ne (by omega), va_ne (by omega), va_ne (by omega), (e2 j hj hj2).1, (e2 j hj hj2).2.1, (e2 j hj hj2).2.2]
        · intro j hj
          by_cases w : j = i
          · subst w; left; rw [va_eq, va_eq, va_eq]
          · right
            rw [va_ne w, va_ne w, va_ne w]
            by_cases w2 : j < i
            · exact ⟨j, by omega, by rw [(e1 j w2).1, (e1 j w2).2.1, (e1 j w2).2.2]⟩
            · have z := e2 j (by omega) (by omega)
              exact ⟨j - 1, by omega, by rw [z.1, z.2.1, z.2.2]⟩
        · intro j hj
          by_cases w2 : j < i
          · exact ⟨j, by omega, by rw [va_ne (by omega), va_ne (by omega), va_ne (by omega), (e1 j w2).1, (e1 j w2).2.1, (e1 j w2).2.2]⟩
          · have z := e2 (j + 1) (by omega) (by omega)
            exact ⟨j + 1, by omega, by rw [va_ne (by omega), va_ne (by omega), va_ne (by omega), z.1, z.2.1, z.2.2]; rfl⟩
        · exact ⟨i, by omega, by rw [va_eq, va_eq, va_eq]; exact teq.rf _⟩
      · exfalso; omega
    | succ d ih =>
      intro i hh u1 v1 l1 hi hic M hm e1 e2
      have ⟨h0, h1, h2, h3, h4, h5, h6, h7, h8, h9, h10, h11⟩ := M
      have z := e1 (i - 1) (by omega)
      refine g_iload C dX5_addCell_58 rfl ?_
      refine g_iload C dX5_addCell_60 rfl ?_
      refine g_icmp_le C dX5_addCell_62 (tgt := 119) (by decide) (by omega) (by omega) (fun h62 => ?_) (fun h62 => ?_)
      · exfalso; omega
      · refine g_aload_n C dX5_addCell_65 rfl ?_
        refine g_get C FX5_29 dX5_addCell_66 (by assumption) rfl ?_
        refine g_iload C dX5_addCell_69 rfl ?_
        refine g_aload_n C dX5_addCell_71 rfl ?_
        refine g_get C FX5_29 dX5_addCell_72 (by assumption) rfl ?_
        refine g_iload C dX5_addCell_75 rfl ?_
        refine g_iconst C dX5_addCell_77 ?_
        refine g_isub C dX5_addCell_78 ?_
        refine g_top (show _ = ((i - 1 : Nat) : Int) by omega) ?_
        refine g_iald C dX5_addCell_79 (by assumption) rfl (by omega) (by decide) ?_
        refine g_iast C dX5_addCell_80 (by assumption) rfl (by omega) (by decide) ?_
        refine mo_s_us M hm ?_
        intro h9 M hm
        have ⟨h0, h1, h2, h3, h4, h5, h6, h7, h8, h9, h10, h11⟩ := M
        refine g_aload_n C dX5_addCell_81 rfl ?_
        refine g_get C FX5_32 dX5_addCell_82 (by assumption) rfl ?_
        refine g_iload C dX5_addCell_85 rfl ?_
        refine g_aload_n C dX5_addCell_87 rfl ?_
        refine g_get C FX5_32 dX5_addCell_88 (by assumption) rfl ?_
        refine g_iload C dX5_addCell_91 rfl ?_
        refine g_iconst C dX5_addCell_93 ?_
        refine g_isub C dX5_addCell_94 ?_
        refine g_top (show _ = ((i - 1 : Nat) : Int) by omega) ?_
        refine g_iald C dX5_addCell_95 (by assumption) rfl (by omega) (by decide) ?_
        refine g_iast C dX5_addCell_96 (by assumption) rfl (by omega) (by decide) ?_
        refine mo_s_vs M hm ?_
        intro h9 M hm
        have ⟨h0, h1, h2, h3, h4, h5, h6, h7, h8, h9, h10, h11⟩ := M
        refine g_aload_n C dX5_addCell_97 rfl ?_
        refine g_get C FX5_35 dX5_addCell_98 (by assumption) rfl ?_
        refine g_iload C dX5_addCell_101 rfl ?_
        refine g_aload_n C dX5_addCell_103 rfl ?_
        refine g_get C FX5_35 dX5_addCell_104 (by assumption) rfl ?_
        refine g_iload C dX5_addCell_107 rfl ?_
        refine g_iconst C dX5_addCell_109 ?_
        refine g_isub C dX5_addCell_110 ?_
        refine g_top (show _ = ((i - 1 : Nat) : Int) by omega) ?_
        refine g_iald C dX5_addCell_111 (by assumption) rfl (by omega) (by decide) ?_
        refine g_iast C dX5_addCell_112 (by assumption) rfl (by omega) (by decide) ?_
        refine mo_s_lw M hm ?_
        intro h9 M hm
        refine g_iincT C dX5_addCell_113 (by decide) rfl (show _ = ((i - 1 : Nat) : Int) by omega) rfl ?_
        dsimp only [List.set]
        refine g_goto C dX5_addCell_116 (tgt := 58) (by decide) ?_
        exact ih (i - 1) _ (va_up u1 i (u1 (i - 1))) (va_up v1 i (v1 (i - 1))) (va_up l1 i (l1 (i - 1))) (by omega) (by omega) M hm (fun j hj => by rw [va_ne (by omega), va_ne (by omega), va_ne (by omega)]; exact e1 j (by omega)) (fun j hj hj2 => by
          by_cases w : j = i
          · subst w; rw [va_eq, va_eq, va_eq]; exact z
          · rw [va_ne w, va_ne w, va_ne w]; exact e2 j (by omega) hj2)
  have loop : ∀ (d k : Nat), k + d = ce → (∀ i, i < k → tlt (us i, vs i, lw i) t) → ax_G p9 l9 e9 R9 s9 m9 args9 below9 meth9 c9 b9 D9 dA9 MX5_addCell.2.2.1 h.length (ax_sz h) Q9 (3) ([some (rv a), some (iv t.1), some (iv t.2.1), some (iv t.2.2), some (iv (k : Int)), none]) ([]) (h) := by
    intro d
    induction d with
    | zero =>
      intro k hk hl
      refine g_iload C dX5_addCell_3 rfl ?_
      refine g_aload_n C dX5_addCell_5 rfl ?_
      refine g_get C FX5_118 dX5_addCell_6 (by assumption) rfl ?_
      refine g_icmp_ge C dX5_addCell_9 (tgt := 30) (by decide) (by omega) (by omega) (fun h9 => ?_) (fun h9 => ?_)
      · refine g_iload C dX5_addCell_30 rfl ?_
        refine g_aload_n C dX5_addCell_32 rfl ?_
        refine g_get C FX5_118 dX5_addCell_33 (by assumption) rfl ?_
        refine g_icmp_ge C dX5_addCell_36 (tgt := 52) (by decide) (by omega) (by omega) (fun h36 => ?_) (fun h36 => ?_)
        · refine g_aload_n C dX5_addCell_52 rfl ?_
          refine g_get C FX5_118 dX5_addCell_53 (by assumption) rfl ?_
          refine g_istore C dX5_addCell_56 (by decide) rfl ?_
          dsimp only [List.set]
          exact ins k (by omega) hl (fun i h1 h2 => by omega) (ce - k) ce _ us vs lw (by omega) (by omega) M hm (fun j hj => ⟨rfl, rfl, rfl⟩) (fun j h1 h2 => by omega)
        · exfalso; omega
      · exfalso; omega
    | succ d ih =>
      intro k hk hl
      have hbk := hb k (by omega)
      have bc := cmR_in ht hbk
      have c1 := cmR_gt t (us k, vs k, lw k)
      have c2 := cmR_eq t (us k, vs k, lw k)
      have c3 := cmR_lt t (us k, vs k, lw k)
      refine g_iload C dX5_addCell_3 rfl ?_
      refine g_aload_n C dX5_addCell_5 rfl ?_
      refine g_get C FX5_118 dX5_addCell_6 (by assumption) rfl ?_
      refine g_icmp_ge C dX5_addCell_9 (tgt := 30) (by decide) (by omega) (by omega) (fun h9 => ?_) (fun h9 => ?_)
      · exfalso; omega
      · refine g_aload_n C dX5_addCell_12 rfl ?_
        refine g_iload_n C dX5_addCell_13 rfl ?_
        refine g_iload_n C dX5_addCell_14 rfl ?_
        refine g_iload_n C dX5_addCell_15 rfl ?_
        refine g_iload C dX5_addCell_16 rfl ?_
        refine g_V C (r_compare M (i := k) (by omega) ht hbk) dX5_addCell_18 KX5_compare LX5_121 IX5_compare VX5_compare (by decide) rfl (by assumption) rfl rfl rfl (Nat.le_of_ble_eq_true rfl) ⟨rfl, rfl⟩ ?_
        dsimp only [Option.toList, List.cons_append, List.nil_append]
        refine g_if_le C dX5_addCell_21 (tgt := 30) (by decide) (by omega) (fun h21 => ?_) (fun h21 => ?_)
        · refine g_iload C dX5_addCell_30 rfl ?_
          refine g_aload_n C dX5_addCell_32 rfl ?_
          refine g_get C FX5_118 dX5_addCell_33 (by assumption) rfl ?_
          refine g_icmp_ge C dX5_addCell_36 (tgt := 52) (by decide) (by omega) (by omega) (fun h36 => ?_) (fun h36 => ?_)
          · exfalso; omega
          · refine g_aload_n C dX5_addCell_39 rfl ?_
            refine g_iload_n C dX5_addCell_40 rfl ?_
            refine g_iload_n C dX5_addCell_41 rfl ?_
            refine g_iload_n C dX5_addCell_42 rfl ?_
            refine g_iload C dX5_addCell_43 rfl ?_
            refine g_V C (r_compare M (i := k) (by omega) ht hbk) dX5_addCell_45 KX5_compare LX5_121 IX5_compare VX5_compare (by decide) rfl (by assumption) rfl rfl rfl (Nat.le_of_ble_eq_true rfl) ⟨rfl, rfl⟩ ?_
            dsimp only [Option.toList, List.cons_append, List.nil_append]
            refine g_if_ne C dX5_addCell_48 (tgt := 52) (by decide) (by omega) (fun h48 => ?_) (fun h48 => ?_)
            · refine g_aload_n C dX5_addCell_52 rfl ?_
              refine g_get C FX5_118 dX5_addCell_53 (by assumption) rfl ?_
              refine g_istore C dX5_addCell_56 (by decide) rfl ?_
              dsimp only [List.set]
              have q := c3.mp (by omega)
              exact ins k (by omega) hl (fun i z1 z2 => by
                by_cases w : i = k
                · subst w; exact q
                · exact tlt.tr ht.2.2.1 (hb k (by omega)).2.2.1 (hb i (by omega)).2.2.1 q (hs.2 k i (by omega) z2)) (ce - k) ce _ us vs lw (by omega) (by omega) M hm (fun j hj => ⟨rfl, rfl, rfl⟩) (fun j h1 h2 => by omega)
            · exact kr _ _ _ dX5_addCell_51 ⟨rfl, hm, us, vs, lw, ce, M, hs, fun i hi => Or.inr ⟨i, hi, rfl⟩, fun j hj => ⟨j, hj, rfl⟩, k, by omega, c2.mp h48⟩ hm.1
        · refine g_iinc C dX5_addCell_24 (by decide) rfl rfl ?_
          dsimp only [List.set]
          refine g_goto C dX5_addCell_27 (tgt := 3) (by decide) ?_
          exact ih (k + 1) (by omega) (fun i hi => by
            by_cases w : i = k
            · subst w; exact c1.mp (by omega)
            · exact hl i (by omega))
  refine g_iconst C dX5_addCell_0 ?_
  refine g_istore C dX5_addCell_1 (by decide) rfl ?_
  dsimp only [List.set]
  exact loop ce 0 (by omega) (fun i hi => by omega)
end MD
