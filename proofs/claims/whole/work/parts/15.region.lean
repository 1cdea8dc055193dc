/-! Region -/
def rg_rg (xs ys : Nat → Int) (sz : Nat) : Prop := ∀ i, i < sz → (0 ≤ xs i ∧ xs i ≤ 84) ∧ (0 ≤ ys i ∧ ys i ≤ 84)
theorem t_comesBehind {h : ax_H} {a sz cn i : Nat} {xs ys rd : Nat → Int} (hR : rg_at h a xs ys sz rd cn) (hr : rg_rg xs ys sz) (hz : sz ≤ 128) (hi : i < sz) {x y : Int} (hx : 0 ≤ x ∧ x ≤ 84) (hy : 0 ≤ y ∧ y ≤ 84) : ax_Met MX3_comesBehind [rv a, iv (i : Int), iv x, iv y] h (some (iv (if ky x y < ky (xs i) (ys i) then 1 else 0))) h := by
  obtain ⟨h0, h1, h2, h3⟩ := hR
  have q := hr i hi
  unfold ky
  refine ax_mz (L0 := [some (rv a), some (iv (i : Int)), some (iv x), some (iv y)]) rfl rfl (Nat.le_refl _) (Nat.le_refl _) (Nat.le_of_ble_eq_true rfl) rfl ?_
  intro p9 l9 e9 R9 s9 m9 args9 below9 meth9 c9 b9 D9 dA9 Q9 C kr
  refine g_aload_n C dX3_comesBehind_0 rfl ?_
  refine g_get C FX3_15 dX3_comesBehind_1 (by assumption) rfl ?_
  refine g_iload_n C dX3_comesBehind_4 rfl ?_
  refine g_iald C dX3_comesBehind_5 (by assumption) rfl (by omega) (by decide) ?_
  refine g_iload_n C dX3_comesBehind_6 rfl ?_
  refine g_icmp_gt C dX3_comesBehind_7 (tgt := 30) (by decide) (by omega) (by omega) (fun h7 => ?_) (fun h7 => ?_)
  · refine g_iconst C dX3_comesBehind_30 ?_
    refine g_goto C dX3_comesBehind_31 (tgt := 35) (by decide) ?_
    first | exact kr _ _ _ dX3_comesBehind_35 (Or.inr rfl) (by rw [if_pos (by omega)]) | exact kr _ _ _ dX3_comesBehind_35 (Or.inl rfl) (by rw [if_neg (by omega)])
  · refine g_aload_n C dX3_comesBehind_10 rfl ?_
    refine g_get C FX3_15 dX3_comesBehind_11 (by assumption) rfl ?_
    refine g_iload_n C dX3_comesBehind_14 rfl ?_
    refine g_iald C dX3_comesBehind_15 (by assumption) rfl (by omega) (by decide) ?_
    refine g_iload_n C dX3_comesBehind_16 rfl ?_
    refine g_icmp_ne C dX3_comesBehind_17 (tgt := 34) (by decide) (by omega) (by omega) (fun h17 => ?_) (fun h17 => ?_)
    · refine g_iconst C dX3_comesBehind_34 ?_
      first | exact kr _ _ _ dX3_comesBehind_35 (Or.inr rfl) (by rw [if_pos (by omega)]) | exact kr _ _ _ dX3_comesBehind_35 (Or.inl rfl) (by rw [if_neg (by omega)])
    · refine g_aload_n C dX3_comesBehind_20 rfl ?_
      refine g_get C FX3_11 dX3_comesBehind_21 (by assumption) rfl ?_
      refine g_iload_n C dX3_comesBehind_24 rfl ?_
      refine g_iald C dX3_comesBehind_25 (by assumption) rfl (by omega) (by decide) ?_
      refine g_iload_n C dX3_comesBehind_26 rfl ?_
      refine g_icmp_le C dX3_comesBehind_27 (tgt := 34) (by decide) (by omega) (by omega) (fun h27 => ?_) (fun h27 => ?_)
      · refine g_iconst C dX3_comesBehind_34 ?_
        first | exact kr _ _ _ dX3_comesBehind_35 (Or.inr rfl) (by rw [if_pos (by omega)]) | exact kr _ _ _ dX3_comesBehind_35 (Or.inl rfl) (by rw [if_neg (by omega)])
      · refine g_iconst C dX3_comesBehind_30 ?_
        refine g_goto C dX3_comesBehind_31 (tgt := 35) (by decide) ?_
        first | exact kr _ _ _ dX3_comesBehind_35 (Or.inr rfl) (by rw [if_pos (by omega)]) | exact kr _ _ _ dX3_comesBehind_35 (Or.inl rfl) (by rw [if_neg (by omega)])
theorem t_include {h : ax_H} {a sz cn : Nat} {xs ys rd : Nat → Int} (hR : rg_at h a xs ys sz rd cn) (hr : rg_rg xs ys sz) (hs : srt xs ys sz) (hz : sz < 128) {x y : Int} (hx : 0 ≤ x ∧ x ≤ 84) (hy : 0 ≤ y ∧ y ≤ 84) : ax_Mt MX3_include [rv a, iv x, iv y] h (fun r h' => r = none ∧ ∃ (xs' ys' : Nat → Int) (sz' : Nat), rg_at h' a xs' ys' sz' rd cn ∧ ax_sm a (a + 4) h h' ∧ rg_rg xs' ys' sz' ∧ srt xs' ys' sz' ∧ sz' ≤ sz + 1 ∧ ∀ u v, pin xs' ys' sz' u v ↔ pin xs ys sz u v ∨ (u = x ∧ v = y)) := by
  have hm := ax_sm.rf (lo := a) (hi := a + 4) h
  have ⟨h0, h1, h2, h3⟩ := hR
  refine ax_rv (L0 := [some (rv a), some (iv x), some (iv y), none, none, none]) rfl rfl (Nat.le_of_ble_eq_true rfl) rfl ?_
  intro p9 l9 e9 R9 s9 m9 args9 below9 meth9 c9 b9 D9 dA9 Q9 C kr
  -- the second loop: the ones behind go one place on
  have loop2 : ∀ (t : Nat), t ≤ sz → (∀ i, i < t → ky (xs i) (ys i) < ky x y) → (∀ i, t ≤ i → i < sz → ky x y < ky (xs i) (ys i)) → ∀ (d i : Nat) (hh : ax_H) (X1 Y1 : Nat → Int), i = t + d → i ≤ sz → rg_at hh a X1 Y1 sz rd cn → ax_sm a (a + 4) h hh → (∀ j, j ≤ i → j < 128 → (j < sz ∨ j < i) → X1 j = xs j ∧ Y1 j = ys j) → (∀ j, i < j → j ≤ sz → X1 j = xs (j - 1) ∧ Y1 j = ys (j - 1)) → ax_G p9 l9 e9 R9 s9 m9 args9 below9 meth9 c9 b9 D9 dA9 MX3_include.2.2.1 h.length (ax_sz h) Q9 (84) ([some (rv a), some (iv x), some (iv y), some (iv (t : Int)), some (iv 0), some (iv (i : Int))]) ([]) (hh) := by
    intro t ht k1 k2 d
    induction d with
    | zero =>
      intro i hh X1 Y1 hi his hR hm g1 g2
      have ⟨h0, h1, h2, h3⟩ := hR
      refine g_iload C dX3_include_84 rfl ?_
      refine g_iload_n C dX3_include_86 rfl ?_
      refine g_icmp_le C dX3_include_87 (tgt := 128) (by decide) (by omega) (by omega) (fun h87 => ?_) (fun h87 => ?_)
      · refine g_aload_n C dX3_include_128 rfl ?_
        refine g_get C FX3_11 dX3_include_129 (by assumption) rfl ?_
        refine g_iload_n C dX3_include_132 rfl ?_
        refine g_iload_n C dX3_include_133 rfl ?_
        refine g_iast C dX3_include_134 (by assumption) rfl (by omega) (by decide) ?_
        refine rg_s_xs hR hm ?_
        intro h9 hR hm
        have ⟨h0, h1, h2, h3⟩ := hR
        refine g_aload_n C dX3_include_135 rfl ?_
        refine g_get C FX3_15 dX3_include_136 (by assumption) rfl ?_
        refine g_iload_n C dX3_include_139 rfl ?_
        refine g_iload_n C dX3_include_140 rfl ?_
        refine g_iast C dX3_include_141 (by assumption) rfl (by omega) (by decide) ?_
        refine rg_s_ys hR hm ?_
        intro h9 hR hm
        have ⟨h0, h1, h2, h3⟩ := hR
        refine g_aload_n C dX3_include_142 rfl ?_
        refine g_dup C dX3_include_143 ?_
        refine g_get C FX3_21 dX3_include_144 (by assumption) rfl ?_
        refine g_iconst C dX3_include_147 ?_
        refine g_iadd C dX3_include_148 ?_
        refine g_put C FX3_21 dX3_include_149 (by assumption) rfl rfl (Nat.le_of_ble_eq_true rfl) ?_
        dsimp only [List.set]
        refine rg_s_sz (sz + 1) rfl hR hm ?_
        intro h9 hR hm
        have ins := ins_ok (qx := va_up X1 t x) (qy := va_up Y1 t y) hs ht k1 k2 (fun j hj => by simp only [va_up, if_neg (show ¬ j = t by omega)]; exact g1 j (by omega) (by omega) (by omega)) (by simp [va_up]) (fun j h5 h6 => by simp only [va_up, if_neg (show ¬ j = t by omega)]; exact g2 j (by omega) h6)
        refine kr _ _ _ dX3_include_152 ⟨rfl, _, _, _, hR, hm, fun j hj => ?_, ins.1, Nat.le_refl _, ins.2⟩ hm.1
        rcases (ins.2 _ _).mp ⟨j, hj, rfl, rfl⟩ with ⟨j2, q1, q2, q3⟩ | ⟨q1, q2⟩
        · rw [← q2, ← q3]; exact hr j2 q1
        · rw [q1, q2]; exact ⟨hx, hy⟩
      · exfalso; omega
    | succ d ih =>
      intro i hh X1 Y1 hi his hR hm g1 g2
      have ⟨h0, h1, h2, h3⟩ := hR
      have gi := g1 (i - 1) (by omega) (by omega) (by omega)
      refine g_iload C dX3_include_84 rfl ?_
      refine g_iload_n C dX3_include_86 rfl ?_
      refine g_icmp_le C dX3_include_87 (tgt := 128) (by decide) (by omega) (by omega) (fun h87 => ?_) (fun h87 => ?_)
      · exfalso; omega
      · refine g_aload_n C dX3_include_90 rfl ?_
        refine g_get C FX3_11 dX3_include_91 (by assumption) rfl ?_
        refine g_iload C dX3_include_94 rfl ?_
        refine g_aload_n C dX3_include_96 rfl ?_
        refine g_get C FX3_11 dX3_include_97 (by assumption) rfl ?_
        refine g_iload C dX3_include_100 rfl ?_
        refine g_iconst C dX3_include_102 ?_
        refine g_isub C dX3_include_103 ?_
        refine g_top (show _ = ((i - 1 : Nat) : Int) by omega) ?_
        refine g_iald C dX3_include_104 (by assumption) rfl (by omega) (by decide) ?_
        refine g_iast C dX3_include_105 (by assumption) rfl (by omega) (by decide) ?_
        refine rg_s_xs hR hm ?_
        intro h9 hR hm
        have ⟨h0, h1, h2, h3⟩ := hR
        refine g_aload_n C dX3_include_106 rfl ?_
        refine g_get C FX3_15 dX3_include_107 (by assumption) rfl ?_
        refine g_iload C dX3_include_110 rfl ?_
        refine g_aload_n C dX3_include_112 rfl ?_
        refine g_get C FX3_15 dX3_include_113 (by assumption) rfl ?_
        refine g_iload C dX3_include_116 rfl ?_
        refine g_iconst C dX3_include_118 ?_
        refine g_isub C dX3_include_119 ?_
        refine g_top (show _ = ((i - 1 : Nat) : Int) by omega) ?_
        refine g_iald C dX3_include_120 (by assumption) rfl (by omega) (by decide) ?_
        refine g_iast C dX3_include_121 (by assumption) rfl (by omega) (by decide) ?_
        refine rg_s_ys hR hm ?_
        intro h9 hR hm
        have ⟨h0, h1, h2, h3⟩ := hR
        refine g_iincT C dX3_include_122 (by decide) rfl (show _ = ((i - 1 : Nat) : Int) by omega) rfl ?_
        dsimp only [List.set]
        refine g_goto C dX3_include_125 (tgt := 84) (by decide) ?_
        refine ih (i - 1) _ _ _ (by omega) (by omega) hR hm (fun j h5 h6 h7 => ?_) (fun j h5 h6 => ?_)
        · simp only [va_up, if_neg (show ¬ j = i by omega)]; exact g1 j (by omega) h6 (by omega)
        · by_cases c : j = i
          · subst c; simp only [va_up, if_pos]; exact gi
          · simp only [va_up, if_neg c]; exact g2 j (by omega) h6
  -- the first loop: where its place is
  have loop1 : ∀ (t : Nat), t ≤ sz → (∀ i, t ≤ i → i < sz → ky x y < ky (xs i) (ys i)) → ax_G p9 l9 e9 R9 s9 m9 args9 below9 meth9 c9 b9 D9 dA9 MX3_include.2.2.1 h.length (ax_sz h) Q9 (5) ([some (rv a), some (iv x), some (iv y), some (iv (t : Int)), none, none]) ([]) (h) := by
    intro t
    induction t with
    | zero =>
      intro ht k2
      refine g_iload_n C dX3_include_5 rfl ?_
      refine g_if_le C dX3_include_6 (tgt := 27) (by decide) (by omega) (fun h6 => ?_) (fun h6 => ?_)
      · refine g_iload_n C dX3_include_27 rfl ?_
        refine g_if_le C dX3_include_28 (tgt := 59) (by decide) (by omega) (fun h28 => ?_) (fun h28 => ?_)
        · refine g_iconst C dX3_include_59 ?_
          refine g_istore C dX3_include_60 (by decide) rfl ?_
          dsimp only [List.set]
          refine g_iload C dX3_include_62 rfl ?_
          refine g_if_ne C dX3_include_64 (tgt := 77) (by decide) (by omega) (fun h64 => ?_) (fun h64 => ?_)
          · exact absurd rfl h64
          · refine g_aload_n C dX3_include_67 rfl ?_
            refine g_get C FX3_21 dX3_include_68 (by assumption) rfl ?_
            refine g_sipush C dX3_include_71 (by decide) ?_
            refine g_icmp_lt C dX3_include_74 (tgt := 78) (by decide) (by omega) (by omega) (fun h74 => ?_) (fun h74 => ?_)
            · refine g_aload_n C dX3_include_78 rfl ?_
              refine g_get C FX3_21 dX3_include_79 (by assumption) rfl ?_
              refine g_istore C dX3_include_82 (by decide) rfl ?_
              dsimp only [List.set]
              exact loop2 0 (by omega) (fun i hi => by omega) k2 sz sz h xs ys (by omega) (Nat.le_refl _) hR hm (fun j _ _ _ => ⟨rfl, rfl⟩) (fun j h5 h6 => by omega)
            · exfalso; omega
        · exfalso; omega
      · exfalso; omega
    | succ t ih =>
      intro ht k2
      have qt := hr t (by omega)
      have fin : ¬ (ky x y < ky (xs t) (ys t)) → ax_G p9 l9 e9 R9 s9 m9 args9 below9 meth9 c9 b9 D9 dA9 MX3_include.2.2.1 h.length (ax_sz h) Q9 (27) ([some (rv a), some (iv x), some (iv y), some (iv ((t + 1 : Nat) : Int)), none, none]) ([]) (h) := by
        intro hk
        unfold ky at hk
        refine g_iload_n C dX3_include_27 rfl ?_
        refine g_if_le C dX3_include_28 (tgt := 59) (by decide) (by omega) (fun h28 => ?_) (fun h28 => ?_)
        · exfalso; omega
        · refine g_aload_n C dX3_include_31 rfl ?_
          refine g_get C FX3_11 dX3_include_32 (by assumption) rfl ?_
          refine g_iload_n C dX3_include_35 rfl ?_
          refine g_iconst C dX3_include_36 ?_
          refine g_isub C dX3_include_37 ?_
          refine g_top (show _ = (t : Int) by omega) ?_
          refine g_iald C dX3_include_38 (by assumption) rfl (by omega) (by decide) ?_
          refine g_iload_n C dX3_include_39 rfl ?_
          refine g_icmp_ne C dX3_include_40 (tgt := 59) (by decide) (by omega) (by omega) (fun h40 => ?_) (fun h40 => ?_)
          · have hne : ¬ (xs t = x ∧ ys t = y) := fun q => h40 q.1
            refine g_iconst C dX3_include_59 ?_
            refine g_istore C dX3_include_60 (by decide) rfl ?_
            dsimp only [List.set]
            first
            | (
              refine g_iload C dX3_include_62 rfl ?_
              refine g_if_ne C dX3_include_64 (tgt := 77) (by decide) (by omega) (fun h64 => ?_) (fun h64 => ?_)
              · exact absurd rfl h64
              · refine g_aload_n C dX3_include_67 rfl ?_
                refine g_get C FX3_21 dX3_include_68 (by assumption) rfl ?_
                refine g_sipush C dX3_include_71 (by decide) ?_
                refine g_icmp_lt C dX3_include_74 (tgt := 78) (by decide) (by omega) (by omega) (fun h74 => ?_) (fun h74 => ?_)
                · refine g_aload_n C dX3_include_78 rfl ?_
                  refine g_get C FX3_21 dX3_include_79 (by assumption) rfl ?_
                  refine g_istore C dX3_include_82 (by decide) rfl ?_
                  dsimp only [List.set]
                  refine loop2 (t + 1) ht (fun i hi => ?_) k2 (sz - (t + 1)) sz h xs ys (by omega) (Nat.le_refl _) hR hm (fun j _ _ _ => ⟨rfl, rfl⟩) (fun j h5 h6 => by omega)
                  have e1 : ky (xs t) (ys t) < ky x y := by unfold ky; omega
                  by_cases c : i = t
                  · subst c; exact e1
                  · have := hs i t (by omega) (by omega); omega
                · exfalso; omega)
            | (
              refine g_iload C dX3_include_62 rfl ?_
              refine g_if_ne C dX3_include_64 (tgt := 77) (by decide) (by omega) (fun h64 => ?_) (fun h64 => ?_)
              · refine kr _ _ _ dX3_include_77 ⟨rfl, xs, ys, sz, hR, hm, hr, hs, by omega, fun u v => ⟨Or.inl, fun q => ?_⟩⟩ hm.1
                rcases q with q | ⟨q1, q2⟩
                · exact q
                · exact ⟨t, by omega, by rw [q1]; exact h40, by rw [q2]; exact h52⟩
              · exact absurd h64 (by decide))
          · refine g_aload_n C dX3_include_43 rfl ?_
            refine g_get C FX3_15 dX3_include_44 (by assumption) rfl ?_
            refine g_iload_n C dX3_include_47 rfl ?_
            refine g_iconst C dX3_include_48 ?_
            refine g_isub C dX3_include_49 ?_
            refine g_top (show _ = (t : Int) by omega) ?_
            refine g_iald C dX3_include_50 (by assumption) rfl (by omega) (by decide) ?_
            refine g_iload_n C dX3_include_51 rfl ?_
            refine g_icmp_ne C dX3_include_52 (tgt := 59) (by decide) (by omega) (by omega) (fun h52 => ?_) (fun h52 => ?_)
            · have hne : ¬ (xs t = x ∧ ys t = y) := fun q => h52 q.2
              refine g_iconst C dX3_include_59 ?_
              refine g_istore C dX3_include_60 (by decide) rfl ?_
              dsimp only [List.set]
              first
              | (
                refine g_iload C dX3_include_62 rfl ?_
                refine g_if_ne C dX3_include_64 (tgt := 77) (by decide) (by omega) (fun h64 => ?_) (fun h64 => ?_)
                · exact absurd rfl h64
                · refine g_aload_n C dX3_include_67 rfl ?_
                  refine g_get C FX3_21 dX3_include_68 (by assumption) rfl ?_
                  refine g_sipush C dX3_include_71 (by decide) ?_
                  refine g_icmp_lt C dX3_include_74 (tgt := 78) (by decide) (by omega) (by omega) (fun h74 => ?_) (fun h74 => ?_)
                  · refine g_aload_n C dX3_include_78 rfl ?_
                    refine g_get C FX3_21 dX3_include_79 (by assumption) rfl ?_
                    refine g_istore C dX3_include_82 (by decide) rfl ?_
                    dsimp only [List.set]
                    refine loop2 (t + 1) ht (fun i hi => ?_) k2 (sz - (t + 1)) sz h xs ys (by omega) (Nat.le_refl _) hR hm (fun j _ _ _ => ⟨rfl, rfl⟩) (fun j h5 h6 => by omega)
                    have e1 : ky (xs t) (ys t) < ky x y := by unfold ky; omega
                    by_cases c : i = t
                    · subst c; exact e1
                    · have := hs i t (by omega) (by omega); omega
                  · exfalso; omega)
              | (
                refine g_iload C dX3_include_62 rfl ?_
                refine g_if_ne C dX3_include_64 (tgt := 77) (by decide) (by omega) (fun h64 => ?_) (fun h64 => ?_)
                · refine kr _ _ _ dX3_include_77 ⟨rfl, xs, ys, sz, hR, hm, hr, hs, by omega, fun u v => ⟨Or.inl, fun q => ?_⟩⟩ hm.1
                  rcases q with q | ⟨q1, q2⟩
                  · exact q
                  · exact ⟨t, by omega, by rw [q1]; exact h40, by rw [q2]; exact h52⟩
                · exact absurd h64 (by decide))
            · refine g_iconst C dX3_include_55 ?_
              refine g_goto C dX3_include_56 (tgt := 60) (by decide) ?_
              refine g_istore C dX3_include_60 (by decide) rfl ?_
              dsimp only [List.set]
              first
              | (
                refine g_iload C dX3_include_62 rfl ?_
                refine g_if_ne C dX3_include_64 (tgt := 77) (by decide) (by omega) (fun h64 => ?_) (fun h64 => ?_)
                · exact absurd rfl h64
                · refine g_aload_n C dX3_include_67 rfl ?_
                  refine g_get C FX3_21 dX3_include_68 (by assumption) rfl ?_
                  refine g_sipush C dX3_include_71 (by decide) ?_
                  refine g_icmp_lt C dX3_include_74 (tgt := 78) (by decide) (by omega) (by omega) (fun h74 => ?_) (fun h74 => ?_)
                  · refine g_aload_n C dX3_include_78 rfl ?_
                    refine g_get C FX3_21 dX3_include_79 (by assumption) rfl ?_
                    refine g_istore C dX3_include_82 (by decide) rfl ?_
                    dsimp only [List.set]
                    refine loop2 (t + 1) ht (fun i hi => ?_) k2 (sz - (t + 1)) sz h xs ys (by omega) (Nat.le_refl _) hR hm (fun j _ _ _ => ⟨rfl, rfl⟩) (fun j h5 h6 => by omega)
                    have e1 : ky (xs t) (ys t) < ky x y := by unfold ky; omega
                    by_cases c : i = t
                    · subst c; exact e1
                    · have := hs i t (by omega) (by omega); omega
                  · exfalso; omega)
              | (
                refine g_iload C dX3_include_62 rfl ?_
                refine g_if_ne C dX3_include_64 (tgt := 77) (by decide) (by omega) (fun h64 => ?_) (fun h64 => ?_)
                · refine kr _ _ _ dX3_include_77 ⟨rfl, xs, ys, sz, hR, hm, hr, hs, by omega, fun u v => ⟨Or.inl, fun q => ?_⟩⟩ hm.1
                  rcases q with q | ⟨q1, q2⟩
                  · exact q
                  · exact ⟨t, by omega, by rw [q1]; exact h40, by rw [q2]; exact h52⟩
                · exact absurd h64 (by decide))
      refine g_iload_n C dX3_include_5 rfl ?_
      refine g_if_le C dX3_include_6 (tgt := 27) (by decide) (by omega) (fun h6 => ?_) (fun h6 => ?_)
      · exfalso; omega
      · refine g_aload_n C dX3_include_9 rfl ?_
        refine g_iload_n C dX3_include_10 rfl ?_
        refine g_iconst C dX3_include_11 ?_
        refine g_isub C dX3_include_12 ?_
        refine g_top (show _ = (t : Int) by omega) ?_
        refine g_iload_n C dX3_include_13 rfl ?_
        refine g_iload_n C dX3_include_14 rfl ?_
        refine g_V C (t_comesBehind hR hr (by omega) (show t < sz by omega) hx hy) dX3_include_15 KX3_comesBehind LX3_46 IX3_comesBehind VX3_comesBehind (by decide) rfl (by assumption) rfl rfl rfl (Nat.le_of_ble_eq_true rfl) ⟨rfl, rfl⟩ ?_
        dsimp only [Option.toList, List.cons_append, List.nil_append]
        refine g_if_eq C dX3_include_18 (tgt := 27) (by decide) (by split <;> omega) (fun h18 => ?_) (fun h18 => ?_)
        · have hk : ¬ (ky x y < ky (xs t) (ys t)) := fun q => by rw [if_pos q] at h18; exact absurd h18 (by decide)
          exact fin hk
        · have hk : ky x y < ky (xs t) (ys t) := by
            by_cases q : ky x y < ky (xs t) (ys t)
            · exact q
            · rw [if_neg q] at h18; exact absurd rfl h18
          refine g_iincT C dX3_include_21 (by decide) rfl (show _ = (t : Int) by omega) rfl ?_
          dsimp only [List.set]
          refine g_goto C dX3_include_24 (tgt := 5) (by decide) ?_
          refine ih (by omega) (fun i h5 h6 => ?_)
          by_cases c : i = t
          · subst c; exact hk
          · exact k2 i (by omega) h6
  refine g_aload_n C dX3_include_0 rfl ?_
  refine g_get C FX3_21 dX3_include_1 (by assumption) rfl ?_
  refine g_istore_n C dX3_include_4 (by decide) rfl ?_
  dsimp only [List.set]
  exact loop1 sz (Nat.le_refl _) (fun i h5 h6 => by omega)
