/-- a Cutting in any state -/
def cu_any (h : ax_H) (a : Nat) : Prop := ∃ fd m dx dy dw en pr, ∃ pp : Nat → Nat, ct_at h a fd m dx dy dw en pr ∧ (∀ i, i < 94 → fd i = some (pp i)) ∧ (∀ i, i < 94 → a + 6 ≤ pp i ∧ pp i < a + 100) ∧ (∀ i j, i < 94 → j < 94 → pp i = pp j → i = j) ∧ (∀ i, i < 94 → ∃ x1 x2 x3 x4 x5 x6 : Int, h[pp i]? = some (.inr (1, [iv x1, iv x2, iv x3, iv x4, iv x5, iv x6])))
/-- a Cutting that has been cut for two bodies -/
def cu_of (h : ax_H) (a : Nat) (X Y V : Nat → Int) (n : Nat) (X2 Y2 V2 : Nat → Int) (n2 : Nat) : Prop := ∃ pp τ m dx dy dw en pr, cu_at h a (low1 X Y V n) (low1 X2 Y2 V2 n2) pp τ m dx dy dw en pr ∧ tsr τ m ∧ (∀ k, k < m → tbd (τ k) ∧ CS X Y V n X2 Y2 V2 n2 (τ k)) ∧ (∀ t, CS X Y V n X2 Y2 V2 n2 t → ∃ k, k < m ∧ teq t (τ k))
theorem cu_at.any {h : ax_H} {a : Nat} {LA LB : Tr → Int} {pp : Nat → Nat} {τ : Nat → Tr} {m : Nat} {dx dy dw en : Nat → Int} {pr : Nat} (H : cu_at h a LA LB pp τ m dx dy dw en pr) : cu_any h a := by
  obtain ⟨⟨fd, hT, hfd⟩, hp1, hp2, hp3, hp4, hm93⟩ := H
  exact ⟨fd, m, dx, dy, dw, en, pr, pp, hT, hfd, hp1, hp2, hp3⟩
theorem cu_of.any {h : ax_H} {a n n2 : Nat} {X Y V X2 Y2 V2 : Nat → Int} (H : cu_of h a X Y V n X2 Y2 V2 n2) : cu_any h a := by
  obtain ⟨pp, τ, m, dx, dy, dw, en, pr, h1, -⟩ := H
  exact h1.any
theorem cu_any.sm {h h1 : ax_H} {a lo hi : Nat} (H : cu_any h a) (S : ax_sm lo hi h h1) (hn : a + 100 ≤ lo ∨ hi ≤ a) : cu_any h1 a := by
  obtain ⟨fd, m, dx, dy, dw, en, pr, pp, hT, hfd, hp1, hp2, hp3⟩ := H
  exact ⟨fd, m, dx, dy, dw, en, pr, pp, hT.sm S (by omega), hfd, hp1, hp2, fun i hi => by rw [S.2 (pp i) (by have := hp1 i hi; omega)]; exact hp3 i hi⟩
theorem cu_of.sm {h h1 : ax_H} {a lo hi n n2 : Nat} {X Y V X2 Y2 V2 : Nat → Int} (H : cu_of h a X Y V n X2 Y2 V2 n2) (S : ax_sm lo hi h h1) (hn : a + 100 ≤ lo ∨ hi ≤ a) : cu_of h1 a X Y V n X2 Y2 V2 n2 := by
  obtain ⟨pp, τ, m, dx, dy, dw, en, pr, ⟨⟨fd, hT, hfd⟩, hp1, hp2, hp3, hp4, hm93⟩, h2⟩ := H
  exact ⟨pp, τ, m, dx, dy, dw, en, pr, ⟨⟨fd, hT.sm S (by omega), hfd⟩, hp1, hp2, fun i hi => by rw [S.2 (pp i) (by have := hp1 i hi; omega)]; exact hp3 i hi, fun i hi => by rw [S.2 (pp i) (by have := hp1 i (by omega); omega)]; exact hp4 i hi, hm93⟩, h2⟩
theorem t_get {h : ax_H} {a : Nat} {LA LB : Tr → Int} {pp : Nat → Nat} {τ : Nat → Tr} {m : Nat} {dx dy dw en : Nat → Int} {pr : Nat} (H : cu_at h a LA LB pp τ m dx dy dw en pr) {k : Int} (hk : -2147483648 ≤ k ∧ k < 2147483648) : ax_Met MX2_get [rv a, iv k] h (some (.inr (if 0 ≤ k ∧ k < m then some (pp k.toNat) else none))) h := by
  obtain ⟨⟨fd, hT, hfd⟩, hp1, hp2, hp3, hp4, hm93⟩ := H
  have ⟨h0, h1, h2, h3, h4, h5⟩ := hT
  refine ax_ma (L0 := [some (rv a), some (iv k)]) rfl rfl (Or.inl ⟨_, rfl⟩) (Nat.le_refl _) (Nat.le_refl _) (Nat.le_of_ble_eq_true rfl) rfl ?_
  intro p9 l9 e9 R9 s9 m9 args9 below9 meth9 c9 b9 D9 dA9 Q9 C kr
  refine g_iload_n C dX2_get_0 rfl ?_
  refine g_if_lt C dX2_get_1 (tgt := 21) (by decide) (by omega) (fun h1 => ?_) (fun h1 => ?_)
  · refine g_null C dX2_get_21 ?_
    first | exact kr _ _ _ dX2_get_22 (by rw [if_pos (by omega)]) | exact kr _ _ _ dX2_get_22 (by rw [if_neg (by omega)])
  · refine g_iload_n C dX2_get_4 rfl ?_
    refine g_aload_n C dX2_get_5 rfl ?_
    refine g_get C FX2_31 dX2_get_6 (by assumption) rfl ?_
    refine g_icmp_ge C dX2_get_9 (tgt := 21) (by decide) (by omega) (by omega) (fun h9 => ?_) (fun h9 => ?_)
    · refine g_null C dX2_get_21 ?_
      first | exact kr _ _ _ dX2_get_22 (by rw [if_pos (by omega)]) | exact kr _ _ _ dX2_get_22 (by rw [if_neg (by omega)])
    · refine g_aload_n C dX2_get_12 rfl ?_
      refine g_get C FX2_13 dX2_get_13 (by assumption) rfl ?_
      refine g_iload_n C dX2_get_16 rfl ?_
      refine g_aald C dX2_get_17 (by assumption) rfl rfl (show k = ((k.toNat : Nat) : Int) by omega) (by omega) (by decide) ?_
      rw [hfd k.toNat (by omega)]
      refine g_goto C dX2_get_18 (tgt := 22) (by decide) ?_
      first | exact kr _ _ _ dX2_get_22 (by rw [if_pos (by omega)]) | exact kr _ _ _ dX2_get_22 (by rw [if_neg (by omega)])
theorem prs_in {dx dy dw en : Nat → Int} {q0 q1 : Nat} {X Y V : Nat → Int} {n fr : Nat} {I J : Nat → Nat} (h : prs dx dy dw en q0 q1 X Y V n fr I J) (ho : bo_ok X Y V n) {t : Nat} (h1 : q0 ≤ t) (h2 : t < q1) : (-12 ≤ dx t ∧ dx t ≤ 12) ∧ (-12 ≤ dy t ∧ dy t ≤ 12) ∧ (-50 ≤ dw t ∧ dw t ≤ 50) := by
  obtain ⟨a1, a2, a3, a4, a5, a6⟩ := h.1 t h1 h2
  have b1 := ho.2 (I t) (by omega)
  have b2 := ho.2 (J t) a2
  omega
theorem t_cut {h : ax_H} {a aa ab n n2 : Nat} {X Y V X2 Y2 V2 : Nat → Int} (H : cu_any h a) (hA : bo_at h aa X Y V n) (hB : bo_at h ab X2 Y2 V2 n2) (ho : bo_ok X Y V n) (ho2 : bo_ok X2 Y2 V2 n2) (hd : aa + 4 ≤ a ∨ a + 100 ≤ aa) (hd2 : ab + 4 ≤ a ∨ a + 100 ≤ ab) : ax_Mt MX2_cut [rv a, rv aa, rv ab] h (fun r h' => r = none ∧ cu_of h' a X Y V n X2 Y2 V2 n2 ∧ ax_sm a (a + 100) h h') := by
  have hm0 := ax_sm.rf (lo := a) (hi := a + 6) h
  have hn := ho.1
  have hn2 := ho2.1
  obtain ⟨fd, m, dx0, dy0, dw0, en0, pr0, pp, hT, hfd, hp1, hp2, hp3⟩ := H
  refine ax_rv (L0 := [some (rv a), some (rv aa), some (rv ab), none, none, none, none]) rfl rfl (Nat.le_of_ble_eq_true rfl) rfl ?_
  intro p9 l9 e9 R9 s9 m9 args9 below9 meth9 c9 b9 D9 dA9 Q9 C kr
  -- the loops, with the pairs laid
  have loops : ∀ (dx dy dw en : Nat → Int) (pa pr : Nat) (I J : Nat → Nat), 0 < n → 0 < n2 → pr ≤ 42 → pq X Y V n X2 Y2 V2 n2 dx dy dw en pa pr I J → ∀ (hh : ax_H), ct_at hh a fd 0 dx dy dw en pr → ax_sm a (a + 6) h hh → ax_G p9 l9 e9 R9 s9 m9 args9 below9 meth9 c9 b9 D9 dA9 MX2_cut.2.2.1 h.length (ax_sz h) Q9 (43) ([some (rv a), some (rv aa), some (rv ab), some (iv (pa : Int)), none, none, none]) ([]) (hh) := by
    intro dx dy dw en pa pr I J hn0 hn20 hpr hq
    have q0 := hq.1
    have hen : ∀ t, t < pr → en t = (Eq_ I J pa t : Int) ∧ Eq_ I J pa t < 2 ^ 14 ∧ I t < J t ∧ J t < 7 ∧ en t = ((2 ^ I t ||| 2 ^ J t : Nat) : Int) * 2 ^ (if t < pa then 0 else 7) := fun t ht => by
      unfold Eq_
      by_cases c : t < pa
      · obtain ⟨a1, a2, a3, a4, a5, a6⟩ := hq.2.1.1 t (by omega) c
        rw [if_pos c]
        exact ⟨by rw [a6, en_nat], or_lt14 (by omega) (by omega) (by omega), a1, by omega, a6⟩
      · obtain ⟨a1, a2, a3, a4, a5, a6⟩ := hq.2.2.1 t (by omega) ht
        rw [if_neg c]
        exact ⟨by rw [a6, en_nat], or_lt14 (by omega) (by omega) (by omega), a1, by omega, a6⟩
    have hbx : ∀ t, t < pr → (-12 ≤ dx t ∧ dx t ≤ 12) ∧ (-12 ≤ dy t ∧ dy t ≤ 12) ∧ (-50 ≤ dw t ∧ dw t ≤ 50) := fun t ht => by
      by_cases c : t < pa
      · exact prs_in hq.2.1 ho (by omega) c
      · exact prs_in hq.2.2 ho2 (by omega) ht
    have inner : ∀ (i : Nat), i < pr → (∀ (hh : ax_H) (pp : Nat → Nat) (τ : Nat → Tr) (m : Nat) (x5 x6 : Option ax_V), cu_at hh a (low1 X Y V n) (low1 X2 Y2 V2 n2) pp τ m dx dy dw en pr → ax_sm a (a + 100) h hh → tsr τ m → (∀ k, k < m → tbd (τ k) ∧ CS X Y V n X2 Y2 V2 n2 (τ k)) → (∀ i' j', i' < i + 1 → i' < j' → j' < pr → cand pa I i' j' → okq X Y V n X2 Y2 V2 n2 dx dy dw pa I J i' j' → ∃ k, k < m ∧ teq (Tq dx dy dw i' j') (τ k)) → ax_G p9 l9 e9 R9 s9 m9 args9 below9 meth9 c9 b9 D9 dA9 MX2_cut.2.2.1 h.length (ax_sz h) Q9 (46) ([some (rv a), some (rv aa), some (rv ab), some (iv (pa : Int)), some (iv ((i + 1 : Nat) : Int)), x5, x6]) ([]) (hh)) → ∀ (d j : Nat) (hh : ax_H) (pp : Nat → Nat) (τ : Nat → Tr) (m : Nat) (x6 : Option ax_V), j + d = pr → i < j → cu_at hh a (low1 X Y V n) (low1 X2 Y2 V2 n2) pp τ m dx dy dw en pr → ax_sm a (a + 100) h hh → tsr τ m → (∀ k, k < m → tbd (τ k) ∧ CS X Y V n X2 Y2 V2 n2 (τ k)) → (∀ i' j', (i' < i ∨ (i' = i ∧ j' < j)) → i' < j' → j' < pr → cand pa I i' j' → okq X Y V n X2 Y2 V2 n2 dx dy dw pa I J i' j' → ∃ k, k < m ∧ teq (Tq dx dy dw i' j') (τ k)) → ax_G p9 l9 e9 R9 s9 m9 args9 below9 meth9 c9 b9 D9 dA9 MX2_cut.2.2.1 h.length (ax_sz h) Q9 (61) ([some (rv a), some (rv aa), some (rv ab), some (iv (pa : Int)), some (iv (i : Int)), some (iv (j : Int)), x6]) ([]) (hh) := by
      intro i hi K d
      induction d with
      | zero =>
        intro j hh pp τ m x6 hj hij H hm hs hcs hdn
        obtain ⟨fd, hT, hfd⟩ := H.1
        have ⟨h0, h1, h2, h3, h4, h5⟩ := hT
        refine g_iload C dX2_cut_61 rfl ?_
        refine g_aload_n C dX2_cut_63 rfl ?_
        refine g_get C FX2_38 dX2_cut_64 (by assumption) rfl ?_
        refine g_icmp_ge C dX2_cut_67 (tgt := 125) (by decide) (by omega) (by omega) (fun h67 => ?_) (fun h67 => ?_)
        · refine g_iinc C dX2_cut_125 (by decide) rfl rfl ?_
          dsimp only [List.set]
          refine g_goto C dX2_cut_128 (tgt := 46) (by decide) ?_
          exact K hh pp τ m _ _ H hm hs hcs (fun i' j' q1 q2 q3 q4 q5 => hdn i' j' (by omega) q2 q3 q4 q5)
        · exfalso; omega
      | succ d ih =>
        intro j hh pp τ m x6 hj hij H hm hs hcs hdn
        obtain ⟨fd, hT, hfd⟩ := H.1
        have ⟨h0, h1, h2, h3, h4, h5⟩ := hT
        have ei := hen i hi
        have ej := hen j (by omega)
        have hA9 := hA.sm hm hd
        have hB9 := hB.sm hm hd2
        have skip : ¬ cand pa I i j → ∀ y6 : Option ax_V, ax_G p9 l9 e9 R9 s9 m9 args9 below9 meth9 c9 b9 D9 dA9 MX2_cut.2.2.1 h.length (ax_sz h) Q9 (119) ([some (rv a), some (rv aa), some (rv ab), some (iv (pa : Int)), some (iv (i : Int)), some (iv (j : Int)), y6]) ([]) (hh) := by
          intro hc y6
          refine g_iinc C dX2_cut_119 (by decide) rfl rfl ?_
          dsimp only [List.set]
          refine g_goto C dX2_cut_122 (tgt := 61) (by decide) ?_
          exact ih (j + 1) hh pp τ m _ (by omega) (by omega) H hm hs hcs (fun i' j' q1 q2 q3 q4 q5 => by
            by_cases c : i' = i ∧ j' = j
            · rw [c.1, c.2] at q4; exact absurd q4 hc
            · exact hdn i' j' (by omega) q2 q3 q4 q5)
        have doit : cand pa I i j → ∀ y6 : Option ax_V, ax_G p9 l9 e9 R9 s9 m9 args9 below9 meth9 c9 b9 D9 dA9 MX2_cut.2.2.1 h.length (ax_sz h) Q9 (109) ([some (rv a), some (rv aa), some (rv ab), some (iv (pa : Int)), some (iv (i : Int)), some (iv (j : Int)), y6]) ([]) (hh) := by
          intro hc y6
          refine g_aload_n C dX2_cut_109 rfl ?_
          refine g_aload_n C dX2_cut_110 rfl ?_
          refine g_aload_n C dX2_cut_111 rfl ?_
          refine g_iload C dX2_cut_112 rfl ?_
          refine g_iload C dX2_cut_114 rfl ?_
          refine g_RV C (t_tryPairs (t := Tq dx dy dw i j) (Ei := Eq_ I J pa i) (Ej := Eq_ I J pa j) H hA9 hB9 ho ho2 hd hd2 hs (fun k hk => (hcs k hk).1) (fun k hk => (hcs k hk).2) (show i < 42 by omega) (show j < 42 by omega) (fun k hk => hbx k (by omega)) ei.1 ej.1 ei.2.1 ej.2.1 rfl (fun hok => okq_cs hn hn2 hn0 hn20 hq hi (by omega) hc hok)) dX2_cut_116 KX2_tryPairs LX2_49 IX2_tryPairs VX2_tryPairs (by decide) rfl (by assumption) rfl rfl rfl (Nat.le_of_ble_eq_true rfl) ?_
          intro r1 g1 hP1 hz1
          obtain ⟨rfl, pp', τ', m', z1, z2, z3, z4, z5, z6⟩ := hP1
          have hm := hm.tr z3
          dsimp only [Option.toList, List.cons_append, List.nil_append]
          refine g_iinc C dX2_cut_119 (by decide) rfl rfl ?_
          dsimp only [List.set]
          refine g_goto C dX2_cut_122 (tgt := 61) (by decide) ?_
          exact ih (j + 1) _ pp' τ' m' _ (by omega) (by omega) z1 hm z2 z4 (fun i' j' q1 q2 q3 q4 q5 => by
            by_cases c : i' = i ∧ j' = j
            · rw [c.1, c.2] at q5 ⊢; exact z6 q5
            · obtain ⟨k, k1, k2⟩ := hdn i' j' (by omega) q2 q3 q4 q5
              obtain ⟨q, w1, w2⟩ := z5 k k1
              exact ⟨q, w1, by rw [w2]; exact k2⟩)
        have same : (i < pa ↔ j < pa) → ∀ y6 : Option ax_V, ax_G p9 l9 e9 R9 s9 m9 args9 below9 meth9 c9 b9 D9 dA9 MX2_cut.2.2.1 h.length (ax_sz h) Q9 (94) ([some (rv a), some (rv aa), some (rv ab), some (iv (pa : Int)), some (iv (i : Int)), some (iv (j : Int)), y6]) ([]) (hh) := by
          intro hsd y6
          have hfi : (if i < pa then 0 else 7) = 0 ∨ (if i < pa then 0 else 7) = 7 := by split <;> omega
          have hfj : (if j < pa then 0 else 7) = 0 ∨ (if j < pa then 0 else 7) = 7 := by split <;> omega
          have hff : (if i < pa then 0 else 7) = (if j < pa then 0 else 7) := by
            by_cases c : i < pa
            · rw [if_pos c, if_pos (hsd.mp c)]
            · rw [if_neg c, if_neg (fun z => c (hsd.mpr z))]
          refine g_aload_n C dX2_cut_94 rfl ?_
          refine g_iload C dX2_cut_95 rfl ?_
          refine g_V C (t_firstEnd hT (show i < 42 by omega) ei.2.2.1 ei.2.2.2.1 hfi ei.2.2.2.2) dX2_cut_97 KX2_firstEnd LX2_45 IX2_firstEnd VX2_firstEnd (by decide) rfl (by assumption) rfl rfl rfl (Nat.le_of_ble_eq_true rfl) ⟨rfl, rfl⟩ ?_
          dsimp only [Option.toList, List.cons_append, List.nil_append]
          refine g_aload_n C dX2_cut_100 rfl ?_
          refine g_iload C dX2_cut_101 rfl ?_
          refine g_V C (t_firstEnd hT (show j < 42 by omega) ej.2.2.1 ej.2.2.2.1 hfj ej.2.2.2.2) dX2_cut_103 KX2_firstEnd LX2_45 IX2_firstEnd VX2_firstEnd (by decide) rfl (by assumption) rfl rfl rfl (Nat.le_of_ble_eq_true rfl) ⟨rfl, rfl⟩ ?_
          dsimp only [Option.toList, List.cons_append, List.nil_append]
          refine g_icmp_ne C dX2_cut_106 (tgt := 119) (by decide) (by omega) (by omega) (fun h106 => ?_) (fun h106 => ?_)
          · exact skip (fun q => by
              rcases q with q | q
              · omega
              · exact h106 (by rw [q.2, hff])) _
          · exact doit (Or.inr ⟨hsd, by omega⟩) _
        refine g_iload C dX2_cut_61 rfl ?_
        refine g_aload_n C dX2_cut_63 rfl ?_
        refine g_get C FX2_38 dX2_cut_64 (by assumption) rfl ?_
        refine g_icmp_ge C dX2_cut_67 (tgt := 125) (by decide) (by omega) (by omega) (fun h67 => ?_) (fun h67 => ?_)
        · exfalso; omega
        · refine g_iload C dX2_cut_70 rfl ?_
          refine g_iload_n C dX2_cut_72 rfl ?_
          refine g_icmp_ge C dX2_cut_73 (tgt := 86) (by decide) (by omega) (by omega) (fun h73 => ?_) (fun h73 => ?_)
          · refine g_iconst C dX2_cut_86 ?_
            refine g_istore C dX2_cut_87 (by decide) rfl ?_
            dsimp only [List.set]
            refine g_iload C dX2_cut_89 rfl ?_
            refine g_if_ne C dX2_cut_91 (tgt := 109) (by decide) (by omega) (fun h91 => ?_) (fun h91 => ?_)
            · first | exact absurd rfl h91 | exact doit (Or.inl ⟨by omega, by omega⟩) _
            · first | exact absurd h91 (by decide) | exact same (by omega) _
          · refine g_iload C dX2_cut_76 rfl ?_
            refine g_iload_n C dX2_cut_78 rfl ?_
            refine g_icmp_lt C dX2_cut_79 (tgt := 86) (by decide) (by omega) (by omega) (fun h79 => ?_) (fun h79 => ?_)
            · refine g_iconst C dX2_cut_86 ?_
              refine g_istore C dX2_cut_87 (by decide) rfl ?_
              dsimp only [List.set]
              refine g_iload C dX2_cut_89 rfl ?_
              refine g_if_ne C dX2_cut_91 (tgt := 109) (by decide) (by omega) (fun h91 => ?_) (fun h91 => ?_)
              · first | exact absurd rfl h91 | exact doit (Or.inl ⟨by omega, by omega⟩) _
              · first | exact absurd h91 (by decide) | exact same (by omega) _
            · refine g_iconst C dX2_cut_82 ?_
              refine g_goto C dX2_cut_83 (tgt := 87) (by decide) ?_
              refine g_istore C dX2_cut_87 (by decide) rfl ?_
              dsimp only [List.set]
              refine g_iload C dX2_cut_89 rfl ?_
              refine g_if_ne C dX2_cut_91 (tgt := 109) (by decide) (by omega) (fun h91 => ?_) (fun h91 => ?_)
              · first | exact absurd rfl h91 | exact doit (Or.inl ⟨by omega, by omega⟩) _
              · first | exact absurd h91 (by decide) | exact same (by omega) _
    have outer : ∀ (d i : Nat) (hh : ax_H) (pp : Nat → Nat) (τ : Nat → Tr) (m : Nat) (x5 x6 : Option ax_V), i + d = pr → cu_at hh a (low1 X Y V n) (low1 X2 Y2 V2 n2) pp τ m dx dy dw en pr → ax_sm a (a + 100) h hh → tsr τ m → (∀ k, k < m → tbd (τ k) ∧ CS X Y V n X2 Y2 V2 n2 (τ k)) → (∀ i' j', i' < i → i' < j' → j' < pr → cand pa I i' j' → okq X Y V n X2 Y2 V2 n2 dx dy dw pa I J i' j' → ∃ k, k < m ∧ teq (Tq dx dy dw i' j') (τ k)) → ax_G p9 l9 e9 R9 s9 m9 args9 below9 meth9 c9 b9 D9 dA9 MX2_cut.2.2.1 h.length (ax_sz h) Q9 (46) ([some (rv a), some (rv aa), some (rv ab), some (iv (pa : Int)), some (iv (i : Int)), x5, x6]) ([]) (hh) := by
      intro d
      induction d with
      | zero =>
        intro i hh pp τ m x5 x6 hi H hm hs hcs hdn
        obtain ⟨fd, hT, hfd⟩ := H.1
        have ⟨h0, h1, h2, h3, h4, h5⟩ := hT
        refine g_iload C dX2_cut_46 rfl ?_
        refine g_aload_n C dX2_cut_48 rfl ?_
        refine g_get C FX2_38 dX2_cut_49 (by assumption) rfl ?_
        refine g_icmp_ge C dX2_cut_52 (tgt := 131) (by decide) (by omega) (by omega) (fun h52 => ?_) (fun h52 => ?_)
        · exact kr _ _ _ dX2_cut_131 ⟨rfl, ⟨pp, τ, m, dx, dy, dw, en, pr, H, hs, hcs, fun t ht => cut_all hn hn2 hq hs (fun i' j' q1 q2 q3 q4 => hdn i' j' (by omega) q1 q2 q3 q4) ht⟩, hm⟩ hm.1
        · exfalso; omega
      | succ d ih =>
        intro i hh pp τ m x5 x6 hi H hm hs hcs hdn
        obtain ⟨fd, hT, hfd⟩ := H.1
        have ⟨h0, h1, h2, h3, h4, h5⟩ := hT
        refine g_iload C dX2_cut_46 rfl ?_
        refine g_aload_n C dX2_cut_48 rfl ?_
        refine g_get C FX2_38 dX2_cut_49 (by assumption) rfl ?_
        refine g_icmp_ge C dX2_cut_52 (tgt := 131) (by decide) (by omega) (by omega) (fun h52 => ?_) (fun h52 => ?_)
        · exfalso; omega
        · refine g_iload C dX2_cut_55 rfl ?_
          refine g_iconst C dX2_cut_57 ?_
          refine g_iadd C dX2_cut_58 ?_
          refine g_istore C dX2_cut_59 (by decide) rfl ?_
          dsimp only [List.set]
          exact inner i (by omega) (fun hh pp τ m x5 x6 z1 z2 z3 z4 z5 => ih (i + 1) hh pp τ m x5 x6 (by omega) z1 z2 z3 z4 z5) (pr - (i + 1)) (i + 1) hh pp τ m _ (by omega) (by omega) H hm hs hcs (fun i' j' q1 q2 q3 q4 q5 => hdn i' j' (by omega) q2 q3 q4 q5)
    intro hh hT hm
    have H : cu_at hh a (low1 X Y V n) (low1 X2 Y2 V2 n2) pp (fun _ => (0, 0, 1)) 0 dx dy dw en pr := ⟨⟨fd, hT, hfd⟩, hp1, hp2, fun i hi => by rw [hm.2 (pp i) (by have := hp1 i hi; omega)]; exact hp3 i hi, fun i hi => by omega, by omega⟩
    refine g_iconst C dX2_cut_43 ?_
    refine g_istore C dX2_cut_44 (by decide) rfl ?_
    dsimp only [List.set]
    exact outer pr 0 hh pp _ 0 none none (by omega) H (hm.wide (Nat.le_refl _) (by omega)) ⟨fun i hi => by omega, fun i j h1 h2 => by omega⟩ (fun k hk => by omega) (fun i' j' q => by omega)
  have nocs : (n = 0 ∨ n2 = 0) → ∀ t, ¬ CS X Y V n X2 Y2 V2 n2 t := fun hz t ht => by
    obtain ⟨-, i1, i2, i3, j1, j2, j3, ⟨a1, -⟩, ⟨b1, -⟩, -⟩ := ht
    have := a1.1
    have := b1.1
    omega
  have ⟨h0, h1, h2, h3, h4, h5⟩ := hT
  refine g_aload_n C dX2_cut_0 rfl ?_
  refine g_iconst C dX2_cut_1 ?_
  refine g_put C FX2_31 dX2_cut_2 (by assumption) rfl rfl (Nat.le_of_ble_eq_true rfl) ?_
  dsimp only [List.set]
  refine ct_s_sz 0 rfl hT hm0 ?_
  intro g1 hT hm
  have ⟨h0, h1, h2, h3, h4, h5⟩ := hT
  have hA9 := hA.sm hm (by omega)
  have hB9 := hB.sm hm (by omega)
  have ⟨k0, k1, k2, k3⟩ := hA9
  have ⟨l0, l1, l2, l3⟩ := hB9
  refine g_aload_n C dX2_cut_5 rfl ?_
  refine g_get C FX2_35 dX2_cut_6 (by assumption) rfl ?_
  refine g_if_eq C dX2_cut_9 (tgt := 19) (by decide) (by omega) (fun h9 => ?_) (fun h9 => ?_)
  · exact kr _ _ _ dX2_cut_19 ⟨rfl, ⟨pp, fun _ => (0, 0, 1), 0, dx0, dy0, dw0, en0, pr0, ⟨⟨fd, hT, hfd⟩, hp1, hp2, fun i hi => by rw [hm.2 (pp i) (by have := hp1 i hi; omega)]; exact hp3 i hi, fun i hi => by omega, by omega⟩, ⟨fun i hi => by omega, fun i j h1 h2 => by omega⟩, fun k hk => by omega, fun t ht => absurd ht (nocs (by omega) t)⟩, hm.wide (Nat.le_refl _) (by omega)⟩ hm.1
  · refine g_aload_n C dX2_cut_12 rfl ?_
    refine g_get C FX2_35 dX2_cut_13 (by assumption) rfl ?_
    refine g_if_ne C dX2_cut_16 (tgt := 20) (by decide) (by omega) (fun h16 => ?_) (fun h16 => ?_)
    · refine g_aload_n C dX2_cut_20 rfl ?_
      refine g_iconst C dX2_cut_21 ?_
      refine g_put C FX2_38 dX2_cut_22 (by assumption) rfl rfl (Nat.le_of_ble_eq_true rfl) ?_
      dsimp only [List.set]
      refine ct_s_pr 0 rfl hT hm ?_
      intro g2 hT hm
      have ⟨h0, h1, h2, h3, h4, h5⟩ := hT
      have hA9 := hA.sm hm (by omega)
      have hB9 := hB.sm hm (by omega)
      refine g_aload_n C dX2_cut_25 rfl ?_
      refine g_aload_n C dX2_cut_26 rfl ?_
      refine g_iconst C dX2_cut_27 ?_
      refine g_top (show (0 : Int) = ((0 : Nat) : Int) from rfl) ?_
      refine g_RV C (t_addPairs hT hA9 hn (by omega) (by omega) (by omega)) dX2_cut_28 KX2_addPairs LX2_41 IX2_addPairs VX2_addPairs (by decide) rfl (by assumption) rfl rfl rfl (Nat.le_of_ble_eq_true rfl) ?_
      intro r1 g3 hP1 hz1
      obtain ⟨rfl, dx1, dy1, dw1, en1, pa, I1, J1, hT, hm1, -, hpa, -, hq1⟩ := hP1
      have hm := hm.tr hm1
      have ⟨h0, h1, h2, h3, h4, h5⟩ := hT
      have hB9 := hB.sm hm (by omega)
      dsimp only [Option.toList, List.cons_append, List.nil_append]
      refine g_aload_n C dX2_cut_31 rfl ?_
      refine g_get C FX2_38 dX2_cut_32 (by assumption) rfl ?_
      refine g_istore_n C dX2_cut_35 (by decide) rfl ?_
      dsimp only [List.set]
      refine g_aload_n C dX2_cut_36 rfl ?_
      refine g_aload_n C dX2_cut_37 rfl ?_
      refine g_bipush C dX2_cut_38 (by decide) ?_
      refine g_top (show (7 : Int) = ((7 : Nat) : Int) from rfl) ?_
      refine g_RV C (t_addPairs hT hB9 hn2 (by omega) (by omega) (by omega)) dX2_cut_40 KX2_addPairs LX2_41 IX2_addPairs VX2_addPairs (by decide) rfl (by assumption) rfl rfl rfl (Nat.le_of_ble_eq_true rfl) ?_
      intro r1 g4 hP1 hz1
      obtain ⟨rfl, dx2, dy2, dw2, en2, pr, I2, J2, hT, hm1, hle, hpr, hold, hq2⟩ := hP1
      have hm := hm.tr hm1
      dsimp only [Option.toList, List.cons_append, List.nil_append]
      exact loops dx2 dy2 dw2 en2 pa pr (fun t => if t < pa then I1 t else I2 t) (fun t => if t < pa then J1 t else J2 t) (by omega) (by omega) (by omega) ⟨hle, ⟨fun t t1 t2 => by
        have e := hold t t2
        simp only [if_pos t2]
        rw [e.1, e.2.1, e.2.2.1, e.2.2.2]
        exact hq1.1 t t1 t2, fun i j h1 h2 => by
        obtain ⟨t, t1, t2, t3, t4⟩ := hq1.2 i j h1 h2
        exact ⟨t, t1, t2, by simp only [if_pos t2]; exact t3, by simp only [if_pos t2]; exact t4⟩⟩, ⟨fun t t1 t2 => by
        simp only [if_neg (show ¬ t < pa by omega)]
        exact hq2.1 t t1 t2, fun i j h1 h2 => by
        obtain ⟨t, t1, t2, t3, t4⟩ := hq2.2 i j h1 h2
        exact ⟨t, t1, t2, by simp only [if_neg (show ¬ t < pa by omega)]; exact t3, by simp only [if_neg (show ¬ t < pa by omega)]; exact t4⟩⟩⟩ _ hT hm
    · exact kr _ _ _ dX2_cut_19 ⟨rfl, ⟨pp, fun _ => (0, 0, 1), 0, dx0, dy0, dw0, en0, pr0, ⟨⟨fd, hT, hfd⟩, hp1, hp2, fun i hi => by rw [hm.2 (pp i) (by have := hp1 i hi; omega)]; exact hp3 i hi, fun i hi => by omega, by omega⟩, ⟨fun i hi => by omega, fun i j h1 h2 => by omega⟩, fun k hk => by omega, fun t ht => absurd ht (nocs (by omega) t)⟩, hm.wide (Nat.le_refl _) (by omega)⟩ hm.1
