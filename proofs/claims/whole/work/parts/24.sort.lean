/-! Cutting: its cells as a sorted list of slopes -/
def cu_at (h : ax_H) (a : Nat) (LA LB : Tr → Int) (pp : Nat → Nat) (τ : Nat → Tr) (m : Nat) (dx dy dw en : Nat → Int) (pr : Nat) : Prop :=
  (∃ fd, ct_at h a fd m dx dy dw en pr ∧ ∀ i, i < 94 → fd i = some (pp i)) ∧ (∀ i, i < 94 → a + 6 ≤ pp i ∧ pp i < a + 100) ∧ (∀ i j, i < 94 → j < 94 → pp i = pp j → i = j) ∧ (∀ i, i < 94 → ∃ x1 x2 x3 x4 x5 x6 : Int, h[pp i]? = some (.inr (1, [iv x1, iv x2, iv x3, iv x4, iv x5, iv x6]))) ∧ (∀ i, i < m → h[pp i]? = some (.inr (1, rcd LA LB (τ i)))) ∧ m ≤ 93
theorem tsr_ins {τ σ : Nat → Tr} {m k : Nat} {t : Tr} (h : tsr τ m) (ht : 0 < t.2.2) (hk : k ≤ m) (h1 : ∀ i, i < k → tlt (τ i) t) (h2 : ∀ i, k ≤ i → i < m → tlt t (τ i)) (g1 : ∀ i, i < k → σ i = τ i) (g2 : σ k = t) (g3 : ∀ i, k < i → i ≤ m → σ i = τ (i - 1)) : tsr σ (m + 1) := by
  refine ⟨fun i hi => ?_, fun i j hij hj => ?_⟩
  · by_cases c1 : i < k
    · rw [g1 i c1]; exact h.1 i (by omega)
    · by_cases c2 : i = k
      · rw [c2, g2]; exact ht
      · rw [g3 i (by omega) (by omega)]; exact h.1 _ (by omega)
  · by_cases c1 : j < k
    · rw [g1 i (by omega), g1 j c1]; exact h.2 i j hij (by omega)
    by_cases c2 : j = k
    · rw [c2, g2, g1 i (by omega)]; exact h1 i (by omega)
    rw [g3 j (by omega) (by omega)]
    by_cases c3 : i < k
    · rw [g1 i c3]; exact h.2 i (j - 1) (by omega) (by omega)
    by_cases c4 : i = k
    · rw [c4, g2]; exact h2 (j - 1) (by omega) (by omega)
    rw [g3 i (by omega) (by omega)]
    exact h.2 (i - 1) (j - 1) (by omega) (by omega)
theorem t_sortIn {h : ax_H} {a : Nat} {LA LB : Tr → Int} {pp : Nat → Nat} {τ : Nat → Tr} {m : Nat} {dx dy dw en : Nat → Int} {pr : Nat} {t : Tr} (H : cu_at h a LA LB pp τ m dx dy dw en pr) (hs : tsr τ m) (hb : ∀ i, i < m → tbd (τ i)) (ht : tbd t) (hc : h[pp m]? = some (.inr (1, rcd LA LB t))) (hf : (∀ i, i < m → ¬ teq t (τ i)) → m < 93) : ax_Mt MX2_sortIn [rv a, rv (pp m)] h (fun r h' => r = none ∧ ∃ (pp' : Nat → Nat) (τ' : Nat → Tr) (m' : Nat), cu_at h' a LA LB pp' τ' m' dx dy dw en pr ∧ tsr τ' m' ∧ ax_sm a (a + 100) h h' ∧ (∀ i, i < m' → (∃ j, j < m ∧ τ' i = τ j) ∨ τ' i = t) ∧ (∀ j, j < m → ∃ i, i < m' ∧ τ' i = τ j) ∧ (∃ i, i < m' ∧ teq t (τ' i))) := by
  have hm := ax_sm.rf (lo := a) (hi := a + 6) h
  have H0 := H
  obtain ⟨⟨fd, hT, hfd⟩, hp1, hp2, hp3, hp4, hm93⟩ := H
  have ⟨h0, h1, h2, h3, h4, h5⟩ := hT
  refine ax_rv (L0 := [some (rv a), some (rv (pp m)), none, none, none]) rfl rfl (Nat.le_of_ble_eq_true rfl) rfl ?_
  intro p9 l9 e9 R9 s9 m9 args9 below9 meth9 c9 b9 D9 dA9 Q9 C kr
  have loop2 : ∀ (k : Nat), k ≤ m → m < 93 → (∀ i, i < k → tlt (τ i) t) → (∀ i, k ≤ i → i < m → tlt t (τ i)) → ∀ (d i : Nat) (hh : ax_H) (f1 : Nat → Option Nat), i = k + d → i ≤ m → ct_at hh a f1 m dx dy dw en pr → ax_sm a (a + 6) h hh → (∀ j, j < 94 → j ≤ i → (j < m ∨ j < i ∨ m ≤ j) → f1 j = some (pp j)) → (∀ j, i < j → j ≤ m → f1 j = some (pp (j - 1))) → (∀ j, j < 94 → m < j → f1 j = some (pp j)) → ax_G p9 l9 e9 R9 s9 m9 args9 below9 meth9 c9 b9 D9 dA9 MX2_sortIn.2.2.1 h.length (ax_sz h) Q9 (75) ([some (rv a), some (rv (pp m)), some (iv (k : Int)), some (iv 0), some (iv (i : Int))]) ([]) (hh) := by
    intro k hk hm9 k1 k2 d
    induction d with
    | zero =>
      intro i hh f1 hi him hT hm g1 g2 g3
      have ⟨h0, h1, h2, h3, h4, h5⟩ := hT
      have hc9 : hh[pp m]? = some (.inr (1, rcd LA LB t)) := (hm.2 (pp m) (Or.inr (hp1 m (by omega)).1)).trans hc
      refine g_iload C dX2_sortIn_75 rfl ?_
      refine g_iload_n C dX2_sortIn_77 rfl ?_
      refine g_icmp_le C dX2_sortIn_78 (tgt := 103) (by decide) (by omega) (by omega) (fun h78 => ?_) (fun h78 => ?_)
      · refine g_aload_n C dX2_sortIn_103 rfl ?_
        refine g_get C FX2_13 dX2_sortIn_104 (by assumption) rfl ?_
        refine g_iload_n C dX2_sortIn_107 rfl ?_
        refine g_aload_n C dX2_sortIn_108 rfl ?_
        refine g_aast C dX2_sortIn_109 (by assumption) rfl (by assumption) rfl rfl (by omega) (by decide) ?_
        refine ct_s_fd hT hm ?_
        intro h9 hT hm
        have ⟨h0, h1, h2, h3, h4, h5⟩ := hT
        refine g_aload_n C dX2_sortIn_110 rfl ?_
        refine g_dup C dX2_sortIn_111 ?_
        refine g_get C FX2_31 dX2_sortIn_112 (by assumption) rfl ?_
        refine g_iconst C dX2_sortIn_115 ?_
        refine g_iadd C dX2_sortIn_116 ?_
        refine g_put C FX2_31 dX2_sortIn_117 (by assumption) rfl rfl (Nat.le_of_ble_eq_true rfl) ?_
        dsimp only [List.set]
        refine ct_s_sz (m + 1) rfl hT hm ?_
        intro h9 hT hm
        have hp9 := hm.wide (lo2 := a) (hi2 := a + 100) (Nat.le_refl _) (by omega)
        have hcell : ∀ q, q < 94 → h9[pp q]? = h[pp q]? := fun q hq => hm.2 (pp q) (Or.inr (hp1 q hq).1)
        have P : ∀ j, j < 94 → (j < k ∧ (if j < k then pp j else if j = k then pp m else if j ≤ m then pp (j - 1) else pp j) = pp j) ∨ (j = k ∧ (if j < k then pp j else if j = k then pp m else if j ≤ m then pp (j - 1) else pp j) = pp m) ∨ (k < j ∧ j ≤ m ∧ (if j < k then pp j else if j = k then pp m else if j ≤ m then pp (j - 1) else pp j) = pp (j - 1)) ∨ (m < j ∧ (if j < k then pp j else if j = k then pp m else if j ≤ m then pp (j - 1) else pp j) = pp j) := fun j hj => by
          by_cases c1 : j < k
          · exact Or.inl ⟨c1, if_pos c1⟩
          rw [if_neg c1]
          by_cases c2 : j = k
          · exact Or.inr (Or.inl ⟨c2, if_pos c2⟩)
          rw [if_neg c2]
          by_cases c3 : j ≤ m
          · exact Or.inr (Or.inr (Or.inl ⟨by omega, c3, if_pos c3⟩))
          · exact Or.inr (Or.inr (Or.inr ⟨by omega, if_neg c3⟩))
        refine kr _ _ _ dX2_sortIn_120 ⟨rfl, fun j => if j < k then pp j else if j = k then pp m else if j ≤ m then pp (j - 1) else pp j, fun j => if j < k then τ j else if j = k then t else τ (j - 1), m + 1, ⟨⟨_, hT, fun j hj => ?_⟩, fun j hj => ?_, fun i j hi hj e => ?_, fun j hj => ?_, fun j hj => ?_, by omega⟩, tsr_ins hs ht.2.2.1 hk k1 k2 (fun i hi => if_pos hi) (by rw [if_neg (by omega), if_pos rfl]) (fun i h1 h2 => by rw [if_neg (by omega), if_neg (by omega)]), hp9, fun i hi => ?_, fun j hj => ?_, ?_⟩ hm.1
        · show va_up f1 k (some (pp m)) j = some (if j < k then pp j else if j = k then pp m else if j ≤ m then pp (j - 1) else pp j)
          rcases P j hj with ⟨c, e⟩ | ⟨c, e⟩ | ⟨c, c2, e⟩ | ⟨c, e⟩ <;> rw [e]
          · simp only [va_up, if_neg (show ¬ j = k by omega)]; exact g1 j hj (by omega) (by omega)
          · simp only [va_up, if_pos c]
          · simp only [va_up, if_neg (show ¬ j = k by omega)]; exact g2 j (by omega) c2
          · simp only [va_up, if_neg (show ¬ j = k by omega)]; exact g3 j hj c
        · show a + 6 ≤ (if j < k then pp j else if j = k then pp m else if j ≤ m then pp (j - 1) else pp j) ∧ (if j < k then pp j else if j = k then pp m else if j ≤ m then pp (j - 1) else pp j) < a + 100
          rcases P j hj with ⟨c, e⟩ | ⟨c, e⟩ | ⟨c, c2, e⟩ | ⟨c, e⟩ <;> rw [e] <;> exact hp1 _ (by omega)
        · have e' : (if i < k then pp i else if i = k then pp m else if i ≤ m then pp (i - 1) else pp i) = (if j < k then pp j else if j = k then pp m else if j ≤ m then pp (j - 1) else pp j) := e
          rcases P i hi with ⟨c, e1⟩ | ⟨c, e1⟩ | ⟨c, c2, e1⟩ | ⟨c, e1⟩ <;> rcases P j hj with ⟨d, e2⟩ | ⟨d, e2⟩ | ⟨d, d2, e2⟩ | ⟨d, e2⟩ <;> rw [e1, e2] at e' <;> (have := hp2 _ _ (by omega) (by omega) e'; omega)
        · show ∃ x1 x2 x3 x4 x5 x6 : Int, h9[if j < k then pp j else if j = k then pp m else if j ≤ m then pp (j - 1) else pp j]? = _
          rcases P j hj with ⟨c, e⟩ | ⟨c, e⟩ | ⟨c, c2, e⟩ | ⟨c, e⟩ <;> rw [e, hcell _ (by omega)] <;> exact hp3 _ (by omega)
        · show h9[if j < k then pp j else if j = k then pp m else if j ≤ m then pp (j - 1) else pp j]? = some (.inr (1, rcd LA LB (if j < k then τ j else if j = k then t else τ (j - 1))))
          rcases P j (by omega) with ⟨c, e⟩ | ⟨c, e⟩ | ⟨c, c2, e⟩ | ⟨c, e⟩ <;> rw [e]
          · rw [if_pos c, hcell _ (by omega)]; exact hp4 j (by omega)
          · rw [if_neg (by omega), if_pos c, hcell _ (by omega)]; exact hc
          · rw [if_neg (by omega), if_neg (by omega), hcell _ (by omega)]; exact hp4 (j - 1) (by omega)
          · omega
        · show (∃ j, j < m ∧ (if i < k then τ i else if i = k then t else τ (i - 1)) = τ j) ∨ (if i < k then τ i else if i = k then t else τ (i - 1)) = t
          by_cases c1 : i < k
          · exact Or.inl ⟨i, by omega, if_pos c1⟩
          · rw [if_neg c1]
            by_cases c2 : i = k
            · exact Or.inr (if_pos c2)
            · exact Or.inl ⟨i - 1, by omega, if_neg c2⟩
        · by_cases c1 : j < k
          · exact ⟨j, by omega, if_pos c1⟩
          · refine ⟨j + 1, by omega, ?_⟩
            show (if j + 1 < k then τ (j + 1) else if j + 1 = k then t else τ (j + 1 - 1)) = τ j
            rw [if_neg (by omega), if_neg (by omega), show j + 1 - 1 = j by omega]
        · refine ⟨k, by omega, ?_⟩
          show teq t (if k < k then τ k else if k = k then t else τ (k - 1))
          rw [if_neg (by omega), if_pos rfl]
          exact teq.rf t
      · exfalso; omega
    | succ d ih =>
      intro i hh f1 hi him hT hm g1 g2 g3
      have ⟨h0, h1, h2, h3, h4, h5⟩ := hT
      have gi := g1 (i - 1) (by omega) (by omega) (by omega)
      obtain ⟨x1, x2, x3, x4, x5, x6, hx⟩ := hp3 (i - 1) (by omega)
      have hv9 : hh[pp (i - 1)]? = some (.inr (1, [iv x1, iv x2, iv x3, iv x4, iv x5, iv x6])) := (hm.2 (pp (i - 1)) (Or.inr (hp1 (i - 1) (by omega)).1)).trans hx
      refine g_iload C dX2_sortIn_75 rfl ?_
      refine g_iload_n C dX2_sortIn_77 rfl ?_
      refine g_icmp_le C dX2_sortIn_78 (tgt := 103) (by decide) (by omega) (by omega) (fun h78 => ?_) (fun h78 => ?_)
      · exfalso; omega
      · refine g_aload_n C dX2_sortIn_81 rfl ?_
        refine g_get C FX2_13 dX2_sortIn_82 (by assumption) rfl ?_
        refine g_iload C dX2_sortIn_85 rfl ?_
        refine g_aload_n C dX2_sortIn_87 rfl ?_
        refine g_get C FX2_13 dX2_sortIn_88 (by assumption) rfl ?_
        refine g_iload C dX2_sortIn_91 rfl ?_
        refine g_iconst C dX2_sortIn_93 ?_
        refine g_isub C dX2_sortIn_94 ?_
        refine g_top (show _ = ((i - 1 : Nat) : Int) by omega) ?_
        refine g_aald C dX2_sortIn_95 (by assumption) rfl rfl rfl (by omega) (by decide) ?_
        rw [gi]
        refine g_aast C dX2_sortIn_96 (by assumption) rfl (by assumption) rfl rfl (by omega) (by decide) ?_
        refine ct_s_fd hT hm ?_
        intro h9 hT hm
        refine g_iincT C dX2_sortIn_97 (by decide) rfl (show _ = ((i - 1 : Nat) : Int) by omega) rfl ?_
        dsimp only [List.set]
        refine g_goto C dX2_sortIn_100 (tgt := 75) (by decide) ?_
        refine ih (i - 1) _ _ (by omega) (by omega) hT hm (fun j h1 h2 h3 => ?_) (fun j h1 h2 => ?_) (fun j h1 h2 => ?_)
        · simp only [va_up, if_neg (show ¬ j = i by omega)]; exact g1 j h1 (by omega) (by omega)
        · by_cases c : j = i
          · subst c; simp only [va_up, if_pos]
          · simp only [va_up, if_neg c]; exact g2 j (by omega) h2
        · simp only [va_up, if_neg (show ¬ j = i by omega)]; exact g3 j h1 h2
  have go2 : ∀ (k : Nat), k ≤ m → (∀ i, i < k → tlt (τ i) t) → (∀ i, k ≤ i → i < m → tlt t (τ i)) → ax_G p9 l9 e9 R9 s9 m9 args9 below9 meth9 c9 b9 D9 dA9 MX2_sortIn.2.2.1 h.length (ax_sz h) Q9 (55) ([some (rv a), some (rv (pp m)), some (iv (k : Int)), some (iv 0), none]) ([]) (h) := by
    intro k hk k1 k2
    have hm9 : m < 93 := hf (fun i hi q => by
      by_cases c : i < k
      · exact (k1 i c).ne q.sy
      · exact (k2 i (by omega) hi).ne q)
    refine g_iload_n C dX2_sortIn_55 rfl ?_
    refine g_if_ne C dX2_sortIn_56 (tgt := 68) (by decide) (by omega) (fun h56 => ?_) (fun h56 => ?_)
    · exact absurd rfl h56
    · refine g_aload_n C dX2_sortIn_59 rfl ?_
      refine g_get C FX2_31 dX2_sortIn_60 (by assumption) rfl ?_
      refine g_bipush C dX2_sortIn_63 (by decide) ?_
      refine g_icmp_lt C dX2_sortIn_65 (tgt := 69) (by decide) (by omega) (by omega) (fun h65 => ?_) (fun h65 => ?_)
      · refine g_aload_n C dX2_sortIn_69 rfl ?_
        refine g_get C FX2_31 dX2_sortIn_70 (by assumption) rfl ?_
        refine g_istore C dX2_sortIn_73 (by decide) rfl ?_
        dsimp only [List.set]
        exact loop2 k hk hm9 k1 k2 (m - k) m h fd (by omega) (Nat.le_refl _) hT hm (fun j h1 _ _ => hfd j h1) (fun j h1 h2 => by omega) (fun j h1 _ => hfd j h1)
      · exfalso; omega
  have loop1 : ∀ (k : Nat), k ≤ m → (∀ i, k ≤ i → i < m → tlt t (τ i)) → ax_G p9 l9 e9 R9 s9 m9 args9 below9 meth9 c9 b9 D9 dA9 MX2_sortIn.2.2.1 h.length (ax_sz h) Q9 (5) ([some (rv a), some (rv (pp m)), some (iv (k : Int)), none, none]) ([]) (h) := by
    intro k
    induction k with
    | zero =>
      intro hk k2
      refine g_iload_n C dX2_sortIn_5 rfl ?_
      refine g_if_le C dX2_sortIn_6 (tgt := 30) (by decide) (by omega) (fun h6 => ?_) (fun h6 => ?_)
      · refine g_iload_n C dX2_sortIn_30 rfl ?_
        refine g_if_le C dX2_sortIn_31 (tgt := 53) (by decide) (by omega) (fun h31 => ?_) (fun h31 => ?_)
        · refine g_iconst C dX2_sortIn_53 ?_
          refine g_istore_n C dX2_sortIn_54 (by decide) rfl ?_
          dsimp only [List.set]
          exact go2 0 hk (fun i hi => by omega) k2
        · exfalso; omega
      · exfalso; omega
    | succ k ih =>
      intro hk k2
      have hck := hp4 k (by omega)
      have hfk := hfd k (by omega)
      have hin := cmp3_in t (τ k)
      have fin : ¬ tlt t (τ k) → ax_G p9 l9 e9 R9 s9 m9 args9 below9 meth9 c9 b9 D9 dA9 MX2_sortIn.2.2.1 h.length (ax_sz h) Q9 (30) ([some (rv a), some (rv (pp m)), some (iv ((k + 1 : Nat) : Int)), none, none]) ([]) (h) := by
        intro hn
        refine g_iload_n C dX2_sortIn_30 rfl ?_
        refine g_if_le C dX2_sortIn_31 (tgt := 53) (by decide) (by omega) (fun h31 => ?_) (fun h31 => ?_)
        · exfalso; omega
        · refine g_aload_n C dX2_sortIn_34 rfl ?_
          refine g_aload_n C dX2_sortIn_35 rfl ?_
          refine g_get C FX2_13 dX2_sortIn_36 (by assumption) rfl ?_
          refine g_iload_n C dX2_sortIn_39 rfl ?_
          refine g_iconst C dX2_sortIn_40 ?_
          refine g_isub C dX2_sortIn_41 ?_
          refine g_top (show _ = (k : Int) by omega) ?_
          refine g_aald C dX2_sortIn_42 (by assumption) rfl rfl rfl (by omega) (by decide) ?_
          rw [hfk]
          refine g_V C (t_compareSlope hc hck ht (hb k (by omega))) dX2_sortIn_43 KX1_compareSlope LX2_85 IX1_compareSlope VX1_compareSlope (by decide) rfl (by assumption) rfl rfl rfl (Nat.le_of_ble_eq_true rfl) ⟨rfl, rfl⟩ ?_
          dsimp only [Option.toList, List.cons_append, List.nil_append]
          refine g_if_ne C dX2_sortIn_46 (tgt := 53) (by decide) (by omega) (fun h46 => ?_) (fun h46 => ?_)
          · have hne : ¬ teq t (τ k) := fun q => h46 ((cmp3_eq _ _).mpr q)
            refine g_iconst C dX2_sortIn_53 ?_
            refine g_istore_n C dX2_sortIn_54 (by decide) rfl ?_
            dsimp only [List.set]
            first
            | (refine go2 (k + 1) hk (fun i hi => ?_) k2
               have hkt : tlt (τ k) t := by
                 rcases t3 t (τ k) with q | q | q
                 · exact absurd q hn
                 · exact absurd q hne
                 · exact q
               by_cases c : i = k
               · subst c; exact hkt
               · exact tlt.tr (hs.1 i (by omega)) (hs.1 k (by omega)) ht.2.2.1 (hs.2 i k (by omega) (by omega)) hkt)
            | (refine g_iload_n C dX2_sortIn_55 rfl ?_
               refine g_if_ne C dX2_sortIn_56 (tgt := 68) (by decide) (by omega) (fun h56 => ?_) (fun h56 => ?_)
               · exact kr _ _ _ dX2_sortIn_68 ⟨rfl, pp, τ, m, H0, hs, ax_sm.rf h, fun i hi => Or.inl ⟨i, hi, rfl⟩, fun j hj => ⟨j, hj, rfl⟩, ⟨k, by omega, heq⟩⟩ ⟨rfl, rfl⟩
               · exact absurd h56 (by decide))
          · have heq : teq t (τ k) := (cmp3_eq _ _).mp h46
            refine g_iconst C dX2_sortIn_49 ?_
            refine g_goto C dX2_sortIn_50 (tgt := 54) (by decide) ?_
            refine g_istore_n C dX2_sortIn_54 (by decide) rfl ?_
            dsimp only [List.set]
            first
            | (refine go2 (k + 1) hk (fun i hi => ?_) k2
               have hkt : tlt (τ k) t := by
                 rcases t3 t (τ k) with q | q | q
                 · exact absurd q hn
                 · exact absurd q hne
                 · exact q
               by_cases c : i = k
               · subst c; exact hkt
               · exact tlt.tr (hs.1 i (by omega)) (hs.1 k (by omega)) ht.2.2.1 (hs.2 i k (by omega) (by omega)) hkt)
            | (refine g_iload_n C dX2_sortIn_55 rfl ?_
               refine g_if_ne C dX2_sortIn_56 (tgt := 68) (by decide) (by omega) (fun h56 => ?_) (fun h56 => ?_)
               · exact kr _ _ _ dX2_sortIn_68 ⟨rfl, pp, τ, m, H0, hs, ax_sm.rf h, fun i hi => Or.inl ⟨i, hi, rfl⟩, fun j hj => ⟨j, hj, rfl⟩, ⟨k, by omega, heq⟩⟩ ⟨rfl, rfl⟩
               · exact absurd h56 (by decide))
      refine g_iload_n C dX2_sortIn_5 rfl ?_
      refine g_if_le C dX2_sortIn_6 (tgt := 30) (by decide) (by omega) (fun h6 => ?_) (fun h6 => ?_)
      · exfalso; omega
      · refine g_aload_n C dX2_sortIn_9 rfl ?_
        refine g_aload_n C dX2_sortIn_10 rfl ?_
        refine g_get C FX2_13 dX2_sortIn_11 (by assumption) rfl ?_
        refine g_iload_n C dX2_sortIn_14 rfl ?_
        refine g_iconst C dX2_sortIn_15 ?_
        refine g_isub C dX2_sortIn_16 ?_
        refine g_top (show _ = (k : Int) by omega) ?_
        refine g_aald C dX2_sortIn_17 (by assumption) rfl rfl rfl (by omega) (by decide) ?_
        rw [hfk]
        refine g_V C (t_compareSlope hc hck ht (hb k (by omega))) dX2_sortIn_18 KX1_compareSlope LX2_85 IX1_compareSlope VX1_compareSlope (by decide) rfl (by assumption) rfl rfl rfl (Nat.le_of_ble_eq_true rfl) ⟨rfl, rfl⟩ ?_
        dsimp only [Option.toList, List.cons_append, List.nil_append]
        refine g_if_ge C dX2_sortIn_21 (tgt := 30) (by decide) (by omega) (fun h21 => ?_) (fun h21 => ?_)
        · have hn : ¬ tlt t (τ k) := fun q => by have := (cmp3_lt _ _).mpr q; omega
          exact fin hn
        · have hl : tlt t (τ k) := (cmp3_lt _ _).mp (by omega)
          refine g_iincT C dX2_sortIn_24 (by decide) rfl (show _ = (k : Int) by omega) rfl ?_
          dsimp only [List.set]
          refine g_goto C dX2_sortIn_27 (tgt := 5) (by decide) ?_
          refine ih (by omega) (fun i h1 h2 => ?_)
          by_cases c : i = k
          · subst c; exact hl
          · exact k2 i (by omega) h2
  refine g_aload_n C dX2_sortIn_0 rfl ?_
  refine g_get C FX2_31 dX2_sortIn_1 (by assumption) rfl ?_
  refine g_istore_n C dX2_sortIn_4 (by decide) rfl ?_
  dsimp only [List.set]
  exact loop1 m (Nat.le_refl _) (fun i h1 h2 => by omega)
