section MK
variable {h : ax_H} {a : Nat} {s : MS} {c : MC} {xs ys : Nat → Int} {pt : Nat} {co : Nat → Int} {cc : Nat} {B K : Nat → List Pt3} {km : Nat}
def laid (xs ys : Nat → Int) (pt : Nat) (co : Nat → Int) (cc : Nat) (S : Int → Int → Prop) : Prop := rg_rg xs ys pt ∧ inj2 xs ys pt ∧ pt ≤ 128 ∧ pin xs ys pt = S ∧ cc = (hC S).1 ∧ cc ≤ 128 ∧ ∃ r : Nat → Nat, ∀ e, e < cc → co e = (r e : Int) ∧ r e < pt ∧ xs (r e) = (hC S).2.1 e ∧ ys (r e) = (hC S).2.2 e
theorem r_layCorners (M : mz h a s c xs ys pt co cc) (hr : rg_rg xs ys pt) (hi : inj2 xs ys pt) (hp : pt ≤ 128) {S : Int → Int → Prop} (eS : pin xs ys pt = S) : ax_Mt MX5_layCorners [rv a] h (fun r h' => r = none ∧ ∃ co' cc', mz h' a s c xs ys pt co' cc' ∧ laid xs ys pt co' cc' S ∧ ax_sm a (a + 12) h h') := by
  have hm := ax_sm.rf (lo := a) (hi := a + 12) h
  have hh := hC_ok hr eS
  have hg : rng S := by rw [← eS]; exact rng_pin hr
  have hS : ∀ x y, S x y → ∃ i, i < pt ∧ xs i = x ∧ ys i = y := fun x y q => by rw [← eS] at q; exact q
  have hSi : ∀ i, i < pt → S (xs i) (ys i) := fun i hi => by rw [← eS]; exact ⟨i, hi, rfl, rfl⟩
  have hin := hull_inj hg hh
  generalize eQ : hC S = Q at *
  obtain ⟨cn, cx, cy⟩ := Q
  dsimp only at hh hin
  have hcp : cn ≤ pt := inj2_le hin (fun x y ⟨i, hi, e1, e2⟩ => by rw [← e1, ← e2]; exact hS _ _ (hh.2.1 i hi))
  have hc0 : 0 < pt → 0 < cn := fun q => hh.1 _ _ (hSi 0 q)
  have hc2 : 2 ≤ pt → 2 ≤ cn := fun q => by
    by_cases z : 2 ≤ cn
    · exact z
    · have z1 : cn = 1 := by have := hc0 (by omega); omega
      have a0 := hh.2.2.2.1 z1 _ _ (hSi 0 (by omega))
      have a1 := hh.2.2.2.1 z1 _ _ (hSi 1 (by omega))
      have := hi 0 1 (by omega) (by omega) (by omega) (by omega)
      omega
  refine ax_rv (L0 := [some (rv a), none, none]) rfl rfl (Nat.le_of_ble_eq_true rfl) rfl ?_
  intro p9 l9 e9 R9 s9 m9 args9 below9 meth9 c9 b9 D9 dA9 Q9 C kr
  have fin : ∀ (f : Nat), f < pt → xs f = cx 0 → ys f = cy 0 → ∀ (d k : Nat) (h1 : ax_H) (co1 : Nat → Int) (r : Nat → Nat), k + d + 1 = cn → mz h1 a s c xs ys pt co1 k → ax_sm a (a + 12) h h1 → (∀ i, i ≤ k → r i < pt ∧ xs (r i) = cx i ∧ ys (r i) = cy i) → (∀ i, i < k → co1 i = (r i : Int)) → ax_G p9 l9 e9 R9 s9 m9 args9 below9 meth9 c9 b9 D9 dA9 MX5_layCorners.2.2.1 h.length (ax_sz h) Q9 (84) ([some (rv a), some (iv (f : Int)), some (iv (r k : Int))]) ([]) (h1) := by
    intro f hf ef1 ef2 d
    induction d with
    | zero =>
      intro k h1 co1 r hk M hm hr1 hr2
      have ⟨q0, q1, q2, q3, q4, q5, q6, q7, q8, q9, q10, q11⟩ := M
      have hrk := hr1 k (by omega)
      have done : ∀ h2, mz h2 a s c xs ys pt (va_up co1 k (r k : Int)) (k + 1) → ax_sm a (a + 12) h h2 → ∃ co' cc', mz h2 a s c xs ys pt co' cc' ∧ laid xs ys pt co' cc' S ∧ ax_sm a (a + 12) h h2 := fun h2 M2 hm2 => by
        refine ⟨_, _, M2, ⟨hr, hi, hp, eS, by rw [eQ]; exact hk, by omega, r, fun i hi => ?_⟩, hm2⟩
        rw [eQ]
        have z := hr1 i (by omega)
        refine ⟨?_, z⟩
        by_cases w : i = k
        · subst w; rw [va_eq]
        · rw [va_ne w]; exact hr2 i (by omega)
      refine g_aload_n C dX5_layCorners_84 rfl ?_
      refine g_get C FX5_26 dX5_layCorners_85 (by assumption) rfl ?_
      refine g_aload_n C dX5_layCorners_88 rfl ?_
      refine g_get C FX5_74 dX5_layCorners_89 (by assumption) rfl ?_
      refine g_iload_n C dX5_layCorners_92 rfl ?_
      refine g_iast C dX5_layCorners_93 (by assumption) rfl (by omega) (by decide) ?_
      refine mo_s_co M hm ?_
      intro h9 M hm
      have ⟨q0, q1, q2, q3, q4, q5, q6, q7, q8, q9, q10, q11⟩ := M
      refine g_aload_n C dX5_layCorners_94 rfl ?_
      refine g_dup C dX5_layCorners_95 ?_
      refine g_get C FX5_74 dX5_layCorners_96 (by assumption) rfl ?_
      refine g_iconst C dX5_layCorners_99 ?_
      refine g_iadd C dX5_layCorners_100 ?_
      refine g_put C FX5_74 dX5_layCorners_101 (by assumption) rfl rfl (Nat.le_of_ble_eq_true rfl) ?_
      dsimp only [List.set]
      refine mo_s_cc (k + 1) rfl M hm ?_
      intro h9 M hm
      have ⟨q0, q1, q2, q3, q4, q5, q6, q7, q8, q9, q10, q11⟩ := M
      refine g_aload_n C dX5_layCorners_104 rfl ?_
      refine g_get C FX5_63 dX5_layCorners_105 (by assumption) rfl ?_
      refine g_iconst C dX5_layCorners_108 ?_
      refine g_icmp_ne C dX5_layCorners_109 (tgt := 116) (by decide) (by omega) (by omega) (fun h109 => ?_) (fun h109 => ?_)
      · have hh2 : half S (xs (r k)) (ys (r k)) := by rw [hrk.2.1, hrk.2.2]; exact half_all hg hh (hc2 (by omega)) k (by omega)
        refine g_aload_n C dX5_layCorners_116 rfl ?_
        refine g_iload_n C dX5_layCorners_117 rfl ?_
        refine g_RV C (r_nextCorner M hr hi hp eS hrk.1 (by omega) hh2) dX5_layCorners_118 KX5_nextCorner LX5_77 IX5_nextCorner VX5_nextCorner (by decide) rfl (by assumption) rfl rfl rfl (Nat.le_of_ble_eq_true rfl) ?_
        intro r1 h1 hP1 hz1
        obtain ⟨j, rfl, rfl, hj, hx⟩ := hP1
        have hx2 := hh.2.2.2.2.1 (hc2 (by omega)) k (by omega)
        unfold nxi at hx2
        rw [if_neg (by omega)] at hx2
        rw [hrk.2.1, hrk.2.2] at hx
        have hx3 := nxt_uniq hg hx hx2
        have ej : j = f := hi j f hj hf (by omega) (by omega)
        dsimp only [Option.toList, List.cons_append, List.nil_append]
        refine g_istore_n C dX5_layCorners_121 (by decide) rfl ?_
        dsimp only [List.set]
        refine g_iload_n C dX5_layCorners_122 rfl ?_
        refine g_iload_n C dX5_layCorners_123 rfl ?_
        refine g_icmp_ne C dX5_layCorners_124 (tgt := 84) (by decide) (by omega) (by omega) (fun h124 => ?_) (fun h124 => ?_)
        · exfalso; omega
        · exact kr _ _ _ dX5_layCorners_127 ⟨rfl, done _ M hm⟩ hm.1
      · refine g_iload_n C dX5_layCorners_112 rfl ?_
        refine g_goto C dX5_layCorners_113 (tgt := 121) (by decide) ?_
        refine g_istore_n C dX5_layCorners_121 (by decide) rfl ?_
        dsimp only [List.set]
        refine g_iload_n C dX5_layCorners_122 rfl ?_
        refine g_iload_n C dX5_layCorners_123 rfl ?_
        refine g_icmp_ne C dX5_layCorners_124 (tgt := 84) (by decide) (by omega) (by omega) (fun h124 => ?_) (fun h124 => ?_)
        · exfalso; omega
        · exact kr _ _ _ dX5_layCorners_127 ⟨rfl, done _ M hm⟩ hm.1
    | succ d ih =>
      intro k h1 co1 r hk M hm hr1 hr2
      have ⟨q0, q1, q2, q3, q4, q5, q6, q7, q8, q9, q10, q11⟩ := M
      have hrk := hr1 k (by omega)
      refine g_aload_n C dX5_layCorners_84 rfl ?_
      refine g_get C FX5_26 dX5_layCorners_85 (by assumption) rfl ?_
      refine g_aload_n C dX5_layCorners_88 rfl ?_
      refine g_get C FX5_74 dX5_layCorners_89 (by assumption) rfl ?_
      refine g_iload_n C dX5_layCorners_92 rfl ?_
      refine g_iast C dX5_layCorners_93 (by assumption) rfl (by omega) (by decide) ?_
      refine mo_s_co M hm ?_
      intro h9 M hm
      have ⟨q0, q1, q2, q3, q4, q5, q6, q7, q8, q9, q10, q11⟩ := M
      refine g_aload_n C dX5_layCorners_94 rfl ?_
      refine g_dup C dX5_layCorners_95 ?_
      refine g_get C FX5_74 dX5_layCorners_96 (by assumption) rfl ?_
      refine g_iconst C dX5_layCorners_99 ?_
      refine g_iadd C dX5_layCorners_100 ?_
      refine g_put C FX5_74 dX5_layCorners_101 (by assumption) rfl rfl (Nat.le_of_ble_eq_true rfl) ?_
      dsimp only [List.set]
      refine mo_s_cc (k + 1) rfl M hm ?_
      intro h9 M hm
      have ⟨q0, q1, q2, q3, q4, q5, q6, q7, q8, q9, q10, q11⟩ := M
      refine g_aload_n C dX5_layCorners_104 rfl ?_
      refine g_get C FX5_63 dX5_layCorners_105 (by assumption) rfl ?_
      refine g_iconst C dX5_layCorners_108 ?_
      refine g_icmp_ne C dX5_layCorners_109 (tgt := 116) (by decide) (by omega) (by omega) (fun h109 => ?_) (fun h109 => ?_)
      · have hh2 : half S (xs (r k)) (ys (r k)) := by rw [hrk.2.1, hrk.2.2]; exact half_all hg hh (hc2 (by omega)) k (by omega)
        refine g_aload_n C dX5_layCorners_116 rfl ?_
        refine g_iload_n C dX5_layCorners_117 rfl ?_
        refine g_RV C (r_nextCorner M hr hi hp eS hrk.1 (by omega) hh2) dX5_layCorners_118 KX5_nextCorner LX5_77 IX5_nextCorner VX5_nextCorner (by decide) rfl (by assumption) rfl rfl rfl (Nat.le_of_ble_eq_true rfl) ?_
        intro r1 h1 hP1 hz1
        obtain ⟨j, rfl, rfl, hj, hx⟩ := hP1
        have hx2 := hh.2.2.2.2.1 (hc2 (by omega)) k (by omega)
        unfold nxi at hx2
        rw [if_pos (by omega)] at hx2
        rw [hrk.2.1, hrk.2.2] at hx
        have hx3 := nxt_uniq hg hx hx2
        have hne := hh.2.2.2.2.2 (k + 1) (by omega) (by omega)
        dsimp only [Option.toList, List.cons_append, List.nil_append]
        refine g_istore_n C dX5_layCorners_121 (by decide) rfl ?_
        dsimp only [List.set]
        refine g_iload_n C dX5_layCorners_122 rfl ?_
        refine g_iload_n C dX5_layCorners_123 rfl ?_
        refine g_icmp_ne C dX5_layCorners_124 (tgt := 84) (by decide) (by omega) (by omega) (fun h124 => ?_) (fun h124 => ?_)
        · have q := ih (k + 1) _ _ (va_up r (k + 1) j) (by omega) M hm (fun i hi => by
            by_cases w : i = k + 1
            · subst w; rw [va_eq]; exact ⟨hj, hx3.1, hx3.2⟩
            · rw [va_ne w]; exact hr1 i (by omega)) (fun i hi => by
            rw [va_ne (f := r) (show i ≠ k + 1 by omega)]
            by_cases w : i = k
            · subst w; rw [va_eq]
            · rw [va_ne w]; exact hr2 i (by omega))
          rw [va_eq] at q
          exact q
        · have ej : j = f := by omega
          subst ej
          exact absurd ⟨by omega, by omega⟩ hne
      · exfalso; omega
  have scan : ∀ (h1 : ax_H), mz h1 a s c xs ys pt co 0 → ax_sm a (a + 12) h h1 → ∀ (d k f : Nat), k + d = pt → f < k → (∀ i, i < k → ky (xs f) (ys f) ≤ ky (xs i) (ys i)) → ax_G p9 l9 e9 R9 s9 m9 args9 below9 meth9 c9 b9 D9 dA9 MX5_layCorners.2.2.1 h.length (ax_sz h) Q9 (17) ([some (rv a), some (iv (f : Int)), some (iv (k : Int))]) ([]) (h1) := by
    intro h1 M hm d
    have ⟨q0, q1, q2, q3, q4, q5, q6, q7, q8, q9, q10, q11⟩ := M
    induction d with
    | zero =>
      intro k f hk hf hmin
      have ek : k = pt := by omega
      subst ek
      have e0 : xs f = cx 0 ∧ ys f = cy 0 := by
        obtain ⟨i, hi2, e1, e2⟩ := hS _ _ (hh.2.1 0 (hc0 (by omega)))
        have a1 := hh.2.2.1 _ _ (hSi f hf)
        have a2 := hmin i hi2
        rw [e1, e2] at a2
        have r1 := hg _ _ (hSi f hf)
        have r2 := hg _ _ (hh.2.1 0 (hc0 (by omega)))
        exact ky_ne r1.1 r2.1 (by omega)
      refine g_iload_n C dX5_layCorners_17 rfl ?_
      refine g_aload_n C dX5_layCorners_18 rfl ?_
      refine g_get C FX5_63 dX5_layCorners_19 (by assumption) rfl ?_
      refine g_icmp_ge C dX5_layCorners_22 (tgt := 82) (by decide) (by omega) (by omega) (fun h22 => ?_) (fun h22 => ?_)
      · refine g_iload_n C dX5_layCorners_82 rfl ?_
        refine g_istore_n C dX5_layCorners_83 (by decide) rfl ?_
        dsimp only [List.set]
        exact fin f hf e0.1 e0.2 (cn - 1) 0 _ _ (fun _ => f) (by have := hc0 (by omega); omega) M hm (fun i hi => by
          have : i = 0 := by omega
          subst this; exact ⟨hf, e0⟩) (fun i hi => by omega)
      · exfalso; omega
    | succ d ih =>
      intro k f hk hf hmin
      have rf := hr f (by omega)
      have rk := hr k (by omega)
      have keep : ky (xs f) (ys f) ≤ ky (xs k) (ys k) → ax_G p9 l9 e9 R9 s9 m9 args9 below9 meth9 c9 b9 D9 dA9 MX5_layCorners.2.2.1 h.length (ax_sz h) Q9 (17) ([some (rv a), some (iv (f : Int)), some (iv ((k + 1 : Nat) : Int))]) ([]) (h1) := fun q => ih (k + 1) f (by omega) (by omega) (fun i hi => by
        by_cases w : i = k
        · subst w; exact q
        · exact hmin i (by omega))
      have new : ky (xs k) (ys k) ≤ ky (xs f) (ys f) → ax_G p9 l9 e9 R9 s9 m9 args9 below9 meth9 c9 b9 D9 dA9 MX5_layCorners.2.2.1 h.length (ax_sz h) Q9 (17) ([some (rv a), some (iv (k : Int)), some (iv ((k + 1 : Nat) : Int))]) ([]) (h1) := fun q => ih (k + 1) k (by omega) (by omega) (fun i hi => by
        by_cases w : i = k
        · subst w; exact Int.le_refl _
        · have := hmin i (by omega); omega)
      unfold ky at keep new
      refine g_iload_n C dX5_layCorners_17 rfl ?_
      refine g_aload_n C dX5_layCorners_18 rfl ?_
      refine g_get C FX5_63 dX5_layCorners_19 (by assumption) rfl ?_
      refine g_icmp_ge C dX5_layCorners_22 (tgt := 82) (by decide) (by omega) (by omega) (fun h22 => ?_) (fun h22 => ?_)
      · exfalso; omega
      · refine g_aload_n C dX5_layCorners_25 rfl ?_
        refine g_get C FX5_23 dX5_layCorners_26 (by assumption) rfl ?_
        refine g_iload_n C dX5_layCorners_29 rfl ?_
        refine g_iald C dX5_layCorners_30 (by assumption) rfl (by omega) (by decide) ?_
        refine g_aload_n C dX5_layCorners_31 rfl ?_
        refine g_get C FX5_23 dX5_layCorners_32 (by assumption) rfl ?_
        refine g_iload_n C dX5_layCorners_35 rfl ?_
        refine g_iald C dX5_layCorners_36 (by assumption) rfl (by omega) (by decide) ?_
        refine g_icmp_lt C dX5_layCorners_37 (tgt := 70) (by decide) (by omega) (by omega) (fun h37 => ?_) (fun h37 => ?_)
        · refine g_iload_n C dX5_layCorners_70 rfl ?_
          refine g_goto C dX5_layCorners_71 (tgt := 75) (by decide) ?_
          refine g_istore_n C dX5_layCorners_75 (by decide) rfl ?_
          dsimp only [List.set]
          refine g_iinc C dX5_layCorners_76 (by decide) rfl rfl ?_
          dsimp only [List.set]
          refine g_goto C dX5_layCorners_79 (tgt := 17) (by decide) ?_
          first | exact keep (by omega) | exact new (by omega)
        · refine g_aload_n C dX5_layCorners_40 rfl ?_
          refine g_get C FX5_23 dX5_layCorners_41 (by assumption) rfl ?_
          refine g_iload_n C dX5_layCorners_44 rfl ?_
          refine g_iald C dX5_layCorners_45 (by assumption) rfl (by omega) (by decide) ?_
          refine g_aload_n C dX5_layCorners_46 rfl ?_
          refine g_get C FX5_23 dX5_layCorners_47 (by assumption) rfl ?_
          refine g_iload_n C dX5_layCorners_50 rfl ?_
          refine g_iald C dX5_layCorners_51 (by assumption) rfl (by omega) (by decide) ?_
          refine g_icmp_ne C dX5_layCorners_52 (tgt := 74) (by decide) (by omega) (by omega) (fun h52 => ?_) (fun h52 => ?_)
          · refine g_iload_n C dX5_layCorners_74 rfl ?_
            refine g_istore_n C dX5_layCorners_75 (by decide) rfl ?_
            dsimp only [List.set]
            refine g_iinc C dX5_layCorners_76 (by decide) rfl rfl ?_
            dsimp only [List.set]
            refine g_goto C dX5_layCorners_79 (tgt := 17) (by decide) ?_
            first | exact keep (by omega) | exact new (by omega)
          · refine g_aload_n C dX5_layCorners_55 rfl ?_
            refine g_get C FX5_20 dX5_layCorners_56 (by assumption) rfl ?_
            refine g_iload_n C dX5_layCorners_59 rfl ?_
            refine g_iald C dX5_layCorners_60 (by assumption) rfl (by omega) (by decide) ?_
            refine g_aload_n C dX5_layCorners_61 rfl ?_
            refine g_get C FX5_20 dX5_layCorners_62 (by assumption) rfl ?_
            refine g_iload_n C dX5_layCorners_65 rfl ?_
            refine g_iald C dX5_layCorners_66 (by assumption) rfl (by omega) (by decide) ?_
            refine g_icmp_ge C dX5_layCorners_67 (tgt := 74) (by decide) (by omega) (by omega) (fun h67 => ?_) (fun h67 => ?_)
            · refine g_iload_n C dX5_layCorners_74 rfl ?_
              refine g_istore_n C dX5_layCorners_75 (by decide) rfl ?_
              dsimp only [List.set]
              refine g_iinc C dX5_layCorners_76 (by decide) rfl rfl ?_
              dsimp only [List.set]
              refine g_goto C dX5_layCorners_79 (tgt := 17) (by decide) ?_
              first | exact keep (by omega) | exact new (by omega)
            · refine g_iload_n C dX5_layCorners_70 rfl ?_
              refine g_goto C dX5_layCorners_71 (tgt := 75) (by decide) ?_
              refine g_istore_n C dX5_layCorners_75 (by decide) rfl ?_
              dsimp only [List.set]
              refine g_iinc C dX5_layCorners_76 (by decide) rfl rfl ?_
              dsimp only [List.set]
              refine g_goto C dX5_layCorners_79 (tgt := 17) (by decide) ?_
              first | exact keep (by omega) | exact new (by omega)
  have ⟨q0, q1, q2, q3, q4, q5, q6, q7, q8, q9, q10, q11⟩ := M
  refine g_aload_n C dX5_layCorners_0 rfl ?_
  refine g_iconst C dX5_layCorners_1 ?_
  refine g_put C FX5_74 dX5_layCorners_2 (by assumption) rfl rfl (Nat.le_of_ble_eq_true rfl) ?_
  dsimp only [List.set]
  refine mo_s_cc 0 rfl M hm ?_
  intro h9 M hm
  have ⟨q0, q1, q2, q3, q4, q5, q6, q7, q8, q9, q10, q11⟩ := M
  refine g_aload_n C dX5_layCorners_5 rfl ?_
  refine g_get C FX5_63 dX5_layCorners_6 (by assumption) rfl ?_
  refine g_if_ne C dX5_layCorners_9 (tgt := 13) (by decide) (by omega) (fun h9 => ?_) (fun h9 => ?_)
  · refine g_iconst C dX5_layCorners_13 ?_
    refine g_istore_n C dX5_layCorners_14 (by decide) rfl ?_
    dsimp only [List.set]
    refine g_iconst C dX5_layCorners_15 ?_
    refine g_istore_n C dX5_layCorners_16 (by decide) rfl ?_
    dsimp only [List.set]
    exact scan _ M hm (pt - 1) 1 0 (by omega) (by omega) (fun i hi => by
      have : i = 0 := by omega
      subst this; exact Int.le_refl _)
  · exact kr _ _ _ dX5_layCorners_12 ⟨rfl, co, 0, M, ⟨hr, hi, hp, eS, by rw [eQ]; show 0 = cn; omega, by omega, fun _ => 0, fun i hi => by omega⟩, hm⟩ hm.1
theorem tm_nxi {cn i : Nat} (hi : i < cn) (hc : cn ≤ 128) : ((i : Int) + 1).tmod (cn : Int) = (nxi cn i : Int) := by
  unfold nxi
  by_cases q : i + 1 < cn
  · rw [if_pos q]
    have : ((i : Int) + 1).tmod (cn : Int) = ((i + 1 : Nat) : Int) := by
      rw [Int.tmod_eq_emod_of_nonneg (by omega)]
      exact Int.emod_eq_of_lt (by omega) (by omega)
    exact this
  · rw [if_neg q, show (i : Int) + 1 = (cn : Int) by omega, Int.tmod_self]; rfl
theorem laid.cr {S : Int → Int → Prop} (L : laid xs ys pt co cc S) : ∀ e, e < (hC S).1 → (0 ≤ (hC S).2.1 e ∧ (hC S).2.1 e ≤ 84) ∧ (0 ≤ (hC S).2.2 e ∧ (hC S).2.2 e ≤ 84) := fun e he => by
  obtain ⟨hr, hi, hp, eS, ec, hc, r, h⟩ := L
  have := h e (by omega)
  rw [← this.2.2.1, ← this.2.2.2]
  exact hr _ this.2.1
theorem r_area (M : mz h a s c xs ys pt co cc) {S : Int → Int → Prop} (L : laid xs ys pt co cc S) : ax_Met MX5_area [rv a] h (some (iv (hA S))) h := by
  have ⟨q0, q1, q2, q3, q4, q5, q6, q7, q8, q9, q10, q11⟩ := M
  obtain ⟨hr, hi, hp, eS, ec, hc, r, hL⟩ := L
  unfold hA
  rw [← ec]
  generalize (hC S).2.1 = cx at *
  generalize (hC S).2.2 = cy at *
  refine ax_mi (L0 := [some (rv a), none, none, none, none]) rfl rfl (Nat.le_refl _) (Nat.le_refl _) (Nat.le_of_ble_eq_true rfl) rfl ?_
  intro p9 l9 e9 R9 s9 m9 args9 below9 meth9 c9 b9 D9 dA9 Q9 C kr
  have loop : ∀ (d k : Nat) (x3 x4 : Option ax_V), k + d = cc → ax_G p9 l9 e9 R9 s9 m9 args9 below9 meth9 c9 b9 D9 dA9 MX5_area.2.2.1 h.length (ax_sz h) Q9 (4) ([some (rv a), some (iv (arS cx cy cc k)), some (iv (k : Int)), x3, x4]) ([]) (h) := by
    intro d
    induction d with
    | zero =>
      intro k x3 x4 hk
      have ek : k = cc := by omega
      subst ek
      refine g_iload_n C dX5_area_4 rfl ?_
      refine g_aload_n C dX5_area_5 rfl ?_
      refine g_get C FX5_74 dX5_area_6 (by assumption) rfl ?_
      refine g_icmp_ge C dX5_area_9 (tgt := 72) (by decide) (by omega) (by omega) (fun h9 => ?_) (fun h9 => ?_)
      · refine g_iload_n C dX5_area_72 rfl ?_
        exact kr _ _ _ dX5_area_73 rfl
      · exfalso; omega
    | succ d ih =>
      intro k x3 x4 hk
      have hk1 := hL k (by omega)
      have hn := nxi_lt (cn := cc) (i := k) (by omega)
      have hk2 := hL (nxi cc k) hn
      refine g_iload_n C dX5_area_4 rfl ?_
      refine g_aload_n C dX5_area_5 rfl ?_
      refine g_get C FX5_74 dX5_area_6 (by assumption) rfl ?_
      refine g_icmp_ge C dX5_area_9 (tgt := 72) (by decide) (by omega) (by omega) (fun h9 => ?_) (fun h9 => ?_)
      · exfalso; omega
      · refine g_aload_n C dX5_area_12 rfl ?_
        refine g_get C FX5_26 dX5_area_13 (by assumption) rfl ?_
        refine g_iload_n C dX5_area_16 rfl ?_
        refine g_iald C dX5_area_17 (by assumption) rfl (by omega) (by decide) ?_
        rw [hk1.1]
        refine g_istore_n C dX5_area_18 (by decide) rfl ?_
        dsimp only [List.set]
        refine g_aload_n C dX5_area_19 rfl ?_
        refine g_get C FX5_26 dX5_area_20 (by assumption) rfl ?_
        refine g_iload_n C dX5_area_23 rfl ?_
        refine g_iconst C dX5_area_24 ?_
        refine g_iadd C dX5_area_25 ?_
        refine g_aload_n C dX5_area_26 rfl ?_
        refine g_get C FX5_74 dX5_area_27 (by assumption) rfl ?_
        refine g_irem C dX5_area_30 (by omega) (by omega) (by omega) ?_
        rw [tm_nxi (by omega) hc]
        refine g_iald C dX5_area_31 (by assumption) rfl (by omega) (by decide) ?_
        rw [hk2.1]
        refine g_istore C dX5_area_32 (by decide) rfl ?_
        dsimp only [List.set]
        refine g_iload_n C dX5_area_34 rfl ?_
        refine g_aload_n C dX5_area_35 rfl ?_
        refine g_get C FX5_20 dX5_area_36 (by assumption) rfl ?_
        refine g_iload_n C dX5_area_39 rfl ?_
        refine g_iald C dX5_area_40 (by assumption) rfl (by omega) (by decide) ?_
        rw [hk1.2.2.1]
        refine g_aload_n C dX5_area_41 rfl ?_
        refine g_get C FX5_23 dX5_area_42 (by assumption) rfl ?_
        refine g_iload C dX5_area_45 rfl ?_
        refine g_iald C dX5_area_47 (by assumption) rfl (by omega) (by decide) ?_
        rw [hk2.2.2.2]
        refine g_imul C dX5_area_48 ?_
        refine g_aload_n C dX5_area_49 rfl ?_
        refine g_get C FX5_20 dX5_area_50 (by assumption) rfl ?_
        refine g_iload C dX5_area_53 rfl ?_
        refine g_iald C dX5_area_55 (by assumption) rfl (by omega) (by decide) ?_
        rw [hk2.2.2.1]
        refine g_aload_n C dX5_area_56 rfl ?_
        refine g_get C FX5_23 dX5_area_57 (by assumption) rfl ?_
        refine g_iload_n C dX5_area_60 rfl ?_
        refine g_iald C dX5_area_61 (by assumption) rfl (by omega) (by decide) ?_
        rw [hk1.2.2.2]
        refine g_imul C dX5_area_62 ?_
        refine g_isub C dX5_area_63 ?_
        refine g_iadd C dX5_area_64 ?_
        refine g_istore_n C dX5_area_65 (by decide) rfl ?_
        dsimp only [List.set]
        refine g_iinc C dX5_area_66 (by decide) rfl rfl ?_
        dsimp only [List.set]
        refine g_goto C dX5_area_69 (tgt := 4) (by decide) ?_
        exact ih (k + 1) _ _ (by omega)
  refine g_iconst C dX5_area_0 ?_
  refine g_istore_n C dX5_area_1 (by decide) rfl ?_
  dsimp only [List.set]
  refine g_iconst C dX5_area_2 ?_
  refine g_istore_n C dX5_area_3 (by decide) rfl ?_
  dsimp only [List.set]
  exact loop cc 0 _ _ (by omega)
theorem r_span (M : mz h a s c xs ys pt co cc) {S : Int → Int → Prop} (L : laid xs ys pt co cc S) : ax_Met MX5_span [rv a] h (some (iv (hS S))) h := by
  have ⟨q0, q1, q2, q3, q4, q5, q6, q7, q8, q9, q10, q11⟩ := M
  obtain ⟨hr, hi, hp, eS, ec, hc, r, hL⟩ := L
  unfold hS
  rw [← ec]
  refine ax_mi (L0 := [some (rv a)]) rfl rfl (Nat.le_refl _) (Nat.le_refl _) (Nat.le_of_ble_eq_true rfl) rfl ?_
  intro p9 l9 e9 R9 s9 m9 args9 below9 meth9 c9 b9 D9 dA9 Q9 C kr
  refine g_aload_n C dX5_span_0 rfl ?_
  refine g_get C FX5_74 dX5_span_1 (by assumption) rfl ?_
  refine g_if_ne C dX5_span_4 (tgt := 12) (by decide) (by omega) (fun h4 => ?_) (fun h4 => ?_)
  · refine g_aload_n C dX5_span_12 rfl ?_
    refine g_get C FX5_74 dX5_span_13 (by assumption) rfl ?_
    refine g_iconst C dX5_span_16 ?_
    refine g_icmp_le C dX5_span_17 (tgt := 24) (by decide) (by omega) (by omega) (fun h17 => ?_) (fun h17 => ?_)
    · refine g_aload_n C dX5_span_24 rfl ?_
      refine g_get C FX5_74 dX5_span_25 (by assumption) rfl ?_
      refine g_iconst C dX5_span_28 ?_
      refine g_isub C dX5_span_29 ?_
      exact kr _ _ _ dX5_span_30 (congrArg (fun z => some (iv z)) (by (repeat (first | rw [if_pos (by omega)] | rw [if_neg (by omega)])) <;> omega))
    · refine g_iconst C dX5_span_20 ?_
      refine g_goto C dX5_span_21 (tgt := 30) (by decide) ?_
      exact kr _ _ _ dX5_span_30 (congrArg (fun z => some (iv z)) (by (repeat (first | rw [if_pos (by omega)] | rw [if_neg (by omega)])) <;> omega))
  · refine g_bipush C dX5_span_7 (by decide) ?_
    refine g_goto C dX5_span_9 (tgt := 30) (by decide) ?_
    exact kr _ _ _ dX5_span_30 (congrArg (fun z => some (iv z)) (by (repeat (first | rw [if_pos (by omega)] | rw [if_neg (by omega)])) <;> omega))
end MK
