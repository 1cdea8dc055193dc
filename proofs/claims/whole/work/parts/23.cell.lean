section CE
variable {p : Program} {l : Launch} {e : Env} {R : Room} {s : State} {m : MethodId} {args : Array Value} {below : List Frame} {meth : Method} {c : Code} {b : Nat} {D : va_G} {dA : Nat → ClassId} {nL n0 z0 : Nat} {Q : State → Prop} {pc : Nat} {L : List (Option ax_V)} {st : List ax_V} {h hb : ax_H} {a : Nat}
/-- a store into an object of kind ci, looked at as that cell alone -/
theorem ob_s {ci : Nat} {fs fs2 : List ax_V} (B : h[a]? = some (.inr (ci, fs))) (S : ax_sm a (a + 1) hb h) (hl : fs2.length = fs.length) (k : ∀ hh : ax_H, hh[a]? = some (.inr (ci, fs2)) → ax_sm a (a + 1) hb hh → ax_G p l e R s m args below meth c b D dA nL n0 z0 Q pc L st hh) : ax_G p l e R s m args below meth c b D dA nL n0 z0 Q pc L st (h.set a (.inr (ci, fs2))) := k _ (ax_gs B) (S.tr (ax_sm.set B hl (by omega) (by omega)))
end CE
theorem t_setSlope {h : ax_H} {a : Nat} {x1 x2 x3 x4 x5 x6 : Int} (hC : h[a]? = some (.inr (1, [iv x1, iv x2, iv x3, iv x4, iv x5, iv x6]))) {u v w : Int} (hu : -1000000 ≤ u ∧ u ≤ 1000000) (hv : -1000000 ≤ v ∧ v ≤ 1000000) (hw : 0 < w ∧ w ≤ 1000000) : ax_Mt MX1_setSlope [rv a, iv u, iv v, iv w] h (fun r h' => r = none ∧ h'[a]? = some (.inr (1, [iv (fU u w), iv (fL u w), iv (fU v w), iv (fL v w), iv x5, iv x6])) ∧ ax_sm a (a + 1) h h') := by
  have hm := ax_sm.rf (lo := a) (hi := a + 1) h
  have g1 := (f_ok (u := u) hw.1).1
  have g2 := (f_ok (u := v) hw.1).1
  have g3 : Nat.gcd u.natAbs w.natAbs ≤ w.natAbs := Nat.gcd_le_right _ (by omega)
  have g4 : Nat.gcd v.natAbs w.natAbs ≤ w.natAbs := Nat.gcd_le_right _ (by omega)
  refine ax_rv (L0 := [some (rv a), some (iv u), some (iv v), some (iv w), none, none]) rfl rfl (Nat.le_of_ble_eq_true rfl) rfl ?_
  intro p9 l9 e9 R9 s9 m9 args9 below9 meth9 c9 b9 D9 dA9 Q9 C kr
  refine g_iconst C dX1_setSlope_0 ?_
  refine g_iload_n C dX1_setSlope_1 rfl ?_
  refine g_mabs C dX1_setSlope_2 LX1_7 (by decide) (Nat.le_of_ble_eq_true rfl) (by omega) ?_
  refine g_top (ax_abs _) ?_
  refine g_iload_n C dX1_setSlope_5 rfl ?_
  refine g_top (show w = (w.natAbs : Int) by omega) ?_
  refine g_SN C (t_commonDivisor (by omega) (by omega)) dX1_setSlope_6 KX4_commonDivisor LX1_13 SX4_commonDivisor (by decide) rfl rfl (Nat.le_of_ble_eq_true rfl) ⟨rfl, rfl⟩ ?_
  dsimp only [Option.toList, List.cons_append, List.nil_append]
  refine g_mmax C dX1_setSlope_9 LX1_19 (by decide) (Nat.le_of_ble_eq_true rfl) (by omega) (by omega) ?_
  refine g_top (show _ = (Nat.gcd u.natAbs w.natAbs : Int) from by split <;> omega) ?_
  refine g_istore C dX1_setSlope_12 (by decide) rfl ?_
  dsimp only [List.set]
  refine g_iconst C dX1_setSlope_14 ?_
  refine g_iload_n C dX1_setSlope_15 rfl ?_
  refine g_mabs C dX1_setSlope_16 LX1_7 (by decide) (Nat.le_of_ble_eq_true rfl) (by omega) ?_
  refine g_top (ax_abs _) ?_
  refine g_iload_n C dX1_setSlope_19 rfl ?_
  refine g_top (show w = (w.natAbs : Int) by omega) ?_
  refine g_SN C (t_commonDivisor (by omega) (by omega)) dX1_setSlope_20 KX4_commonDivisor LX1_13 SX4_commonDivisor (by decide) rfl rfl (Nat.le_of_ble_eq_true rfl) ⟨rfl, rfl⟩ ?_
  dsimp only [Option.toList, List.cons_append, List.nil_append]
  refine g_mmax C dX1_setSlope_23 LX1_19 (by decide) (Nat.le_of_ble_eq_true rfl) (by omega) (by omega) ?_
  refine g_top (show _ = (Nat.gcd v.natAbs w.natAbs : Int) from by split <;> omega) ?_
  refine g_istore C dX1_setSlope_26 (by decide) rfl ?_
  dsimp only [List.set]
  refine g_aload_n C dX1_setSlope_28 rfl ?_
  refine g_iload_n C dX1_setSlope_29 rfl ?_
  refine g_iload C dX1_setSlope_30 rfl ?_
  refine g_idiv C dX1_setSlope_32 (by omega) (by omega) (by omega) ?_
  refine g_put C FX1_22 dX1_setSlope_33 (by assumption) rfl rfl (Nat.le_of_ble_eq_true rfl) ?_
  dsimp only [List.set]
  refine ob_s hC hm rfl ?_
  intro h9 hC hm
  refine g_aload_n C dX1_setSlope_36 rfl ?_
  refine g_iload_n C dX1_setSlope_37 rfl ?_
  refine g_iload C dX1_setSlope_38 rfl ?_
  refine g_idiv C dX1_setSlope_40 (by omega) (by omega) (by omega) ?_
  refine g_put C FX1_28 dX1_setSlope_41 (by assumption) rfl rfl (Nat.le_of_ble_eq_true rfl) ?_
  dsimp only [List.set]
  refine ob_s hC hm rfl ?_
  intro h9 hC hm
  refine g_aload_n C dX1_setSlope_44 rfl ?_
  refine g_iload_n C dX1_setSlope_45 rfl ?_
  refine g_iload C dX1_setSlope_46 rfl ?_
  refine g_idiv C dX1_setSlope_48 (by omega) (by omega) (by omega) ?_
  refine g_put C FX1_31 dX1_setSlope_49 (by assumption) rfl rfl (Nat.le_of_ble_eq_true rfl) ?_
  dsimp only [List.set]
  refine ob_s hC hm rfl ?_
  intro h9 hC hm
  refine g_aload_n C dX1_setSlope_52 rfl ?_
  refine g_iload_n C dX1_setSlope_53 rfl ?_
  refine g_iload C dX1_setSlope_54 rfl ?_
  refine g_idiv C dX1_setSlope_56 (by omega) (by omega) (by omega) ?_
  refine g_put C FX1_34 dX1_setSlope_57 (by assumption) rfl rfl (Nat.le_of_ble_eq_true rfl) ?_
  dsimp only [List.set]
  refine ob_s hC hm rfl ?_
  intro h9 hC hm
  exact kr _ _ _ dX1_setSlope_60 ⟨rfl, hC, hm⟩ hm.1
/-- a slope as a Cell holds it, with its low points -/
def rcd (LA LB : Tr → Int) (t : Tr) : List ax_V := [iv (fU t.1 t.2.2), iv (fL t.1 t.2.2), iv (fU t.2.1 t.2.2), iv (fL t.2.1 t.2.2), iv (LA t), iv (LB t)]
def cmp3 (s t : Tr) : Int := if s.1 * t.2.2 < t.1 * s.2.2 then -1 else if s.1 * t.2.2 = t.1 * s.2.2 then (if s.2.1 * t.2.2 < t.2.1 * s.2.2 then -1 else if s.2.1 * t.2.2 = t.2.1 * s.2.2 then 0 else 1) else 1
theorem cmp3_lt (s t : Tr) : cmp3 s t < 0 ↔ tlt s t := by
  unfold cmp3 tlt
  constructor
  · intro z
    split at z
    · exact Or.inl (by assumption)
    · split at z
      · split at z
        · exact Or.inr ⟨by assumption, by assumption⟩
        · split at z <;> omega
      · omega
  · rintro (z | ⟨z1, z2⟩)
    · rw [if_pos z]; omega
    · rw [if_neg (by omega), if_pos z1, if_pos z2]; omega
theorem cmp3_eq (s t : Tr) : cmp3 s t = 0 ↔ teq s t := by
  unfold cmp3 teq
  constructor
  · intro z
    split at z
    · omega
    · split at z
      · split at z
        · omega
        · split at z
          · exact ⟨by assumption, by assumption⟩
          · omega
      · omega
  · rintro ⟨z1, z2⟩
    rw [if_neg (by omega), if_pos z1, if_neg (by omega), if_pos z2]
theorem cmp3_in (s t : Tr) : -1 ≤ cmp3 s t ∧ cmp3 s t ≤ 1 := by
  unfold cmp3
  split
  · omega
  · split
    · split
      · omega
      · split <;> omega
    · omega
def tbd (t : Tr) : Prop := (-10000 ≤ t.1 ∧ t.1 ≤ 10000) ∧ (-10000 ≤ t.2.1 ∧ t.2.1 ≤ 10000) ∧ (0 < t.2.2 ∧ t.2.2 ≤ 10000)
theorem f_in {u w : Int} (hw : 0 < w) : (-(u.natAbs : Int) ≤ fU u w ∧ fU u w ≤ (u.natAbs : Int)) ∧ (0 < fL u w ∧ fL u w ≤ w) := by
  obtain ⟨g0, e1, e2, p, c⟩ := f_ok (u := u) hw
  generalize (Nat.gcd u.natAbs w.natAbs : Int) = g at *
  generalize hfu : fU u w = a at *
  generalize hfl : fL u w = b at *
  have h1 : b ≤ w := by
    have := Int.mul_le_mul_of_nonneg_right (show 1 ≤ g by omega) (Int.le_of_lt p)
    omega
  refine ⟨?_, p, h1⟩
  by_cases q : 0 ≤ a
  · have := Int.mul_le_mul_of_nonneg_right (show 1 ≤ g by omega) q
    omega
  · have := Int.mul_le_mul_of_nonneg_right (show 1 ≤ g by omega) (show 0 ≤ -a by omega)
    rw [Int.mul_neg, Int.mul_neg] at this
    omega
theorem t_compareSlope {h : ax_H} {a a2 : Nat} {LA LB : Tr → Int} {s t : Tr} (h1 : h[a]? = some (.inr (1, rcd LA LB s))) (h2 : h[a2]? = some (.inr (1, rcd LA LB t))) (hs : tbd s) (ht : tbd t) : ax_Met MX1_compareSlope [rv a, rv a2] h (some (iv (cmp3 s t))) h := by
  have b1 := f_in (u := s.1) hs.2.2.1
  have b2 := f_in (u := s.2.1) hs.2.2.1
  have b3 := f_in (u := t.1) ht.2.2.1
  have b4 := f_in (u := t.2.1) ht.2.2.1
  obtain ⟨s1, s2, s3⟩ := hs
  obtain ⟨t1, t2, t3⟩ := ht
  have m1 := mb (u := fU s.1 s.2.2) (x := fL t.1 t.2.2) (U := 10000) (M := 10000) (by omega) (by omega)
  have m2 := mb (u := fU t.1 t.2.2) (x := fL s.1 s.2.2) (U := 10000) (M := 10000) (by omega) (by omega)
  have m3 := mb (u := fU s.2.1 s.2.2) (x := fL t.2.1 t.2.2) (U := 10000) (M := 10000) (by omega) (by omega)
  have m4 := mb (u := fU t.2.1 t.2.2) (x := fL s.2.1 s.2.2) (U := 10000) (M := 10000) (by omega) (by omega)
  have k1 := f_lt (u := s.1) (w := s.2.2) (u2 := t.1) (w2 := t.2.2) s3.1 t3.1
  have k2 := f_lt (u := s.2.1) (w := s.2.2) (u2 := t.2.1) (w2 := t.2.2) s3.1 t3.1
  unfold rcd at h1 h2
  refine ax_mi (L0 := [some (rv a), some (rv a2), none]) rfl rfl (Nat.le_refl _) (Nat.le_refl _) (Nat.le_of_ble_eq_true rfl) rfl ?_
  intro p9 l9 e9 R9 s9 m9 args9 below9 meth9 c9 b9 D9 dA9 Q9 C kr
  refine g_aload_n C dX1_compareSlope_0 rfl ?_
  refine g_get C FX1_22 dX1_compareSlope_1 (by assumption) rfl ?_
  refine g_aload_n C dX1_compareSlope_4 rfl ?_
  refine g_get C FX1_28 dX1_compareSlope_5 (by assumption) rfl ?_
  refine g_imul C dX1_compareSlope_8 ?_
  refine g_aload_n C dX1_compareSlope_9 rfl ?_
  refine g_get C FX1_22 dX1_compareSlope_10 (by assumption) rfl ?_
  refine g_aload_n C dX1_compareSlope_13 rfl ?_
  refine g_get C FX1_28 dX1_compareSlope_14 (by assumption) rfl ?_
  refine g_imul C dX1_compareSlope_17 ?_
  refine g_S C (t_compare (by omega) (by omega)) dX1_compareSlope_18 KJ6_compare_7cf53 LX1_37 SJ6_compare_7cf53 (by decide) rfl rfl (Nat.le_of_ble_eq_true rfl) ⟨rfl, rfl⟩ ?_
  dsimp only [Option.toList, List.cons_append, List.nil_append]
  refine g_top (show _ = (if s.1 * t.2.2 < t.1 * s.2.2 then -1 else if s.1 * t.2.2 = t.1 * s.2.2 then 0 else 1) from by simp only [k1.1, k1.2]) ?_
  refine g_istore_n C dX1_compareSlope_21 (by decide) rfl ?_
  dsimp only [List.set]
  refine g_iload_n C dX1_compareSlope_22 rfl ?_
  refine g_if_eq C dX1_compareSlope_23 (tgt := 30) (by decide) (by split <;> (try split) <;> omega) (fun h23 => ?_) (fun h23 => ?_)
  · have e0 : ¬ (s.1 * t.2.2 < t.1 * s.2.2) ∧ s.1 * t.2.2 = t.1 * s.2.2 := by
      split at h23
      · omega
      · split at h23
        · exact ⟨by assumption, by assumption⟩
        · omega
    refine g_aload_n C dX1_compareSlope_30 rfl ?_
    refine g_get C FX1_31 dX1_compareSlope_31 (by assumption) rfl ?_
    refine g_aload_n C dX1_compareSlope_34 rfl ?_
    refine g_get C FX1_34 dX1_compareSlope_35 (by assumption) rfl ?_
    refine g_imul C dX1_compareSlope_38 ?_
    refine g_aload_n C dX1_compareSlope_39 rfl ?_
    refine g_get C FX1_31 dX1_compareSlope_40 (by assumption) rfl ?_
    refine g_aload_n C dX1_compareSlope_43 rfl ?_
    refine g_get C FX1_34 dX1_compareSlope_44 (by assumption) rfl ?_
    refine g_imul C dX1_compareSlope_47 ?_
    refine g_S C (t_compare (by omega) (by omega)) dX1_compareSlope_48 KJ6_compare_7cf53 LX1_37 SJ6_compare_7cf53 (by decide) rfl rfl (Nat.le_of_ble_eq_true rfl) ⟨rfl, rfl⟩ ?_
    dsimp only [Option.toList, List.cons_append, List.nil_append]
    refine g_top (show _ = (if s.2.1 * t.2.2 < t.2.1 * s.2.2 then -1 else if s.2.1 * t.2.2 = t.2.1 * s.2.2 then 0 else 1) from by simp only [k2.1, k2.2]) ?_
    first
    | exact kr _ _ _ dX1_compareSlope_51 (by unfold cmp3; rw [if_neg e0.1, if_pos e0.2])
    | (refine kr _ _ _ dX1_compareSlope_51 ?_
       unfold cmp3
       by_cases q1 : s.1 * t.2.2 < t.1 * s.2.2
       · rw [if_pos q1, if_pos q1]
       · rw [if_neg q1, if_neg q1]
         by_cases q2 : s.1 * t.2.2 = t.1 * s.2.2
         · rw [if_neg q1, if_pos q2] at h23; exact absurd rfl h23
         · rw [if_neg q2, if_neg q2])
  · refine g_iload_n C dX1_compareSlope_26 rfl ?_
    refine g_goto C dX1_compareSlope_27 (tgt := 51) (by decide) ?_
    first
    | exact kr _ _ _ dX1_compareSlope_51 (by unfold cmp3; rw [if_neg e0.1, if_pos e0.2])
    | (refine kr _ _ _ dX1_compareSlope_51 ?_
       unfold cmp3
       by_cases q1 : s.1 * t.2.2 < t.1 * s.2.2
       · rw [if_pos q1, if_pos q1]
       · rw [if_neg q1, if_neg q1]
         by_cases q2 : s.1 * t.2.2 = t.1 * s.2.2
         · rw [if_neg q1, if_pos q2] at h23; exact absurd rfl h23
         · rw [if_neg q2, if_neg q2])
