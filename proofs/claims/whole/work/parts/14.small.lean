section SM
variable {p : Program} {l : Launch} {e : Env} {R : Room} {s : State} {m : MethodId} {args : Array Value} {below : List Frame} {meth : Method} {c : Code} {b : Nat} {D : va_G} {dA : Nat → ClassId} {nL n0 z0 : Nat} {Q : State → Prop} {cc : ByteArray} {own : String} {ht : Nat} {pc : Nat} {L : List (Option ax_V)} {st : List ax_V} {h : ax_H}
theorem g_iincT (C : ax_C p R s m args meth c b D dA nL n0 cc own ht) {i : Nat} {n z z2 : Int} {L' : List (Option ax_V)} (hd : decode cc pc = .ok (.iinc i n, 3)) (hn : i < nL) (hi : L[i]? = some (some (.inl z))) (hz : z + n = z2) (hL : L.set i (some (.inl z2)) = L') (k : ax_G p l e R s m args below meth c b D dA nL n0 z0 Q (pc + 3) (L') (st) (h)) : ax_G p l e R s m args below meth c b D dA nL n0 z0 Q (pc) (L) (st) (h) := by
  subst hz
  exact g_iinc C hd hn hi hL k
theorem g_gen {F : ax_H → Prop} (hF : F h) (k : ∀ h' : ax_H, F h' → ax_G p l e R s m args below meth c b D dA nL n0 z0 Q (pc) (L) (st) (h')) : ax_G p l e R s m args below meth c b D dA nL n0 z0 Q (pc) (L) (st) (h) := k h hF
end SM
theorem mb2 {u x U M : Int} (h1 : -U ≤ u ∧ u ≤ U) (h3 : -M ≤ x ∧ x ≤ M) : -(U * M) ≤ u * x ∧ u * x ≤ U * M := by
  by_cases h : 0 ≤ x
  · exact mb h1 ⟨h, h3.2⟩
  · have := mb (x := -x) (M := M) h1 ⟨by omega, by omega⟩
    rw [Int.mul_neg] at this
    omega
/-! small methods of MixedCells, Integer -/
theorem t_isWithin {h : ax_H} {x y z : Int} (hx : -2147483648 ≤ x ∧ x < 2147483648) (hy : -2147483648 ≤ y ∧ y < 2147483648) (hz : -2147483648 ≤ z ∧ z < 2147483648) : ax_Met MX4_isWithin [iv x, iv y, iv z] h (some (iv (if y ≤ x ∧ x ≤ z then 1 else 0))) h := by
  refine ax_mz (L0 := [some (iv x), some (iv y), some (iv z)]) rfl rfl (Nat.le_refl _) (Nat.le_refl _) (Nat.le_of_ble_eq_true rfl) rfl ?_
  intro p9 l9 e9 R9 s9 m9 args9 below9 meth9 c9 b9 D9 dA9 Q9 C kr
  refine g_iload_n C dX4_isWithin_0 rfl ?_
  refine g_iload_n C dX4_isWithin_1 rfl ?_
  refine g_icmp_lt C dX4_isWithin_2 (tgt := 14) (by decide) (by omega) (by omega) (fun h2 => ?_) (fun h2 => ?_)
  · refine g_iconst C dX4_isWithin_14 ?_
    first | exact kr _ _ _ dX4_isWithin_15 (Or.inr rfl) (by rw [if_pos (by omega)]) | exact kr _ _ _ dX4_isWithin_15 (Or.inl rfl) (by rw [if_neg (by omega)])
  · refine g_iload_n C dX4_isWithin_5 rfl ?_
    refine g_iload_n C dX4_isWithin_6 rfl ?_
    refine g_icmp_gt C dX4_isWithin_7 (tgt := 14) (by decide) (by omega) (by omega) (fun h7 => ?_) (fun h7 => ?_)
    · refine g_iconst C dX4_isWithin_14 ?_
      first | exact kr _ _ _ dX4_isWithin_15 (Or.inr rfl) (by rw [if_pos (by omega)]) | exact kr _ _ _ dX4_isWithin_15 (Or.inl rfl) (by rw [if_neg (by omega)])
    · refine g_iconst C dX4_isWithin_10 ?_
      refine g_goto C dX4_isWithin_11 (tgt := 15) (by decide) ?_
      first | exact kr _ _ _ dX4_isWithin_15 (Or.inr rfl) (by rw [if_pos (by omega)]) | exact kr _ _ _ dX4_isWithin_15 (Or.inl rfl) (by rw [if_neg (by omega)])
theorem t_compare {h : ax_H} {x y : Int} (hx : -2147483648 ≤ x ∧ x < 2147483648) (hy : -2147483648 ≤ y ∧ y < 2147483648) : ax_Met MJ6_compare_7cf53 [iv x, iv y] h (some (iv (if x < y then -1 else if x = y then 0 else 1))) h := by
  refine ax_mi (L0 := [some (iv x), some (iv y)]) rfl rfl (Nat.le_refl _) (Nat.le_refl _) (Nat.le_of_ble_eq_true rfl) rfl ?_
  intro p9 l9 e9 R9 s9 m9 args9 below9 meth9 c9 b9 D9 dA9 Q9 C kr
  refine g_iload_n C dJ6_compare_7cf53_0 rfl ?_
  refine g_iload_n C dJ6_compare_7cf53_1 rfl ?_
  refine g_icmp_ge C dJ6_compare_7cf53_2 (tgt := 9) (by decide) (by omega) (by omega) (fun h2 => ?_) (fun h2 => ?_)
  · refine g_iload_n C dJ6_compare_7cf53_9 rfl ?_
    refine g_iload_n C dJ6_compare_7cf53_10 rfl ?_
    refine g_icmp_ne C dJ6_compare_7cf53_11 (tgt := 18) (by decide) (by omega) (by omega) (fun h11 => ?_) (fun h11 => ?_)
    · refine g_iconst C dJ6_compare_7cf53_18 ?_
      first | exact kr _ _ _ dJ6_compare_7cf53_19 (by rw [if_pos (by omega)]) | exact kr _ _ _ dJ6_compare_7cf53_19 (by rw [if_neg (by omega), if_pos (by omega)]) | exact kr _ _ _ dJ6_compare_7cf53_19 (by rw [if_neg (by omega), if_neg (by omega)])
    · refine g_iconst C dJ6_compare_7cf53_14 ?_
      refine g_goto C dJ6_compare_7cf53_15 (tgt := 19) (by decide) ?_
      first | exact kr _ _ _ dJ6_compare_7cf53_19 (by rw [if_pos (by omega)]) | exact kr _ _ _ dJ6_compare_7cf53_19 (by rw [if_neg (by omega), if_pos (by omega)]) | exact kr _ _ _ dJ6_compare_7cf53_19 (by rw [if_neg (by omega), if_neg (by omega)])
  · refine g_iconst C dJ6_compare_7cf53_5 ?_
    refine g_goto C dJ6_compare_7cf53_6 (tgt := 19) (by decide) ?_
    first | exact kr _ _ _ dJ6_compare_7cf53_19 (by rw [if_pos (by omega)]) | exact kr _ _ _ dJ6_compare_7cf53_19 (by rw [if_neg (by omega), if_pos (by omega)]) | exact kr _ _ _ dJ6_compare_7cf53_19 (by rw [if_neg (by omega), if_neg (by omega)])
def euF : Nat → Nat → Nat → Nat
  | 0, a, _ => a
  | d + 1, a, b => if b = 0 then a else euF d b (a % b)
theorem euF_0 : ∀ d a, euF d a 0 = a
  | 0, _ => rfl
  | d + 1, a => by rw [euF, if_pos rfl]
theorem euF_gcd : ∀ (m d a b : Nat), b < 2 ^ m → 2 * m ≤ d → euF d a b = Nat.gcd a b
  | 0, d, a, b, hb, _ => by
    have : b = 0 := by simp at hb; exact hb
    subst this
    rw [euF_0, Nat.gcd_zero_right]
  | m + 1, d, a, b, hb, hd => by
    by_cases b0 : b = 0
    · subst b0; rw [euF_0, Nat.gcd_zero_right]
    obtain ⟨d2, rfl⟩ : ∃ d2, d = d2 + 2 := ⟨d - 2, by omega⟩
    rw [euF, if_neg b0, euF]
    have e1 : Nat.gcd a b = Nat.gcd b (a % b) := by rw [Nat.gcd_comm a b, Nat.gcd_rec b a, Nat.gcd_comm]
    by_cases r0 : a % b = 0
    · rw [if_pos r0, e1, r0, Nat.gcd_zero_right]
    · rw [if_neg r0, e1]
      have hr := Nat.mod_lt a (show b > 0 by omega)
      have h1 := Nat.mod_lt b (show a % b > 0 by omega)
      have h2 : b % (a % b) + (a % b) ≤ b := by
        have q := Nat.div_add_mod b (a % b)
        have q2 : 1 ≤ b / (a % b) := Nat.div_pos (by omega) (by omega)
        have q3 : (a % b) * 1 ≤ (a % b) * (b / (a % b)) := Nat.mul_le_mul_left _ q2
        omega
      have hp : 2 ^ (m + 1) = 2 ^ m * 2 := Nat.pow_succ 2 m
      rw [euF_gcd m d2 (a % b) (b % (a % b)) (by omega) (by omega)]
      have e2 : Nat.gcd b (a % b) = Nat.gcd (a % b) (b % (a % b)) := by rw [Nat.gcd_comm b (a % b), Nat.gcd_rec (a % b) b, Nat.gcd_comm]
      exact e2.symm
theorem t_commonDivisor {h : ax_H} {x y : Nat} (hx : x < 2147483648) (hy : y < 2147483648) : ax_Met MX4_commonDivisor [iv (x : Int), iv (y : Int)] h (some (iv (Nat.gcd x y : Int))) h := by
  refine ax_mi (L0 := [some (iv (x : Int)), some (iv (y : Int)), none, none, none, none]) rfl rfl (Nat.le_refl _) (Nat.le_refl _) (Nat.le_of_ble_eq_true rfl) rfl ?_
  intro p9 l9 e9 R9 s9 m9 args9 below9 meth9 c9 b9 D9 dA9 Q9 C kr
  have loop : ∀ (d k u v : Nat) (x5 : Option ax_V), k + d = 64 → u < 2147483648 → v < 2147483648 → Nat.gcd x y = euF d u v → ax_G p9 l9 e9 R9 s9 m9 args9 below9 meth9 c9 b9 D9 dA9 MX4_commonDivisor.2.2.1 h.length (ax_sz h) Q9 (7) ([some (iv (x : Int)), some (iv (y : Int)), some (iv (u : Int)), some (iv (v : Int)), some (iv (k : Int)), x5]) ([]) (h) := by
    intro d
    induction d with
    | zero =>
      intro k u v x5 hk hu hv e
      refine g_iload C dX4_commonDivisor_7 rfl ?_
      refine g_bipush C dX4_commonDivisor_9 (by decide) ?_
      refine g_icmp_ge C dX4_commonDivisor_11 (tgt := 34) (by decide) (by omega) (by omega) (fun h11 => ?_) (fun h11 => ?_)
      · refine g_iload_n C dX4_commonDivisor_34 rfl ?_
        exact kr _ _ _ dX4_commonDivisor_35 (congrArg (fun z : Nat => some (iv (z : Int))) e)
      · exfalso; omega
    | succ d ih =>
      intro k u v x5 hk hu hv e
      rw [euF] at e
      refine g_iload C dX4_commonDivisor_7 rfl ?_
      refine g_bipush C dX4_commonDivisor_9 (by decide) ?_
      refine g_icmp_ge C dX4_commonDivisor_11 (tgt := 34) (by decide) (by omega) (by omega) (fun h11 => ?_) (fun h11 => ?_)
      · exfalso; omega
      · refine g_iload_n C dX4_commonDivisor_14 rfl ?_
        refine g_if_eq C dX4_commonDivisor_15 (tgt := 34) (by decide) (by omega) (fun h15 => ?_) (fun h15 => ?_)
        · rw [if_pos (by omega)] at e
          refine g_iload_n C dX4_commonDivisor_34 rfl ?_
          exact kr _ _ _ dX4_commonDivisor_35 (congrArg (fun z : Nat => some (iv (z : Int))) e)
        · rw [if_neg (by omega)] at e
          refine g_iload_n C dX4_commonDivisor_18 rfl ?_
          refine g_iload_n C dX4_commonDivisor_19 rfl ?_
          refine g_irem C dX4_commonDivisor_20 (by omega) (by omega) (by omega) ?_
          refine g_top (Int.ofNat_tmod u v).symm ?_
          refine g_istore C dX4_commonDivisor_21 (by decide) rfl ?_
          dsimp only [List.set]
          refine g_iload_n C dX4_commonDivisor_23 rfl ?_
          refine g_istore_n C dX4_commonDivisor_24 (by decide) rfl ?_
          dsimp only [List.set]
          refine g_iload C dX4_commonDivisor_25 rfl ?_
          refine g_istore_n C dX4_commonDivisor_27 (by decide) rfl ?_
          dsimp only [List.set]
          refine g_iinc C dX4_commonDivisor_28 (by decide) rfl rfl ?_
          dsimp only [List.set]
          refine g_goto C dX4_commonDivisor_31 (tgt := 7) (by decide) ?_
          exact ih (k + 1) v (u % v) _ (by omega) hv (by have := Nat.mod_lt u (show v > 0 by omega); omega) e
  refine g_iload_n C dX4_commonDivisor_0 rfl ?_
  refine g_istore_n C dX4_commonDivisor_1 (by decide) rfl ?_
  dsimp only [List.set]
  refine g_iload_n C dX4_commonDivisor_2 rfl ?_
  refine g_istore_n C dX4_commonDivisor_3 (by decide) rfl ?_
  dsimp only [List.set]
  refine g_iconst C dX4_commonDivisor_4 ?_
  refine g_istore C dX4_commonDivisor_5 (by decide) rfl ?_
  dsimp only [List.set]
  exact loop 64 0 x y none rfl hx hy (euF_gcd 31 64 x y (by omega) (by omega)).symm
