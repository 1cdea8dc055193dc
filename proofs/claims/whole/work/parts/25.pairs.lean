section NZ
variable {p : Program} {l : Launch} {e : Env} {R : Room} {s : State} {m : MethodId} {args : Array Value} {below : List Frame} {meth : Method} {c : Code} {b : Nat} {D : va_G} {dA : Nat → ClassId} {nL n0 z0 : Nat} {Q : State → Prop} {cc : ByteArray} {own : String} {ht : Nat} {pc : Nat} {L : List (Option ax_V)} {st : List ax_V} {h : ax_H}
theorem g_ldcw (C : ax_C p R s m args meth c b D dA nL n0 cc own ht) {z : Int} {idx : Nat} {v : Int32} (hd : decode cc pc = .ok (.ldc_w idx, 3)) (hw : Cond.constant own idx v ∈ ax_tb) (hv : v = Int32.ofInt z) (k : ax_G p l e R s m args below meth c b D dA nL n0 z0 Q (pc + 3) (L) (iv z :: st) (h)) : ax_G p l e R s m args below meth c b D dA nL n0 z0 Q (pc) (L) (st) (h) := fun H ls locs cells slots I => lv_ldcw C.1 C.2.1 C.2.2.2.1 (C.2.2.2.2.1 _ hw) hd (by subst hv; exact k H ls locs cells slots I)
end NZ
/-! Integer.numberOfTrailingZeros, as its code goes -/
def ushr (x : Int) (k : Int) : Int := ((Int32.ofInt x).toUInt32 >>> ((Int32.ofInt k).toUInt32 &&& Int32.toUInt32 31)).toInt32.toInt
def nz5 (x n : Int) : Int := n + ushr x 1
def nz4 (x n : Int) : Int := if x ≤ 4 then nz5 x n else nz5 (ushr x 2) (n + 2)
def nz3 (x n : Int) : Int := if x ≤ 16 then nz4 x n else nz4 (ushr x 4) (n + 4)
def nz2 (x n : Int) : Int := if x ≤ 256 then nz3 x n else nz3 (ushr x 8) (n + 8)
def nz1 (x n : Int) : Int := if x ≤ 65536 then nz2 x n else nz2 (ushr x 16) (n + 16)
def nz0 (x : Int) : Int := (Int32.ofInt ((Int32.ofInt x ^^^ Int32.ofInt (-1)).toInt) &&& Int32.ofInt (x - 1)).toInt
def ntz (x : Int) : Int := if 0 < nz0 x then nz1 (nz0 x) 1 else (Int32.ofInt (nz0 x) &&& Int32.ofInt 32).toInt
theorem i32_in (x : Int32) : -2147483648 ≤ x.toInt ∧ x.toInt < 2147483648 := ⟨Int32.le_toInt x, Int32.toInt_lt x⟩
theorem ushr_in (x k : Int) : -2147483648 ≤ ushr x k ∧ ushr x k < 2147483648 := i32_in _
theorem t_ntz {h : ax_H} {x : Int} (hx : -2147483648 ≤ x ∧ x < 2147483648) : ax_Met MJ6_numberOfTrailingZeros_0f7a4 [iv x] h (some (iv (ntz x))) h := by
  refine ax_mi (L0 := [some (iv x), none]) rfl rfl (Nat.le_refl _) (Nat.le_refl _) (Nat.le_of_ble_eq_true rfl) rfl ?_
  intro p9 l9 e9 R9 s9 m9 args9 below9 meth9 c9 b9 D9 dA9 Q9 C kr
  have s74 : ∀ y n : Int, (-2147483648 ≤ y ∧ y < 2147483648) → ntz x = nz5 y n → ax_G p9 l9 e9 R9 s9 m9 args9 below9 meth9 c9 b9 D9 dA9 MJ6_numberOfTrailingZeros_0f7a4.2.2.1 h.length (ax_sz h) Q9 (74) ([some (iv y), some (iv n)]) ([]) (h) := by
    intro y n hy e
    refine g_iload_n C dJ6_numberOfTrailingZeros_0f7a4_74 rfl ?_
    refine g_iload_n C dJ6_numberOfTrailingZeros_0f7a4_75 rfl ?_
    refine g_iconst C dJ6_numberOfTrailingZeros_0f7a4_76 ?_
    refine g_iushr C dJ6_numberOfTrailingZeros_0f7a4_77 (z := ushr y 1) (Int32.ofInt_toInt _).symm ?_
    refine g_iadd C dJ6_numberOfTrailingZeros_0f7a4_78 ?_
    exact kr _ _ _ dJ6_numberOfTrailingZeros_0f7a4_79 (congrArg (fun z => some (iv z)) e)
  have s62 : ∀ y n : Int, (-2147483648 ≤ y ∧ y < 2147483648) → ntz x = nz4 y n → ax_G p9 l9 e9 R9 s9 m9 args9 below9 meth9 c9 b9 D9 dA9 MJ6_numberOfTrailingZeros_0f7a4.2.2.1 h.length (ax_sz h) Q9 (62) ([some (iv y), some (iv n)]) ([]) (h) := by
    intro y n hy e
    unfold nz4 at e
    refine g_iload_n C dJ6_numberOfTrailingZeros_0f7a4_62 rfl ?_
    refine g_iconst C dJ6_numberOfTrailingZeros_0f7a4_63 ?_
    refine g_icmp_le C dJ6_numberOfTrailingZeros_0f7a4_64 (tgt := 74) (by decide) (by omega) (by omega) (fun h64 => ?_) (fun h64 => ?_)
    · rw [if_pos h64] at e
      first | exact s74 y n hy e | exact s74 _ _ (ushr_in _ _) e
    · rw [if_neg h64] at e
      refine g_iinc C dJ6_numberOfTrailingZeros_0f7a4_67 (by decide) rfl rfl ?_
      dsimp only [List.set]
      refine g_iload_n C dJ6_numberOfTrailingZeros_0f7a4_70 rfl ?_
      refine g_iconst C dJ6_numberOfTrailingZeros_0f7a4_71 ?_
      refine g_iushr C dJ6_numberOfTrailingZeros_0f7a4_72 (z := ushr y 2) (Int32.ofInt_toInt _).symm ?_
      refine g_istore_n C dJ6_numberOfTrailingZeros_0f7a4_73 (by decide) rfl ?_
      dsimp only [List.set]
      first | exact s74 y n hy e | exact s74 _ _ (ushr_in _ _) e
  have s49 : ∀ y n : Int, (-2147483648 ≤ y ∧ y < 2147483648) → ntz x = nz3 y n → ax_G p9 l9 e9 R9 s9 m9 args9 below9 meth9 c9 b9 D9 dA9 MJ6_numberOfTrailingZeros_0f7a4.2.2.1 h.length (ax_sz h) Q9 (49) ([some (iv y), some (iv n)]) ([]) (h) := by
    intro y n hy e
    unfold nz3 at e
    refine g_iload_n C dJ6_numberOfTrailingZeros_0f7a4_49 rfl ?_
    refine g_bipush C dJ6_numberOfTrailingZeros_0f7a4_50 (by decide) ?_
    refine g_icmp_le C dJ6_numberOfTrailingZeros_0f7a4_52 (tgt := 62) (by decide) (by omega) (by omega) (fun h52 => ?_) (fun h52 => ?_)
    · rw [if_pos h52] at e
      first | exact s62 y n hy e | exact s62 _ _ (ushr_in _ _) e
    · rw [if_neg h52] at e
      refine g_iinc C dJ6_numberOfTrailingZeros_0f7a4_55 (by decide) rfl rfl ?_
      dsimp only [List.set]
      refine g_iload_n C dJ6_numberOfTrailingZeros_0f7a4_58 rfl ?_
      refine g_iconst C dJ6_numberOfTrailingZeros_0f7a4_59 ?_
      refine g_iushr C dJ6_numberOfTrailingZeros_0f7a4_60 (z := ushr y 4) (Int32.ofInt_toInt _).symm ?_
      refine g_istore_n C dJ6_numberOfTrailingZeros_0f7a4_61 (by decide) rfl ?_
      dsimp only [List.set]
      first | exact s62 y n hy e | exact s62 _ _ (ushr_in _ _) e
  have s34 : ∀ y n : Int, (-2147483648 ≤ y ∧ y < 2147483648) → ntz x = nz2 y n → ax_G p9 l9 e9 R9 s9 m9 args9 below9 meth9 c9 b9 D9 dA9 MJ6_numberOfTrailingZeros_0f7a4.2.2.1 h.length (ax_sz h) Q9 (34) ([some (iv y), some (iv n)]) ([]) (h) := by
    intro y n hy e
    unfold nz2 at e
    refine g_iload_n C dJ6_numberOfTrailingZeros_0f7a4_34 rfl ?_
    refine g_sipush C dJ6_numberOfTrailingZeros_0f7a4_35 (by decide) ?_
    refine g_icmp_le C dJ6_numberOfTrailingZeros_0f7a4_38 (tgt := 49) (by decide) (by omega) (by omega) (fun h38 => ?_) (fun h38 => ?_)
    · rw [if_pos h38] at e
      first | exact s49 y n hy e | exact s49 _ _ (ushr_in _ _) e
    · rw [if_neg h38] at e
      refine g_iinc C dJ6_numberOfTrailingZeros_0f7a4_41 (by decide) rfl rfl ?_
      dsimp only [List.set]
      refine g_iload_n C dJ6_numberOfTrailingZeros_0f7a4_44 rfl ?_
      refine g_bipush C dJ6_numberOfTrailingZeros_0f7a4_45 (by decide) ?_
      refine g_iushr C dJ6_numberOfTrailingZeros_0f7a4_47 (z := ushr y 8) (Int32.ofInt_toInt _).symm ?_
      refine g_istore_n C dJ6_numberOfTrailingZeros_0f7a4_48 (by decide) rfl ?_
      dsimp only [List.set]
      first | exact s49 y n hy e | exact s49 _ _ (ushr_in _ _) e
  have hz := i32_in (Int32.ofInt ((Int32.ofInt x ^^^ Int32.ofInt (-1)).toInt) &&& Int32.ofInt (x - 1))
  change -2147483648 ≤ nz0 x ∧ nz0 x < 2147483648 at hz
  refine g_iload_n C dJ6_numberOfTrailingZeros_0f7a4_0 rfl ?_
  refine g_iconst C dJ6_numberOfTrailingZeros_0f7a4_1 ?_
  refine g_ixor C dJ6_numberOfTrailingZeros_0f7a4_2 (z := (Int32.ofInt x ^^^ Int32.ofInt (-1)).toInt) (Int32.ofInt_toInt _).symm ?_
  refine g_iload_n C dJ6_numberOfTrailingZeros_0f7a4_3 rfl ?_
  refine g_iconst C dJ6_numberOfTrailingZeros_0f7a4_4 ?_
  refine g_isub C dJ6_numberOfTrailingZeros_0f7a4_5 ?_
  refine g_iand C dJ6_numberOfTrailingZeros_0f7a4_6 (z := nz0 x) (Int32.ofInt_toInt _).symm ?_
  refine g_istore_n C dJ6_numberOfTrailingZeros_0f7a4_7 (by decide) rfl ?_
  dsimp only [List.set]
  refine g_iload_n C dJ6_numberOfTrailingZeros_0f7a4_8 rfl ?_
  refine g_if_gt C dJ6_numberOfTrailingZeros_0f7a4_9 (tgt := 17) (by decide) (by omega) (fun h9 => ?_) (fun h9 => ?_)
  · refine g_iconst C dJ6_numberOfTrailingZeros_0f7a4_17 ?_
    refine g_istore_n C dJ6_numberOfTrailingZeros_0f7a4_18 (by decide) rfl ?_
    dsimp only [List.set]
    refine g_iload_n C dJ6_numberOfTrailingZeros_0f7a4_19 rfl ?_
    refine g_ldcw C dJ6_numberOfTrailingZeros_0f7a4_20 QJ6_264 (z := 65536) rfl ?_
    refine g_icmp_le C dJ6_numberOfTrailingZeros_0f7a4_23 (tgt := 34) (by decide) (by omega) (by omega) (fun h23 => ?_) (fun h23 => ?_)
    · have e : ntz x = nz2 (nz0 x) 1 := by unfold ntz; rw [if_pos h9]; unfold nz1; rw [if_pos h23]
      first | exact s34 _ _ hz e | exact s34 _ _ (ushr_in _ _) e
    · have e : ntz x = nz2 (ushr (nz0 x) 16) (1 + 16) := by unfold ntz; rw [if_pos h9]; unfold nz1; rw [if_neg h23]
      refine g_iinc C dJ6_numberOfTrailingZeros_0f7a4_26 (by decide) rfl rfl ?_
      dsimp only [List.set]
      refine g_iload_n C dJ6_numberOfTrailingZeros_0f7a4_29 rfl ?_
      refine g_bipush C dJ6_numberOfTrailingZeros_0f7a4_30 (by decide) ?_
      refine g_iushr C dJ6_numberOfTrailingZeros_0f7a4_32 (z := ushr (nz0 x) 16) (Int32.ofInt_toInt _).symm ?_
      refine g_istore_n C dJ6_numberOfTrailingZeros_0f7a4_33 (by decide) rfl ?_
      dsimp only [List.set]
      first | exact s34 _ _ hz e | exact s34 _ _ (ushr_in _ _) e
  · refine g_iload_n C dJ6_numberOfTrailingZeros_0f7a4_12 rfl ?_
    refine g_bipush C dJ6_numberOfTrailingZeros_0f7a4_13 (by decide) ?_
    refine g_iand C dJ6_numberOfTrailingZeros_0f7a4_15 (z := (Int32.ofInt (nz0 x) &&& Int32.ofInt 32).toInt) (Int32.ofInt_toInt _).symm ?_
    exact kr _ _ _ dJ6_numberOfTrailingZeros_0f7a4_16 (by unfold ntz; rw [if_neg h9])
theorem ntz_ok : ∀ j : Nat, j < 7 → ∀ i : Nat, i < j → ntz (((2 ^ i ||| 2 ^ j : Nat) : Int) * 2 ^ 0) = (i : Int) ∧ ntz (((2 ^ i ||| 2 ^ j : Nat) : Int) * 2 ^ 7) = (i : Int) + 7 := by decide +kernel
/-! the pairs of points -/
def tri (n : Nat) : Nat → Nat
  | 0 => 0
  | i + 1 => tri n i + (n - 1 - i)
theorem tri_in : ∀ n, n < 8 → ∀ i, i < n → ∀ j, j < n → i < j → tri n i + (j - i - 1) < 21 := by decide +kernel
theorem tri_n : ∀ n, n < 8 → ∀ i, i < 8 → tri n i ≤ 21 := by decide +kernel
/-- pairs q0 up to q1 are those of a body: I t below J t -/
def prs (dx dy dw en : Nat → Int) (q0 q1 : Nat) (X Y V : Nat → Int) (n fr : Nat) (I J : Nat → Nat) : Prop := (∀ t, q0 ≤ t → t < q1 → I t < J t ∧ J t < n ∧ dx t = X (J t) - X (I t) ∧ dy t = Y (J t) - Y (I t) ∧ dw t = V (J t) - V (I t) ∧ en t = ((2 ^ I t ||| 2 ^ J t : Nat) : Int) * 2 ^ fr) ∧ ∀ i j, i < j → j < n → ∃ t, q0 ≤ t ∧ t < q1 ∧ I t = i ∧ J t = j
theorem t_addPairs {h : ax_H} {a ab n pr fr m : Nat} {X Y V : Nat → Int} {fd : Nat → Option Nat} {dx dy dw en : Nat → Int} (hT : ct_at h a fd m dx dy dw en pr) (hB : bo_at h ab X Y V n) (hn : n ≤ 7) (hd : ab + 4 ≤ a ∨ a + 6 ≤ ab) (hpr : pr ≤ 21) (hfr : fr ≤ 7) : ax_Mt MX2_addPairs [rv a, rv ab, iv (fr : Int)] h (fun r h' => r = none ∧ ∃ (dx' dy' dw' en' : Nat → Int) (pr' : Nat) (I J : Nat → Nat), ct_at h' a fd m dx' dy' dw' en' pr' ∧ ax_sm a (a + 6) h h' ∧ pr ≤ pr' ∧ pr' ≤ pr + 21 ∧ (∀ t, t < pr → dx' t = dx t ∧ dy' t = dy t ∧ dw' t = dw t ∧ en' t = en t) ∧ prs dx' dy' dw' en' pr pr' X Y V n fr I J) := by
  have hm := ax_sm.rf (lo := a) (hi := a + 6) h
  refine ax_rv (L0 := [some (rv a), some (rv ab), some (iv (fr : Int)), none, none]) rfl rfl (Nat.le_of_ble_eq_true rfl) rfl ?_
  intro p9 l9 e9 R9 s9 m9 args9 below9 meth9 c9 b9 D9 dA9 Q9 C kr
  have inner : ∀ (i : Nat), i < n → (∀ (hh : ax_H) (d1 d2 d3 d4 : Nat → Int) (I J : Nat → Nat), ct_at hh a fd m d1 d2 d3 d4 (pr + tri n (i + 1)) → ax_sm a (a + 6) h hh → (∀ t, t < pr → d1 t = dx t ∧ d2 t = dy t ∧ d3 t = dw t ∧ d4 t = en t) → (∀ t, pr ≤ t → t < pr + tri n (i + 1) → I t < J t ∧ J t < n ∧ d1 t = X (J t) - X (I t) ∧ d2 t = Y (J t) - Y (I t) ∧ d3 t = V (J t) - V (I t) ∧ d4 t = ((2 ^ I t ||| 2 ^ J t : Nat) : Int) * 2 ^ fr) → (∀ i' j', i' < i + 1 → i' < j' → j' < n → ∃ t, pr ≤ t ∧ t < pr + tri n (i + 1) ∧ I t = i' ∧ J t = j') → ∀ x4, ax_G p9 l9 e9 R9 s9 m9 args9 below9 meth9 c9 b9 D9 dA9 MX2_addPairs.2.2.1 h.length (ax_sz h) Q9 (2) ([some (rv a), some (rv ab), some (iv (fr : Int)), some (iv ((i + 1 : Nat) : Int)), x4]) ([]) (hh)) → ∀ (d j : Nat) (hh : ax_H) (d1 d2 d3 d4 : Nat → Int) (I J : Nat → Nat), j + d = n → i < j → ct_at hh a fd m d1 d2 d3 d4 (pr + (tri n i + (j - i - 1))) → ax_sm a (a + 6) h hh → (∀ t, t < pr → d1 t = dx t ∧ d2 t = dy t ∧ d3 t = dw t ∧ d4 t = en t) → (∀ t, pr ≤ t → t < pr + (tri n i + (j - i - 1)) → I t < J t ∧ J t < n ∧ d1 t = X (J t) - X (I t) ∧ d2 t = Y (J t) - Y (I t) ∧ d3 t = V (J t) - V (I t) ∧ d4 t = ((2 ^ I t ||| 2 ^ J t : Nat) : Int) * 2 ^ fr) → (∀ i' j', (i' < i ∨ (i' = i ∧ j' < j)) → i' < j' → j' < n → ∃ t, pr ≤ t ∧ t < pr + (tri n i + (j - i - 1)) ∧ I t = i' ∧ J t = j') → ax_G p9 l9 e9 R9 s9 m9 args9 below9 meth9 c9 b9 D9 dA9 MX2_addPairs.2.2.1 h.length (ax_sz h) Q9 (15) ([some (rv a), some (rv ab), some (iv (fr : Int)), some (iv (i : Int)), some (iv (j : Int))]) ([]) (hh) := by
    intro i hi K d
    induction d with
    | zero =>
      intro j hh d1 d2 d3 d4 I J hj hij hT hm g1 g2 g3
      have ⟨h0, h1, h2, h3, h4, h5⟩ := hT
      have ⟨k0, k1, k2, k3⟩ := hB.sm hm hd
      have e9 : tri n i + (j - i - 1) = tri n (i + 1) := by rw [tri]; omega
      rw [e9] at hT g2 g3
      refine g_iload C dX2_addPairs_15 rfl ?_
      refine g_aload_n C dX2_addPairs_17 rfl ?_
      refine g_get C FX2_35 dX2_addPairs_18 (by assumption) rfl ?_
      refine g_icmp_ge C dX2_addPairs_21 (tgt := 137) (by decide) (by omega) (by omega) (fun h21 => ?_) (fun h21 => ?_)
      · refine g_iinc C dX2_addPairs_137 (by decide) rfl rfl ?_
        dsimp only [List.set]
        refine g_goto C dX2_addPairs_140 (tgt := 2) (by decide) ?_
        exact K hh d1 d2 d3 d4 I J hT hm g1 g2 (fun i' j' q1 q2 q3 => g3 i' j' (by omega) q2 q3) _
      · exfalso; omega
    | succ d ih =>
      intro j hh d1 d2 d3 d4 I J hj hij hT hm g1 g2 g3
      have ⟨h0, h1, h2, h3, h4, h5⟩ := hT
      have ⟨k0, k1, k2, k3⟩ := hB.sm hm hd
      have hti := tri_in n (by omega) i hi j (by omega) hij
      generalize hq : tri n i + (j - i - 1) = q at *
      refine g_iload C dX2_addPairs_15 rfl ?_
      refine g_aload_n C dX2_addPairs_17 rfl ?_
      refine g_get C FX2_35 dX2_addPairs_18 (by assumption) rfl ?_
      refine g_icmp_ge C dX2_addPairs_21 (tgt := 137) (by decide) (by omega) (by omega) (fun h21 => ?_) (fun h21 => ?_)
      · exfalso; omega
      · refine g_aload_n C dX2_addPairs_24 rfl ?_
        refine g_get C FX2_38 dX2_addPairs_25 (by assumption) rfl ?_
        refine g_bipush C dX2_addPairs_28 (by decide) ?_
        refine g_icmp_ge C dX2_addPairs_30 (tgt := 137) (by decide) (by omega) (by omega) (fun h30 => ?_) (fun h30 => ?_)
        · exfalso; omega
        · refine g_aload_n C dX2_addPairs_33 rfl ?_
          refine g_get C FX2_17 dX2_addPairs_34 (by assumption) rfl ?_
          refine g_aload_n C dX2_addPairs_37 rfl ?_
          refine g_get C FX2_38 dX2_addPairs_38 (by assumption) rfl ?_
          refine g_aload_n C dX2_addPairs_41 rfl ?_
          refine g_get C FX2_53 dX2_addPairs_42 (by assumption) rfl ?_
          refine g_iload C dX2_addPairs_45 rfl ?_
          refine g_iald C dX2_addPairs_47 (by assumption) rfl (by omega) (by decide) ?_
          refine g_aload_n C dX2_addPairs_48 rfl ?_
          refine g_get C FX2_53 dX2_addPairs_49 (by assumption) rfl ?_
          refine g_iload_n C dX2_addPairs_52 rfl ?_
          refine g_iald C dX2_addPairs_53 (by assumption) rfl (by omega) (by decide) ?_
          refine g_isub C dX2_addPairs_54 ?_
          refine g_iast C dX2_addPairs_55 (by assumption) rfl (by omega) (by decide) ?_
          refine ct_s_dx hT hm ?_
          intro h9 hT hm
          have ⟨h0, h1, h2, h3, h4, h5⟩ := hT
          have ⟨k0, k1, k2, k3⟩ := hB.sm hm hd
          refine g_aload_n C dX2_addPairs_56 rfl ?_
          refine g_get C FX2_21 dX2_addPairs_57 (by assumption) rfl ?_
          refine g_aload_n C dX2_addPairs_60 rfl ?_
          refine g_get C FX2_38 dX2_addPairs_61 (by assumption) rfl ?_
          refine g_aload_n C dX2_addPairs_64 rfl ?_
          refine g_get C FX2_56 dX2_addPairs_65 (by assumption) rfl ?_
          refine g_iload C dX2_addPairs_68 rfl ?_
          refine g_iald C dX2_addPairs_70 (by assumption) rfl (by omega) (by decide) ?_
          refine g_aload_n C dX2_addPairs_71 rfl ?_
          refine g_get C FX2_56 dX2_addPairs_72 (by assumption) rfl ?_
          refine g_iload_n C dX2_addPairs_75 rfl ?_
          refine g_iald C dX2_addPairs_76 (by assumption) rfl (by omega) (by decide) ?_
          refine g_isub C dX2_addPairs_77 ?_
          refine g_iast C dX2_addPairs_78 (by assumption) rfl (by omega) (by decide) ?_
          refine ct_s_dy hT hm ?_
          intro h9 hT hm
          have ⟨h0, h1, h2, h3, h4, h5⟩ := hT
          have ⟨k0, k1, k2, k3⟩ := hB.sm hm hd
          refine g_aload_n C dX2_addPairs_79 rfl ?_
          refine g_get C FX2_24 dX2_addPairs_80 (by assumption) rfl ?_
          refine g_aload_n C dX2_addPairs_83 rfl ?_
          refine g_get C FX2_38 dX2_addPairs_84 (by assumption) rfl ?_
          refine g_aload_n C dX2_addPairs_87 rfl ?_
          refine g_get C FX2_59 dX2_addPairs_88 (by assumption) rfl ?_
          refine g_iload C dX2_addPairs_91 rfl ?_
          refine g_iald C dX2_addPairs_93 (by assumption) rfl (by omega) (by decide) ?_
          refine g_aload_n C dX2_addPairs_94 rfl ?_
          refine g_get C FX2_59 dX2_addPairs_95 (by assumption) rfl ?_
          refine g_iload_n C dX2_addPairs_98 rfl ?_
          refine g_iald C dX2_addPairs_99 (by assumption) rfl (by omega) (by decide) ?_
          refine g_isub C dX2_addPairs_100 ?_
          refine g_iast C dX2_addPairs_101 (by assumption) rfl (by omega) (by decide) ?_
          refine ct_s_dw hT hm ?_
          intro h9 hT hm
          have ⟨h0, h1, h2, h3, h4, h5⟩ := hT
          have ⟨k0, k1, k2, k3⟩ := hB.sm hm hd
          refine g_aload_n C dX2_addPairs_102 rfl ?_
          refine g_get C FX2_27 dX2_addPairs_103 (by assumption) rfl ?_
          refine g_aload_n C dX2_addPairs_106 rfl ?_
          refine g_get C FX2_38 dX2_addPairs_107 (by assumption) rfl ?_
          refine g_iconst C dX2_addPairs_110 ?_
          refine g_iload_n C dX2_addPairs_111 rfl ?_
          refine g_ishl C dX2_addPairs_112 (by omega) ?_
          refine g_top (ax_1p i) ?_
          refine g_iconst C dX2_addPairs_113 ?_
          refine g_iload C dX2_addPairs_114 rfl ?_
          refine g_ishl C dX2_addPairs_116 (by omega) ?_
          refine g_top (ax_1p j) ?_
          refine g_ior C dX2_addPairs_117 (ax_orN _ _) ?_
          refine g_iload_n C dX2_addPairs_118 rfl ?_
          refine g_ishl C dX2_addPairs_119 (by omega) ?_
          refine g_iast C dX2_addPairs_120 (by assumption) rfl (by omega) (by decide) ?_
          refine ct_s_en hT hm ?_
          intro h9 hT hm
          have ⟨h0, h1, h2, h3, h4, h5⟩ := hT
          have ⟨k0, k1, k2, k3⟩ := hB.sm hm hd
          refine g_aload_n C dX2_addPairs_121 rfl ?_
          refine g_dup C dX2_addPairs_122 ?_
          refine g_get C FX2_38 dX2_addPairs_123 (by assumption) rfl ?_
          refine g_iconst C dX2_addPairs_126 ?_
          refine g_iadd C dX2_addPairs_127 ?_
          refine g_put C FX2_38 dX2_addPairs_128 (by assumption) rfl rfl (Nat.le_of_ble_eq_true rfl) ?_
          dsimp only [List.set]
          refine ct_s_pr (pr + (q + 1)) (by omega) hT hm ?_
          intro h9 hT hm
          refine g_iinc C dX2_addPairs_131 (by decide) rfl rfl ?_
          dsimp only [List.set]
          refine g_goto C dX2_addPairs_134 (tgt := 15) (by decide) ?_
          have hT' := hT
          rw [show pr + (q + 1) = pr + (tri n i + (j + 1 - i - 1)) by omega] at hT'
          refine ih (j + 1) _ _ _ _ _ (va_up I (pr + q) i) (va_up J (pr + q) j) (by omega) (by omega) hT' hm (fun t ht => ?_) (fun t ht1 ht2 => ?_) (fun i' j' q1 q2 q3 => ?_)
          · simp only [va_up, if_neg (show ¬ t = pr + q by omega)]; exact g1 t ht
          · by_cases c : t = pr + q
            · subst c; simp [va_up]; omega
            · simp only [va_up, if_neg c]; exact g2 t ht1 (by omega)
          · by_cases c : i' = i ∧ j' = j
            · exact ⟨pr + q, by omega, by omega, by simp [va_up, c.1], by simp [va_up, c.2]⟩
            · obtain ⟨t, t1, t2, t3, t4⟩ := g3 i' j' (by omega) q2 q3
              exact ⟨t, t1, by omega, by simp only [va_up, if_neg (show ¬ t = pr + q by omega)]; exact t3, by simp only [va_up, if_neg (show ¬ t = pr + q by omega)]; exact t4⟩
  have outer : ∀ (d i : Nat) (hh : ax_H) (d1 d2 d3 d4 : Nat → Int) (I J : Nat → Nat) (x4 : Option ax_V), i + d = n → ct_at hh a fd m d1 d2 d3 d4 (pr + tri n i) → ax_sm a (a + 6) h hh → (∀ t, t < pr → d1 t = dx t ∧ d2 t = dy t ∧ d3 t = dw t ∧ d4 t = en t) → (∀ t, pr ≤ t → t < pr + tri n i → I t < J t ∧ J t < n ∧ d1 t = X (J t) - X (I t) ∧ d2 t = Y (J t) - Y (I t) ∧ d3 t = V (J t) - V (I t) ∧ d4 t = ((2 ^ I t ||| 2 ^ J t : Nat) : Int) * 2 ^ fr) → (∀ i' j', i' < i → i' < j' → j' < n → ∃ t, pr ≤ t ∧ t < pr + tri n i ∧ I t = i' ∧ J t = j') → ax_G p9 l9 e9 R9 s9 m9 args9 below9 meth9 c9 b9 D9 dA9 MX2_addPairs.2.2.1 h.length (ax_sz h) Q9 (2) ([some (rv a), some (rv ab), some (iv (fr : Int)), some (iv (i : Int)), x4]) ([]) (hh) := by
    intro d
    induction d with
    | zero =>
      intro i hh d1 d2 d3 d4 I J x4 hi hT hm g1 g2 g3
      have ⟨h0, h1, h2, h3, h4, h5⟩ := hT
      have ⟨k0, k1, k2, k3⟩ := hB.sm hm hd
      refine g_iload_n C dX2_addPairs_2 rfl ?_
      refine g_aload_n C dX2_addPairs_3 rfl ?_
      refine g_get C FX2_35 dX2_addPairs_4 (by assumption) rfl ?_
      refine g_icmp_ge C dX2_addPairs_7 (tgt := 143) (by decide) (by omega) (by omega) (fun h7 => ?_) (fun h7 => ?_)
      · exact kr _ _ _ dX2_addPairs_143 ⟨rfl, d1, d2, d3, d4, pr + tri n i, I, J, hT, hm, by omega, by have := tri_n n (by omega) i (by omega); omega, g1, g2, fun i' j' q1 q2 => g3 i' j' (by omega) q1 q2⟩ hm.1
      · exfalso; omega
    | succ d ih =>
      intro i hh d1 d2 d3 d4 I J x4 hi hT hm g1 g2 g3
      have ⟨h0, h1, h2, h3, h4, h5⟩ := hT
      have ⟨k0, k1, k2, k3⟩ := hB.sm hm hd
      have e9 : tri n i + (i + 1 - i - 1) = tri n i := by omega
      refine g_iload_n C dX2_addPairs_2 rfl ?_
      refine g_aload_n C dX2_addPairs_3 rfl ?_
      refine g_get C FX2_35 dX2_addPairs_4 (by assumption) rfl ?_
      refine g_icmp_ge C dX2_addPairs_7 (tgt := 143) (by decide) (by omega) (by omega) (fun h7 => ?_) (fun h7 => ?_)
      · exfalso; omega
      · refine g_iload_n C dX2_addPairs_10 rfl ?_
        refine g_iconst C dX2_addPairs_11 ?_
        refine g_iadd C dX2_addPairs_12 ?_
        refine g_istore C dX2_addPairs_13 (by decide) rfl ?_
        dsimp only [List.set]
        exact inner i (by omega) (fun hh e1 e2 e3 e4 I J z1 z2 z3 z4 z5 x4 => ih (i + 1) hh e1 e2 e3 e4 I J x4 (by omega) z1 z2 z3 z4 z5) (n - (i + 1)) (i + 1) hh d1 d2 d3 d4 I J (by omega) (by omega) (by rw [e9]; exact hT) hm g1 (by rw [e9]; exact g2) (fun i' j' q1 q2 q3 => by rw [e9]; exact g3 i' j' (by omega) q2 q3)
  refine g_iconst C dX2_addPairs_0 ?_
  refine g_istore_n C dX2_addPairs_1 (by decide) rfl ?_
  dsimp only [List.set]
  exact outer n 0 h dx dy dw en (fun _ => 0) (fun _ => 0) none (by omega) hT hm (fun _ _ => ⟨rfl, rfl, rfl, rfl⟩) (fun t t1 t2 => by simp only [tri] at t2; omega) (fun i' j' q1 => by omega)
