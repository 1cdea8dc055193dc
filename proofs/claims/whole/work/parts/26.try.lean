theorem or_lt14 {i j fr : Nat} (hi : i < 7) (hj : j < 7) (hf : fr ≤ 7) : (2 ^ i ||| 2 ^ j) * 2 ^ fr < 2 ^ 14 := by
  have a : 2 ^ i ||| 2 ^ j < 2 ^ 7 := Nat.or_lt_two_pow (Nat.pow_lt_pow_right (by decide) hi) (Nat.pow_lt_pow_right (by decide) hj)
  have b : 2 ^ fr ≤ 2 ^ 7 := Nat.pow_le_pow_right (by decide) hf
  have c : (2 ^ i ||| 2 ^ j) * 2 ^ fr ≤ (2 ^ i ||| 2 ^ j) * 2 ^ 7 := Nat.mul_le_mul_left _ b
  have d : (2 ^ 14 : Nat) = 2 ^ 7 * 2 ^ 7 := rfl
  omega
theorem en_nat (i j fr : Nat) : ((2 ^ i ||| 2 ^ j : Nat) : Int) * 2 ^ fr = (((2 ^ i ||| 2 ^ j) * 2 ^ fr : Nat) : Int) := by
  rw [Int.natCast_mul, Int.natCast_pow]; rfl
theorem t_firstEnd {h : ax_H} {a m pr t i j fr : Nat} {fd : Nat → Option Nat} {dx dy dw en : Nat → Int} (hT : ct_at h a fd m dx dy dw en pr) (ht : t < 42) (hij : i < j) (hj : j < 7) (hfr : fr = 0 ∨ fr = 7) (he : en t = ((2 ^ i ||| 2 ^ j : Nat) : Int) * 2 ^ fr) : ax_Met MX2_firstEnd [rv a, iv (t : Int)] h (some (iv ((i : Int) + fr))) h := by
  obtain ⟨h0, h1, h2, h3, h4, h5⟩ := hT
  have hlt := or_lt14 (i := i) (j := j) (fr := fr) (by omega) hj (by omega)
  have he2 := he
  rw [en_nat] at he2
  have hin : -2147483648 ≤ en t ∧ en t < 2147483648 := by rw [he2]; omega
  have en9 : ntz (en t) = (i : Int) + fr := by
    rw [he]
    rcases hfr with rfl | rfl
    · rw [(ntz_ok j hj i hij).1]; simp
    · exact (ntz_ok j hj i hij).2
  refine ax_mi (L0 := [some (rv a), some (iv (t : Int))]) rfl rfl (Nat.le_refl _) (Nat.le_refl _) (Nat.le_of_ble_eq_true rfl) rfl ?_
  intro p9 l9 e9 R9 s9 m9 args9 below9 meth9 c9 b9 D9 dA9 Q9 C kr
  refine g_aload_n C dX2_firstEnd_0 rfl ?_
  refine g_get C FX2_27 dX2_firstEnd_1 (by assumption) rfl ?_
  refine g_iload_n C dX2_firstEnd_4 rfl ?_
  refine g_iald C dX2_firstEnd_5 (by assumption) rfl (by omega) (by decide) ?_
  refine g_S C (t_ntz hin) dX2_firstEnd_6 KJ6_numberOfTrailingZeros_0f7a4 LX2_62 SJ6_numberOfTrailingZeros_0f7a4 (by decide) rfl rfl (Nat.le_of_ble_eq_true rfl) ⟨rfl, rfl⟩ ?_
  dsimp only [Option.toList, List.cons_append, List.nil_append]
  exact kr _ _ _ dX2_firstEnd_9 (congrArg (fun z => some (iv z)) en9.symm)
theorem nandN (x y : Nat) : Int32.ofInt (x : Int) &&& Int32.ofInt ((Int32.ofInt (y : Int) ^^^ Int32.ofInt (-1)).toInt) = Int32.ofInt ((x ^^^ (x &&& y) : Nat) : Int) := by
  rw [Int32.ofInt_toInt]
  apply Int32.toBitVec_inj.1
  simp only [Int32.toBitVec_and, Int32.toBitVec_xor, Int32.toBitVec_ofInt, BitVec.ofInt_natCast]
  apply BitVec.eq_of_getLsbD_eq
  intro i hi
  have e1 : (BitVec.ofInt 32 (-1)).getLsbD i = true := by
    rw [show BitVec.ofInt 32 (-1) = BitVec.allOnes 32 from rfl, BitVec.getLsbD_allOnes]
    simp [hi]
  simp only [BitVec.getLsbD_and, BitVec.getLsbD_xor, BitVec.getLsbD_ofNat, e1, hi, decide_true, Bool.true_and, Nat.testBit_xor, Nat.testBit_and]
  cases x.testBit i <;> cases y.testBit i <;> rfl
theorem nand0 {x y : Nat} : x ^^^ (x &&& y) = 0 ↔ ∀ k, bt x k → bt y k := by
  constructor
  · intro z k hk
    have := congrArg (fun q => q.testBit k) z
    simp only [Nat.testBit_xor, Nat.testBit_and, Nat.zero_testBit] at this
    rw [bt_tb] at hk ⊢
    rw [hk] at this
    cases hy : y.testBit k
    · rw [hy] at this; simp at this
    · rfl
  · intro hz
    apply Nat.eq_of_testBit_eq
    intro k
    simp only [Nat.testBit_xor, Nat.testBit_and, Nat.zero_testBit]
    have := hz k
    rw [bt_tb, bt_tb] at this
    cases hx : x.testBit k
    · rfl
    · rw [this hx]; rfl
theorem nand_lt {x y : Nat} (hx : x < 2 ^ 14) : x ^^^ (x &&& y) < 2 ^ 14 := Nat.xor_lt_two_pow hx (Nat.lt_of_le_of_lt Nat.and_le_left hx)
theorem cu_at.cell {h h1 : ax_H} {a : Nat} {LA LB : Tr → Int} {pp : Nat → Nat} {τ : Nat → Tr} {m : Nat} {dx dy dw en : Nat → Int} {pr : Nat} (H : cu_at h a LA LB pp τ m dx dy dw en pr) (S : ax_sm (pp m) (pp m + 1) h h1) {x1 x2 x3 x4 x5 x6 : Int} (hx : h1[pp m]? = some (.inr (1, [iv x1, iv x2, iv x3, iv x4, iv x5, iv x6]))) : cu_at h1 a LA LB pp τ m dx dy dw en pr := by
  obtain ⟨⟨fd, hT, hfd⟩, hp1, hp2, hp3, hp4, hm93⟩ := H
  have hpm := hp1 m (by omega)
  have oth : ∀ i, i < 94 → i ≠ m → h1[pp i]? = h[pp i]? := fun i hi hn => S.2 (pp i) (by
    rcases Nat.lt_trichotomy (pp i) (pp m) with q | q | q
    · exact Or.inl q
    · exact absurd (hp2 i m hi (by omega) q) hn
    · exact Or.inr (by omega))
  refine ⟨⟨fd, hT.sm S (by omega), hfd⟩, hp1, hp2, fun i hi => ?_, fun i hi => ?_, hm93⟩
  · by_cases c : i = m
    · subst c; exact ⟨_, _, _, _, _, _, hx⟩
    · rw [oth i hi c]; exact hp3 i hi
  · rw [oth i (by omega) (by omega)]; exact hp4 i hi
abbrev low1 (X Y V : Nat → Int) (n : Nat) (t : Tr) : Int := ((bo_low (th X Y V t) n).1 : Int)
theorem t_tryPairs {h : ax_H} {a aa ab n n2 : Nat} {X Y V X2 Y2 V2 : Nat → Int} {pp : Nat → Nat} {τ : Nat → Tr} {m : Nat} {dx dy dw en : Nat → Int} {pr i j Ei Ej : Nat} (H : cu_at h a (low1 X Y V n) (low1 X2 Y2 V2 n2) pp τ m dx dy dw en pr) (hA : bo_at h aa X Y V n) (hB : bo_at h ab X2 Y2 V2 n2) (ho : bo_ok X Y V n) (ho2 : bo_ok X2 Y2 V2 n2) (hd : aa + 4 ≤ a ∨ a + 100 ≤ aa) (hd2 : ab + 4 ≤ a ∨ a + 100 ≤ ab) (hs : tsr τ m) (hb : ∀ i, i < m → tbd (τ i)) (hcs : ∀ i, i < m → CS X Y V n X2 Y2 V2 n2 (τ i)) (hi : i < 42) (hj : j < 42)
    (bx : ∀ k, k = i ∨ k = j → (-12 ≤ dx k ∧ dx k ≤ 12) ∧ (-12 ≤ dy k ∧ dy k ≤ 12) ∧ (-50 ≤ dw k ∧ dw k ≤ 50)) (hEi : en i = (Ei : Int)) (hEj : en j = (Ej : Int)) (bEi : Ei < 2 ^ 14) (bEj : Ej < 2 ^ 14) {t : Tr} (ht : t = pr3 (dx i) (dy i) (dw i) (dx j) (dy j) (dw j)) (hok : dx i * dy j - dx j * dy i ≠ 0 ∧ (∀ k, bt ((Ei ||| Ej) &&& 127) k → bt (bo_low (th X Y V t) n).1 k) ∧ (∀ k, bt ((Ei ||| Ej) / 2 ^ 7) k → bt (bo_low (th X2 Y2 V2 t) n2).1 k) → CS X Y V n X2 Y2 V2 n2 t) :
    ax_Mt MX2_tryPairs [rv a, rv aa, rv ab, iv (i : Int), iv (j : Int)] h (fun r h' => r = none ∧ ∃ (pp' : Nat → Nat) (τ' : Nat → Tr) (m' : Nat), cu_at h' a (low1 X Y V n) (low1 X2 Y2 V2 n2) pp' τ' m' dx dy dw en pr ∧ tsr τ' m' ∧ ax_sm a (a + 100) h h' ∧ (∀ k, k < m' → tbd (τ' k) ∧ CS X Y V n X2 Y2 V2 n2 (τ' k)) ∧ (∀ k, k < m → ∃ q, q < m' ∧ τ' q = τ k) ∧ (dx i * dy j - dx j * dy i ≠ 0 ∧ (∀ k, bt ((Ei ||| Ej) &&& 127) k → bt (bo_low (th X Y V t) n).1 k) ∧ (∀ k, bt ((Ei ||| Ej) / 2 ^ 7) k → bt (bo_low (th X2 Y2 V2 t) n2).1 k) → ∃ q, q < m' ∧ teq t (τ' q))) := by
  have H0 := H
  obtain ⟨⟨fd, hT, hfd⟩, hp1, hp2, hp3, hp4, hm93⟩ := H
  have ⟨h0, h1, h2, h3, h4, h5⟩ := hT
  have ⟨k0, k1, k2, k3⟩ := hA
  have ⟨l0, l1, l2, l3⟩ := hB
  have bi := bx i (Or.inl rfl)
  have bj := bx j (Or.inr rfl)
  have m1 := mb2 (U := 12) (M := 12) bi.1 bj.2.1
  have m2 := mb2 (U := 12) (M := 12) bj.1 bi.2.1
  have m3 := mb2 (U := 50) (M := 12) bj.2.2 bi.2.1
  have m4 := mb2 (U := 50) (M := 12) bi.2.2 bj.2.1
  have m5 := mb2 (U := 50) (M := 12) bi.2.2 bj.1
  have m6 := mb2 (U := 50) (M := 12) bj.2.2 bi.1
  have hW : Ei ||| Ej < 2 ^ 14 := Nat.or_lt_two_pow bEi bEj
  have hW7 : (Ei ||| Ej) &&& 127 < 2 ^ 14 := Nat.lt_of_le_of_lt Nat.and_le_left hW
  have hW8 : (Ei ||| Ej) / 2 ^ 7 < 2 ^ 14 := Nat.lt_of_le_of_lt (Nat.div_le_self _ _) hW
  have hlA := bo_low_lt (th X Y V t) n
  have hlB := bo_low_lt (th X2 Y2 V2 t) n2
  refine ax_rv (L0 := [some (rv a), some (rv aa), some (rv ab), some (iv (i : Int)), some (iv (j : Int)), none, none, none, none, none, none, none, none, none]) rfl rfl (Nat.le_of_ble_eq_true rfl) rfl ?_
  intro p9 l9 e9 R9 s9 m9 args9 below9 meth9 c9 b9 D9 dA9 Q9 C kr
  generalize hW0 : Ei ||| Ej = W at *
  have nn1 := nand_lt (y := (bo_low (th X Y V t) n).1) hW7
  have nn2 := nand_lt (y := (bo_low (th X2 Y2 V2 t) n2).1) hW8
  have main : ∀ sg : Int, dx i * dy j - dx j * dy i ≠ 0 → sg * (dx i * dy j - dx j * dy i) = t.2.2 → sg * (dw j * dy i - dw i * dy j) = t.1 → sg * (dw i * dx j - dw j * dx i) = t.2.1 → tbd t → ax_G p9 l9 e9 R9 s9 m9 args9 below9 meth9 c9 b9 D9 dA9 MX2_tryPairs.2.2.1 h.length (ax_sz h) Q9 (47) ([some (rv a), some (rv aa), some (rv ab), some (iv (i : Int)), some (iv (j : Int)), some (iv (dx i * dy j - dx j * dy i)), none, none, none, none, none, none, none, none]) ([iv sg]) (h) := by
    intro sg hnz e3 e1 e2 hbt
    have hbt' := hbt
    obtain ⟨t1, t2, t3⟩ := hbt'
    obtain ⟨x1, x2, x3, x4, x5, x6, hx⟩ := hp3 m (by omega)
    have hfm := hfd m (by omega)
    have hpm := hp1 m (by omega)
    refine g_istore C dX2_tryPairs_47 (by decide) rfl ?_
    dsimp only [List.set]
    refine g_iload C dX2_tryPairs_49 rfl ?_
    refine g_iload C dX2_tryPairs_51 rfl ?_
    refine g_imul C dX2_tryPairs_53 ?_
    refine g_top (e3) ?_
    refine g_istore C dX2_tryPairs_54 (by decide) rfl ?_
    dsimp only [List.set]
    refine g_iload C dX2_tryPairs_56 rfl ?_
    refine g_aload_n C dX2_tryPairs_58 rfl ?_
    refine g_get C FX2_24 dX2_tryPairs_59 (by assumption) rfl ?_
    refine g_iload C dX2_tryPairs_62 rfl ?_
    refine g_iald C dX2_tryPairs_64 (by assumption) rfl (by omega) (by decide) ?_
    refine g_aload_n C dX2_tryPairs_65 rfl ?_
    refine g_get C FX2_21 dX2_tryPairs_66 (by assumption) rfl ?_
    refine g_iload_n C dX2_tryPairs_69 rfl ?_
    refine g_iald C dX2_tryPairs_70 (by assumption) rfl (by omega) (by decide) ?_
    refine g_imul C dX2_tryPairs_71 ?_
    refine g_aload_n C dX2_tryPairs_72 rfl ?_
    refine g_get C FX2_24 dX2_tryPairs_73 (by assumption) rfl ?_
    refine g_iload_n C dX2_tryPairs_76 rfl ?_
    refine g_iald C dX2_tryPairs_77 (by assumption) rfl (by omega) (by decide) ?_
    refine g_aload_n C dX2_tryPairs_78 rfl ?_
    refine g_get C FX2_21 dX2_tryPairs_79 (by assumption) rfl ?_
    refine g_iload C dX2_tryPairs_82 rfl ?_
    refine g_iald C dX2_tryPairs_84 (by assumption) rfl (by omega) (by decide) ?_
    refine g_imul C dX2_tryPairs_85 ?_
    refine g_isub C dX2_tryPairs_86 ?_
    refine g_imul C dX2_tryPairs_87 ?_
    refine g_top (e1) ?_
    refine g_istore C dX2_tryPairs_88 (by decide) rfl ?_
    dsimp only [List.set]
    refine g_iload C dX2_tryPairs_90 rfl ?_
    refine g_aload_n C dX2_tryPairs_92 rfl ?_
    refine g_get C FX2_24 dX2_tryPairs_93 (by assumption) rfl ?_
    refine g_iload_n C dX2_tryPairs_96 rfl ?_
    refine g_iald C dX2_tryPairs_97 (by assumption) rfl (by omega) (by decide) ?_
    refine g_aload_n C dX2_tryPairs_98 rfl ?_
    refine g_get C FX2_17 dX2_tryPairs_99 (by assumption) rfl ?_
    refine g_iload C dX2_tryPairs_102 rfl ?_
    refine g_iald C dX2_tryPairs_104 (by assumption) rfl (by omega) (by decide) ?_
    refine g_imul C dX2_tryPairs_105 ?_
    refine g_aload_n C dX2_tryPairs_106 rfl ?_
    refine g_get C FX2_24 dX2_tryPairs_107 (by assumption) rfl ?_
    refine g_iload C dX2_tryPairs_110 rfl ?_
    refine g_iald C dX2_tryPairs_112 (by assumption) rfl (by omega) (by decide) ?_
    refine g_aload_n C dX2_tryPairs_113 rfl ?_
    refine g_get C FX2_17 dX2_tryPairs_114 (by assumption) rfl ?_
    refine g_iload_n C dX2_tryPairs_117 rfl ?_
    refine g_iald C dX2_tryPairs_118 (by assumption) rfl (by omega) (by decide) ?_
    refine g_imul C dX2_tryPairs_119 ?_
    refine g_isub C dX2_tryPairs_120 ?_
    refine g_imul C dX2_tryPairs_121 ?_
    refine g_top (e2) ?_
    refine g_istore C dX2_tryPairs_122 (by decide) rfl ?_
    dsimp only [List.set]
    refine g_aload_n C dX2_tryPairs_124 rfl ?_
    refine g_get C FX2_27 dX2_tryPairs_125 (by assumption) rfl ?_
    refine g_iload_n C dX2_tryPairs_128 rfl ?_
    refine g_iald C dX2_tryPairs_129 (by assumption) rfl (by omega) (by decide) ?_
    rw [hEi]
    refine g_aload_n C dX2_tryPairs_130 rfl ?_
    refine g_get C FX2_27 dX2_tryPairs_131 (by assumption) rfl ?_
    refine g_iload C dX2_tryPairs_134 rfl ?_
    refine g_iald C dX2_tryPairs_136 (by assumption) rfl (by omega) (by decide) ?_
    rw [hEj]
    refine g_ior C dX2_tryPairs_137 (ax_orN _ _) ?_
    rw [hW0]
    refine g_istore C dX2_tryPairs_138 (by decide) rfl ?_
    dsimp only [List.set]
    refine g_aload_n C dX2_tryPairs_140 rfl ?_
    refine g_iload C dX2_tryPairs_141 rfl ?_
    refine g_iload C dX2_tryPairs_143 rfl ?_
    refine g_iload C dX2_tryPairs_145 rfl ?_
    refine g_V C (t_lowest hA ho (u := t.1) (v := t.2.1) (w := t.2.2) (by omega) (by omega) (by omega)) dX2_tryPairs_147 KX0_lowest LX2_67 IX0_lowest VX0_lowest (by decide) rfl (by assumption) rfl rfl rfl (Nat.le_of_ble_eq_true rfl) ⟨rfl, rfl⟩ ?_
    dsimp only [Option.toList, List.cons_append, List.nil_append]
    refine g_istore C dX2_tryPairs_150 (by decide) rfl ?_
    dsimp only [List.set]
    refine g_iload C dX2_tryPairs_152 rfl ?_
    refine g_bipush C dX2_tryPairs_154 (by decide) ?_
    refine g_iand C dX2_tryPairs_156 (ax_andN W 127) ?_
    refine g_iload C dX2_tryPairs_157 rfl ?_
    refine g_iconst C dX2_tryPairs_159 ?_
    refine g_ixor C dX2_tryPairs_160 (z := (Int32.ofInt (((bo_low (th X Y V t) n).1 : Nat) : Int) ^^^ Int32.ofInt (-1)).toInt) (Int32.ofInt_toInt _).symm ?_
    refine g_iand C dX2_tryPairs_161 (nandN _ _) ?_
    refine g_if_eq C dX2_tryPairs_162 (tgt := 166) (by decide) (by omega) (fun h162 => ?_) (fun h162 => ?_)
    · have hsA : ∀ k, bt (W &&& 127) k → bt (bo_low (th X Y V t) n).1 k := nand0.mp (by omega)
      refine g_aload_n C dX2_tryPairs_166 rfl ?_
      refine g_iload C dX2_tryPairs_167 rfl ?_
      refine g_iload C dX2_tryPairs_169 rfl ?_
      refine g_iload C dX2_tryPairs_171 rfl ?_
      refine g_V C (t_lowest hB ho2 (u := t.1) (v := t.2.1) (w := t.2.2) (by omega) (by omega) (by omega)) dX2_tryPairs_173 KX0_lowest LX2_67 IX0_lowest VX0_lowest (by decide) rfl (by assumption) rfl rfl rfl (Nat.le_of_ble_eq_true rfl) ⟨rfl, rfl⟩ ?_
      dsimp only [Option.toList, List.cons_append, List.nil_append]
      refine g_istore C dX2_tryPairs_176 (by decide) rfl ?_
      dsimp only [List.set]
      refine g_iload C dX2_tryPairs_178 rfl ?_
      refine g_bipush C dX2_tryPairs_180 (by decide) ?_
      refine g_st (show _ = [iv ((7 : Nat) : Int), iv (W : Int)] from rfl) ?_
      refine g_ishr C dX2_tryPairs_182 (by omega) (by omega) ?_
      refine g_top (show (W : Int) / 2 ^ 7 = ((W / 2 ^ 7 : Nat) : Int) by rw [Int.natCast_ediv]; rfl) ?_
      refine g_iload C dX2_tryPairs_183 rfl ?_
      refine g_iconst C dX2_tryPairs_185 ?_
      refine g_ixor C dX2_tryPairs_186 (z := (Int32.ofInt (((bo_low (th X2 Y2 V2 t) n2).1 : Nat) : Int) ^^^ Int32.ofInt (-1)).toInt) (Int32.ofInt_toInt _).symm ?_
      refine g_iand C dX2_tryPairs_187 (nandN _ _) ?_
      refine g_if_eq C dX2_tryPairs_188 (tgt := 192) (by decide) (by omega) (fun h188 => ?_) (fun h188 => ?_)
      · have hsB : ∀ k, bt (W / 2 ^ 7) k → bt (bo_low (th X2 Y2 V2 t) n2).1 k := nand0.mp (by omega)
        refine g_aload_n C dX2_tryPairs_192 rfl ?_
        refine g_get C FX2_13 dX2_tryPairs_193 (by assumption) rfl ?_
        refine g_aload_n C dX2_tryPairs_196 rfl ?_
        refine g_get C FX2_31 dX2_tryPairs_197 (by assumption) rfl ?_
        refine g_aald C dX2_tryPairs_200 (by assumption) rfl rfl rfl (by omega) (by decide) ?_
        rw [hfm]
        refine g_astore C dX2_tryPairs_201 (by decide) rfl ?_
        dsimp only [List.set]
        refine g_aload C dX2_tryPairs_203 rfl ?_
        refine g_iload C dX2_tryPairs_205 rfl ?_
        refine g_iload C dX2_tryPairs_207 rfl ?_
        refine g_iload C dX2_tryPairs_209 rfl ?_
        refine g_RV C (t_setSlope hx (u := t.1) (v := t.2.1) (w := t.2.2) (by omega) (by omega) (by omega)) dX2_tryPairs_211 KX1_setSlope LX2_71 IX1_setSlope VX1_setSlope (by decide) rfl (by assumption) rfl rfl rfl (Nat.le_of_ble_eq_true rfl) ?_
        intro r1 g1 hP1 hz1
        obtain ⟨rfl, hx, hm⟩ := hP1
        dsimp only [Option.toList, List.cons_append, List.nil_append]
        refine g_aload C dX2_tryPairs_214 rfl ?_
        refine g_iload C dX2_tryPairs_216 rfl ?_
        refine g_put C FX2_75 dX2_tryPairs_218 (by assumption) rfl rfl (Nat.le_of_ble_eq_true rfl) ?_
        dsimp only [List.set]
        refine ob_s hx hm rfl ?_
        intro h9 hx hm
        refine g_aload C dX2_tryPairs_221 rfl ?_
        refine g_iload C dX2_tryPairs_223 rfl ?_
        refine g_put C FX2_78 dX2_tryPairs_225 (by assumption) rfl rfl (Nat.le_of_ble_eq_true rfl) ?_
        dsimp only [List.set]
        refine ob_s hx hm rfl ?_
        intro h9 hx hm
        have H1 := H0.cell hm hx
        have hct := hok ⟨hnz, hsA, hsB⟩
        have ⟨q0, _⟩ := H1.1.choose_spec.1
        refine g_aload_n C dX2_tryPairs_228 rfl ?_
        refine g_aload C dX2_tryPairs_229 rfl ?_
        refine g_RV C (t_sortIn (t := t) H1 hs hb hbt hx (fun hne => by
          have := cs93 ho ho2 (τ := fun k => if k < m then τ k else t) (m := m + 1) (fun k hk => by
            by_cases c : k < m
            · rw [if_pos c]; exact hcs k c
            · rw [if_neg c]; exact hct) (fun k q hk hq e => by
            by_cases c : k < m <;> by_cases d : q < m
            · rw [if_pos c, if_pos d] at e; exact hs.inj c d e
            · rw [if_pos c, if_neg d] at e; exact absurd e.sy (hne k c)
            · rw [if_neg c, if_pos d] at e; exact absurd e (hne q d)
            · omega)
          omega)) dX2_tryPairs_231 KX2_sortIn LX2_81 IX2_sortIn VX2_sortIn (by decide) rfl (by assumption) rfl rfl rfl (Nat.le_of_ble_eq_true rfl) ?_
        intro r1 g2 hP1 hz1
        obtain ⟨rfl, pp', τ', m', z1, z2, z3, z4, z5, z6⟩ := hP1
        dsimp only [Option.toList, List.cons_append, List.nil_append]
        have hsm := (hm.wide (lo2 := a) (hi2 := a + 100) (by omega) (by omega)).tr z3
        exact kr _ _ _ dX2_tryPairs_234 ⟨rfl, pp', τ', m', z1, z2, hsm, fun k hk => by
          rcases z4 k hk with ⟨q, q1, q2⟩ | q
          · rw [q2]; exact ⟨hb q q1, hcs q q1⟩
          · rw [q]; exact ⟨hbt, hct⟩, z5, fun _ => z6⟩ hsm.1
      · exact kr _ _ _ dX2_tryPairs_191 ⟨rfl, pp, τ, m, H0, hs, ax_sm.rf h, fun k hk => ⟨hb k hk, hcs k hk⟩, fun k hk => ⟨k, hk, rfl⟩, fun q => absurd (nand0.mpr q.2.2) (fun z => h188 (by rw [z]; rfl))⟩ ⟨rfl, rfl⟩
    · exact kr _ _ _ dX2_tryPairs_165 ⟨rfl, pp, τ, m, H0, hs, ax_sm.rf h, fun k hk => ⟨hb k hk, hcs k hk⟩, fun k hk => ⟨k, hk, rfl⟩, fun q => absurd (nand0.mpr q.2.1) (fun z => h162 (by rw [z]; rfl))⟩ ⟨rfl, rfl⟩
  refine g_aload_n C dX2_tryPairs_0 rfl ?_
  refine g_get C FX2_17 dX2_tryPairs_1 (by assumption) rfl ?_
  refine g_iload_n C dX2_tryPairs_4 rfl ?_
  refine g_iald C dX2_tryPairs_5 (by assumption) rfl (by omega) (by decide) ?_
  refine g_aload_n C dX2_tryPairs_6 rfl ?_
  refine g_get C FX2_21 dX2_tryPairs_7 (by assumption) rfl ?_
  refine g_iload C dX2_tryPairs_10 rfl ?_
  refine g_iald C dX2_tryPairs_12 (by assumption) rfl (by omega) (by decide) ?_
  refine g_imul C dX2_tryPairs_13 ?_
  refine g_aload_n C dX2_tryPairs_14 rfl ?_
  refine g_get C FX2_17 dX2_tryPairs_15 (by assumption) rfl ?_
  refine g_iload C dX2_tryPairs_18 rfl ?_
  refine g_iald C dX2_tryPairs_20 (by assumption) rfl (by omega) (by decide) ?_
  refine g_aload_n C dX2_tryPairs_21 rfl ?_
  refine g_get C FX2_21 dX2_tryPairs_22 (by assumption) rfl ?_
  refine g_iload_n C dX2_tryPairs_25 rfl ?_
  refine g_iald C dX2_tryPairs_26 (by assumption) rfl (by omega) (by decide) ?_
  refine g_imul C dX2_tryPairs_27 ?_
  refine g_isub C dX2_tryPairs_28 ?_
  refine g_istore C dX2_tryPairs_29 (by decide) rfl ?_
  dsimp only [List.set]
  refine g_iload C dX2_tryPairs_31 rfl ?_
  refine g_if_ne C dX2_tryPairs_33 (tgt := 37) (by decide) (by omega) (fun h33 => ?_) (fun h33 => ?_)
  · refine g_iload C dX2_tryPairs_37 rfl ?_
    refine g_if_ge C dX2_tryPairs_39 (tgt := 46) (by decide) (by omega) (fun h39 => ?_) (fun h39 => ?_)
    · have et : t = (1 * (dw j * dy i - dw i * dy j), 1 * (dw i * dx j - dw j * dx i), 1 * (dx i * dy j - dx j * dy i)) := by rw [ht]; unfold pr3; rw [if_neg (by omega)]
      refine g_iconst C dX2_tryPairs_46 ?_
      refine main _ h33 (by rw [et]) (by rw [et]) (by rw [et]) (by rw [et]; refine ⟨?_, ?_, ?_⟩ <;> dsimp only <;> omega)
    · have et : t = (-1 * (dw j * dy i - dw i * dy j), -1 * (dw i * dx j - dw j * dx i), -1 * (dx i * dy j - dx j * dy i)) := by rw [ht]; unfold pr3; rw [if_pos (by omega)]
      refine g_iconst C dX2_tryPairs_42 ?_
      refine g_goto C dX2_tryPairs_43 (tgt := 47) (by decide) ?_
      refine main _ h33 (by rw [et]) (by rw [et]) (by rw [et]) (by rw [et]; refine ⟨?_, ?_, ?_⟩ <;> dsimp only <;> omega)
  · exact kr _ _ _ dX2_tryPairs_36 ⟨rfl, pp, τ, m, H0, hs, ax_sm.rf h, fun k hk => ⟨hb k hk, hcs k hk⟩, fun k hk => ⟨k, hk, rfl⟩, fun q => absurd h33 q.1⟩ ⟨rfl, rfl⟩
