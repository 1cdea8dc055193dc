section ME
variable {h : ax_H} {a : Nat} {s : MS} {us vs lw fi se : Nat → Int} {ce : Nat} {xs ys : Nat → Int} {pt : Nat} {co : Nat → Int} {cc : Nat} {B K : Nat → List Pt3} {km : Nat}
def s3 (l m : List Pt3) (w f g : Nat) : Int := l3w l w f + l3w m w g
theorem r_sumOf (M : mcx h a s us vs lw ce fi se xs ys pt co cc) (S : msi s B K km) {b b2 i f g : Nat} (w : Nat) (hb : b < 4) (hb2 : b2 < 4) (hi : i < 49) (hf : fi i = (f : Int)) (hg : se i = (g : Int)) (hfl : f < (B b).length) (hgl : g < (B b2).length) (hw : w < 3) : ax_Met MX5_sumOf [rv a, iv (b : Int), iv (b2 : Int), iv (i : Int), iv (w : Int)] h (some (iv (s3 (B b) (B b2) w f g))) h := by
  have Mz : mz h a s (us, vs, lw, ce, fi, se) xs ys pt co cc := M
  have ⟨h0, h1, h2, h3, h4, h5, h6, h7, h8, h9, h10, h11⟩ := M
  refine ax_mi (L0 := [some (rv a), some (iv (b : Int)), some (iv (b2 : Int)), some (iv (i : Int)), some (iv (w : Int))]) rfl rfl (Nat.le_refl _) (Nat.le_refl _) (Nat.le_of_ble_eq_true rfl) rfl ?_
  intro p9 l9 e9 R9 s9 m9 args9 below9 meth9 c9 b9 D9 dA9 Q9 C kr
  refine g_aload_n C dX5_sumOf_0 rfl ?_
  refine g_iload_n C dX5_sumOf_1 rfl ?_
  refine g_aload_n C dX5_sumOf_2 rfl ?_
  refine g_get C FX5_38 dX5_sumOf_3 (by assumption) rfl ?_
  refine g_iload_n C dX5_sumOf_6 rfl ?_
  refine g_iald C dX5_sumOf_7 (by assumption) rfl (by omega) (by decide) ?_
  rw [hf]
  refine g_iload C dX5_sumOf_8 rfl ?_
  refine g_V C (r_of Mz S hb hfl hw) dX5_sumOf_10 KX5_of LX5_60 IX5_of VX5_of (by decide) rfl (by assumption) rfl rfl rfl (Nat.le_of_ble_eq_true rfl) ⟨rfl, rfl⟩ ?_
  dsimp only [Option.toList, List.cons_append, List.nil_append]
  refine g_aload_n C dX5_sumOf_13 rfl ?_
  refine g_iload_n C dX5_sumOf_14 rfl ?_
  refine g_aload_n C dX5_sumOf_15 rfl ?_
  refine g_get C FX5_41 dX5_sumOf_16 (by assumption) rfl ?_
  refine g_iload_n C dX5_sumOf_19 rfl ?_
  refine g_iald C dX5_sumOf_20 (by assumption) rfl (by omega) (by decide) ?_
  rw [hg]
  refine g_iload C dX5_sumOf_21 rfl ?_
  refine g_V C (r_of Mz S hb2 hgl hw) dX5_sumOf_23 KX5_of LX5_60 IX5_of VX5_of (by decide) rfl (by assumption) rfl rfl rfl (Nat.le_of_ble_eq_true rfl) ⟨rfl, rfl⟩ ?_
  dsimp only [Option.toList, List.cons_append, List.nil_append]
  refine g_iadd C dX5_sumOf_26 ?_
  exact kr _ _ _ dX5_sumOf_27 rfl
theorem r_isLow (M : mcx h a s us vs lw ce fi se xs ys pt co cc) {i f g T U : Nat} (hi : i < 49) (hf : fi i = (f : Int)) (hg : se i = (g : Int)) (hfl : f < 32) (hgl : g < 32) (hT : T < 2147483648) (hU : U < 2147483648) : ax_Met MX5_isLow [rv a, iv (i : Int), iv (T : Int), iv (U : Int)] h (some (iv (if T / 2 ^ f % 2 = 1 ∧ U / 2 ^ g % 2 = 1 then 1 else 0))) h := by
  have ⟨h0, h1, h2, h3, h4, h5, h6, h7, h8, h9, h10, h11⟩ := M
  refine ax_mz (L0 := [some (rv a), some (iv (i : Int)), some (iv (T : Int)), some (iv (U : Int))]) rfl rfl (Nat.le_refl _) (Nat.le_refl _) (Nat.le_of_ble_eq_true rfl) rfl ?_
  intro p9 l9 e9 R9 s9 m9 args9 below9 meth9 c9 b9 D9 dA9 Q9 C kr
  refine g_iload_n C dX5_isLow_0 rfl ?_
  refine g_aload_n C dX5_isLow_1 rfl ?_
  refine g_get C FX5_38 dX5_isLow_2 (by assumption) rfl ?_
  refine g_iload_n C dX5_isLow_5 rfl ?_
  refine g_iald C dX5_isLow_6 (by assumption) rfl (by omega) (by decide) ?_
  rw [hf]
  refine g_S C (r_has (T := T) (k := f) hT hfl) dX5_isLow_7 KX5_has LX5_80 SX5_has (by decide) rfl rfl (Nat.le_of_ble_eq_true rfl) ⟨rfl, rfl⟩ ?_
  dsimp only [Option.toList, List.cons_append, List.nil_append]
  refine g_if_eq C dX5_isLow_10 (tgt := 30) (by decide) ifr (fun h10 => ?_) (fun h10 => ?_)
  · have w10 : ¬ (T / 2 ^ f % 2 = 1) := if0 h10
    refine g_iconst C dX5_isLow_30 ?_
    first | exact kr _ _ _ dX5_isLow_31 (by decide) (by rw [if_pos (by omega)]) | exact kr _ _ _ dX5_isLow_31 (by decide) (by rw [if_neg (by omega)])
  · have w10 : T / 2 ^ f % 2 = 1 := if1 h10
    refine g_iload_n C dX5_isLow_13 rfl ?_
    refine g_aload_n C dX5_isLow_14 rfl ?_
    refine g_get C FX5_41 dX5_isLow_15 (by assumption) rfl ?_
    refine g_iload_n C dX5_isLow_18 rfl ?_
    refine g_iald C dX5_isLow_19 (by assumption) rfl (by omega) (by decide) ?_
    rw [hg]
    refine g_S C (r_has (T := U) (k := g) hU hgl) dX5_isLow_20 KX5_has LX5_80 SX5_has (by decide) rfl rfl (Nat.le_of_ble_eq_true rfl) ⟨rfl, rfl⟩ ?_
    dsimp only [Option.toList, List.cons_append, List.nil_append]
    refine g_if_eq C dX5_isLow_23 (tgt := 30) (by decide) ifr (fun h23 => ?_) (fun h23 => ?_)
    · have w23 : ¬ (U / 2 ^ g % 2 = 1) := if0 h23
      refine g_iconst C dX5_isLow_30 ?_
      first | exact kr _ _ _ dX5_isLow_31 (by decide) (by rw [if_pos (by omega)]) | exact kr _ _ _ dX5_isLow_31 (by decide) (by rw [if_neg (by omega)])
    · have w23 : U / 2 ^ g % 2 = 1 := if1 h23
      refine g_iconst C dX5_isLow_26 ?_
      refine g_goto C dX5_isLow_27 (tgt := 31) (by decide) ?_
      first | exact kr _ _ _ dX5_isLow_31 (by decide) (by rw [if_pos (by omega)]) | exact kr _ _ _ dX5_isLow_31 (by decide) (by rw [if_neg (by omega)])
def D3 (l m : List Pt3) (F G : Nat → Nat) (i j k : Nat) : Int := (s3 l m 0 (F j) (G j) - s3 l m 0 (F i) (G i)) * (s3 l m 1 (F k) (G k) - s3 l m 1 (F i) (G i)) - (s3 l m 0 (F k) (G k) - s3 l m 0 (F i) (G i)) * (s3 l m 1 (F j) (G j) - s3 l m 1 (F i) (G i))
def T3 (l m : List Pt3) (F G : Nat → Nat) (i j k : Nat) : Tr := pr3 (s3 l m 0 (F j) (G j) - s3 l m 0 (F i) (G i)) (s3 l m 1 (F j) (G j) - s3 l m 1 (F i) (G i)) (s3 l m 2 (F j) (G j) - s3 l m 2 (F i) (G i)) (s3 l m 0 (F k) (G k) - s3 l m 0 (F i) (G i)) (s3 l m 1 (F k) (G k) - s3 l m 1 (F i) (G i)) (s3 l m 2 (F k) (G k) - s3 l m 2 (F i) (G i))
def lw2 (l m : List Pt3) (t : Tr) (f g : Nat) : Prop := lwm (th (lx l) (ly l) (lv l) t) l.length f ∧ lwm (th (lx m) (ly m) (lv m) t) m.length g
def ok3 (l m : List Pt3) (F G : Nat → Nat) (i j k : Nat) : Prop := D3 l m F G i j k ≠ 0 ∧ lw2 l m (T3 l m F G i j k) (F i) (G i) ∧ lw2 l m (T3 l m F G i j k) (F j) (G j) ∧ lw2 l m (T3 l m F G i j k) (F k) (G k)
theorem lw2_bt {l m : List Pt3} {t : Tr} {f g : Nat} : (lwT l t / 2 ^ f % 2 = 1 ∧ lwT m t / 2 ^ g % 2 = 1) ↔ lw2 l m t f g := by
  unfold lw2 lwT
  rw [← bo_low_bt, ← bo_low_bt]
  exact Iff.rfl
theorem s3_in {l m : List Pt3} (hl : bl_ok l) (hm : bl_ok m) {f g : Nat} (hf : f < l.length) (hg : g < m.length) : (0 ≤ s3 l m 0 f g ∧ s3 l m 0 f g ≤ 24) ∧ (0 ≤ s3 l m 1 f g ∧ s3 l m 1 f g ≤ 24) ∧ (0 ≤ s3 l m 2 f g ∧ s3 l m 2 f g ≤ 100) := by
  have h1 := hl.1.2 f hf
  have h2 := hm.1.2 g hg
  unfold s3 l3w
  simp only [if_pos, if_neg (show ¬ (1 : Nat) = 0 by decide), if_neg (show ¬ (2 : Nat) = 0 by decide), if_neg (show ¬ (2 : Nat) = 1 by decide)]
  omega
theorem pr3_tbd {x2 y2 w2 x3 y3 w3 : Int} (hx2 : -24 ≤ x2 ∧ x2 ≤ 24) (hy2 : -24 ≤ y2 ∧ y2 ≤ 24) (hw2 : -100 ≤ w2 ∧ w2 ≤ 100) (hx3 : -24 ≤ x3 ∧ x3 ≤ 24) (hy3 : -24 ≤ y3 ∧ y3 ≤ 24) (hw3 : -100 ≤ w3 ∧ w3 ≤ 100) (hd : x2 * y3 - x3 * y2 ≠ 0) : tbd (pr3 x2 y2 w2 x3 y3 w3) := by
  have a1 := mb2 (u := w3) (x := y2) (U := 100) (M := 24) hw3 hy2
  have a2 := mb2 (u := w2) (x := y3) (U := 100) (M := 24) hw2 hy3
  have a3 := mb2 (u := w2) (x := x3) (U := 100) (M := 24) hw2 hx3
  have a4 := mb2 (u := w3) (x := x2) (U := 100) (M := 24) hw3 hx2
  have a5 := mb2 (u := x2) (x := y3) (U := 24) (M := 24) hx2 hy3
  have a6 := mb2 (u := x3) (x := y2) (U := 24) (M := 24) hx3 hy2
  unfold pr3 tbd
  split <;> (dsimp only; omega)
theorem r_tryThree (M : mcx h a s us vs lw ce fi se xs ys pt co cc) (S : msi s B K km) {b b2 i j k : Nat} {F G : Nat → Nat} (hb : b < 4) (hb2 : b2 < 4) (hs : tsr (fun i => (us i, vs i, lw i)) ce) (hcs : ∀ q, q < ce → tbd (us q, vs q, lw q) ∧ CSl (B b) (B b2) (us q, vs q, lw q)) (hi : i < 49 ∧ fi i = (F i : Int) ∧ se i = (G i : Int) ∧ F i < (B b).length ∧ G i < (B b2).length) (hj : j < 49 ∧ fi j = (F j : Int) ∧ se j = (G j : Int) ∧ F j < (B b).length ∧ G j < (B b2).length) (hk : k < 49 ∧ fi k = (F k : Int) ∧ se k = (G k : Int) ∧ F k < (B b).length ∧ G k < (B b2).length) : ax_Mt MX5_tryThree [rv a, iv (b : Int), iv (b2 : Int), iv (i : Int), iv (j : Int), iv (k : Int)] h (fun r h' => r = none ∧ ax_sm a (a + 12) h h' ∧ ∃ us' vs' lw' ce', mcx h' a s us' vs' lw' ce' fi se xs ys pt co cc ∧ tsr (fun i => (us' i, vs' i, lw' i)) ce' ∧ (∀ q, q < ce' → tbd (us' q, vs' q, lw' q) ∧ CSl (B b) (B b2) (us' q, vs' q, lw' q)) ∧ (∀ q, q < ce → ∃ z, z < ce' ∧ (us' z, vs' z, lw' z) = (us q, vs q, lw q)) ∧ (ok3 (B b) (B b2) F G i j k → ∃ q, q < ce' ∧ teq (T3 (B b) (B b2) F G i j k) (us' q, vs' q, lw' q))) := by
  have hm := ax_sm.rf (lo := a) (hi := a + 12) h
  have Mz : mz h a s (us, vs, lw, ce, fi, se) xs ys pt co cc := M
  have ⟨h0, h1, h2, h3, h4, h5, h6, h7, h8, h9, h10, h11⟩ := M
  have hO := S.2.1 b hb
  have hO2 := S.2.1 b2 hb2
  have hL := hO.1.1
  have hL2 := hO2.1.1
  have ri := s3_in hO hO2 hi.2.2.2.1 hi.2.2.2.2
  have rj := s3_in hO hO2 hj.2.2.2.1 hj.2.2.2.2
  have rk := s3_in hO hO2 hk.2.2.2.1 hk.2.2.2.2
  have qi := fun w hw => r_sumOf M S w hb hb2 hi.1 hi.2.1 hi.2.2.1 hi.2.2.2.1 hi.2.2.2.2 hw
  have qj := fun w hw => r_sumOf M S w hb hb2 hj.1 hj.2.1 hj.2.2.1 hj.2.2.2.1 hj.2.2.2.2 hw
  have qk := fun w hw => r_sumOf M S w hb hb2 hk.1 hk.2.1 hk.2.2.1 hk.2.2.2.1 hk.2.2.2.2 hw
  have h93 : ce ≤ 93 := cs93 hO.1 hO2.1 (τ := fun i => (us i, vs i, lw i)) (fun i hi => (hcs i hi).2) (fun i j hi hj e => hs.inj hi hj e)
  have keep : ¬ ok3 (B b) (B b2) F G i j k → ∃ us' vs' lw' ce', mcx h a s us' vs' lw' ce' fi se xs ys pt co cc ∧ tsr (fun i => (us' i, vs' i, lw' i)) ce' ∧ (∀ q, q < ce' → tbd (us' q, vs' q, lw' q) ∧ CSl (B b) (B b2) (us' q, vs' q, lw' q)) ∧ (∀ q, q < ce → ∃ z, z < ce' ∧ (us' z, vs' z, lw' z) = (us q, vs q, lw q)) ∧ (ok3 (B b) (B b2) F G i j k → ∃ q, q < ce' ∧ teq (T3 (B b) (B b2) F G i j k) (us' q, vs' q, lw' q)) := fun no => ⟨us, vs, lw, ce, M, hs, hcs, fun q hq => ⟨q, hq, rfl⟩, fun z => absurd z no⟩
  refine ax_rv (L0 := [some (rv a), some (iv (b : Int)), some (iv (b2 : Int)), some (iv (i : Int)), some (iv (j : Int)), some (iv (k : Int)), none, none, none, none, none, none, none, none, none, none, none, none]) rfl rfl (Nat.le_of_ble_eq_true rfl) rfl ?_
  intro p9 l9 e9 R9 s9 m9 args9 below9 meth9 c9 b9 D9 dA9 Q9 C kr
  obtain ⟨x2, ex2⟩ : ∃ z, z = s3 (B b) (B b2) 0 (F j) (G j) - s3 (B b) (B b2) 0 (F i) (G i) := ⟨_, rfl⟩
  obtain ⟨y2, ey2⟩ : ∃ z, z = s3 (B b) (B b2) 1 (F j) (G j) - s3 (B b) (B b2) 1 (F i) (G i) := ⟨_, rfl⟩
  obtain ⟨w2, ew2⟩ : ∃ z, z = s3 (B b) (B b2) 2 (F j) (G j) - s3 (B b) (B b2) 2 (F i) (G i) := ⟨_, rfl⟩
  obtain ⟨x3, ex3⟩ : ∃ z, z = s3 (B b) (B b2) 0 (F k) (G k) - s3 (B b) (B b2) 0 (F i) (G i) := ⟨_, rfl⟩
  obtain ⟨y3, ey3⟩ : ∃ z, z = s3 (B b) (B b2) 1 (F k) (G k) - s3 (B b) (B b2) 1 (F i) (G i) := ⟨_, rfl⟩
  obtain ⟨w3, ew3⟩ : ∃ z, z = s3 (B b) (B b2) 2 (F k) (G k) - s3 (B b) (B b2) 2 (F i) (G i) := ⟨_, rfl⟩
  obtain ⟨D, eD⟩ : ∃ z, z = x2 * y3 - x3 * y2 := ⟨_, rfl⟩
  obtain ⟨t, et⟩ : ∃ z, z = pr3 x2 y2 w2 x3 y3 w3 := ⟨_, rfl⟩
  have eD3 : D3 (B b) (B b2) F G i j k = D := by unfold D3; rw [eD, ex2, ey2, ex3, ey3]
  have eT3 : T3 (B b) (B b2) F G i j k = t := by unfold T3; rw [et, ex2, ey2, ex3, ey3, ew2, ew3]
  have a5 := mb2 (u := x2) (x := y3) (U := 24) (M := 24) (by omega) (by omega)
  have a6 := mb2 (u := x3) (x := y2) (U := 24) (M := 24) (by omega) (by omega)
  have tail : ¬ D = 0 → tbd t → ∀ z13 : Option ax_V, ax_G p9 l9 e9 R9 s9 m9 args9 below9 meth9 c9 b9 D9 dA9 MX5_tryThree.2.2.1 h.length (ax_sz h) Q9 (190) ([some (rv a), some (iv (b : Int)), some (iv (b2 : Int)), some (iv (i : Int)), some (iv (j : Int)), some (iv (k : Int)), some (iv x2), some (iv y2), some (iv w2), some (iv x3), some (iv y3), some (iv w3), some (iv t.2.2), z13, some (iv t.1), some (iv t.2.1), none, none]) ([]) (h) := by
    intro hD tb z13
    have hT := lwT_lt (l := B b) (t := t) hL
    have hU := lwT_lt (l := B b2) (t := t) hL2
    have tb2 := tb
    unfold tbd at tb2
    refine g_aload_n C dX5_tryThree_190 rfl ?_
    refine g_iload_n C dX5_tryThree_191 rfl ?_
    refine g_iload C dX5_tryThree_192 rfl ?_
    refine g_iload C dX5_tryThree_194 rfl ?_
    refine g_iload C dX5_tryThree_196 rfl ?_
    refine g_V C (r_lowBy Mz S hb (u := t.1) (v := t.2.1) (w := t.2.2) (by omega) (by omega) (by omega)) dX5_tryThree_198 KX5_lowBy LX5_127 IX5_lowBy VX5_lowBy (by decide) rfl (by assumption) rfl rfl rfl (Nat.le_of_ble_eq_true rfl) ⟨rfl, rfl⟩ ?_
    dsimp only [Option.toList, List.cons_append, List.nil_append]
    refine g_istore C dX5_tryThree_201 (by decide) rfl ?_
    dsimp only [List.set]
    refine g_aload_n C dX5_tryThree_203 rfl ?_
    refine g_iload_n C dX5_tryThree_204 rfl ?_
    refine g_iload C dX5_tryThree_205 rfl ?_
    refine g_iload C dX5_tryThree_207 rfl ?_
    refine g_iload C dX5_tryThree_209 rfl ?_
    refine g_V C (r_lowBy Mz S hb2 (u := t.1) (v := t.2.1) (w := t.2.2) (by omega) (by omega) (by omega)) dX5_tryThree_211 KX5_lowBy LX5_127 IX5_lowBy VX5_lowBy (by decide) rfl (by assumption) rfl rfl rfl (Nat.le_of_ble_eq_true rfl) ⟨rfl, rfl⟩ ?_
    dsimp only [Option.toList, List.cons_append, List.nil_append]
    refine g_istore C dX5_tryThree_214 (by decide) rfl ?_
    dsimp only [List.set]
    refine g_aload_n C dX5_tryThree_216 rfl ?_
    refine g_iload_n C dX5_tryThree_217 rfl ?_
    refine g_iload C dX5_tryThree_218 rfl ?_
    refine g_iload C dX5_tryThree_220 rfl ?_
    refine g_V C (r_isLow M (T := lwT (B b) t) (U := lwT (B b2) t) hi.1 hi.2.1 hi.2.2.1 (by omega) (by omega) hT hU) dX5_tryThree_222 KX5_isLow LX5_130 IX5_isLow VX5_isLow (by decide) rfl (by assumption) rfl rfl rfl (Nat.le_of_ble_eq_true rfl) ⟨rfl, rfl⟩ ?_
    dsimp only [Option.toList, List.cons_append, List.nil_append]
    refine g_if_eq C dX5_tryThree_225 (tgt := 264) (by decide) ifr (fun h225 => ?_) (fun h225 => ?_)
    · have w225 : ¬ (lwT (B b) t / 2 ^ F i % 2 = 1 ∧ lwT (B b2) t / 2 ^ G i % 2 = 1) := if0 h225
      have no : ¬ ok3 (B b) (B b2) F G i j k := fun z => w225 (lw2_bt.mpr (by have := z.2.1; rw [eT3] at this; exact this))
      first | exact kr _ _ _ dX5_tryThree_264 ⟨rfl, hm, keep no⟩ hm.1 | exact kr _ _ _ dX5_tryThree_264 ⟨rfl, hm1, us', vs', lw', ce', M1, f1, fun q hq => (f2 q hq).elim (fun z => by rw [z]; exact ⟨tb, hcs2⟩) (fun ⟨z, z1, z2⟩ => by rw [z2]; exact hcs z z1), f3, fun _ => by rw [eT3]; exact f4⟩ hm1.1
    · have w225 : lwT (B b) t / 2 ^ F i % 2 = 1 ∧ lwT (B b2) t / 2 ^ G i % 2 = 1 := if1 h225
      refine g_aload_n C dX5_tryThree_228 rfl ?_
      refine g_iload C dX5_tryThree_229 rfl ?_
      refine g_iload C dX5_tryThree_231 rfl ?_
      refine g_iload C dX5_tryThree_233 rfl ?_
      refine g_V C (r_isLow M (T := lwT (B b) t) (U := lwT (B b2) t) hj.1 hj.2.1 hj.2.2.1 (by omega) (by omega) hT hU) dX5_tryThree_235 KX5_isLow LX5_130 IX5_isLow VX5_isLow (by decide) rfl (by assumption) rfl rfl rfl (Nat.le_of_ble_eq_true rfl) ⟨rfl, rfl⟩ ?_
      dsimp only [Option.toList, List.cons_append, List.nil_append]
      refine g_if_eq C dX5_tryThree_238 (tgt := 264) (by decide) ifr (fun h238 => ?_) (fun h238 => ?_)
      · have w238 : ¬ (lwT (B b) t / 2 ^ F j % 2 = 1 ∧ lwT (B b2) t / 2 ^ G j % 2 = 1) := if0 h238
        have no : ¬ ok3 (B b) (B b2) F G i j k := fun z => w238 (lw2_bt.mpr (by have := z.2.2.1; rw [eT3] at this; exact this))
        first | exact kr _ _ _ dX5_tryThree_264 ⟨rfl, hm, keep no⟩ hm.1 | exact kr _ _ _ dX5_tryThree_264 ⟨rfl, hm1, us', vs', lw', ce', M1, f1, fun q hq => (f2 q hq).elim (fun z => by rw [z]; exact ⟨tb, hcs2⟩) (fun ⟨z, z1, z2⟩ => by rw [z2]; exact hcs z z1), f3, fun _ => by rw [eT3]; exact f4⟩ hm1.1
      · have w238 : lwT (B b) t / 2 ^ F j % 2 = 1 ∧ lwT (B b2) t / 2 ^ G j % 2 = 1 := if1 h238
        refine g_aload_n C dX5_tryThree_241 rfl ?_
        refine g_iload C dX5_tryThree_242 rfl ?_
        refine g_iload C dX5_tryThree_244 rfl ?_
        refine g_iload C dX5_tryThree_246 rfl ?_
        refine g_V C (r_isLow M (T := lwT (B b) t) (U := lwT (B b2) t) hk.1 hk.2.1 hk.2.2.1 (by omega) (by omega) hT hU) dX5_tryThree_248 KX5_isLow LX5_130 IX5_isLow VX5_isLow (by decide) rfl (by assumption) rfl rfl rfl (Nat.le_of_ble_eq_true rfl) ⟨rfl, rfl⟩ ?_
        dsimp only [Option.toList, List.cons_append, List.nil_append]
        refine g_if_eq C dX5_tryThree_251 (tgt := 264) (by decide) ifr (fun h251 => ?_) (fun h251 => ?_)
        · have w251 : ¬ (lwT (B b) t / 2 ^ F k % 2 = 1 ∧ lwT (B b2) t / 2 ^ G k % 2 = 1) := if0 h251
          have no : ¬ ok3 (B b) (B b2) F G i j k := fun z => w251 (lw2_bt.mpr (by have := z.2.2.2; rw [eT3] at this; exact this))
          first | exact kr _ _ _ dX5_tryThree_264 ⟨rfl, hm, keep no⟩ hm.1 | exact kr _ _ _ dX5_tryThree_264 ⟨rfl, hm1, us', vs', lw', ce', M1, f1, fun q hq => (f2 q hq).elim (fun z => by rw [z]; exact ⟨tb, hcs2⟩) (fun ⟨z, z1, z2⟩ => by rw [z2]; exact hcs z z1), f3, fun _ => by rw [eT3]; exact f4⟩ hm1.1
        · have w251 : lwT (B b) t / 2 ^ F k % 2 = 1 ∧ lwT (B b2) t / 2 ^ G k % 2 = 1 := if1 h251
          have hcs2 : CSl (B b) (B b2) t := by
            have p1 := lw2_bt.mp w225
            have p2 := lw2_bt.mp w238
            have p3 := lw2_bt.mp w251
            refine ⟨tb.2.2.1, F i, F j, F k, G i, G j, G k, ⟨p1.1, p2.1, p3.1⟩, ⟨p1.2, p2.2, p3.2⟩, ?_⟩
            have q : tu (lx (B b) (F i) + lx (B b2) (G i)) (ly (B b) (F i) + ly (B b2) (G i)) (lx (B b) (F j) + lx (B b2) (G j)) (ly (B b) (F j) + ly (B b2) (G j)) (lx (B b) (F k) + lx (B b2) (G k)) (ly (B b) (F k) + ly (B b2) (G k)) = D := by
              rw [← eD3]; unfold tu D3 s3 l3w
              simp only [if_pos, if_neg (show ¬ (1 : Nat) = 0 by decide)]
              rw [Int.mul_comm (lx (B b) (F k) + lx (B b2) (G k) - (lx (B b) (F i) + lx (B b2) (G i)))]
            rw [q]; exact hD
          refine g_aload_n C dX5_tryThree_254 rfl ?_
          refine g_iload C dX5_tryThree_255 rfl ?_
          refine g_iload C dX5_tryThree_257 rfl ?_
          refine g_iload C dX5_tryThree_259 rfl ?_
          refine g_RV C (r_addCell M tb hs (fun q hq => (hcs q hq).1) (by omega)) dX5_tryThree_261 KX5_addCell LX5_133 IX5_addCell VX5_addCell (by decide) rfl (by assumption) rfl rfl rfl (Nat.le_of_ble_eq_true rfl) ?_
          intro r1 g1 hP1 hz1
          obtain ⟨rfl, hm1, us', vs', lw', ce', M1, f1, f2, f3, f4⟩ := hP1
          dsimp only [Option.toList, List.cons_append, List.nil_append]
          first | exact kr _ _ _ dX5_tryThree_264 ⟨rfl, hm, keep no⟩ hm.1 | exact kr _ _ _ dX5_tryThree_264 ⟨rfl, hm1, us', vs', lw', ce', M1, f1, fun q hq => (f2 q hq).elim (fun z => by rw [z]; exact ⟨tb, hcs2⟩) (fun ⟨z, z1, z2⟩ => by rw [z2]; exact hcs z z1), f3, fun _ => by rw [eT3]; exact f4⟩ hm1.1
  refine g_aload_n C dX5_tryThree_0 rfl ?_
  refine g_iload_n C dX5_tryThree_1 rfl ?_
  refine g_iload_n C dX5_tryThree_2 rfl ?_
  refine g_iload C dX5_tryThree_3 rfl ?_
  refine g_iconst C dX5_tryThree_5 ?_
  refine g_V C (qj 0 (by decide)) dX5_tryThree_6 KX5_sumOf LX5_124 IX5_sumOf VX5_sumOf (by decide) rfl (by assumption) rfl rfl rfl (Nat.le_of_ble_eq_true rfl) ⟨rfl, rfl⟩ ?_
  dsimp only [Option.toList, List.cons_append, List.nil_append]
  refine g_aload_n C dX5_tryThree_9 rfl ?_
  refine g_iload_n C dX5_tryThree_10 rfl ?_
  refine g_iload_n C dX5_tryThree_11 rfl ?_
  refine g_iload_n C dX5_tryThree_12 rfl ?_
  refine g_iconst C dX5_tryThree_13 ?_
  refine g_V C (qi 0 (by decide)) dX5_tryThree_14 KX5_sumOf LX5_124 IX5_sumOf VX5_sumOf (by decide) rfl (by assumption) rfl rfl rfl (Nat.le_of_ble_eq_true rfl) ⟨rfl, rfl⟩ ?_
  dsimp only [Option.toList, List.cons_append, List.nil_append]
  refine g_isub C dX5_tryThree_17 ?_
  refine g_top (ex2.symm) ?_
  refine g_istore C dX5_tryThree_18 (by decide) rfl ?_
  dsimp only [List.set]
  refine g_aload_n C dX5_tryThree_20 rfl ?_
  refine g_iload_n C dX5_tryThree_21 rfl ?_
  refine g_iload_n C dX5_tryThree_22 rfl ?_
  refine g_iload C dX5_tryThree_23 rfl ?_
  refine g_iconst C dX5_tryThree_25 ?_
  refine g_V C (qj 1 (by decide)) dX5_tryThree_26 KX5_sumOf LX5_124 IX5_sumOf VX5_sumOf (by decide) rfl (by assumption) rfl rfl rfl (Nat.le_of_ble_eq_true rfl) ⟨rfl, rfl⟩ ?_
  dsimp only [Option.toList, List.cons_append, List.nil_append]
  refine g_aload_n C dX5_tryThree_29 rfl ?_
  refine g_iload_n C dX5_tryThree_30 rfl ?_
  refine g_iload_n C dX5_tryThree_31 rfl ?_
  refine g_iload_n C dX5_tryThree_32 rfl ?_
  refine g_iconst C dX5_tryThree_33 ?_
  refine g_V C (qi 1 (by decide)) dX5_tryThree_34 KX5_sumOf LX5_124 IX5_sumOf VX5_sumOf (by decide) rfl (by assumption) rfl rfl rfl (Nat.le_of_ble_eq_true rfl) ⟨rfl, rfl⟩ ?_
  dsimp only [Option.toList, List.cons_append, List.nil_append]
  refine g_isub C dX5_tryThree_37 ?_
  refine g_top (ey2.symm) ?_
  refine g_istore C dX5_tryThree_38 (by decide) rfl ?_
  dsimp only [List.set]
  refine g_aload_n C dX5_tryThree_40 rfl ?_
  refine g_iload_n C dX5_tryThree_41 rfl ?_
  refine g_iload_n C dX5_tryThree_42 rfl ?_
  refine g_iload C dX5_tryThree_43 rfl ?_
  refine g_iconst C dX5_tryThree_45 ?_
  refine g_V C (qj 2 (by decide)) dX5_tryThree_46 KX5_sumOf LX5_124 IX5_sumOf VX5_sumOf (by decide) rfl (by assumption) rfl rfl rfl (Nat.le_of_ble_eq_true rfl) ⟨rfl, rfl⟩ ?_
  dsimp only [Option.toList, List.cons_append, List.nil_append]
  refine g_aload_n C dX5_tryThree_49 rfl ?_
  refine g_iload_n C dX5_tryThree_50 rfl ?_
  refine g_iload_n C dX5_tryThree_51 rfl ?_
  refine g_iload_n C dX5_tryThree_52 rfl ?_
  refine g_iconst C dX5_tryThree_53 ?_
  refine g_V C (qi 2 (by decide)) dX5_tryThree_54 KX5_sumOf LX5_124 IX5_sumOf VX5_sumOf (by decide) rfl (by assumption) rfl rfl rfl (Nat.le_of_ble_eq_true rfl) ⟨rfl, rfl⟩ ?_
  dsimp only [Option.toList, List.cons_append, List.nil_append]
  refine g_isub C dX5_tryThree_57 ?_
  refine g_top (ew2.symm) ?_
  refine g_istore C dX5_tryThree_58 (by decide) rfl ?_
  dsimp only [List.set]
  refine g_aload_n C dX5_tryThree_60 rfl ?_
  refine g_iload_n C dX5_tryThree_61 rfl ?_
  refine g_iload_n C dX5_tryThree_62 rfl ?_
  refine g_iload C dX5_tryThree_63 rfl ?_
  refine g_iconst C dX5_tryThree_65 ?_
  refine g_V C (qk 0 (by decide)) dX5_tryThree_66 KX5_sumOf LX5_124 IX5_sumOf VX5_sumOf (by decide) rfl (by assumption) rfl rfl rfl (Nat.le_of_ble_eq_true rfl) ⟨rfl, rfl⟩ ?_
  dsimp only [Option.toList, List.cons_append, List.nil_append]
  refine g_aload_n C dX5_tryThree_69 rfl ?_
  refine g_iload_n C dX5_tryThree_70 rfl ?_
  refine g_iload_n C dX5_tryThree_71 rfl ?_
  refine g_iload_n C dX5_tryThree_72 rfl ?_
  refine g_iconst C dX5_tryThree_73 ?_
  refine g_V C (qi 0 (by decide)) dX5_tryThree_74 KX5_sumOf LX5_124 IX5_sumOf VX5_sumOf (by decide) rfl (by assumption) rfl rfl rfl (Nat.le_of_ble_eq_true rfl) ⟨rfl, rfl⟩ ?_
  dsimp only [Option.toList, List.cons_append, List.nil_append]
  refine g_isub C dX5_tryThree_77 ?_
  refine g_top (ex3.symm) ?_
  refine g_istore C dX5_tryThree_78 (by decide) rfl ?_
  dsimp only [List.set]
  refine g_aload_n C dX5_tryThree_80 rfl ?_
  refine g_iload_n C dX5_tryThree_81 rfl ?_
  refine g_iload_n C dX5_tryThree_82 rfl ?_
  refine g_iload C dX5_tryThree_83 rfl ?_
  refine g_iconst C dX5_tryThree_85 ?_
  refine g_V C (qk 1 (by decide)) dX5_tryThree_86 KX5_sumOf LX5_124 IX5_sumOf VX5_sumOf (by decide) rfl (by assumption) rfl rfl rfl (Nat.le_of_ble_eq_true rfl) ⟨rfl, rfl⟩ ?_
  dsimp only [Option.toList, List.cons_append, List.nil_append]
  refine g_aload_n C dX5_tryThree_89 rfl ?_
  refine g_iload_n C dX5_tryThree_90 rfl ?_
  refine g_iload_n C dX5_tryThree_91 rfl ?_
  refine g_iload_n C dX5_tryThree_92 rfl ?_
  refine g_iconst C dX5_tryThree_93 ?_
  refine g_V C (qi 1 (by decide)) dX5_tryThree_94 KX5_sumOf LX5_124 IX5_sumOf VX5_sumOf (by decide) rfl (by assumption) rfl rfl rfl (Nat.le_of_ble_eq_true rfl) ⟨rfl, rfl⟩ ?_
  dsimp only [Option.toList, List.cons_append, List.nil_append]
  refine g_isub C dX5_tryThree_97 ?_
  refine g_top (ey3.symm) ?_
  refine g_istore C dX5_tryThree_98 (by decide) rfl ?_
  dsimp only [List.set]
  refine g_aload_n C dX5_tryThree_100 rfl ?_
  refine g_iload_n C dX5_tryThree_101 rfl ?_
  refine g_iload_n C dX5_tryThree_102 rfl ?_
  refine g_iload C dX5_tryThree_103 rfl ?_
  refine g_iconst C dX5_tryThree_105 ?_
  refine g_V C (qk 2 (by decide)) dX5_tryThree_106 KX5_sumOf LX5_124 IX5_sumOf VX5_sumOf (by decide) rfl (by assumption) rfl rfl rfl (Nat.le_of_ble_eq_true rfl) ⟨rfl, rfl⟩ ?_
  dsimp only [Option.toList, List.cons_append, List.nil_append]
  refine g_aload_n C dX5_tryThree_109 rfl ?_
  refine g_iload_n C dX5_tryThree_110 rfl ?_
  refine g_iload_n C dX5_tryThree_111 rfl ?_
  refine g_iload_n C dX5_tryThree_112 rfl ?_
  refine g_iconst C dX5_tryThree_113 ?_
  refine g_V C (qi 2 (by decide)) dX5_tryThree_114 KX5_sumOf LX5_124 IX5_sumOf VX5_sumOf (by decide) rfl (by assumption) rfl rfl rfl (Nat.le_of_ble_eq_true rfl) ⟨rfl, rfl⟩ ?_
  dsimp only [Option.toList, List.cons_append, List.nil_append]
  refine g_isub C dX5_tryThree_117 ?_
  refine g_top (ew3.symm) ?_
  refine g_istore C dX5_tryThree_118 (by decide) rfl ?_
  dsimp only [List.set]
  refine g_iload C dX5_tryThree_120 rfl ?_
  refine g_iload C dX5_tryThree_122 rfl ?_
  refine g_imul C dX5_tryThree_124 ?_
  refine g_iload C dX5_tryThree_125 rfl ?_
  refine g_iload C dX5_tryThree_127 rfl ?_
  refine g_imul C dX5_tryThree_129 ?_
  refine g_isub C dX5_tryThree_130 ?_
  refine g_top (eD.symm) ?_
  refine g_istore C dX5_tryThree_131 (by decide) rfl ?_
  dsimp only [List.set]
  refine g_iload C dX5_tryThree_133 rfl ?_
  refine g_if_ne C dX5_tryThree_135 (tgt := 139) (by decide) (by omega) (fun h135 => ?_) (fun h135 => ?_)
  · have tb : tbd t := by rw [et]; exact pr3_tbd (by omega) (by omega) (by omega) (by omega) (by omega) (by omega) (by rw [← eD]; exact h135)
    refine g_iload C dX5_tryThree_139 rfl ?_
    refine g_if_le C dX5_tryThree_141 (tgt := 148) (by decide) (by omega) (fun h141 => ?_) (fun h141 => ?_)
    · have e1 : -1 * (w3 * y2 - w2 * y3) = t.1 := by rw [et]; unfold pr3; rw [if_pos (by omega)]
      have e2 : -1 * (x3 * w2 - x2 * w3) = t.2.1 := by rw [et]; unfold pr3; rw [if_pos (by omega)]; dsimp only; rw [Int.mul_comm x3 w2, Int.mul_comm x2 w3]
      have e3 : D * -1 = t.2.2 := by rw [et]; unfold pr3; rw [if_pos (by omega)]; dsimp only; rw [← eD]; omega
      refine g_iconst C dX5_tryThree_148 ?_
      refine g_istore C dX5_tryThree_149 (by decide) rfl ?_
      dsimp only [List.set]
      refine g_iload C dX5_tryThree_151 rfl ?_
      refine g_iload C dX5_tryThree_153 rfl ?_
      refine g_iload C dX5_tryThree_155 rfl ?_
      refine g_imul C dX5_tryThree_157 ?_
      refine g_iload C dX5_tryThree_158 rfl ?_
      refine g_iload C dX5_tryThree_160 rfl ?_
      refine g_imul C dX5_tryThree_162 ?_
      refine g_isub C dX5_tryThree_163 ?_
      refine g_imul C dX5_tryThree_164 ?_
      refine g_top (e1) ?_
      refine g_istore C dX5_tryThree_165 (by decide) rfl ?_
      dsimp only [List.set]
      refine g_iload C dX5_tryThree_167 rfl ?_
      refine g_iload C dX5_tryThree_169 rfl ?_
      refine g_iload C dX5_tryThree_171 rfl ?_
      refine g_imul C dX5_tryThree_173 ?_
      refine g_iload C dX5_tryThree_174 rfl ?_
      refine g_iload C dX5_tryThree_176 rfl ?_
      refine g_imul C dX5_tryThree_178 ?_
      refine g_isub C dX5_tryThree_179 ?_
      refine g_imul C dX5_tryThree_180 ?_
      refine g_top (e2) ?_
      refine g_istore C dX5_tryThree_181 (by decide) rfl ?_
      dsimp only [List.set]
      refine g_iload C dX5_tryThree_183 rfl ?_
      refine g_iload C dX5_tryThree_185 rfl ?_
      refine g_imul C dX5_tryThree_187 ?_
      refine g_top (e3) ?_
      refine g_istore C dX5_tryThree_188 (by decide) rfl ?_
      dsimp only [List.set]
      clear e1 e2 e3
      exact tail h135 tb _
    · have e1 : 1 * (w3 * y2 - w2 * y3) = t.1 := by rw [et]; unfold pr3; rw [if_neg (by omega)]
      have e2 : 1 * (x3 * w2 - x2 * w3) = t.2.1 := by rw [et]; unfold pr3; rw [if_neg (by omega)]; dsimp only; rw [Int.mul_comm x3 w2, Int.mul_comm x2 w3]
      have e3 : D * 1 = t.2.2 := by rw [et]; unfold pr3; rw [if_neg (by omega)]; dsimp only; rw [← eD]; omega
      refine g_iconst C dX5_tryThree_144 ?_
      refine g_goto C dX5_tryThree_145 (tgt := 149) (by decide) ?_
      refine g_istore C dX5_tryThree_149 (by decide) rfl ?_
      dsimp only [List.set]
      refine g_iload C dX5_tryThree_151 rfl ?_
      refine g_iload C dX5_tryThree_153 rfl ?_
      refine g_iload C dX5_tryThree_155 rfl ?_
      refine g_imul C dX5_tryThree_157 ?_
      refine g_iload C dX5_tryThree_158 rfl ?_
      refine g_iload C dX5_tryThree_160 rfl ?_
      refine g_imul C dX5_tryThree_162 ?_
      refine g_isub C dX5_tryThree_163 ?_
      refine g_imul C dX5_tryThree_164 ?_
      refine g_top (e1) ?_
      refine g_istore C dX5_tryThree_165 (by decide) rfl ?_
      dsimp only [List.set]
      refine g_iload C dX5_tryThree_167 rfl ?_
      refine g_iload C dX5_tryThree_169 rfl ?_
      refine g_iload C dX5_tryThree_171 rfl ?_
      refine g_imul C dX5_tryThree_173 ?_
      refine g_iload C dX5_tryThree_174 rfl ?_
      refine g_iload C dX5_tryThree_176 rfl ?_
      refine g_imul C dX5_tryThree_178 ?_
      refine g_isub C dX5_tryThree_179 ?_
      refine g_imul C dX5_tryThree_180 ?_
      refine g_top (e2) ?_
      refine g_istore C dX5_tryThree_181 (by decide) rfl ?_
      dsimp only [List.set]
      refine g_iload C dX5_tryThree_183 rfl ?_
      refine g_iload C dX5_tryThree_185 rfl ?_
      refine g_imul C dX5_tryThree_187 ?_
      refine g_top (e3) ?_
      refine g_istore C dX5_tryThree_188 (by decide) rfl ?_
      dsimp only [List.set]
      clear e1 e2 e3
      exact tail h135 tb _
  · exact kr _ _ _ dX5_tryThree_138 ⟨rfl, hm, keep (fun z => z.1 (by rw [eD3]; exact h135))⟩ hm.1
end ME
