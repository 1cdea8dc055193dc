/-! the reference: its state -/
abbrev MS : Type := (Nat → Int) × (Nat → Int) × (Nat → Int)
abbrev MC : Type := (Nat → Int) × (Nat → Int) × (Nat → Int) × Nat × (Nat → Int) × (Nat → Int)
abbrev mz (h : ax_H) (a : Nat) (s : MS) (c : MC) (xs ys : Nat → Int) (pt : Nat) (co : Nat → Int) (cc : Nat) : Prop := mo_at h a s.1 s.2.1 s.2.2 xs ys pt co cc c.1 c.2.1 c.2.2.1 c.2.2.2.1 c.2.2.2.2.1 c.2.2.2.2.2
def mst (sa : Nat → Int) (B : Nat → List Pt3) : Prop := ∀ b, b < 4 → sa b = ((B b).length : Int) ∧ ∀ k, k < (B b).length → sa (4 + 21 * b + 3 * k) = lx (B b) k ∧ sa (4 + 21 * b + 3 * k + 1) = ly (B b) k ∧ sa (4 + 21 * b + 3 * k + 2) = lv (B b) k
def mok (B : Nat → List Pt3) : Prop := ∀ b, b < 4 → bl_ok (B b)
def msi (s : MS) (B K : Nat → List Pt3) (km : Nat) : Prop := mst s.1 B ∧ mok B ∧ (∀ k, k < 2 → mst (fun j => s.2.1 (88 * k + j)) (fun b => K (4 * k + b)) ∧ mok (fun b => K (4 * k + b))) ∧ (∀ k, k < 2 → s.2.2 k = ((km / 2 ^ k % 2 : Nat) : Int)) ∧ km < 4
def mw (h : ax_H) (a : Nat) (B K : Nat → List Pt3) (km : Nat) : Prop := ∃ s c xs ys pt co cc, mz h a s c xs ys pt co cc ∧ msi s B K km
theorem mok.len {B : Nat → List Pt3} (h : mok B) {b : Nat} (hb : b < 4) : (B b).length ≤ 7 := (h b hb).1.1
theorem r_in {h : ax_H} {x y z : Int} (hx : -2147483648 ≤ x ∧ x < 2147483648) (hy : -2147483648 ≤ y ∧ y < 2147483648) (hz : -2147483648 ≤ z ∧ z < 2147483648) : ax_Met MX5_in [iv x, iv y, iv z] h (some (iv (if y ≤ x ∧ x ≤ z then 1 else 0))) h := by
  refine ax_mz (L0 := [some (iv x), some (iv y), some (iv z)]) rfl rfl (Nat.le_refl _) (Nat.le_refl _) (Nat.le_of_ble_eq_true rfl) rfl ?_
  intro p9 l9 e9 R9 s9 m9 args9 below9 meth9 c9 b9 D9 dA9 Q9 C kr
  refine g_iload_n C dX5_in_0 rfl ?_
  refine g_iload_n C dX5_in_1 rfl ?_
  refine g_icmp_lt C dX5_in_2 (tgt := 14) (by decide) (by omega) (by omega) (fun h2 => ?_) (fun h2 => ?_)
  · refine g_iconst C dX5_in_14 ?_
    first | exact kr _ _ _ dX5_in_15 (by decide) (by rw [if_pos (by omega)]) | exact kr _ _ _ dX5_in_15 (by decide) (by rw [if_neg (by omega)])
  · refine g_iload_n C dX5_in_5 rfl ?_
    refine g_iload_n C dX5_in_6 rfl ?_
    refine g_icmp_gt C dX5_in_7 (tgt := 14) (by decide) (by omega) (by omega) (fun h7 => ?_) (fun h7 => ?_)
    · refine g_iconst C dX5_in_14 ?_
      first | exact kr _ _ _ dX5_in_15 (by decide) (by rw [if_pos (by omega)]) | exact kr _ _ _ dX5_in_15 (by decide) (by rw [if_neg (by omega)])
    · refine g_iconst C dX5_in_10 ?_
      refine g_goto C dX5_in_11 (tgt := 15) (by decide) ?_
      first | exact kr _ _ _ dX5_in_15 (by decide) (by rw [if_pos (by omega)]) | exact kr _ _ _ dX5_in_15 (by decide) (by rw [if_neg (by omega)])
theorem r_isBody {h : ax_H} {x : Int} (hx : -2147483648 ≤ x ∧ x < 2147483648) : ax_Met MX5_isBody [iv x] h (some (iv (if 0 ≤ x ∧ x ≤ 3 then 1 else 0))) h := by
  refine ax_mz (L0 := [some (iv x)]) rfl rfl (Nat.le_refl _) (Nat.le_refl _) (Nat.le_of_ble_eq_true rfl) rfl ?_
  intro p9 l9 e9 R9 s9 m9 args9 below9 meth9 c9 b9 D9 dA9 Q9 C kr
  refine g_iload_n C dX5_isBody_0 rfl ?_
  refine g_iconst C dX5_isBody_1 ?_
  refine g_iconst C dX5_isBody_2 ?_
  refine g_S C (r_in hx (by omega) (by omega)) dX5_isBody_3 KX5_in LX5_44 SX5_in (by decide) rfl rfl (Nat.le_of_ble_eq_true rfl) ⟨rfl, rfl⟩ ?_
  dsimp only [Option.toList, List.cons_append, List.nil_append]
  exact kr _ _ _ dX5_isBody_6 (by split <;> omega) rfl
theorem r_has {h : ax_H} {T k : Nat} (hT : T < 2147483648) (hk : k < 32) : ax_Met MX5_has [iv (T : Int), iv (k : Int)] h (some (iv (if T / 2 ^ k % 2 = 1 then 1 else 0))) h := by
  have hb := Nat.mod_lt (T / 2 ^ k) (show 2 > 0 by decide)
  refine ax_mz (L0 := [some (iv (T : Int)), some (iv (k : Int))]) rfl rfl (Nat.le_refl _) (Nat.le_refl _) (Nat.le_of_ble_eq_true rfl) rfl ?_
  intro p9 l9 e9 R9 s9 m9 args9 below9 meth9 c9 b9 D9 dA9 Q9 C kr
  refine g_iload_n C dX5_has_0 rfl ?_
  refine g_iload_n C dX5_has_1 rfl ?_
  refine g_ishr C dX5_has_2 (by omega) (by omega) ?_
  refine g_iconst C dX5_has_3 ?_
  refine g_iand C dX5_has_4 ax_bit ?_
  refine g_iconst C dX5_has_5 ?_
  refine g_icmp_ne C dX5_has_6 (tgt := 13) (by decide) (by omega) (by omega) (fun h6 => ?_) (fun h6 => ?_)
  · refine g_iconst C dX5_has_13 ?_
    first | exact kr _ _ _ dX5_has_14 (by decide) (by rw [if_pos (by omega)]) | exact kr _ _ _ dX5_has_14 (by decide) (by rw [if_neg (by omega)])
  · refine g_iconst C dX5_has_9 ?_
    refine g_goto C dX5_has_10 (tgt := 14) (by decide) ?_
    first | exact kr _ _ _ dX5_has_14 (by decide) (by rw [if_pos (by omega)]) | exact kr _ _ _ dX5_has_14 (by decide) (by rw [if_neg (by omega)])
theorem r_at {h : ax_H} {x y z : Int} : ax_Met MX5_at [iv x, iv y, iv z] h (some (iv (4 + 21 * x + 3 * y + z))) h := by
  refine ax_mi (L0 := [some (iv x), some (iv y), some (iv z)]) rfl rfl (Nat.le_refl _) (Nat.le_refl _) (Nat.le_of_ble_eq_true rfl) rfl ?_
  intro p9 l9 e9 R9 s9 m9 args9 below9 meth9 c9 b9 D9 dA9 Q9 C kr
  refine g_iconst C dX5_at_0 ?_
  refine g_bipush C dX5_at_1 (by decide) ?_
  refine g_iload_n C dX5_at_3 rfl ?_
  refine g_imul C dX5_at_4 ?_
  refine g_iadd C dX5_at_5 ?_
  refine g_iconst C dX5_at_6 ?_
  refine g_iload_n C dX5_at_7 rfl ?_
  refine g_imul C dX5_at_8 ?_
  refine g_iadd C dX5_at_9 ?_
  refine g_iload_n C dX5_at_10 rfl ?_
  refine g_iadd C dX5_at_11 ?_
  exact kr _ _ _ dX5_at_12 rfl
section MO
variable {h : ax_H} {a : Nat} {s : MS} {c : MC} {xs ys : Nat → Int} {pt : Nat} {co : Nat → Int} {cc : Nat} {B K : Nat → List Pt3} {km : Nat}
theorem r_many (M : mz h a s c xs ys pt co cc) (S : msi s B K km) {b : Nat} (hb : b < 4) : ax_Met MX5_many [rv a, iv (b : Int)] h (some (iv ((B b).length : Int))) h := by
  have ⟨h0, h1, h2, h3, h4, h5, h6, h7, h8, h9, h10, h11⟩ := M
  have e := (S.1 b hb).1
  refine ax_mi (L0 := [some (rv a), some (iv (b : Int))]) rfl rfl (Nat.le_refl _) (Nat.le_refl _) (Nat.le_of_ble_eq_true rfl) rfl ?_
  intro p9 l9 e9 R9 s9 m9 args9 below9 meth9 c9 b9 D9 dA9 Q9 C kr
  refine g_aload_n C dX5_many_0 rfl ?_
  refine g_get C FX5_7 dX5_many_1 (by assumption) rfl ?_
  refine g_iconst C dX5_many_4 ?_
  refine g_iload_n C dX5_many_5 rfl ?_
  refine g_iadd C dX5_many_6 ?_
  refine g_top (show _ = (b : Int) by omega) ?_
  refine g_iald C dX5_many_7 (by assumption) rfl (by omega) (by decide) ?_
  exact kr _ _ _ dX5_many_8 (by rw [e])
theorem r_of0 (M : mz h a s c xs ys pt co cc) {b k w : Nat} (hb : 4 + 21 * b + 3 * k + w < 88) : ax_Met MX5_of [rv a, iv (b : Int), iv (k : Int), iv (w : Int)] h (some (iv (s.1 (4 + 21 * b + 3 * k + w)))) h := by
  have ⟨h0, h1, h2, h3, h4, h5, h6, h7, h8, h9, h10, h11⟩ := M
  refine ax_mi (L0 := [some (rv a), some (iv (b : Int)), some (iv (k : Int)), some (iv (w : Int))]) rfl rfl (Nat.le_refl _) (Nat.le_refl _) (Nat.le_of_ble_eq_true rfl) rfl ?_
  intro p9 l9 e9 R9 s9 m9 args9 below9 meth9 c9 b9 D9 dA9 Q9 C kr
  refine g_aload_n C dX5_of_0 rfl ?_
  refine g_get C FX5_7 dX5_of_1 (by assumption) rfl ?_
  refine g_iload_n C dX5_of_4 rfl ?_
  refine g_iload_n C dX5_of_5 rfl ?_
  refine g_iload_n C dX5_of_6 rfl ?_
  refine g_S C (r_at) dX5_of_7 KX5_at LX5_48 SX5_at (by decide) rfl rfl (Nat.le_of_ble_eq_true rfl) ⟨rfl, rfl⟩ ?_
  dsimp only [Option.toList, List.cons_append, List.nil_append]
  refine g_iald C dX5_of_10 (by assumption) (show 4 + 21 * (b : Int) + 3 * (k : Int) + (w : Int) = ((4 + 21 * b + 3 * k + w : Nat) : Int) by omega) (by omega) (by decide) ?_
  exact kr _ _ _ dX5_of_11 rfl
def l3w (l : List Pt3) (w k : Nat) : Int := if w = 0 then lx l k else if w = 1 then ly l k else lv l k
theorem r_of (M : mz h a s c xs ys pt co cc) (S : msi s B K km) {b k w : Nat} (hb : b < 4) (hk : k < (B b).length) (hw : w < 3) : ax_Met MX5_of [rv a, iv (b : Int), iv (k : Int), iv (w : Int)] h (some (iv (l3w (B b) w k))) h := by
  have hL := S.2.1.len hb
  have := r_of0 M (b := b) (k := k) (w := w) (by omega)
  have e := (S.1 b hb).2 k hk
  rcases (show w = 0 ∨ w = 1 ∨ w = 2 by omega) with rfl | rfl | rfl
  · rw [show s.1 (4 + 21 * b + 3 * k + 0) = lx (B b) k from e.1] at this; exact this
  · rw [e.2.1] at this; exact this
  · rw [e.2.2] at this; exact this
theorem r_of_0 (M : mz h a s c xs ys pt co cc) (S : msi s B K km) {b k : Nat} (hb : b < 4) (hk : k < (B b).length) : ax_Met MX5_of [rv a, iv (b : Int), iv (k : Int), iv 0] h (some (iv (lx (B b) k))) h := r_of (w := 0) M S hb hk (by omega)
theorem r_of_1 (M : mz h a s c xs ys pt co cc) (S : msi s B K km) {b k : Nat} (hb : b < 4) (hk : k < (B b).length) : ax_Met MX5_of [rv a, iv (b : Int), iv (k : Int), iv 1] h (some (iv (ly (B b) k))) h := r_of (w := 1) M S hb hk (by omega)
theorem r_of_2 (M : mz h a s c xs ys pt co cc) (S : msi s B K km) {b k : Nat} (hb : b < 4) (hk : k < (B b).length) : ax_Met MX5_of [rv a, iv (b : Int), iv (k : Int), iv 2] h (some (iv (lv (B b) k))) h := r_of (w := 2) M S hb hk (by omega)
/-! clear, point, low -/
theorem va_eq {α : Type} {f : Nat → α} {k : Nat} {v : α} : va_up f k v k = v := if_pos rfl
theorem va_ne {α : Type} {f : Nat → α} {k j : Nat} {v : α} (h : j ≠ k) : va_up f k v j = f j := if_neg h
theorem mst.up {sa sb : Nat → Int} {B : Nat → List Pt3} (H : mst sa B) {b : Nat} (hb : b < 4) {l : List Pt3} (hl : l.length ≤ 7) (e1 : sb b = (l.length : Int)) (e2 : ∀ k, k < l.length → sb (4 + 21 * b + 3 * k) = lx l k ∧ sb (4 + 21 * b + 3 * k + 1) = ly l k ∧ sb (4 + 21 * b + 3 * k + 2) = lv l k) (e3 : ∀ i, i < 88 → i ≠ b → (i < 4 + 21 * b ∨ 4 + 21 * b + 21 ≤ i) → sb i = sa i) (hB : ∀ i, i < 4 → (B i).length ≤ 7) : mst sb (va_up B b l) := fun i hi => by
  by_cases q : i = b
  · subst q; rw [va_eq]; exact ⟨e1, e2⟩
  · rw [va_ne q]
    have hh := H i hi
    have hL := hB i hi
    refine ⟨by rw [e3 i (by omega) q (by omega)]; exact hh.1, fun k hk => ?_⟩
    rw [e3 _ (by omega) (by omega) (by omega), e3 _ (by omega) (by omega) (by omega), e3 _ (by omega) (by omega) (by omega)]
    exact hh.2 k hk
theorem mok.up (H : mok B) {b : Nat} {l : List Pt3} (hl : bl_ok l) : mok (va_up B b l) := fun i hi => by
  by_cases q : i = b
  · subst q; rw [va_eq]; exact hl
  · rw [va_ne q]; exact H i hi
theorem msi.up (S : msi s B K km) {sb : Nat → Int} {b : Nat} (hb : b < 4) {l : List Pt3} (hl : bl_ok l) (e1 : sb b = (l.length : Int)) (e2 : ∀ k, k < l.length → sb (4 + 21 * b + 3 * k) = lx l k ∧ sb (4 + 21 * b + 3 * k + 1) = ly l k ∧ sb (4 + 21 * b + 3 * k + 2) = lv l k) (e3 : ∀ i, i < 88 → i ≠ b → (i < 4 + 21 * b ∨ 4 + 21 * b + 21 ≤ i) → sb i = s.1 i) : msi (sb, s.2) (va_up B b l) K km := ⟨S.1.up hb hl.1.1 e1 e2 e3 (fun i hi => S.2.1.len hi), S.2.1.up hl, S.2.2⟩
theorem r_clear (H : mw h a B K km) {b : Int} (hb : -2147483648 ≤ b ∧ b < 2147483648) : ax_Mt MX5_clear [rv a, iv b] h (fun r h' => r = some (iv (sclear B b).1) ∧ mw h' a (sclear B b).2 K km ∧ ax_sm a (a + 12) h h') := by
  have hm := ax_sm.rf (lo := a) (hi := a + 12) h
  have ⟨s, c, xs, ys, pt, co, cc, M, S⟩ := H
  have ⟨h0, h1, h2, h3, h4, h5, h6, h7, h8, h9, h10, h11⟩ := M
  refine ax_ri (L0 := [some (rv a), some (iv b), none]) rfl rfl (Nat.le_of_ble_eq_true rfl) rfl ?_
  intro p9 l9 e9 R9 s9 m9 args9 below9 meth9 c9 b9 D9 dA9 Q9 C kr
  refine g_iload_n C dX5_clear_0 rfl ?_
  refine g_S C (r_isBody hb) dX5_clear_1 KX5_isBody LX5_52 SX5_isBody (by decide) rfl rfl (Nat.le_of_ble_eq_true rfl) ⟨rfl, rfl⟩ ?_
  dsimp only [Option.toList, List.cons_append, List.nil_append]
  refine g_if_ne C dX5_clear_4 (tgt := 9) (by decide) ifr (fun h4 => ?_) (fun h4 => ?_)
  · have w4 : 0 ≤ b ∧ b ≤ 3 := if1 h4
    obtain ⟨n, rfl⟩ : ∃ n : Nat, b = (n : Int) := ⟨b.toNat, by omega⟩
    refine g_aload_n C dX5_clear_9 rfl ?_
    refine g_iload_n C dX5_clear_10 rfl ?_
    refine g_V C (r_many M S (b := n) (by omega)) dX5_clear_11 KX5_many LX5_56 IX5_many VX5_many (by decide) rfl (by assumption) rfl rfl rfl (Nat.le_of_ble_eq_true rfl) ⟨rfl, rfl⟩ ?_
    dsimp only [Option.toList, List.cons_append, List.nil_append]
    refine g_istore_n C dX5_clear_14 (by decide) rfl ?_
    dsimp only [List.set]
    refine g_aload_n C dX5_clear_15 rfl ?_
    refine g_get C FX5_7 dX5_clear_16 (by assumption) rfl ?_
    refine g_iconst C dX5_clear_19 ?_
    refine g_iload_n C dX5_clear_20 rfl ?_
    refine g_iadd C dX5_clear_21 ?_
    refine g_top (show _ = (n : Int) by omega) ?_
    refine g_iconst C dX5_clear_22 ?_
    refine g_iast C dX5_clear_23 (by assumption) rfl (by omega) (by decide) ?_
    refine mo_s_sa M hm ?_
    intro h9 M9 hm9
    refine g_iload_n C dX5_clear_24 rfl ?_
    have e : sclear B (n : Int) = (((B n).length : Int), va_up B n []) := by (unfold sclear; rw [Int.toNat_natCast]; (repeat (first | rw [if_pos (by omega)] | rw [if_neg (by omega)])))
    refine kr _ _ _ _ dX5_clear_25 ?_ hm9.1
    rw [e]
    refine ⟨rfl, ⟨(va_up s.1 n 0, s.2), c, xs, ys, pt, co, cc, M9, S.up (by omega) bl_nil va_eq (fun k hk => absurd hk (Nat.not_lt_zero _)) (fun i h1 h2 h3 => va_ne h2)⟩, hm9⟩
  · have w4 : ¬ (0 ≤ b ∧ b ≤ 3) := if0 h4
    refine g_iconst C dX5_clear_7 ?_
    have e : sclear B b = (-1, B) := by (unfold sclear; (repeat (first | rw [if_pos (by omega)] | rw [if_neg (by omega)])))
    exact kr _ _ _ _ dX5_clear_8 (by rw [e]; exact ⟨rfl, H, hm⟩) hm.1
theorem r_point (H : mw h a B K km) {b k w : Int} (hb : -2147483648 ≤ b ∧ b < 2147483648) (hk : -2147483648 ≤ k ∧ k < 2147483648) (hw : -2147483648 ≤ w ∧ w < 2147483648) : ax_Mt MX5_point [rv a, iv b, iv k, iv w] h (fun r h' => r = some (iv (spoint B b k w)) ∧ mw h' a B K km ∧ ax_sm a (a + 12) h h') := by
  have hm := ax_sm.rf (lo := a) (hi := a + 12) h
  have ⟨s, c, xs, ys, pt, co, cc, M, S⟩ := H
  have ⟨h0, h1, h2, h3, h4, h5, h6, h7, h8, h9, h10, h11⟩ := M
  refine ax_ri (L0 := [some (rv a), some (iv b), some (iv k), some (iv w)]) rfl rfl (Nat.le_of_ble_eq_true rfl) rfl ?_
  intro p9 l9 e9 R9 s9 m9 args9 below9 meth9 c9 b9 D9 dA9 Q9 C kr
  refine g_iload_n C dX5_point_0 rfl ?_
  refine g_S C (r_isBody hb) dX5_point_1 KX5_isBody LX5_52 SX5_isBody (by decide) rfl rfl (Nat.le_of_ble_eq_true rfl) ⟨rfl, rfl⟩ ?_
  dsimp only [Option.toList, List.cons_append, List.nil_append]
  refine g_if_ne C dX5_point_4 (tgt := 9) (by decide) ifr (fun h4 => ?_) (fun h4 => ?_)
  · have w4 : 0 ≤ b ∧ b ≤ 3 := if1 h4
    obtain ⟨n, rfl⟩ : ∃ n : Nat, b = (n : Int) := ⟨b.toNat, by omega⟩
    have hL := S.2.1.len (b := n) (by omega)
    refine g_iload_n C dX5_point_9 rfl ?_
    refine g_iconst C dX5_point_10 ?_
    refine g_iconst C dX5_point_11 ?_
    refine g_S C (r_in hw (by omega) (by omega)) dX5_point_12 KX5_in LX5_44 SX5_in (by decide) rfl rfl (Nat.le_of_ble_eq_true rfl) ⟨rfl, rfl⟩ ?_
    dsimp only [Option.toList, List.cons_append, List.nil_append]
    refine g_if_ne C dX5_point_15 (tgt := 21) (by decide) ifr (fun h15 => ?_) (fun h15 => ?_)
    · have w15 : 0 ≤ w ∧ w ≤ 2 := if1 h15
      refine g_iload_n C dX5_point_21 rfl ?_
      refine g_iconst C dX5_point_22 ?_
      refine g_aload_n C dX5_point_23 rfl ?_
      refine g_iload_n C dX5_point_24 rfl ?_
      refine g_V C (r_many M S (b := n) (by omega)) dX5_point_25 KX5_many LX5_56 IX5_many VX5_many (by decide) rfl (by assumption) rfl rfl rfl (Nat.le_of_ble_eq_true rfl) ⟨rfl, rfl⟩ ?_
      dsimp only [Option.toList, List.cons_append, List.nil_append]
      refine g_iconst C dX5_point_28 ?_
      refine g_isub C dX5_point_29 ?_
      refine g_S C (r_in hk (by omega) (by omega)) dX5_point_30 KX5_in LX5_44 SX5_in (by decide) rfl rfl (Nat.le_of_ble_eq_true rfl) ⟨rfl, rfl⟩ ?_
      dsimp only [Option.toList, List.cons_append, List.nil_append]
      refine g_if_eq C dX5_point_33 (tgt := 46) (by decide) ifr (fun h33 => ?_) (fun h33 => ?_)
      · have w33 : ¬ (0 ≤ k ∧ k ≤ ((B n).length : Int) - 1) := if0 h33
        refine g_bipush C dX5_point_46 (by decide) ?_
        exact kr _ _ _ _ dX5_point_48 ⟨congrArg (fun z => some (iv z)) (by unfold spoint; rw [Int.toNat_natCast]; (repeat (first | rw [if_pos (by omega)] | rw [if_neg (by omega)]))), H, hm⟩ hm.1
      · have w33 : 0 ≤ k ∧ k ≤ ((B n).length : Int) - 1 := if1 h33
        obtain ⟨j, rfl⟩ : ∃ n : Nat, k = (n : Int) := ⟨k.toNat, by omega⟩
        obtain ⟨v, rfl⟩ : ∃ n : Nat, w = (n : Int) := ⟨w.toNat, by omega⟩
        refine g_aload_n C dX5_point_36 rfl ?_
        refine g_iload_n C dX5_point_37 rfl ?_
        refine g_iload_n C dX5_point_38 rfl ?_
        refine g_iload_n C dX5_point_39 rfl ?_
        refine g_V C (r_of M S (b := n) (k := j) (w := v) (by omega) (by omega) (by omega)) dX5_point_40 KX5_of LX5_60 IX5_of VX5_of (by decide) rfl (by assumption) rfl rfl rfl (Nat.le_of_ble_eq_true rfl) ⟨rfl, rfl⟩ ?_
        dsimp only [Option.toList, List.cons_append, List.nil_append]
        refine g_goto C dX5_point_43 (tgt := 48) (by decide) ?_
        exact kr _ _ _ _ dX5_point_48 ⟨congrArg (fun z => some (iv z)) (by
          unfold spoint l3w; rw [Int.toNat_natCast, Int.toNat_natCast]
          rcases (show v = 0 ∨ v = 1 ∨ v = 2 by omega) with rfl | rfl | rfl <;> (repeat (first | rw [if_pos (by omega)] | rw [if_neg (by omega)]))), H, hm⟩ hm.1
    · have w15 : ¬ (0 ≤ w ∧ w ≤ 2) := if0 h15
      refine g_bipush C dX5_point_18 (by decide) ?_
      exact kr _ _ _ _ dX5_point_20 ⟨congrArg (fun z => some (iv z)) (by unfold spoint; (repeat (first | rw [if_pos (by omega)] | rw [if_neg (by omega)]))), H, hm⟩ hm.1
  · have w4 : ¬ (0 ≤ b ∧ b ≤ 3) := if0 h4
    refine g_iconst C dX5_point_7 ?_
    exact kr _ _ _ _ dX5_point_8 ⟨congrArg (fun z => some (iv z)) (by unfold spoint; (repeat (first | rw [if_pos (by omega)] | rw [if_neg (by omega)]))), H, hm⟩ hm.1
def lwN (l : List Pt3) (u v w : Int) : Nat := (bo_low (bo_h (lx l) (ly l) (lv l) u v w) l.length).1
theorem r_lowBy (M : mz h a s c xs ys pt co cc) (S : msi s B K km) {b : Nat} (hb : b < 4) {u v w : Int} (hu : -1000000 ≤ u ∧ u ≤ 1000000) (hv : -1000000 ≤ v ∧ v ≤ 1000000) (hw : -1000000 ≤ w ∧ w ≤ 1000000) : ax_Met MX5_lowBy [rv a, iv (b : Int), iv u, iv v, iv w] h (some (iv ((lwN (B b) u v w : Nat) : Int))) h := by
  have ho := (S.2.1 b hb).1
  have hn := ho.1
  have ⟨h0, h1, h2, h3, h4, h5, h6, h7, h8, h9, h10, h11⟩ := M
  have hin := bo_h_in ho hu hv hw
  unfold lwN
  refine ax_mi (L0 := [some (rv a), some (iv (b : Int)), some (iv u), some (iv v), some (iv w), none, none, none, none]) rfl rfl (Nat.le_refl _) (Nat.le_refl _) (Nat.le_of_ble_eq_true rfl) rfl ?_
  intro p9 l9 e9 R9 s9 m9 args9 below9 meth9 c9 b9 D9 dA9 Q9 C kr
  generalize hf : bo_h (lx (B b)) (ly (B b)) (lv (B b)) u v w = f at *
  have hfk : ∀ k, f k = w * lv (B b) k + u * lx (B b) k + v * ly (B b) k := fun k => by rw [← hf]; rfl
  have loop : ∀ (d k : Nat) (x8 : Option ax_V), k + d = (B b).length → ax_G p9 l9 e9 R9 s9 m9 args9 below9 meth9 c9 b9 D9 dA9 MX5_lowBy.2.2.1 h.length (ax_sz h) Q9 (9) ([some (rv a), some (iv (b : Int)), some (iv u), some (iv v), some (iv w), some (iv ((bo_low f k).1 : Int)), some (iv (bo_low f k).2), some (iv (k : Int)), x8]) ([]) (h) := by
    intro d
    induction d with
    | zero =>
      intro k x8 hk
      have e : k = (B b).length := by omega
      subst e
      refine g_iload C dX5_lowBy_9 rfl ?_
      refine g_aload_n C dX5_lowBy_11 rfl ?_
      refine g_iload_n C dX5_lowBy_12 rfl ?_
      refine g_V C (r_many M S hb) dX5_lowBy_13 KX5_many LX5_56 IX5_many VX5_many (by decide) rfl (by assumption) rfl rfl rfl (Nat.le_of_ble_eq_true rfl) ⟨rfl, rfl⟩ ?_
      dsimp only [Option.toList, List.cons_append, List.nil_append]
      refine g_icmp_ge C dX5_lowBy_16 (tgt := 99) (by decide) (by omega) (by omega) (fun h16 => ?_) (fun h16 => ?_)
      · refine g_iload C dX5_lowBy_99 rfl ?_
        exact kr _ _ _ dX5_lowBy_101 rfl
      · exfalso; omega
    | succ d ih =>
      intro k x8 hk
      have b1 := bo_low_in f 74000000 k (fun j hj => hin j (by omega)) (by omega)
      have b2 := hin k (by omega)
      have b3 := bo_low_lt f k
      have b4 : 2 ^ k ≤ 2 ^ 7 := Nat.pow_le_pow_right (by decide) (by omega)
      have tA : bo_low f (k + 1) = (2 ^ k, f k) → ax_G p9 l9 e9 R9 s9 m9 args9 below9 meth9 c9 b9 D9 dA9 MX5_lowBy.2.2.1 h.length (ax_sz h) Q9 (73) ([some (rv a), some (iv (b : Int)), some (iv u), some (iv v), some (iv w), some (iv 0), some (iv (f k)), some (iv (k : Int)), some (iv (f k))]) ([]) (h) := by
        intro e
        refine g_iload C dX5_lowBy_73 rfl ?_
        refine g_iload C dX5_lowBy_75 rfl ?_
        refine g_iload C dX5_lowBy_77 rfl ?_
        refine g_icmp_ne C dX5_lowBy_79 (tgt := 89) (by decide) (by omega) (by omega) (fun h79 => ?_) (fun h79 => ?_)
        · exact absurd rfl h79
        · refine g_iconst C dX5_lowBy_82 ?_
          refine g_iload C dX5_lowBy_83 rfl ?_
          refine g_ishl C dX5_lowBy_85 (by omega) ?_
          refine g_top (ax_1p k) ?_
          refine g_goto C dX5_lowBy_86 (tgt := 90) (by decide) ?_
          refine g_ior C dX5_lowBy_90 (ax_orN 0 _) ?_
          refine g_istore C dX5_lowBy_91 (by decide) rfl ?_
          dsimp only [List.set]
          refine g_iinc C dX5_lowBy_93 (by decide) rfl rfl ?_
          dsimp only [List.set]
          refine g_goto C dX5_lowBy_96 (tgt := 9) (by decide) ?_
          have q := ih (k + 1) (some (iv (f k))) (by omega)
          rw [e] at q
          rw [Nat.zero_or]
          exact q
      have tB : ¬ ((bo_low f k).1 = 0 ∨ f k < (bo_low f k).2) → ax_G p9 l9 e9 R9 s9 m9 args9 below9 meth9 c9 b9 D9 dA9 MX5_lowBy.2.2.1 h.length (ax_sz h) Q9 (73) ([some (rv a), some (iv (b : Int)), some (iv u), some (iv v), some (iv w), some (iv ((bo_low f k).1 : Int)), some (iv (bo_low f k).2), some (iv (k : Int)), some (iv (f k))]) ([]) (h) := by
        intro e0
        refine g_iload C dX5_lowBy_73 rfl ?_
        refine g_iload C dX5_lowBy_75 rfl ?_
        refine g_iload C dX5_lowBy_77 rfl ?_
        refine g_icmp_ne C dX5_lowBy_79 (tgt := 89) (by decide) (by omega) (by omega) (fun h79 => ?_) (fun h79 => ?_)
        · have e : bo_low f (k + 1) = ((bo_low f k).1 ||| 0, (bo_low f k).2) := by rw [bo_low, if_neg e0, if_neg h79, Nat.or_zero]
          refine g_iconst C dX5_lowBy_89 ?_
          refine g_ior C dX5_lowBy_90 (ax_orN _ _) ?_
          refine g_istore C dX5_lowBy_91 (by decide) rfl ?_
          dsimp only [List.set]
          refine g_iinc C dX5_lowBy_93 (by decide) rfl rfl ?_
          dsimp only [List.set]
          refine g_goto C dX5_lowBy_96 (tgt := 9) (by decide) ?_
          have q := ih (k + 1) (some (iv (f k))) (by omega)
          rw [e] at q
          exact q
        · have e : bo_low f (k + 1) = ((bo_low f k).1 ||| 2 ^ k, (bo_low f k).2) := by rw [bo_low, if_neg e0, if_pos h79]
          refine g_iconst C dX5_lowBy_82 ?_
          refine g_iload C dX5_lowBy_83 rfl ?_
          refine g_ishl C dX5_lowBy_85 (by omega) ?_
          refine g_top (ax_1p k) ?_
          refine g_goto C dX5_lowBy_86 (tgt := 90) (by decide) ?_
          refine g_ior C dX5_lowBy_90 (ax_orN _ _) ?_
          refine g_istore C dX5_lowBy_91 (by decide) rfl ?_
          dsimp only [List.set]
          refine g_iinc C dX5_lowBy_93 (by decide) rfl rfl ?_
          dsimp only [List.set]
          refine g_goto C dX5_lowBy_96 (tgt := 9) (by decide) ?_
          have q := ih (k + 1) (some (iv (f k))) (by omega)
          rw [e] at q
          exact q
      refine g_iload C dX5_lowBy_9 rfl ?_
      refine g_aload_n C dX5_lowBy_11 rfl ?_
      refine g_iload_n C dX5_lowBy_12 rfl ?_
      refine g_V C (r_many M S hb) dX5_lowBy_13 KX5_many LX5_56 IX5_many VX5_many (by decide) rfl (by assumption) rfl rfl rfl (Nat.le_of_ble_eq_true rfl) ⟨rfl, rfl⟩ ?_
      dsimp only [Option.toList, List.cons_append, List.nil_append]
      refine g_icmp_ge C dX5_lowBy_16 (tgt := 99) (by decide) (by omega) (by omega) (fun h16 => ?_) (fun h16 => ?_)
      · exfalso; omega
      · refine g_aload_n C dX5_lowBy_19 rfl ?_
        refine g_iload_n C dX5_lowBy_20 rfl ?_
        refine g_iload C dX5_lowBy_21 rfl ?_
        refine g_iconst C dX5_lowBy_23 ?_
        refine g_V C (r_of_2 M S hb (k := k) (by omega)) dX5_lowBy_24 KX5_of LX5_60 IX5_of VX5_of (by decide) rfl (by assumption) rfl rfl rfl (Nat.le_of_ble_eq_true rfl) ⟨rfl, rfl⟩ ?_
        dsimp only [Option.toList, List.cons_append, List.nil_append]
        refine g_iload C dX5_lowBy_27 rfl ?_
        refine g_imul C dX5_lowBy_29 ?_
        refine g_aload_n C dX5_lowBy_30 rfl ?_
        refine g_iload_n C dX5_lowBy_31 rfl ?_
        refine g_iload C dX5_lowBy_32 rfl ?_
        refine g_iconst C dX5_lowBy_34 ?_
        refine g_V C (r_of_0 M S hb (k := k) (by omega)) dX5_lowBy_35 KX5_of LX5_60 IX5_of VX5_of (by decide) rfl (by assumption) rfl rfl rfl (Nat.le_of_ble_eq_true rfl) ⟨rfl, rfl⟩ ?_
        dsimp only [Option.toList, List.cons_append, List.nil_append]
        refine g_iload_n C dX5_lowBy_38 rfl ?_
        refine g_imul C dX5_lowBy_39 ?_
        refine g_iadd C dX5_lowBy_40 ?_
        refine g_aload_n C dX5_lowBy_41 rfl ?_
        refine g_iload_n C dX5_lowBy_42 rfl ?_
        refine g_iload C dX5_lowBy_43 rfl ?_
        refine g_iconst C dX5_lowBy_45 ?_
        refine g_V C (r_of_1 M S hb (k := k) (by omega)) dX5_lowBy_46 KX5_of LX5_60 IX5_of VX5_of (by decide) rfl (by assumption) rfl rfl rfl (Nat.le_of_ble_eq_true rfl) ⟨rfl, rfl⟩ ?_
        dsimp only [Option.toList, List.cons_append, List.nil_append]
        refine g_iload_n C dX5_lowBy_49 rfl ?_
        refine g_imul C dX5_lowBy_50 ?_
        refine g_iadd C dX5_lowBy_51 ?_
        refine g_top (show _ = f k by rw [hfk]; grind) ?_
        refine g_istore C dX5_lowBy_52 (by decide) rfl ?_
        dsimp only [List.set]
        refine g_iload C dX5_lowBy_54 rfl ?_
        refine g_if_eq C dX5_lowBy_56 (tgt := 66) (by decide) (by omega) (fun h56 => ?_) (fun h56 => ?_)
        · have e : bo_low f (k + 1) = (2 ^ k, f k) := by rw [bo_low, if_pos (Or.inl (by omega))]
          refine g_iconst C dX5_lowBy_66 ?_
          refine g_istore C dX5_lowBy_67 (by decide) rfl ?_
          dsimp only [List.set]
          refine g_iload C dX5_lowBy_69 rfl ?_
          refine g_istore C dX5_lowBy_71 (by decide) rfl ?_
          dsimp only [List.set]
          first | exact tA e | exact tB e0
        · refine g_iload C dX5_lowBy_59 rfl ?_
          refine g_iload C dX5_lowBy_61 rfl ?_
          refine g_icmp_ge C dX5_lowBy_63 (tgt := 73) (by decide) (by omega) (by omega) (fun h63 => ?_) (fun h63 => ?_)
          · have e0 : ¬ ((bo_low f k).1 = 0 ∨ f k < (bo_low f k).2) := by omega
            first | exact tA e | exact tB e0
          · have e : bo_low f (k + 1) = (2 ^ k, f k) := by rw [bo_low, if_pos (Or.inr (by omega))]
            refine g_iconst C dX5_lowBy_66 ?_
            refine g_istore C dX5_lowBy_67 (by decide) rfl ?_
            dsimp only [List.set]
            refine g_iload C dX5_lowBy_69 rfl ?_
            refine g_istore C dX5_lowBy_71 (by decide) rfl ?_
            dsimp only [List.set]
            first | exact tA e | exact tB e0
  refine g_iconst C dX5_lowBy_0 ?_
  refine g_istore C dX5_lowBy_1 (by decide) rfl ?_
  dsimp only [List.set]
  refine g_iconst C dX5_lowBy_3 ?_
  refine g_istore C dX5_lowBy_4 (by decide) rfl ?_
  dsimp only [List.set]
  refine g_iconst C dX5_lowBy_6 ?_
  refine g_istore C dX5_lowBy_7 (by decide) rfl ?_
  dsimp only [List.set]
  exact loop (B b).length 0 none (by omega)
theorem r_low (H : mw h a B K km) {b u v : Int} (hb : -2147483648 ≤ b ∧ b < 2147483648) (hu : -2147483648 ≤ u ∧ u < 2147483648) (hv : -2147483648 ≤ v ∧ v < 2147483648) : ax_Mt MX5_low [rv a, iv b, iv u, iv v] h (fun r h' => r = some (iv (slow B b u v)) ∧ mw h' a B K km ∧ ax_sm a (a + 12) h h') := by
  have hm := ax_sm.rf (lo := a) (hi := a + 12) h
  have ⟨s, c, xs, ys, pt, co, cc, M, S⟩ := H
  have ⟨h0, h1, h2, h3, h4, h5, h6, h7, h8, h9, h10, h11⟩ := M
  refine ax_ri (L0 := [some (rv a), some (iv b), some (iv u), some (iv v)]) rfl rfl (Nat.le_of_ble_eq_true rfl) rfl ?_
  intro p9 l9 e9 R9 s9 m9 args9 below9 meth9 c9 b9 D9 dA9 Q9 C kr
  refine g_iload_n C dX5_low_0 rfl ?_
  refine g_S C (r_isBody hb) dX5_low_1 KX5_isBody LX5_52 SX5_isBody (by decide) rfl rfl (Nat.le_of_ble_eq_true rfl) ⟨rfl, rfl⟩ ?_
  dsimp only [Option.toList, List.cons_append, List.nil_append]
  refine g_if_ne C dX5_low_4 (tgt := 9) (by decide) ifr (fun h4 => ?_) (fun h4 => ?_)
  · have w4 : 0 ≤ b ∧ b ≤ 3 := if1 h4
    obtain ⟨n, rfl⟩ : ∃ n : Nat, b = (n : Int) := ⟨b.toNat, by omega⟩
    refine g_iload_n C dX5_low_9 rfl ?_
    refine g_sipush C dX5_low_10 (by decide) ?_
    refine g_sipush C dX5_low_13 (by decide) ?_
    refine g_S C (r_in hu (by omega) (by omega)) dX5_low_16 KX5_in LX5_44 SX5_in (by decide) rfl rfl (Nat.le_of_ble_eq_true rfl) ⟨rfl, rfl⟩ ?_
    dsimp only [Option.toList, List.cons_append, List.nil_append]
    refine g_if_eq C dX5_low_19 (tgt := 35) (by decide) ifr (fun h19 => ?_) (fun h19 => ?_)
    · have w19 : ¬ (-1000 ≤ u ∧ u ≤ 1000) := if0 h19
      refine g_bipush C dX5_low_35 (by decide) ?_
      exact kr _ _ _ _ dX5_low_37 ⟨congrArg (fun z => some (iv z)) (by unfold slow; (repeat (first | rw [if_pos (by omega)] | rw [if_neg (by omega)]))), H, hm⟩ hm.1
    · have w19 : -1000 ≤ u ∧ u ≤ 1000 := if1 h19
      refine g_iload_n C dX5_low_22 rfl ?_
      refine g_sipush C dX5_low_23 (by decide) ?_
      refine g_sipush C dX5_low_26 (by decide) ?_
      refine g_S C (r_in hv (by omega) (by omega)) dX5_low_29 KX5_in LX5_44 SX5_in (by decide) rfl rfl (Nat.le_of_ble_eq_true rfl) ⟨rfl, rfl⟩ ?_
      dsimp only [Option.toList, List.cons_append, List.nil_append]
      refine g_if_ne C dX5_low_32 (tgt := 38) (by decide) ifr (fun h32 => ?_) (fun h32 => ?_)
      · have w32 : -1000 ≤ v ∧ v ≤ 1000 := if1 h32
        refine g_aload_n C dX5_low_38 rfl ?_
        refine g_iload_n C dX5_low_39 rfl ?_
        refine g_iload_n C dX5_low_40 rfl ?_
        refine g_iload_n C dX5_low_41 rfl ?_
        refine g_iconst C dX5_low_42 ?_
        refine g_V C (r_lowBy M S (b := n) (by omega) (u := u) (v := v) (w := 1) (by omega) (by omega) (by omega)) dX5_low_43 KX5_lowBy LX5_127 IX5_lowBy VX5_lowBy (by decide) rfl (by assumption) rfl rfl rfl (Nat.le_of_ble_eq_true rfl) ⟨rfl, rfl⟩ ?_
        dsimp only [Option.toList, List.cons_append, List.nil_append]
        exact kr _ _ _ _ dX5_low_46 ⟨congrArg (fun z => some (iv z)) (by unfold slow lwN; rw [Int.toNat_natCast]; (repeat (first | rw [if_pos (by omega)] | rw [if_neg (by omega)]))), H, hm⟩ hm.1
      · have w32 : ¬ (-1000 ≤ v ∧ v ≤ 1000) := if0 h32
        refine g_bipush C dX5_low_35 (by decide) ?_
        exact kr _ _ _ _ dX5_low_37 ⟨congrArg (fun z => some (iv z)) (by unfold slow; (repeat (first | rw [if_pos (by omega)] | rw [if_neg (by omega)]))), H, hm⟩ hm.1
  · have w4 : ¬ (0 ≤ b ∧ b ≤ 3) := if0 h4
    refine g_iconst C dX5_low_7 ?_
    exact kr _ _ _ _ dX5_low_8 ⟨congrArg (fun z => some (iv z)) (by unfold slow; (repeat (first | rw [if_pos (by omega)] | rw [if_neg (by omega)]))), H, hm⟩ hm.1
end MO
