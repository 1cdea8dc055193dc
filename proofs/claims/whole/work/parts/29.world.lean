/-! bodies as lists of points with weights; the world of a MixedCells -/
abbrev Pt3 : Type := Int × Int × Int
def lx (l : List Pt3) (k : Nat) : Int := (l.getD k (0, 0, 0)).1
def ly (l : List Pt3) (k : Nat) : Int := (l.getD k (0, 0, 0)).2.1
def lv (l : List Pt3) (k : Nat) : Int := (l.getD k (0, 0, 0)).2.2
def bl_at (h : ax_H) (a : Nat) (l : List Pt3) : Prop := ∃ X Y V, bo_at h a X Y V l.length ∧ ∀ k, k < l.length → X k = lx l k ∧ Y k = ly l k ∧ V k = lv l k
def bl_ok (l : List Pt3) : Prop := bo_ok (lx l) (ly l) (lv l) l.length ∧ inj2 (lx l) (ly l) l.length
theorem bo_ok.cg {X Y V X2 Y2 V2 : Nat → Int} {n : Nat} (h : bo_ok X Y V n) (e : ∀ k, k < n → X2 k = X k ∧ Y2 k = Y k ∧ V2 k = V k) : bo_ok X2 Y2 V2 n := ⟨h.1, fun k hk => by rw [(e k hk).1, (e k hk).2.1, (e k hk).2.2]; exact h.2 k hk⟩
/-! what depends on the points alone -/
theorem find_cg {X Y X2 Y2 : Nat → Int} {x y : Int} : ∀ (d k : Nat), (∀ j, k ≤ j → j < k + d → X2 j = X j ∧ Y2 j = Y j) → bo_find X2 Y2 x y d k = bo_find X Y x y d k
  | 0, _, _ => rfl
  | d + 1, k, h => by rw [bo_find, bo_find, (h k (by omega) (by omega)).1, (h k (by omega) (by omega)).2, find_cg d (k + 1) (fun j h1 h2 => h j (by omega) (by omega))]
theorem bs_cg {X Y X2 Y2 : Nat → Int} {n T : Nat} (e : ∀ k, k < n → X2 k = X k ∧ Y2 k = Y k) : bs X2 Y2 n T = bs X Y n T := hull_congr fun x y => by
  constructor
  · rintro ⟨k, h1, h2, h3, h4⟩; exact ⟨k, h1, h2, by rw [← (e k h1).1]; exact h3, by rw [← (e k h1).2]; exact h4⟩
  · rintro ⟨k, h1, h2, h3, h4⟩; exact ⟨k, h1, h2, by rw [(e k h1).1]; exact h3, by rw [(e k h1).2]; exact h4⟩
theorem bss_cg {X Y X2 Y2 P Q P2 Q2 : Nat → Int} {n T m U : Nat} (e : ∀ k, k < n → X2 k = X k ∧ Y2 k = Y k) (f : ∀ k, k < m → P2 k = P k ∧ Q2 k = Q k) : bss X2 Y2 n T P2 Q2 m U = bss X Y n T P Q m U := hull_congr fun x y => by
  constructor
  · rintro ⟨k, h1, h2, j, h3, h4, h5, h6⟩; exact ⟨k, h1, h2, j, h3, h4, by rw [← (e k h1).1, ← (f j h3).1]; exact h5, by rw [← (e k h1).2, ← (f j h3).2]; exact h6⟩
  · rintro ⟨k, h1, h2, j, h3, h4, h5, h6⟩; exact ⟨k, h1, h2, j, h3, h4, by rw [(e k h1).1, (f j h3).1]; exact h5, by rw [(e k h1).2, (f j h3).2]; exact h6⟩
theorem fsm_cg {X X2 : Nat → Int} {T : Nat} : ∀ n, (∀ k, k < n → X2 k = X k) → fsm X2 T n = fsm X T n
  | 0, _ => rfl
  | n + 1, e => by rw [fsm, fsm, fsm_cg n (fun k hk => e k (by omega)), e n (by omega)]
theorem fan_cg {X Y X2 Y2 : Nat → Int} {n t : Nat} (e : ∀ k, k < n → X2 k = X k ∧ Y2 k = Y k) : fan X2 Y2 n t = fan X Y n t := hull_congr fun x y => by
  unfold fan
  simp only [fsm_cg (T := _) n (fun k hk => (e k hk).1), fsm_cg (T := _) n (fun k hk => (e k hk).2)]
theorem low_cg {f g : Nat → Int} : ∀ n, (∀ k, k < n → f k = g k) → bo_low f n = bo_low g n
  | 0, _ => rfl
  | n + 1, e => by rw [bo_low, bo_low, low_cg n (fun k hk => e k (by omega)), e n (by omega)]
theorem lwm_cg {f g : Nat → Int} {n k : Nat} (e : ∀ k, k < n → f k = g k) (h : lwm f n k) : lwm g n k := ⟨h.1, fun j hj => by rw [← e k h.1, ← e j hj]; exact h.2 j hj⟩
theorem th_cg {X Y V X2 Y2 V2 : Nat → Int} {t : Tr} {k : Nat} (e : X2 k = X k ∧ Y2 k = Y k ∧ V2 k = V k) : th X2 Y2 V2 t k = th X Y V t k := by unfold th bo_h; rw [e.1, e.2.1, e.2.2]
theorem cs_cg {X Y V X2 Y2 V2 P Q U P2 Q2 U2 : Nat → Int} {n m : Nat} (e : ∀ k, k < n → X2 k = X k ∧ Y2 k = Y k ∧ V2 k = V k) (f : ∀ k, k < m → P2 k = P k ∧ Q2 k = Q k ∧ U2 k = U k) {t : Tr} (h : CS X2 Y2 V2 n P2 Q2 U2 m t) : CS X Y V n P Q U m t := by
  obtain ⟨hw, i1, i2, i3, j1, j2, j3, ⟨a1, a2, a3⟩, ⟨b1, b2, b3⟩, c⟩ := h
  have ea : ∀ k, k < n → th X2 Y2 V2 t k = th X Y V t k := fun k hk => th_cg (e k hk)
  have fa : ∀ k, k < m → th P2 Q2 U2 t k = th P Q U t k := fun k hk => th_cg (f k hk)
  refine ⟨hw, i1, i2, i3, j1, j2, j3, ⟨lwm_cg ea a1, lwm_cg ea a2, lwm_cg ea a3⟩, ⟨lwm_cg fa b1, lwm_cg fa b2, lwm_cg fa b3⟩, ?_⟩
  rw [← (e i1 a1.1).1, ← (e i2 a2.1).1, ← (e i3 a3.1).1, ← (e i1 a1.1).2.1, ← (e i2 a2.1).2.1, ← (e i3 a3.1).2.1, ← (f j1 b1.1).1, ← (f j2 b2.1).1, ← (f j3 b3.1).1, ← (f j1 b1.1).2.1, ← (f j2 b2.1).2.1, ← (f j3 b3.1).2.1]
  exact c
/-- all points of a body, by either set -/
theorem bt_all {n k : Nat} (h : k < n) : bt (2 ^ n - 1) k := by
  rw [bt_tb, Nat.testBit_two_pow_sub_one, decide_eq_true_eq]; exact h
theorem bt_n {n k : Nat} (h : n ≤ 7) (hk : k < n) : bt 127 k := bt_all (n := 7) (by omega)
theorem bs_all {X Y : Nat → Int} {n : Nat} (h : n ≤ 7) : bs X Y n (2 ^ n - 1) = bs X Y n 127 := hull_congr fun x y => by
  constructor
  · rintro ⟨k, h1, h2, h3⟩; exact ⟨k, h1, bt_n h h1, h3⟩
  · rintro ⟨k, h1, h2, h3⟩; exact ⟨k, h1, bt_all h1, h3⟩
theorem bss_all {X Y P Q : Nat → Int} {n m : Nat} (h : n ≤ 7) (g : m ≤ 7) : bss X Y n (2 ^ n - 1) P Q m (2 ^ m - 1) = bss X Y n 127 P Q m 127 := hull_congr fun x y => by
  constructor
  · rintro ⟨k, h1, h2, j, h3, h4, h5⟩; exact ⟨k, h1, bt_n h h1, j, h3, bt_n g h3, h5⟩
  · rintro ⟨k, h1, h2, j, h3, h4, h5⟩; exact ⟨k, h1, bt_all h1, j, h3, bt_all h3, h5⟩
/-! the world -/
def mcA (h : ax_H) (km : Nat) : Prop := h[0]? = some (.inr (4, [rv 1, rv 2, iv (km : Int), rv 3, rv 7, rv 107])) ∧ (∃ f, h[1]? = some (.inl (2, 4, .inr f)) ∧ ∀ i, i < 4 → f i = some (121 + 4 * i)) ∧ (∃ f, h[2]? = some (.inl (2, 8, .inr f)) ∧ ∀ i, i < 8 → f i = some (137 + 4 * i)) ∧ (∃ f, h[107]? = some (.inl (4, 13, .inr f)) ∧ ∀ i, i < 13 → f i = some (108 + i))
def pwA (h : ax_H) : Prop := ∀ i, i < 13 → ∃ r, h[108 + i]? = some (.inl (0, 13, .inl r))
def wd (h : ax_H) (B K : Nat → List Pt3) (km : Nat) : Prop := mcA h km ∧ rg_any h 3 ∧ cu_any h 7 ∧ pwA h ∧ (∀ i, i < 4 → bl_at h (121 + 4 * i) (B i)) ∧ (∀ i, i < 8 → bl_at h (137 + 4 * i) (K i)) ∧ (∀ i, i < 4 → bl_ok (B i)) ∧ (∀ i, i < 8 → bl_ok (K i)) ∧ km < 4
theorem bl_at.sm {h h1 : ax_H} {a lo hi : Nat} {l : List Pt3} (B : bl_at h a l) (S : ax_sm lo hi h h1) (hn : a + 4 ≤ lo ∨ hi ≤ a) : bl_at h1 a l := by
  obtain ⟨X, Y, V, h1, h2⟩ := B
  exact ⟨X, Y, V, h1.sm S hn, h2⟩
theorem mcA.sm {h h1 : ax_H} {lo hi km : Nat} (M : mcA h km) (S : ax_sm lo hi h h1) (hn : (3 ≤ lo ∧ hi ≤ 107) ∨ 108 ≤ lo) : mcA h1 km := by
  obtain ⟨a1, ⟨f, a2, a3⟩, ⟨g, a4, a5⟩, ⟨k, a6, a7⟩⟩ := M
  exact ⟨(S.2 0 (by omega)).trans a1, ⟨f, (S.2 1 (by omega)).trans a2, a3⟩, ⟨g, (S.2 2 (by omega)).trans a4, a5⟩, ⟨k, (S.2 107 (by omega)).trans a6, a7⟩⟩
theorem pwA.sm {h h1 : ax_H} {lo hi : Nat} (M : pwA h) (S : ax_sm lo hi h h1) (hn : hi ≤ 108 ∨ 121 ≤ lo) : pwA h1 := fun i hi => by
  obtain ⟨r, hr⟩ := M i hi
  exact ⟨r, (S.2 _ (by omega)).trans hr⟩
theorem wd.rg {h h1 : ax_H} {B K : Nat → List Pt3} {km : Nat} (H : wd h B K km) (S : ax_sm 3 7 h h1) (R : rg_any h1 3) : wd h1 B K km := by
  obtain ⟨a1, a2, a3, a4, a5, a6, a7⟩ := H
  exact ⟨a1.sm S (by omega), R, a3.sm S (by omega), a4.sm S (by omega), fun i hi => (a5 i hi).sm S (by omega), fun i hi => (a6 i hi).sm S (by omega), a7⟩
theorem wd.cu {h h1 : ax_H} {B K : Nat → List Pt3} {km : Nat} (H : wd h B K km) (S : ax_sm 7 107 h h1) (R : cu_any h1 7) : wd h1 B K km := by
  obtain ⟨a1, a2, a3, a4, a5, a6, a7⟩ := H
  exact ⟨a1.sm S (by omega), a2.sm S (by omega), R, a4.sm S (by omega), fun i hi => (a5 i hi).sm S (by omega), fun i hi => (a6 i hi).sm S (by omega), a7⟩
theorem wd.pw {h h1 : ax_H} {B K : Nat → List Pt3} {km : Nat} (H : wd h B K km) (S : ax_sm 108 121 h h1) (R : pwA h1) : wd h1 B K km := by
  obtain ⟨a1, a2, a3, a4, a5, a6, a7⟩ := H
  exact ⟨a1.sm S (by omega), a2.sm S (by omega), a3.sm S (by omega), R, fun i hi => (a5 i hi).sm S (by omega), fun i hi => (a6 i hi).sm S (by omega), a7⟩
theorem wd.bo {h h1 : ax_H} {B K : Nat → List Pt3} {km k : Nat} (H : wd h B K km) (hk : k < 4) {l : List Pt3} (S : ax_sm (121 + 4 * k) (121 + 4 * k + 4) h h1) (R : bl_at h1 (121 + 4 * k) l) (O : bl_ok l) : wd h1 (va_up B k l) K km := by
  obtain ⟨a1, a2, a3, a4, a5, a6, a7, a8, a9⟩ := H
  refine ⟨a1.sm S (by omega), a2.sm S (by omega), a3.sm S (by omega), a4.sm S (by omega), fun i hi => ?_, fun i hi => (a6 i hi).sm S (by omega), fun i hi => ?_, a8, a9⟩
  · by_cases c : i = k
    · subst c; simp only [va_up, if_pos]; exact R
    · simp only [va_up, if_neg c]; exact (a5 i hi).sm S (by omega)
  · by_cases c : i = k
    · subst c; simp only [va_up, if_pos]; exact O
    · simp only [va_up, if_neg c]; exact a7 i hi
theorem wd.kb {h h1 : ax_H} {B K : Nat → List Pt3} {km k : Nat} (H : wd h B K km) (hk : k < 8) {l : List Pt3} (S : ax_sm (137 + 4 * k) (137 + 4 * k + 4) h h1) (R : bl_at h1 (137 + 4 * k) l) (O : bl_ok l) : wd h1 B (va_up K k l) km := by
  obtain ⟨a1, a2, a3, a4, a5, a6, a7, a8, a9⟩ := H
  refine ⟨a1.sm S (by omega), a2.sm S (by omega), a3.sm S (by omega), a4.sm S (by omega), fun i hi => (a5 i hi).sm S (by omega), fun i hi => ?_, a7, fun i hi => ?_, a9⟩
  · by_cases c : i = k
    · subst c; simp only [va_up, if_pos]; exact R
    · simp only [va_up, if_neg c]; exact (a6 i hi).sm S (by omega)
  · by_cases c : i = k
    · subst c; simp only [va_up, if_pos]; exact O
    · simp only [va_up, if_neg c]; exact a8 i hi
theorem t_bodyAt {h : ax_H} {km : Nat} (H : mcA h km) {x : Int} (hx : -2147483648 ≤ x ∧ x < 2147483648) : ax_Met MX4_bodyAt [rv 0, iv x] h (some (.inr (if 0 ≤ x ∧ x ≤ 3 then some (121 + 4 * x.toNat) else none))) h := by
  obtain ⟨h0, ⟨f, h1, hf⟩, -⟩ := H
  refine ax_ma (L0 := [some (rv 0), some (iv x)]) rfl rfl (Or.inl ⟨_, rfl⟩) (Nat.le_refl _) (Nat.le_refl _) (Nat.le_of_ble_eq_true rfl) rfl ?_
  intro p9 l9 e9 R9 s9 m9 args9 below9 meth9 c9 b9 D9 dA9 Q9 C kr
  refine g_iload_n C dX4_bodyAt_0 rfl ?_
  refine g_iconst C dX4_bodyAt_1 ?_
  refine g_iconst C dX4_bodyAt_2 ?_
  refine g_S C (t_isWithin hx (by omega) (by omega)) dX4_bodyAt_3 KX4_isWithin LX4_42 SX4_isWithin (by decide) rfl rfl (Nat.le_of_ble_eq_true rfl) ⟨rfl, rfl⟩ ?_
  dsimp only [Option.toList, List.cons_append, List.nil_append]
  refine g_if_eq C dX4_bodyAt_6 (tgt := 18) (by decide) (by split <;> omega) (fun h6 => ?_) (fun h6 => ?_)
  · have hn : ¬ (0 ≤ x ∧ x ≤ 3) := fun q => by rw [if_pos q] at h6; exact absurd h6 (by decide)
    refine g_null C dX4_bodyAt_18 ?_
    first | exact kr _ _ _ dX4_bodyAt_19 (by rw [if_pos hn]) | exact kr _ _ _ dX4_bodyAt_19 (by rw [if_neg hn])
  · have hn : 0 ≤ x ∧ x ≤ 3 := by
      by_cases q : 0 ≤ x ∧ x ≤ 3
      · exact q
      · rw [if_neg q] at h6; exact absurd rfl h6
    refine g_aload_n C dX4_bodyAt_9 rfl ?_
    refine g_get C FX4_11 dX4_bodyAt_10 (by assumption) rfl ?_
    refine g_iload_n C dX4_bodyAt_13 rfl ?_
    refine g_aald C dX4_bodyAt_14 (by assumption) rfl rfl (show x = ((x.toNat : Nat) : Int) by omega) (by omega) (by decide) ?_
    rw [hf x.toNat (by omega)]
    refine g_goto C dX4_bodyAt_15 (tgt := 19) (by decide) ?_
    first | exact kr _ _ _ dX4_bodyAt_19 (by rw [if_pos hn]) | exact kr _ _ _ dX4_bodyAt_19 (by rw [if_neg hn])
