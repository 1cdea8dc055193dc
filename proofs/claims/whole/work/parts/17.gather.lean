/-! how many: two lists of one set, none twice, are as long as each other -/
theorem pigeon : ∀ (n m : Nat) (f : Nat → Nat), (∀ i, i < m → f i < n) → (∀ i j, i < m → j < m → f i = f j → i = j) → m ≤ n
  | 0, m, f, h1, _ => by
    by_cases q : m = 0
    · omega
    · have := h1 0 (by omega); omega
  | n + 1, 0, f, _, _ => by omega
  | n + 1, m + 1, f, h1, h2 => by
    have := pigeon n m (fun i => if f i = n then f m else f i) (fun i hi => by
      show (if f i = n then f m else f i) < n
      have a := h1 i (by omega)
      have b := h1 m (by omega)
      split
      · by_cases q : f m = n
        · have := h2 i m (by omega) (by omega) (by omega); omega
        · omega
      · omega) (fun i j hi hj e => by
      have e' : (if f i = n then f m else f i) = (if f j = n then f m else f j) := e
      by_cases q1 : f i = n
      · by_cases q2 : f j = n
        · exact h2 i j (by omega) (by omega) (by omega)
        · rw [if_pos q1, if_neg q2] at e'; have := h2 m j (by omega) (by omega) e'; omega
      · by_cases q2 : f j = n
        · rw [if_neg q1, if_pos q2] at e'; have := h2 i m (by omega) (by omega) e'; omega
        · rw [if_neg q1, if_neg q2] at e'; exact h2 i j (by omega) (by omega) e')
    omega
def inj2 (px py : Nat → Int) (n : Nat) : Prop := ∀ i j, i < n → j < n → px i = px j → py i = py j → i = j
theorem inj2_le {px py qx qy : Nat → Int} {n m : Nat} (h1 : inj2 qx qy m) (h : ∀ x y, pin qx qy m x y → pin px py n x y) : m ≤ n := by
  have w : ∀ i : Nat, ∃ k : Nat, i < m → k < n ∧ px k = qx i ∧ py k = qy i := fun i => by
    by_cases q : i < m
    · obtain ⟨k, a, b, c⟩ := h _ _ ⟨i, q, rfl, rfl⟩
      exact ⟨k, fun _ => ⟨a, b, c⟩⟩
    · exact ⟨0, fun z => absurd z q⟩
  refine pigeon n m (fun i => Classical.choose (w i)) (fun i hi => (Classical.choose_spec (w i) hi).1) (fun i j hi hj e => ?_)
  have a := (Classical.choose_spec (w i) hi).2
  have b := (Classical.choose_spec (w j) hj).2
  have e' : Classical.choose (w i) = Classical.choose (w j) := e
  rw [e'] at a
  exact h1 i j hi hj (by rw [← a.1, b.1]) (by rw [← a.2, b.2])
noncomputable def hZ (S : Int → Int → Prop) : Nat := Classical.epsilon (fun n => ∃ px py, inj2 px py n ∧ pin px py n = S)
theorem hZ_is {S : Int → Int → Prop} {px py : Nat → Int} {n : Nat} (h1 : inj2 px py n) (h2 : pin px py n = S) : n = hZ S := by
  obtain ⟨qx, qy, g1, g2⟩ := Classical.epsilon_spec (p := fun n => ∃ px py, inj2 px py n ∧ pin px py n = S) ⟨n, px, py, h1, h2⟩
  have e : pin px py n = pin qx qy (hZ S) := h2.trans g2.symm
  have a := inj2_le h1 (fun x y q => by rw [← e]; exact q)
  have b := inj2_le (n := n) (px := px) (py := py) g1 (fun x y q => by rw [e]; exact q)
  exact Nat.le_antisymm a b
theorem srt_inj {px py : Nat → Int} {n : Nat} (h : srt px py n) : inj2 px py n := fun i j hi hj e1 e2 => by
  rcases Nat.lt_trichotomy i j with q | q | q
  · have := h i j q hj; rw [e1, e2] at this; omega
  · exact q
  · have := h j i q hi; rw [e1, e2] at this; omega
/-! a Region that has been gathered: the set S -/
def rg_any (h : ax_H) (a : Nat) : Prop := ∃ xs ys sz rd cn, rg_at h a xs ys sz rd cn
def rg_pre (h : ax_H) (a : Nat) (S : Int → Int → Prop) (bd : Nat) : Prop := ∃ xs ys sz rd cn, rg_at h a xs ys sz rd cn ∧ rg_rg xs ys sz ∧ srt xs ys sz ∧ sz ≤ bd ∧ pin xs ys sz = S
def rg_of (h : ax_H) (a : Nat) (S : Int → Int → Prop) : Prop := ∃ xs ys sz rd cn, ∃ r : Nat → Nat, rg_at h a xs ys sz rd cn ∧ rg_rg xs ys sz ∧ srt xs ys sz ∧ sz ≤ 128 ∧ cn ≤ 256 ∧ (∀ e, e < cn → rd e = (r e : Int) ∧ r e < sz) ∧ hl_ok xs ys sz r cn ∧ pin xs ys sz = S
theorem rg_of.any {h : ax_H} {a : Nat} {S : Int → Int → Prop} (H : rg_of h a S) : rg_any h a := by
  obtain ⟨xs, ys, sz, rd, cn, r, h1, -⟩ := H
  exact ⟨xs, ys, sz, rd, cn, h1⟩
theorem rg_any.sm {h h1 : ax_H} {a lo hi : Nat} (H : rg_any h a) (S : ax_sm lo hi h h1) (hn : a + 4 ≤ lo ∨ hi ≤ a) : rg_any h1 a := by
  obtain ⟨xs, ys, sz, rd, cn, q⟩ := H
  exact ⟨xs, ys, sz, rd, cn, q.sm S hn⟩
theorem rg_of.rng {h : ax_H} {a : Nat} {S : Int → Int → Prop} (H : rg_of h a S) : rng S := by
  obtain ⟨xs, ys, sz, rd, cn, r, h1, h2, h3, h4, h5, h6, h7, rfl⟩ := H
  rintro x y ⟨i, hi, rfl, rfl⟩
  exact h2 i hi
/-- its numbers are those of the set -/
theorem rg_of.use {h : ax_H} {a : Nat} {S : Int → Int → Prop} (H : rg_of h a S) : ∃ xs ys sz rd cn, ∃ r : Nat → Nat, rg_at h a xs ys sz rd cn ∧ rg_rg xs ys sz ∧ sz ≤ 128 ∧ cn ≤ 256 ∧ (∀ e, e < cn → rd e = (r e : Int) ∧ r e < sz) ∧ sz = hZ S ∧ cn = (hC S).1 ∧ (∀ e, e < cn → xs (r e) = (hC S).2.1 e ∧ ys (r e) = (hC S).2.2 e) ∧ hull S (fun e => xs (r e)) (fun e => ys (r e)) cn := by
  have hg := H.rng
  obtain ⟨xs, ys, sz, rd, cn, r, h1, h2, h3, h4, h5, h6, h7, h8⟩ := H
  have hh := hl_hull h3 h7
  rw [h8] at hh
  have := hC_is hg hh
  exact ⟨xs, ys, sz, rd, cn, r, h1, h2, h4, h5, h6, hZ_is (srt_inj h3) h8, this.1, this.2, hh⟩
theorem ax_Mt.mono {y : ax_M} {av : List ax_V} {h : ax_H} {P P2 : Option ax_V → ax_H → Prop} (M : ax_Mt y av h P) (hP : ∀ r h', P r h' → P2 r h') : ax_Mt y av h P2 := fun l b D dA p e a1 a2 a3 s m args below a4 a5 a6 a7 => by
  obtain ⟨n, o, g1, g2, g3, ⟨r, h', hq, hz, hc⟩, g4⟩ := M l b D dA p e a1 a2 a3 s m args below a4 a5 a6 a7
  exact ⟨n, o, g1, g2, g3, ⟨r, h', hP r h' hq, hz, hc⟩, g4⟩
/-- one more point -/
theorem t_inc {h : ax_H} {a bd : Nat} {S : Int → Int → Prop} (H : rg_pre h a S bd) (hb : bd < 128) {x y : Int} (hx : 0 ≤ x ∧ x ≤ 84) (hy : 0 ≤ y ∧ y ≤ 84) : ax_Mt MX3_include [rv a, iv x, iv y] h (fun r h' => r = none ∧ rg_pre h' a (fun u v => S u v ∨ (u = x ∧ v = y)) (bd + 1) ∧ ax_sm a (a + 4) h h') := by
  obtain ⟨xs, ys, sz, rd, cn, h1, h2, h3, h4, rfl⟩ := H
  refine (t_include h1 h2 h3 (by omega) hx hy).mono ?_
  rintro r h' ⟨rfl, xs', ys', sz', g1, g2, g3, g4, g5, g6⟩
  exact ⟨rfl, ⟨xs', ys', sz', rd, cn, g1, g3, g4, by omega, hull_congr g6⟩, g2⟩
theorem t_fc {h : ax_H} {a bd : Nat} {S : Int → Int → Prop} (H : rg_pre h a S bd) (hb : bd ≤ 128) : ax_Mt MX3_findCorners [rv a] h (fun v h' => v = some (rv a) ∧ rg_of h' a S ∧ ax_sm a (a + 4) h h') := by
  obtain ⟨xs, ys, sz, rd, cn, h1, h2, h3, h4, rfl⟩ := H
  refine (t_findCorners h1 h2 h3 (by omega)).mono ?_
  rintro r h' ⟨rfl, rd', cn', r', g1, g2, g3, g4, g5⟩
  exact ⟨rfl, ⟨xs, ys, sz, rd', cn', r', g1, h2, h3, by omega, g3, g4, g5, rfl⟩, g2⟩
theorem rg_pre.ob {h : ax_H} {a bd : Nat} {S : Int → Int → Prop} (H : rg_pre h a S bd) : ∃ fs, h[a]? = some (.inr (3, fs)) := by
  obtain ⟨xs, ys, sz, rd, cn, h1, -⟩ := H
  exact ⟨_, h1.1⟩
theorem rg_of.ob {h : ax_H} {a : Nat} {S : Int → Int → Prop} (H : rg_of h a S) : ∃ fs, h[a]? = some (.inr (3, fs)) := by
  obtain ⟨xs, ys, sz, rd, cn, r, h1, -⟩ := H
  exact ⟨_, h1.1⟩
/-- an empty region -/
theorem rg_pre0 {h : ax_H} {a : Nat} {xs ys rd : Nat → Int} {cn : Nat} (h1 : rg_at h a xs ys 0 rd cn) : rg_pre h a (fun _ _ => False) 0 := ⟨xs, ys, 0, rd, cn, h1, fun i hi => by omega, fun i j h1 h2 => by omega, by omega, hull_congr (fun x y => ⟨fun ⟨i, hi, _⟩ => by omega, fun q => q.elim⟩)⟩
theorem rg_pre.eqv {h : ax_H} {a bd bd2 : Nat} {S S2 : Int → Int → Prop} (H : rg_pre h a S bd) (e : ∀ x y, S x y ↔ S2 x y) (hb : bd ≤ bd2) : rg_pre h a S2 bd2 := by
  rw [← hull_congr e]
  obtain ⟨xs, ys, sz, rd, cn, h1, h2, h3, h4, h5⟩ := H
  exact ⟨xs, ys, sz, rd, cn, h1, h2, h3, by omega, h5⟩
/-! sets of bits -/
def bt (T k : Nat) : Prop := T / 2 ^ k % 2 = 1
theorem ax_bit {T k : Nat} : Int32.ofInt ((T : Int) / 2 ^ k) &&& Int32.ofInt 1 = Int32.ofInt ((T / 2 ^ k % 2 : Nat) : Int) := by
  have e : (T : Int) / 2 ^ k = ((T / 2 ^ k : Nat) : Int) := by rw [Int.natCast_ediv, Int.natCast_pow]; rfl
  rw [e, show (1 : Int) = ((1 : Nat) : Int) from rfl, ax_andN, Nat.and_one_is_mod]
/-- the points of a set -/
def bs (X Y : Nat → Int) (n T : Nat) (x y : Int) : Prop := ∃ k, k < n ∧ bt T k ∧ X k = x ∧ Y k = y
def bss (X Y : Nat → Int) (n T : Nat) (X2 Y2 : Nat → Int) (n2 T2 : Nat) (x y : Int) : Prop := ∃ i, i < n ∧ bt T i ∧ ∃ j, j < n2 ∧ bt T2 j ∧ X i + X2 j = x ∧ Y i + Y2 j = y
theorem bs_succ (X Y : Nat → Int) (n T : Nat) (x y : Int) : bs X Y (n + 1) T x y ↔ bs X Y n T x y ∨ (bt T n ∧ x = X n ∧ y = Y n) := by
  constructor
  · rintro ⟨k, h1, h2, h3, h4⟩
    by_cases q : k = n
    · subst q; exact Or.inr ⟨h2, h3.symm, h4.symm⟩
    · exact Or.inl ⟨k, by omega, h2, h3, h4⟩
  · rintro (⟨k, h1, h2, h3, h4⟩ | ⟨h2, h3, h4⟩)
    · exact ⟨k, by omega, h2, h3, h4⟩
    · exact ⟨n, by omega, h2, h3.symm, h4.symm⟩
theorem t_gather {h : ax_H} {a ab n T : Nat} {X Y V : Nat → Int} (hR : rg_any h a) (hB : bo_at h ab X Y V n) (ho : bo_ok X Y V n) (hT : T < 2147483648) (hd : ab + 4 ≤ a ∨ a + 4 ≤ ab) : ax_Mt MX3_gather [rv a, rv ab, iv (T : Int)] h (fun v h' => v = some (rv a) ∧ rg_of h' a (bs X Y n T) ∧ ax_sm a (a + 4) h h') := by
  have hm := ax_sm.rf (lo := a) (hi := a + 4) h
  have hn := ho.1
  refine ax_ra (L0 := [some (rv a), some (rv ab), some (iv (T : Int)), none]) rfl rfl (Or.inl ⟨_, rfl⟩) (Nat.le_of_ble_eq_true rfl) rfl ?_
  intro p9 l9 e9 R9 s9 m9 args9 below9 meth9 c9 b9 D9 dA9 Q9 C kr
  have loop : ∀ (d k : Nat) (hh : ax_H), k + d = n → rg_pre hh a (bs X Y k T) k → ax_sm a (a + 4) h hh → ax_G p9 l9 e9 R9 s9 m9 args9 below9 meth9 c9 b9 D9 dA9 MX3_gather.2.2.1 h.length (ax_sz h) Q9 (7) ([some (rv a), some (rv ab), some (iv (T : Int)), some (iv (k : Int))]) ([]) (hh) := by
    intro d
    induction d with
    | zero =>
      intro k hh hk hP hm
      obtain ⟨fs, hf⟩ := hP.ob
      have ⟨k0, k1, k2, k3⟩ := hB.sm hm hd
      have e9 : k = n := by omega
      subst e9
      refine g_iload_n C dX3_gather_7 rfl ?_
      refine g_aload_n C dX3_gather_8 rfl ?_
      refine g_get C FX3_25 dX3_gather_9 (by assumption) rfl ?_
      refine g_icmp_ge C dX3_gather_12 (tgt := 45) (by decide) (by omega) (by omega) (fun h12 => ?_) (fun h12 => ?_)
      · refine g_aload_n C dX3_gather_45 rfl ?_
        refine g_RV C (t_fc hP (by omega)) dX3_gather_46 KX3_findCorners LX3_38 IX3_findCorners VX3_findCorners (by decide) rfl (by assumption) rfl rfl rfl (Nat.le_of_ble_eq_true rfl) ?_
        intro r1 h1 hP1 hz1
        obtain ⟨rfl, hR, hm1⟩ := hP1
        dsimp only [Option.toList, List.cons_append, List.nil_append]
        exact kr _ _ _ _ dX3_gather_49 ⟨rfl, hR, hm.tr hm1⟩ (hm.tr hm1).1
      · exfalso; omega
    | succ d ih =>
      intro k hh hk hP hm
      obtain ⟨fs, hf⟩ := hP.ob
      have ⟨k0, k1, k2, k3⟩ := hB.sm hm hd
      have hb := ho.2 k (by omega)
      have hbit := Nat.mod_lt (T / 2 ^ k) (show 2 > 0 by decide)
      refine g_iload_n C dX3_gather_7 rfl ?_
      refine g_aload_n C dX3_gather_8 rfl ?_
      refine g_get C FX3_25 dX3_gather_9 (by assumption) rfl ?_
      refine g_icmp_ge C dX3_gather_12 (tgt := 45) (by decide) (by omega) (by omega) (fun h12 => ?_) (fun h12 => ?_)
      · exfalso; omega
      · refine g_iload_n C dX3_gather_15 rfl ?_
        refine g_iload_n C dX3_gather_16 rfl ?_
        refine g_ishr C dX3_gather_17 (by omega) (by omega) ?_
        refine g_iconst C dX3_gather_18 ?_
        refine g_iand C dX3_gather_19 ax_bit ?_
        refine g_if_eq C dX3_gather_20 (tgt := 39) (by decide) (by omega) (fun h20 => ?_) (fun h20 => ?_)
        · have hP := hP.eqv (bd2 := k + 1) (S2 := bs X Y (k + 1) T) (fun x y => by rw [bs_succ]; exact ⟨Or.inl, fun q => q.elim id (fun z => by have : T / 2 ^ k % 2 = 1 := z.1; omega)⟩) (by omega)
          refine g_iinc C dX3_gather_39 (by decide) rfl rfl ?_
          dsimp only [List.set]
          refine g_goto C dX3_gather_42 (tgt := 7) (by decide) ?_
          exact ih (k + 1) _ (by omega) hP hm
        · refine g_aload_n C dX3_gather_23 rfl ?_
          refine g_aload_n C dX3_gather_24 rfl ?_
          refine g_get C FX3_28 dX3_gather_25 (by assumption) rfl ?_
          refine g_iload_n C dX3_gather_28 rfl ?_
          refine g_iald C dX3_gather_29 (by assumption) rfl (by omega) (by decide) ?_
          refine g_aload_n C dX3_gather_30 rfl ?_
          refine g_get C FX3_31 dX3_gather_31 (by assumption) rfl ?_
          refine g_iload_n C dX3_gather_34 rfl ?_
          refine g_iald C dX3_gather_35 (by assumption) rfl (by omega) (by decide) ?_
          refine g_RV C (t_inc hP (by omega) (show 0 ≤ X k ∧ X k ≤ 84 by omega) (show 0 ≤ Y k ∧ Y k ≤ 84 by omega)) dX3_gather_36 KX3_include LX3_34 IX3_include VX3_include (by decide) rfl (by assumption) rfl rfl rfl (Nat.le_of_ble_eq_true rfl) ?_
          intro r1 h1 hP1 hz1
          obtain ⟨rfl, hP, hm1⟩ := hP1
          have hm := hm.tr hm1
          have hP := hP.eqv (bd2 := k + 1) (S2 := bs X Y (k + 1) T) (fun x y => by rw [bs_succ]; exact ⟨fun q => q.elim Or.inl (fun z => Or.inr ⟨show T / 2 ^ k % 2 = 1 by omega, z⟩), fun q => q.elim Or.inl (fun z => Or.inr z.2)⟩) (by omega)
          dsimp only [Option.toList, List.cons_append, List.nil_append]
          refine g_iinc C dX3_gather_39 (by decide) rfl rfl ?_
          dsimp only [List.set]
          refine g_goto C dX3_gather_42 (tgt := 7) (by decide) ?_
          exact ih (k + 1) _ (by omega) hP hm
  obtain ⟨xs, ys, sz, rd, cn, hR⟩ := hR
  have ⟨h0, h1, h2, h3⟩ := hR
  refine g_aload_n C dX3_gather_0 rfl ?_
  refine g_iconst C dX3_gather_1 ?_
  refine g_put C FX3_21 dX3_gather_2 (by assumption) rfl rfl (Nat.le_of_ble_eq_true rfl) ?_
  dsimp only [List.set]
  refine rg_s_sz 0 rfl hR hm ?_
  intro h9 hR hm
  refine g_iconst C dX3_gather_5 ?_
  refine g_istore_n C dX3_gather_6 (by decide) rfl ?_
  dsimp only [List.set]
  exact loop n 0 _ (by omega) ((rg_pre0 hR).eqv (fun x y => ⟨fun q => q.elim, fun ⟨k, hk, _⟩ => by omega⟩) (Nat.le_refl _)) hm
