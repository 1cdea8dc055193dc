/-! cells, cell, slope -/
def lwT (l : List Pt3) (t : Tr) : Nat := (bo_low (th (lx l) (ly l) (lv l) t) l.length).1
def CSl (l m : List Pt3) (t : Tr) : Prop := CS (lx l) (ly l) (lv l) l.length (lx m) (ly m) (lv m) m.length t
def slp (l m : List Pt3) (τ : Nat → Tr) (k : Nat) : Prop := tsr τ k ∧ (∀ i, i < k → CSl l m (τ i)) ∧ ∀ t, CSl l m t → ∃ i, i < k ∧ teq t (τ i)
noncomputable def cl (l m : List Pt3) : Nat × (Nat → Tr) := Classical.epsilon (fun q => slp l m q.2 q.1)
theorem cl_is {l m : List Pt3} {τ : Nat → Tr} {k : Nat} (h : slp l m τ k) : k = (cl l m).1 ∧ (∀ i, i < k → teq (τ i) ((cl l m).2 i)) ∧ (∀ i, i < k → 0 < ((cl l m).2 i).2.2) := by
  have g := Classical.epsilon_spec (p := fun q : Nat × (Nat → Tr) => slp l m q.2 q.1) ⟨(k, τ), h⟩
  have e := tsr_same h.1 g.1 (fun i hi => g.2.2 _ (h.2.1 i hi)) (fun i hi => h.2.2 _ (g.2.1 i hi))
  exact ⟨e.1, e.2, fun i hi => g.1.1 i (by rw [← e.1]; exact hi)⟩
theorem lwT_lt {l : List Pt3} {t : Tr} (h : l.length ≤ 7) : lwT l t < 2147483648 := by
  have h1 := bo_low_lt (th (lx l) (ly l) (lv l) t) l.length
  have h2 : 2 ^ l.length ≤ 2 ^ 7 := Nat.pow_le_pow_right (by decide) h
  unfold lwT; omega
theorem lwT_eq {l : List Pt3} {s t : Tr} (hs : 0 < s.2.2) (ht : 0 < t.2.2) (e : teq s t) : lwT l s = lwT l t := low_teq hs ht e _
theorem hS_in (S : Int → Int → Prop) : -6 ≤ hS S ∧ hS S ≤ 2 := by
  unfold hS
  split
  · omega
  · split <;> omega
noncomputable def kin (l : List Pt3) (T : Nat) (m : List Pt3) (U : Nat) : Int := 10 * hS (S1 l T) + hS (S1 m U)
noncomputable def shr (l : List Pt3) (T : Nat) (m : List Pt3) (U : Nat) (w : Int) : Int := if w = 1 then hA (S2 l T m U) else if w = 2 then smx l T m U else if kin l T m U = w - 100 then 1 else 0
noncomputable def shs (l m : List Pt3) (w : Int) (τ : Nat → Tr) : Nat → Int
  | 0 => 0
  | i + 1 => shs l m w τ i + shr l (lwT l (τ i)) m (lwT m (τ i)) w
theorem shs_eq {l m : List Pt3} {w : Int} {τ σ : Nat → Tr} : ∀ k, (∀ i, i < k → 0 < (τ i).2.2 ∧ 0 < (σ i).2.2 ∧ teq (τ i) (σ i)) → shs l m w τ k = shs l m w σ k
  | 0, _ => rfl
  | k + 1, h => by
    have := h k (by omega)
    rw [shs, shs, shs_eq k (fun i hi => h i (by omega)), lwT_eq (l := l) this.1 this.2.1 this.2.2, lwT_eq (l := m) this.1 this.2.1 this.2.2]
noncomputable def scells (B : Nat → List Pt3) (a b w : Int) : Int :=
  if ¬ ((0 ≤ a ∧ a ≤ 3) ∧ (0 ≤ b ∧ b ≤ 3)) then -1 else if ¬ ((0 ≤ w ∧ w ≤ 2) ∨ w = 102 ∨ w = 111 ∨ w = 112 ∨ w = 120 ∨ w = 121 ∨ w = 122) then -2
  else if w = 0 then ((cl (B a.toNat) (B b.toNat)).1 : Int) else shs (B a.toNat) (B b.toNat) w (cl (B a.toNat) (B b.toNat)).2 (cl (B a.toNat) (B b.toNat)).1
noncomputable def scell (B : Nat → List Pt3) (a b i w : Int) : Int :=
  if ¬ ((0 ≤ a ∧ a ≤ 3) ∧ (0 ≤ b ∧ b ≤ 3)) then -1 else if ¬ (0 ≤ w ∧ w ≤ 4) then -2 else if ¬ (0 ≤ i ∧ i < ((cl (B a.toNat) (B b.toNat)).1 : Int)) then -6
  else if w = 0 then kin (B a.toNat) (lwT (B a.toNat) ((cl (B a.toNat) (B b.toNat)).2 i.toNat)) (B b.toNat) (lwT (B b.toNat) ((cl (B a.toNat) (B b.toNat)).2 i.toNat))
  else if w = 1 then hA (S2 (B a.toNat) (lwT (B a.toNat) ((cl (B a.toNat) (B b.toNat)).2 i.toNat)) (B b.toNat) (lwT (B b.toNat) ((cl (B a.toNat) (B b.toNat)).2 i.toNat)))
  else if w = 2 then smx (B a.toNat) (lwT (B a.toNat) ((cl (B a.toNat) (B b.toNat)).2 i.toNat)) (B b.toNat) (lwT (B b.toNat) ((cl (B a.toNat) (B b.toNat)).2 i.toNat))
  else if w = 3 then (lwT (B a.toNat) ((cl (B a.toNat) (B b.toNat)).2 i.toNat) : Int) else (lwT (B b.toNat) ((cl (B a.toNat) (B b.toNat)).2 i.toNat) : Int)
noncomputable def sslope (B : Nat → List Pt3) (a b i w : Int) : Int :=
  if ¬ ((0 ≤ a ∧ a ≤ 3) ∧ (0 ≤ b ∧ b ≤ 3)) then -1 else if ¬ (0 ≤ w ∧ w ≤ 3) then -2 else if ¬ (0 ≤ i ∧ i < ((cl (B a.toNat) (B b.toNat)).1 : Int)) then -6
  else if w = 0 then 100000 + fU ((cl (B a.toNat) (B b.toNat)).2 i.toNat).1 ((cl (B a.toNat) (B b.toNat)).2 i.toNat).2.2
  else if w = 1 then fL ((cl (B a.toNat) (B b.toNat)).2 i.toNat).1 ((cl (B a.toNat) (B b.toNat)).2 i.toNat).2.2
  else if w = 2 then 100000 + fU ((cl (B a.toNat) (B b.toNat)).2 i.toNat).2.1 ((cl (B a.toNat) (B b.toNat)).2 i.toNat).2.2
  else fL ((cl (B a.toNat) (B b.toNat)).2 i.toNat).2.1 ((cl (B a.toNat) (B b.toNat)).2 i.toNat).2.2
/-! a Cutting that was cut -/
def cuw (h : ax_H) (l m : List Pt3) (τ : Nat → Tr) (k : Nat) : Prop := slp l m τ k ∧ (∀ i, i < k → tbd (τ i)) ∧ k ≤ 93 ∧ ∃ pp dx dy dw en pr, cu_at h 7 (fun t => ((lwT l t : Nat) : Int)) (fun t => ((lwT m t : Nat) : Int)) pp τ k dx dy dw en pr
theorem cuw.sm {h h1 : ax_H} {l m : List Pt3} {τ : Nat → Tr} {k : Nat} (H : cuw h l m τ k) (S : ax_sm 3 7 h h1) : cuw h1 l m τ k := by
  obtain ⟨a1, a2, a3, pp, dx, dy, dw, en, pr, ⟨⟨fd, hT, hfd⟩, hp1, hp2, hp3, hp4, hm93⟩⟩ := H
  exact ⟨a1, a2, a3, pp, dx, dy, dw, en, pr, ⟨fd, hT.sm S (by omega), hfd⟩, hp1, hp2, fun i hi => by rw [S.2 (pp i) (by have := hp1 i hi; omega)]; exact hp3 i hi, fun i hi => by rw [S.2 (pp i) (by have := hp1 i (by omega); omega)]; exact hp4 i hi, hm93⟩
theorem wd.cb {h : ax_H} {B K : Nat → List Pt3} {km : Nat} (H : wd h B K km) : ∃ fs, h[7]? = some (.inr (2, fs)) := by
  obtain ⟨fd, m, dx, dy, dw, en, pr, pp, hT, -⟩ := H.2.2.1
  exact ⟨_, hT.1⟩
theorem cuw.sz {h : ax_H} {l m : List Pt3} {τ : Nat → Tr} {k : Nat} (H : cuw h l m τ k) : ∃ v1 v2 v3 v4 v5 v6, h[7]? = some (.inr (2, [v1, iv (k : Int), v2, v3, v4, v5, v6])) := by
  obtain ⟨-, -, -, pp, dx, dy, dw, en, pr, ⟨⟨fd, hT, -⟩, -⟩⟩ := H
  exact ⟨_, _, _, _, _, _, hT.1⟩
theorem cuw.get {h : ax_H} {l m : List Pt3} {τ : Nat → Tr} {k : Nat} (H : cuw h l m τ k) {i : Nat} (hi : i < k) : ∃ c, 13 ≤ c ∧ ax_Met MX2_get [rv 7, iv (i : Int)] h (some (rv c)) h ∧ h[c]? = some (.inr (1, [iv (fU (τ i).1 (τ i).2.2), iv (fL (τ i).1 (τ i).2.2), iv (fU (τ i).2.1 (τ i).2.2), iv (fL (τ i).2.1 (τ i).2.2), iv ((lwT l (τ i) : Nat) : Int), iv ((lwT m (τ i) : Nat) : Int)])) := by
  obtain ⟨-, -, h93, pp, dx, dy, dw, en, pr, hc⟩ := H
  refine ⟨pp i, (hc.2.1 i (by omega)).1, ?_, hc.2.2.2.2.1 i hi⟩
  have := t_get hc (k := (i : Int)) (by omega)
  rw [if_pos (by omega), Int.toNat_natCast] at this
  exact this
theorem cuw.non {h : ax_H} {l m : List Pt3} {τ : Nat → Tr} {k : Nat} (H : cuw h l m τ k) {i : Int} (hi : -2147483648 ≤ i ∧ i < 2147483648) (hn : ¬ (0 ≤ i ∧ i < (k : Int))) : ax_Met MX2_get [rv 7, iv i] h (some nv) h := by
  obtain ⟨-, -, h93, pp, dx, dy, dw, en, pr, hc⟩ := H
  have := t_get hc hi
  rw [if_neg hn] at this
  exact this
theorem w_cut {h : ax_H} {B K : Nat → List Pt3} {km n m : Nat} (H : wd h B K km) (hn : n < 4) (hm : m < 4) : ax_Mt MX2_cut [rv 7, rv (121 + 4 * n), rv (121 + 4 * m)] h (fun r h' => r = none ∧ (∃ τ k, cuw h' (B n) (B m) τ k) ∧ wd h' B K km ∧ ax_sm 7 107 h h') := by
  obtain ⟨X, Y, V, hB, hE, hO⟩ := H.of hn
  obtain ⟨X2, Y2, V2, hB2, hE2, hO2⟩ := H.of hm
  refine (t_cut H.2.2.1 hB hB2 hO hO2 (by omega) (by omega)).mono ?_
  rintro r h' ⟨h1, h2, h3⟩
  refine ⟨h1, ?_, H.cu h3 h2.any, h3⟩
  obtain ⟨pp, τ, k, dx, dy, dw, en, pr, q1, q2, q3, q4⟩ := h2
  have e1 : low1 X Y V (B n).length = fun t => ((lwT (B n) t : Nat) : Int) := funext fun t => congrArg (fun z : Nat × Int => ((z.1 : Nat) : Int)) (low_cg _ (fun k hk => th_cg (hE k hk)))
  have e2 : low1 X2 Y2 V2 (B m).length = fun t => ((lwT (B m) t : Nat) : Int) := funext fun t => congrArg (fun z : Nat × Int => ((z.1 : Nat) : Int)) (low_cg _ (fun k hk => th_cg (hE2 k hk)))
  rw [e1, e2] at q1
  exact ⟨τ, k, ⟨q2, fun i hi => cs_cg hE hE2 (q3 i hi).2, fun t ht => q4 t (cs_cg (fun k hk => ⟨(hE k hk).1.symm, (hE k hk).2.1.symm, (hE k hk).2.2.symm⟩) (fun k hk => ⟨(hE2 k hk).1.symm, (hE2 k hk).2.1.symm, (hE2 k hk).2.2.symm⟩) ht)⟩, fun i hi => (q3 i hi).1, q1.2.2.2.2.2, pp, dx, dy, dw, en, pr, q1⟩
theorem t_isKindAsked {h : ax_H} {w : Int} (hw : -2147483648 ≤ w ∧ w < 2147483648) : ax_Met MX4_isKindAsked [iv w] h (some (iv (if w = 102 ∨ w = 111 ∨ w = 112 ∨ w = 120 ∨ w = 121 ∨ w = 122 then 1 else 0))) h := by
  refine ax_mz (L0 := [some (iv w)]) rfl rfl (Nat.le_refl _) (Nat.le_refl _) (Nat.le_of_ble_eq_true rfl) rfl ?_
  intro p9 l9 e9 R9 s9 m9 args9 below9 meth9 c9 b9 D9 dA9 Q9 C kr
  refine g_iload_n C dX4_isKindAsked_0 rfl ?_
  rcases (show w = 102 ∨ w = 111 ∨ w = 112 ∨ w = 120 ∨ w = 121 ∨ w = 122 ∨ (w ≠ 102 ∧ w ≠ 111 ∧ w ≠ 112 ∧ w ≠ 120 ∧ w ≠ 121 ∧ w ≠ 122) by omega) with rfl | rfl | rfl | rfl | rfl | rfl | hsw
  · refine g_lookup C dX4_isKindAsked_1 (off := 59) (tgt := 60) (by decide) (by decide) (by decide) (by decide) ?_
    refine g_iconst C dX4_isKindAsked_60 ?_
    exact kr _ _ _ dX4_isKindAsked_61 (by decide) (by decide)
  · refine g_lookup C dX4_isKindAsked_1 (off := 59) (tgt := 60) (by decide) (by decide) (by decide) (by decide) ?_
    refine g_iconst C dX4_isKindAsked_60 ?_
    exact kr _ _ _ dX4_isKindAsked_61 (by decide) (by decide)
  · refine g_lookup C dX4_isKindAsked_1 (off := 59) (tgt := 60) (by decide) (by decide) (by decide) (by decide) ?_
    refine g_iconst C dX4_isKindAsked_60 ?_
    exact kr _ _ _ dX4_isKindAsked_61 (by decide) (by decide)
  · refine g_lookup C dX4_isKindAsked_1 (off := 59) (tgt := 60) (by decide) (by decide) (by decide) (by decide) ?_
    refine g_iconst C dX4_isKindAsked_60 ?_
    exact kr _ _ _ dX4_isKindAsked_61 (by decide) (by decide)
  · refine g_lookup C dX4_isKindAsked_1 (off := 59) (tgt := 60) (by decide) (by decide) (by decide) (by decide) ?_
    refine g_iconst C dX4_isKindAsked_60 ?_
    exact kr _ _ _ dX4_isKindAsked_61 (by decide) (by decide)
  · refine g_lookup C dX4_isKindAsked_1 (off := 59) (tgt := 60) (by decide) (by decide) (by decide) (by decide) ?_
    refine g_iconst C dX4_isKindAsked_60 ?_
    exact kr _ _ _ dX4_isKindAsked_61 (by decide) (by decide)
  · refine g_lookup C dX4_isKindAsked_1 (off := 61) (tgt := 62) (by omega) (by decide) (by simp [Op.lookupswitch.offset]; omega) (by decide) ?_
    refine g_iconst C dX4_isKindAsked_62 ?_
    exact kr _ _ _ dX4_isKindAsked_63 (by decide) (by rw [if_neg (by omega)])
theorem t_kindOf {h : ax_H} {B K : Nat → List Pt3} {km n m T U c : Nat} {x1 x2 x3 x4 : Int} (H : wd h B K km) (hn : n < 4) (hm : m < 4) (hT : T < 2147483648) (hU : U < 2147483648) (hc : 7 ≤ c) (hC : h[c]? = some (.inr (1, [iv x1, iv x2, iv x3, iv x4, iv (T : Int), iv (U : Int)]))) : ax_Mt MX4_kindOf [rv 0, rv c, rv (121 + 4 * n), rv (121 + 4 * m)] h (fun r h' => r = some (iv (kin (B n) T (B m) U)) ∧ wd h' B K km ∧ ax_sm 3 7 h h') := by
  have g0 := H.1.1
  refine ax_ri (L0 := [some (rv 0), some (rv c), some (rv (121 + 4 * n)), some (rv (121 + 4 * m))]) rfl rfl (Nat.le_of_ble_eq_true rfl) rfl ?_
  intro p9 l9 e9 R9 s9 m9 args9 below9 meth9 c9 b9 D9 dA9 Q9 C kr
  obtain ⟨fs1, q1⟩ := H.rb
  refine g_bipush C dX4_kindOf_0 (by decide) ?_
  refine g_aload_n C dX4_kindOf_2 rfl ?_
  refine g_get C FX4_21 dX4_kindOf_3 (by assumption) rfl ?_
  refine g_aload_n C dX4_kindOf_6 rfl ?_
  refine g_aload_n C dX4_kindOf_7 rfl ?_
  refine g_get C FX4_138 dX4_kindOf_8 (by assumption) rfl ?_
  refine g_RV C (w_gather H hn hT) dX4_kindOf_11 KX3_gather LX4_80 IX3_gather VX3_gather (by decide) rfl (by assumption) rfl rfl rfl (Nat.le_of_ble_eq_true rfl) ?_
  intro r1 g1 hP1 hz1
  obtain ⟨rfl, hR, H1, hm1⟩ := hP1
  have g1 := H1.1.1
  obtain ⟨fs2, q2⟩ := H1.rb
  have hC1 := (hm1.2 c (by omega)).trans hC
  dsimp only [Option.toList, List.cons_append, List.nil_append]
  refine g_V C (t_span hR) dX4_kindOf_14 KX3_span LX4_96 IX3_span VX3_span (by decide) rfl (by assumption) rfl rfl rfl (Nat.le_of_ble_eq_true rfl) ⟨rfl, rfl⟩ ?_
  dsimp only [Option.toList, List.cons_append, List.nil_append]
  refine g_imul C dX4_kindOf_17 ?_
  refine g_aload_n C dX4_kindOf_18 rfl ?_
  refine g_get C FX4_21 dX4_kindOf_19 (by assumption) rfl ?_
  refine g_aload_n C dX4_kindOf_22 rfl ?_
  refine g_aload_n C dX4_kindOf_23 rfl ?_
  refine g_get C FX4_143 dX4_kindOf_24 (by assumption) rfl ?_
  refine g_RV C (w_gather H1 hm hU) dX4_kindOf_27 KX3_gather LX4_80 IX3_gather VX3_gather (by decide) rfl (by assumption) rfl rfl rfl (Nat.le_of_ble_eq_true rfl) ?_
  intro r2 g2 hP1 hz1
  obtain ⟨rfl, hR2, H2, hm2⟩ := hP1
  have hm2 := hm1.tr hm2
  obtain ⟨fs3, q3⟩ := H2.rb
  dsimp only [Option.toList, List.cons_append, List.nil_append]
  refine g_V C (t_span hR2) dX4_kindOf_30 KX3_span LX4_96 IX3_span VX3_span (by decide) rfl (by assumption) rfl rfl rfl (Nat.le_of_ble_eq_true rfl) ⟨rfl, rfl⟩ ?_
  dsimp only [Option.toList, List.cons_append, List.nil_append]
  refine g_iadd C dX4_kindOf_33 ?_
  exact kr _ _ _ _ dX4_kindOf_34 ⟨rfl, H2, hm2⟩ hm2.1
theorem kin_in (l m : List Pt3) (T U : Nat) : -66 ≤ kin l T m U ∧ kin l T m U ≤ 22 := by
  have h1 := hS_in (S1 l T)
  have h2 := hS_in (S1 m U)
  unfold kin; omega
theorem t_shareOf {h : ax_H} {B K : Nat → List Pt3} {km n m T U c : Nat} {x1 x2 x3 x4 w : Int} (H : wd h B K km) (hn : n < 4) (hm : m < 4) (hT : T < 2147483648) (hU : U < 2147483648) (hc : 7 ≤ c) (hC : h[c]? = some (.inr (1, [iv x1, iv x2, iv x3, iv x4, iv (T : Int), iv (U : Int)]))) (hw : 0 ≤ w ∧ w ≤ 122) : ax_Mt MX4_shareOf [rv 0, rv c, rv (121 + 4 * n), rv (121 + 4 * m), iv w] h (fun r h' => r = some (iv (shr (B n) T (B m) U w)) ∧ wd h' B K km ∧ ax_sm 3 7 h h') := by
  have g0 := H.1.1
  have hk := kin_in (B n) (B m) T U
  refine ax_ri (L0 := [some (rv 0), some (rv c), some (rv (121 + 4 * n)), some (rv (121 + 4 * m)), some (iv w)]) rfl rfl (Nat.le_of_ble_eq_true rfl) rfl ?_
  intro p9 l9 e9 R9 s9 m9 args9 below9 meth9 c9 b9 D9 dA9 Q9 C kr
  obtain ⟨fs1, q1⟩ := H.rb
  refine g_aload_n C dX4_shareOf_0 rfl ?_
  refine g_ifnonnull C dX4_shareOf_1 (tgt := 6) (by decide) ?_
  refine g_iload C dX4_shareOf_6 rfl ?_
  rcases (show w = 1 ∨ w = 2 ∨ (w ≠ 1 ∧ w ≠ 2) by omega) with rfl | rfl | hsw
  · refine g_lookup C dX4_shareOf_8 (off := 28) (tgt := 36) (by decide) (by decide) (by decide) (by decide) ?_
    refine g_aload_n C dX4_shareOf_36 rfl ?_
    refine g_get C FX4_21 dX4_shareOf_37 (by assumption) rfl ?_
    refine g_aload_n C dX4_shareOf_40 rfl ?_
    refine g_aload_n C dX4_shareOf_41 rfl ?_
    refine g_get C FX4_138 dX4_shareOf_42 (by assumption) rfl ?_
    refine g_aload_n C dX4_shareOf_45 rfl ?_
    refine g_aload_n C dX4_shareOf_46 rfl ?_
    refine g_get C FX4_143 dX4_shareOf_47 (by assumption) rfl ?_
    refine g_RV C (w_sums H hn hm hT hU) dX4_shareOf_50 KX3_gatherSums LX4_113 IX3_gatherSums VX3_gatherSums (by decide) rfl (by assumption) rfl rfl rfl (Nat.le_of_ble_eq_true rfl) ?_
    intro r1 g1 hP1 hz1
    obtain ⟨rfl, hR, H1, hm1⟩ := hP1
    obtain ⟨fs2, q2⟩ := H1.rb
    dsimp only [Option.toList, List.cons_append, List.nil_append]
    refine g_V C (t_area hR) dX4_shareOf_53 KX3_area LX4_84 IX3_area VX3_area (by decide) rfl (by assumption) rfl rfl rfl (Nat.le_of_ble_eq_true rfl) ⟨rfl, rfl⟩ ?_
    dsimp only [Option.toList, List.cons_append, List.nil_append]
    exact kr _ _ _ _ dX4_shareOf_56 ⟨congrArg (fun z => some (iv z)) (by unfold shr; (repeat (first | rw [if_pos (by omega)] | rw [if_neg (by omega)]))), H1, hm1⟩ hm1.1
  · refine g_lookup C dX4_shareOf_8 (off := 49) (tgt := 57) (by decide) (by decide) (by decide) (by decide) ?_
    refine g_aload_n C dX4_shareOf_57 rfl ?_
    refine g_aload_n C dX4_shareOf_58 rfl ?_
    refine g_aload_n C dX4_shareOf_59 rfl ?_
    refine g_get C FX4_138 dX4_shareOf_60 (by assumption) rfl ?_
    refine g_aload_n C dX4_shareOf_63 rfl ?_
    refine g_aload_n C dX4_shareOf_64 rfl ?_
    refine g_get C FX4_143 dX4_shareOf_65 (by assumption) rfl ?_
    refine g_RV C (t_mixedOf H hn hm hT hU) dX4_shareOf_68 KX4_mixedOf LX4_109 IX4_mixedOf VX4_mixedOf (by decide) rfl (by assumption) rfl rfl rfl (Nat.le_of_ble_eq_true rfl) ?_
    intro r1 g1 hP1 hz1
    obtain ⟨rfl, H1, hm1⟩ := hP1
    dsimp only [Option.toList, List.cons_append, List.nil_append]
    exact kr _ _ _ _ dX4_shareOf_71 ⟨congrArg (fun z => some (iv z)) (by unfold shr; (repeat (first | rw [if_pos (by omega)] | rw [if_neg (by omega)]))), H1, hm1⟩ hm1.1
  · refine g_lookup C dX4_shareOf_8 (off := 64) (tgt := 72) (by omega) (by decide) (by simp [Op.lookupswitch.offset]; omega) (by decide) ?_
    refine g_aload_n C dX4_shareOf_72 rfl ?_
    refine g_aload_n C dX4_shareOf_73 rfl ?_
    refine g_aload_n C dX4_shareOf_74 rfl ?_
    refine g_aload_n C dX4_shareOf_75 rfl ?_
    refine g_RV C (t_kindOf H hn hm hT hU hc hC) dX4_shareOf_76 KX4_kindOf LX4_134 IX4_kindOf VX4_kindOf (by decide) rfl (by assumption) rfl rfl rfl (Nat.le_of_ble_eq_true rfl) ?_
    intro r1 g1 hP1 hz1
    obtain ⟨rfl, H1, hm1⟩ := hP1
    dsimp only [Option.toList, List.cons_append, List.nil_append]
    refine g_iload C dX4_shareOf_79 rfl ?_
    refine g_bipush C dX4_shareOf_81 (by decide) ?_
    refine g_isub C dX4_shareOf_83 ?_
    refine g_icmp_ne C dX4_shareOf_84 (tgt := 91) (by decide) (by omega) (by omega) (fun h84 => ?_) (fun h84 => ?_)
    · refine g_iconst C dX4_shareOf_91 ?_
      exact kr _ _ _ _ dX4_shareOf_92 ⟨congrArg (fun z => some (iv z)) (by unfold shr; (repeat (first | rw [if_pos (by omega)] | rw [if_neg (by omega)]))), H1, hm1⟩ hm1.1
    · refine g_iconst C dX4_shareOf_87 ?_
      refine g_goto C dX4_shareOf_88 (tgt := 92) (by decide) ?_
      exact kr _ _ _ _ dX4_shareOf_92 ⟨congrArg (fun z => some (iv z)) (by unfold shr; (repeat (first | rw [if_pos (by omega)] | rw [if_neg (by omega)]))), H1, hm1⟩ hm1.1
theorem t_cells {h : ax_H} {B K : Nat → List Pt3} {km : Nat} (H : wd h B K km) {a b w : Int} (ha : -2147483648 ≤ a ∧ a < 2147483648) (hb : -2147483648 ≤ b ∧ b < 2147483648) (hw : -2147483648 ≤ w ∧ w < 2147483648) : ax_Mt MX4_cells [rv 0, iv a, iv b, iv w] h (fun r h' => r = some (iv (scells B a b w)) ∧ wd h' B K km ∧ ax_sm 0 169 h h') := by
  have hm := ax_sm.rf (lo := 0) (hi := 169) h
  have g0 := H.1.1
  refine ax_ri (L0 := [some (rv 0), some (iv a), some (iv b), some (iv w), none, none, none, none]) rfl rfl (Nat.le_of_ble_eq_true rfl) rfl ?_
  intro p9 l9 e9 R9 s9 m9 args9 below9 meth9 c9 b9 D9 dA9 Q9 C kr
  by_cases c : 0 ≤ a ∧ a ≤ 3
  · obtain ⟨n, rfl⟩ : ∃ n : Nat, a = (n : Int) := ⟨a.toNat, by omega⟩
    have hn : n < 4 := by omega
    by_cases c2 : 0 ≤ b ∧ b ≤ 3
    · obtain ⟨j, rfl⟩ : ∃ n : Nat, b = (n : Int) := ⟨b.toNat, by omega⟩
      have hj : j < 4 := by omega
      have hL := H.len hn
      have hL2 := H.len hj
      obtain ⟨fs1, q1⟩ := H.cb
      have part : ((0 ≤ w ∧ w ≤ 2) ∨ w = 102 ∨ w = 111 ∨ w = 112 ∨ w = 120 ∨ w = 121 ∨ w = 122) → ax_G p9 l9 e9 R9 s9 m9 args9 below9 meth9 c9 b9 D9 dA9 MX4_cells.2.2.1 h.length (ax_sz h) Q9 (45) ([some (rv 0), some (iv (n : Int)), some (iv (j : Int)), some (iv w), some (rv (121 + 4 * n)), some (rv (121 + 4 * j)), none, none]) ([]) (h) := by
        intro hW
        have loop : ∀ (τ : Nat → Tr) (k : Nat), 0 < w → ∀ (d i : Nat) (hh : ax_H), i + d = k → wd hh B K km → ax_sm 0 169 h hh → cuw hh (B n) (B j) τ k → ax_G p9 l9 e9 R9 s9 m9 args9 below9 meth9 c9 b9 D9 dA9 MX4_cells.2.2.1 h.length (ax_sz h) Q9 (74) ([some (rv 0), some (iv (n : Int)), some (iv (j : Int)), some (iv w), some (rv (121 + 4 * n)), some (rv (121 + 4 * j)), some (iv (shs (B n) (B j) w τ i)), some (iv (i : Int))]) ([]) (hh) := by
          intro τ k hw0 d
          induction d with
          | zero =>
            intro i hh hi H hm hc
            have g0 := H.1.1
            have h93 := hc.2.2.1
            obtain ⟨v1, v2, v3, v4, v5, v6, q2⟩ := hc.sz
            have e : i = k := by omega
            subst e
            have ec := cl_is hc.1
            refine g_iload C dX4_cells_74 rfl ?_
            refine g_aload_n C dX4_cells_76 rfl ?_
            refine g_get C FX4_28 dX4_cells_77 (by assumption) rfl ?_
            refine g_get C FX4_125 dX4_cells_80 (by assumption) rfl ?_
            refine g_icmp_ge C dX4_cells_83 (tgt := 115) (by decide) (by omega) (by omega) (fun h83 => ?_) (fun h83 => ?_)
            · refine g_iload C dX4_cells_115 rfl ?_
              exact kr _ _ _ _ dX4_cells_117 ⟨congrArg (fun z => some (iv z)) (by unfold scells; rw [Int.toNat_natCast, Int.toNat_natCast]; (repeat (first | rw [if_pos (by omega)] | rw [if_neg (by omega)])); rw [← ec.1]; exact shs_eq _ (fun k hk => ⟨hc.1.1.1 k hk, ec.2.2 k hk, ec.2.1 k hk⟩)), H, hm⟩ hm.1
            · exfalso; omega
          | succ d ih =>
            intro i hh hi H hm hc
            have g0 := H.1.1
            have h93 := hc.2.2.1
            obtain ⟨v1, v2, v3, v4, v5, v6, q2⟩ := hc.sz
            obtain ⟨a9, z1, z2, z3⟩ := hc.get (i := i) (by omega)
            refine g_iload C dX4_cells_74 rfl ?_
            refine g_aload_n C dX4_cells_76 rfl ?_
            refine g_get C FX4_28 dX4_cells_77 (by assumption) rfl ?_
            refine g_get C FX4_125 dX4_cells_80 (by assumption) rfl ?_
            refine g_icmp_ge C dX4_cells_83 (tgt := 115) (by decide) (by omega) (by omega) (fun h83 => ?_) (fun h83 => ?_)
            · exfalso; omega
            · refine g_iload C dX4_cells_86 rfl ?_
              refine g_aload_n C dX4_cells_88 rfl ?_
              refine g_aload_n C dX4_cells_89 rfl ?_
              refine g_get C FX4_28 dX4_cells_90 (by assumption) rfl ?_
              refine g_iload C dX4_cells_93 rfl ?_
              refine g_V C (z2) dX4_cells_95 KX2_get LX4_126 IX2_get VX2_get (by decide) rfl (by assumption) rfl rfl rfl (Nat.le_of_ble_eq_true rfl) ⟨rfl, rfl⟩ ?_
              dsimp only [Option.toList, List.cons_append, List.nil_append]
              refine g_aload C dX4_cells_98 rfl ?_
              refine g_aload C dX4_cells_100 rfl ?_
              refine g_iload_n C dX4_cells_102 rfl ?_
              refine g_RV C (t_shareOf H hn hj (lwT_lt hL) (lwT_lt hL2) (by omega) z3 (w := w) (by omega)) dX4_cells_103 KX4_shareOf LX4_130 IX4_shareOf VX4_shareOf (by decide) rfl (by assumption) rfl rfl rfl (Nat.le_of_ble_eq_true rfl) ?_
              intro r1 g1 hP1 hz1
              obtain ⟨rfl, H1, hm1⟩ := hP1
              dsimp only [Option.toList, List.cons_append, List.nil_append]
              refine g_iadd C dX4_cells_106 ?_
              refine g_istore C dX4_cells_107 (by decide) rfl ?_
              dsimp only [List.set]
              refine g_iinc C dX4_cells_109 (by decide) rfl rfl ?_
              dsimp only [List.set]
              refine g_goto C dX4_cells_112 (tgt := 74) (by decide) ?_
              exact ih (i + 1) _ (by omega) H1 (hm.tr (hm1.wide (by omega) (by omega))) (hc.sm hm1)
        refine g_aload_n C dX4_cells_45 rfl ?_
        refine g_get C FX4_28 dX4_cells_46 (by assumption) rfl ?_
        refine g_aload C dX4_cells_49 rfl ?_
        refine g_aload C dX4_cells_51 rfl ?_
        refine g_RV C (w_cut H hn hj) dX4_cells_53 KX2_cut LX4_121 IX2_cut VX2_cut (by decide) rfl (by assumption) rfl rfl rfl (Nat.le_of_ble_eq_true rfl) ?_
        intro r1 g1 hP1 hz1
        obtain ⟨rfl, ⟨τ, k, hc⟩, H1, hm1⟩ := hP1
        have g1 := H1.1.1
        have hm1 : ax_sm 0 169 h _ := hm1.wide (by omega) (by omega)
        obtain ⟨v1, v2, v3, v4, v5, v6, q2⟩ := hc.sz
        dsimp only [Option.toList, List.cons_append, List.nil_append]
        refine g_iload_n C dX4_cells_56 rfl ?_
        refine g_if_ne C dX4_cells_57 (tgt := 68) (by decide) (by omega) (fun h57 => ?_) (fun h57 => ?_)
        · refine g_iconst C dX4_cells_68 ?_
          refine g_istore C dX4_cells_69 (by decide) rfl ?_
          dsimp only [List.set]
          refine g_iconst C dX4_cells_71 ?_
          refine g_istore C dX4_cells_72 (by decide) rfl ?_
          dsimp only [List.set]
          exact loop τ k (by omega) k 0 _ (by omega) H1 hm1 hc
        · refine g_aload_n C dX4_cells_60 rfl ?_
          refine g_get C FX4_28 dX4_cells_61 (by assumption) rfl ?_
          refine g_get C FX4_125 dX4_cells_64 (by assumption) rfl ?_
          exact kr _ _ _ _ dX4_cells_67 ⟨congrArg (fun z => some (iv z)) (by unfold scells; rw [Int.toNat_natCast, Int.toNat_natCast]; (repeat (first | rw [if_pos (by omega)] | rw [if_neg (by omega)])); rw [(cl_is hc.1).1]), H1, hm1⟩ hm1.1
      refine g_aload_n C dX4_cells_0 rfl ?_
      refine g_iload_n C dX4_cells_1 rfl ?_
      refine g_V C (t_bodyA H hn) dX4_cells_2 KX4_bodyAt LX4_38 IX4_bodyAt VX4_bodyAt (by decide) rfl (by assumption) rfl rfl rfl (Nat.le_of_ble_eq_true rfl) ⟨rfl, rfl⟩ ?_
      dsimp only [Option.toList, List.cons_append, List.nil_append]
      refine g_astore C dX4_cells_5 (by decide) rfl ?_
      dsimp only [List.set]
      refine g_aload_n C dX4_cells_7 rfl ?_
      refine g_iload_n C dX4_cells_8 rfl ?_
      refine g_V C (t_bodyA H hj) dX4_cells_9 KX4_bodyAt LX4_38 IX4_bodyAt VX4_bodyAt (by decide) rfl (by assumption) rfl rfl rfl (Nat.le_of_ble_eq_true rfl) ⟨rfl, rfl⟩ ?_
      dsimp only [Option.toList, List.cons_append, List.nil_append]
      refine g_astore C dX4_cells_12 (by decide) rfl ?_
      dsimp only [List.set]
      refine g_aload C dX4_cells_14 rfl ?_
      refine g_ifnull C dX4_cells_16 ?_
      refine g_aload C dX4_cells_19 rfl ?_
      refine g_ifnonnull C dX4_cells_21 (tgt := 26) (by decide) ?_
      refine g_iload_n C dX4_cells_26 rfl ?_
      refine g_iconst C dX4_cells_27 ?_
      refine g_iconst C dX4_cells_28 ?_
      refine g_S C (t_isWithin hw (by omega) (by omega)) dX4_cells_29 KX4_isWithin LX4_42 SX4_isWithin (by decide) rfl rfl (Nat.le_of_ble_eq_true rfl) ⟨rfl, rfl⟩ ?_
      dsimp only [Option.toList, List.cons_append, List.nil_append]
      refine g_if_ne C dX4_cells_32 (tgt := 45) (by decide) ifr (fun h32 => ?_) (fun h32 => ?_)
      · have w32 : 0 ≤ w ∧ w ≤ 2 := if1 h32
        exact part (by omega)
      · have w32 : ¬ (0 ≤ w ∧ w ≤ 2) := if0 h32
        refine g_iload_n C dX4_cells_35 rfl ?_
        refine g_S C (t_isKindAsked hw) dX4_cells_36 KX4_isKindAsked LX4_118 SX4_isKindAsked (by decide) rfl rfl (Nat.le_of_ble_eq_true rfl) ⟨rfl, rfl⟩ ?_
        dsimp only [Option.toList, List.cons_append, List.nil_append]
        refine g_if_ne C dX4_cells_39 (tgt := 45) (by decide) ifr (fun h39 => ?_) (fun h39 => ?_)
        · have w39 : w = 102 ∨ w = 111 ∨ w = 112 ∨ w = 120 ∨ w = 121 ∨ w = 122 := if1 h39
          exact part (by omega)
        · have w39 : ¬ (w = 102 ∨ w = 111 ∨ w = 112 ∨ w = 120 ∨ w = 121 ∨ w = 122) := if0 h39
          refine g_bipush C dX4_cells_42 (by decide) ?_
          exact kr _ _ _ _ dX4_cells_44 ⟨congrArg (fun z => some (iv z)) (by unfold scells; (repeat (first | rw [if_pos (by omega)] | rw [if_neg (by omega)]))), H, hm⟩ hm.1
    · refine g_aload_n C dX4_cells_0 rfl ?_
      refine g_iload_n C dX4_cells_1 rfl ?_
      refine g_V C (t_bodyA H hn) dX4_cells_2 KX4_bodyAt LX4_38 IX4_bodyAt VX4_bodyAt (by decide) rfl (by assumption) rfl rfl rfl (Nat.le_of_ble_eq_true rfl) ⟨rfl, rfl⟩ ?_
      dsimp only [Option.toList, List.cons_append, List.nil_append]
      refine g_astore C dX4_cells_5 (by decide) rfl ?_
      dsimp only [List.set]
      refine g_aload_n C dX4_cells_7 rfl ?_
      refine g_iload_n C dX4_cells_8 rfl ?_
      refine g_V C (t_bodyN H hb c2) dX4_cells_9 KX4_bodyAt LX4_38 IX4_bodyAt VX4_bodyAt (by decide) rfl (by assumption) rfl rfl rfl (Nat.le_of_ble_eq_true rfl) ⟨rfl, rfl⟩ ?_
      dsimp only [Option.toList, List.cons_append, List.nil_append]
      refine g_astore C dX4_cells_12 (by decide) rfl ?_
      dsimp only [List.set]
      refine g_aload C dX4_cells_14 rfl ?_
      refine g_ifnull C dX4_cells_16 ?_
      refine g_aload C dX4_cells_19 rfl ?_
      refine g_ifnonnullN C dX4_cells_21 ?_
      refine g_iconst C dX4_cells_24 ?_
      exact kr _ _ _ _ dX4_cells_25 ⟨congrArg (fun z => some (iv z)) (by unfold scells; (repeat (first | rw [if_pos (by omega)] | rw [if_neg (by omega)]))), H, hm⟩ hm.1
  · have hN : ∃ o : Option Nat, ax_Met MX4_bodyAt [rv 0, iv b] h (some (.inr o)) h := ⟨_, t_bodyAt H.1 hb⟩
    obtain ⟨o, hN⟩ := hN
    refine g_aload_n C dX4_cells_0 rfl ?_
    refine g_iload_n C dX4_cells_1 rfl ?_
    refine g_V C (t_bodyN H ha c) dX4_cells_2 KX4_bodyAt LX4_38 IX4_bodyAt VX4_bodyAt (by decide) rfl (by assumption) rfl rfl rfl (Nat.le_of_ble_eq_true rfl) ⟨rfl, rfl⟩ ?_
    dsimp only [Option.toList, List.cons_append, List.nil_append]
    refine g_astore C dX4_cells_5 (by decide) rfl ?_
    dsimp only [List.set]
    refine g_aload_n C dX4_cells_7 rfl ?_
    refine g_iload_n C dX4_cells_8 rfl ?_
    refine g_V C (hN) dX4_cells_9 KX4_bodyAt LX4_38 IX4_bodyAt VX4_bodyAt (by decide) rfl (by assumption) rfl rfl rfl (Nat.le_of_ble_eq_true rfl) ⟨rfl, rfl⟩ ?_
    dsimp only [Option.toList, List.cons_append, List.nil_append]
    refine g_astore C dX4_cells_12 (by decide) rfl ?_
    dsimp only [List.set]
    refine g_aload C dX4_cells_14 rfl ?_
    refine g_ifnullN C dX4_cells_16 (tgt := 24) (by decide) ?_
    refine g_iconst C dX4_cells_24 ?_
    exact kr _ _ _ _ dX4_cells_25 ⟨congrArg (fun z => some (iv z)) (by unfold scells; (repeat (first | rw [if_pos (by omega)] | rw [if_neg (by omega)]))), H, hm⟩ hm.1
theorem t_cell {h : ax_H} {B K : Nat → List Pt3} {km : Nat} (H : wd h B K km) {a b i w : Int} (ha : -2147483648 ≤ a ∧ a < 2147483648) (hb : -2147483648 ≤ b ∧ b < 2147483648) (hi : -2147483648 ≤ i ∧ i < 2147483648) (hw : -2147483648 ≤ w ∧ w < 2147483648) : ax_Mt MX4_cell [rv 0, iv a, iv b, iv i, iv w] h (fun r h' => r = some (iv (scell B a b i w)) ∧ wd h' B K km ∧ ax_sm 0 169 h h') := by
  have hm := ax_sm.rf (lo := 0) (hi := 169) h
  have g0 := H.1.1
  refine ax_ri (L0 := [some (rv 0), some (iv a), some (iv b), some (iv i), some (iv w), none, none, none]) rfl rfl (Nat.le_of_ble_eq_true rfl) rfl ?_
  intro p9 l9 e9 R9 s9 m9 args9 below9 meth9 c9 b9 D9 dA9 Q9 C kr
  by_cases c : 0 ≤ a ∧ a ≤ 3
  · obtain ⟨n, rfl⟩ : ∃ n : Nat, a = (n : Int) := ⟨a.toNat, by omega⟩
    have hn : n < 4 := by omega
    by_cases c2 : 0 ≤ b ∧ b ≤ 3
    · obtain ⟨j, rfl⟩ : ∃ n : Nat, b = (n : Int) := ⟨b.toNat, by omega⟩
      have hj : j < 4 := by omega
      have hL := H.len hn
      have hL2 := H.len hj
      obtain ⟨fs1, q1⟩ := H.cb
      have part : (0 ≤ w ∧ w ≤ 4) → ∀ (hh : ax_H) (τ : Nat → Tr) (k : Nat), wd hh B K km → ax_sm 0 169 h hh → cuw hh (B n) (B j) τ k → ax_G p9 l9 e9 R9 s9 m9 args9 below9 meth9 c9 b9 D9 dA9 MX4_cell.2.2.1 h.length (ax_sz h) Q9 (50) ([some (rv 0), some (iv (n : Int)), some (iv (j : Int)), some (iv i), some (iv w), some (rv (121 + 4 * n)), some (rv (121 + 4 * j)), none]) ([]) (hh) := by
        intro hW hh τ k H hm hc
        have g0 := H.1.1
        have ec := cl_is hc.1
        obtain ⟨v1, v2, v3, v4, v5, v6, q2⟩ := hc.sz
        obtain ⟨fs3, q3⟩ := H.rb
        by_cases c3 : 0 ≤ i ∧ i < (k : Int)
        · obtain ⟨x, rfl⟩ : ∃ n : Nat, i = (n : Int) := ⟨i.toNat, by omega⟩
          obtain ⟨a9, z1, z2, z3⟩ := hc.get (i := x) (by omega)
          have eA := lwT_eq (l := B n) (hc.1.1.1 x (by omega)) (ec.2.2 x (by omega)) (ec.2.1 x (by omega))
          have eB := lwT_eq (l := B j) (hc.1.1.1 x (by omega)) (ec.2.2 x (by omega)) (ec.2.1 x (by omega))
          rw [eA, eB] at z3
          have hT := lwT_lt (t := (cl (B n) (B j)).2 x) hL
          have hU := lwT_lt (t := (cl (B n) (B j)).2 x) hL2
          refine g_aload_n C dX4_cell_50 rfl ?_
          refine g_get C FX4_28 dX4_cell_51 (by assumption) rfl ?_
          refine g_iload_n C dX4_cell_54 rfl ?_
          refine g_V C (z2) dX4_cell_55 KX2_get LX4_126 IX2_get VX2_get (by decide) rfl (by assumption) rfl rfl rfl (Nat.le_of_ble_eq_true rfl) ⟨rfl, rfl⟩ ?_
          dsimp only [Option.toList, List.cons_append, List.nil_append]
          refine g_astore C dX4_cell_58 (by decide) rfl ?_
          dsimp only [List.set]
          refine g_aload C dX4_cell_60 rfl ?_
          refine g_ifnonnull C dX4_cell_62 (tgt := 68) (by decide) ?_
          refine g_iload C dX4_cell_68 rfl ?_
          rcases (show w = 0 ∨ w = 1 ∨ w = 2 ∨ w = 3 ∨ w = 4 by omega) with rfl | rfl | rfl | rfl | rfl
          · refine g_tableIn C dX4_cell_70 (off := 30) (tgt := 100) (by decide) (by decide) (by decide) (by decide) (by decide) ?_
            refine g_aload_n C dX4_cell_100 rfl ?_
            refine g_aload C dX4_cell_101 rfl ?_
            refine g_aload C dX4_cell_103 rfl ?_
            refine g_aload C dX4_cell_105 rfl ?_
            refine g_RV C (t_kindOf H hn hj hT hU (by omega) z3) dX4_cell_107 KX4_kindOf LX4_134 IX4_kindOf VX4_kindOf (by decide) rfl (by assumption) rfl rfl rfl (Nat.le_of_ble_eq_true rfl) ?_
            intro r1 g1 hP1 hz1
            obtain ⟨rfl, H1, hm1⟩ := hP1
            dsimp only [Option.toList, List.cons_append, List.nil_append]
            have hm1 := hm.tr (hm1.wide (by omega) (by omega))
            exact kr _ _ _ _ dX4_cell_110 ⟨congrArg (fun z => some (iv z)) (by unfold scell; rw [Int.toNat_natCast, Int.toNat_natCast, Int.toNat_natCast]; (repeat (first | rw [if_pos (by omega)] | rw [if_neg (by omega)]))), H1, hm1⟩ hm1.1
          · refine g_tableIn C dX4_cell_70 (off := 41) (tgt := 111) (by decide) (by decide) (by decide) (by decide) (by decide) ?_
            refine g_aload_n C dX4_cell_111 rfl ?_
            refine g_get C FX4_21 dX4_cell_112 (by assumption) rfl ?_
            refine g_aload C dX4_cell_115 rfl ?_
            refine g_aload C dX4_cell_117 rfl ?_
            refine g_get C FX4_138 dX4_cell_119 (by assumption) rfl ?_
            refine g_aload C dX4_cell_122 rfl ?_
            refine g_aload C dX4_cell_124 rfl ?_
            refine g_get C FX4_143 dX4_cell_126 (by assumption) rfl ?_
            refine g_RV C (w_sums H hn hj hT hU) dX4_cell_129 KX3_gatherSums LX4_113 IX3_gatherSums VX3_gatherSums (by decide) rfl (by assumption) rfl rfl rfl (Nat.le_of_ble_eq_true rfl) ?_
            intro r1 g1 hP1 hz1
            obtain ⟨rfl, hR, H1, hm1⟩ := hP1
            obtain ⟨fs4, q4⟩ := H1.rb
            dsimp only [Option.toList, List.cons_append, List.nil_append]
            refine g_V C (t_area hR) dX4_cell_132 KX3_area LX4_84 IX3_area VX3_area (by decide) rfl (by assumption) rfl rfl rfl (Nat.le_of_ble_eq_true rfl) ⟨rfl, rfl⟩ ?_
            dsimp only [Option.toList, List.cons_append, List.nil_append]
            have hm1 := hm.tr (hm1.wide (by omega) (by omega))
            exact kr _ _ _ _ dX4_cell_135 ⟨congrArg (fun z => some (iv z)) (by unfold scell; rw [Int.toNat_natCast, Int.toNat_natCast, Int.toNat_natCast]; (repeat (first | rw [if_pos (by omega)] | rw [if_neg (by omega)]))), H1, hm1⟩ hm1.1
          · refine g_tableIn C dX4_cell_70 (off := 66) (tgt := 136) (by decide) (by decide) (by decide) (by decide) (by decide) ?_
            refine g_aload_n C dX4_cell_136 rfl ?_
            refine g_aload C dX4_cell_137 rfl ?_
            refine g_aload C dX4_cell_139 rfl ?_
            refine g_get C FX4_138 dX4_cell_141 (by assumption) rfl ?_
            refine g_aload C dX4_cell_144 rfl ?_
            refine g_aload C dX4_cell_146 rfl ?_
            refine g_get C FX4_143 dX4_cell_148 (by assumption) rfl ?_
            refine g_RV C (t_mixedOf H hn hj hT hU) dX4_cell_151 KX4_mixedOf LX4_109 IX4_mixedOf VX4_mixedOf (by decide) rfl (by assumption) rfl rfl rfl (Nat.le_of_ble_eq_true rfl) ?_
            intro r1 g1 hP1 hz1
            obtain ⟨rfl, H1, hm1⟩ := hP1
            dsimp only [Option.toList, List.cons_append, List.nil_append]
            have hm1 := hm.tr (hm1.wide (by omega) (by omega))
            exact kr _ _ _ _ dX4_cell_154 ⟨congrArg (fun z => some (iv z)) (by unfold scell; rw [Int.toNat_natCast, Int.toNat_natCast, Int.toNat_natCast]; (repeat (first | rw [if_pos (by omega)] | rw [if_neg (by omega)]))), H1, hm1⟩ hm1.1
          · refine g_tableIn C dX4_cell_70 (off := 85) (tgt := 155) (by decide) (by decide) (by decide) (by decide) (by decide) ?_
            refine g_aload C dX4_cell_155 rfl ?_
            refine g_get C FX4_138 dX4_cell_157 (by assumption) rfl ?_
            exact kr _ _ _ _ dX4_cell_160 ⟨congrArg (fun z => some (iv z)) (by unfold scell; rw [Int.toNat_natCast, Int.toNat_natCast, Int.toNat_natCast]; (repeat (first | rw [if_pos (by omega)] | rw [if_neg (by omega)]))), H, hm⟩ hm.1
          · refine g_tableOut C dX4_cell_70 (tgt := 161) (by decide) (by decide) (by decide) ?_
            refine g_aload C dX4_cell_161 rfl ?_
            refine g_get C FX4_143 dX4_cell_163 (by assumption) rfl ?_
            exact kr _ _ _ _ dX4_cell_166 ⟨congrArg (fun z => some (iv z)) (by unfold scell; rw [Int.toNat_natCast, Int.toNat_natCast, Int.toNat_natCast]; (repeat (first | rw [if_pos (by omega)] | rw [if_neg (by omega)]))), H, hm⟩ hm.1
        · refine g_aload_n C dX4_cell_50 rfl ?_
          refine g_get C FX4_28 dX4_cell_51 (by assumption) rfl ?_
          refine g_iload_n C dX4_cell_54 rfl ?_
          refine g_V C (hc.non hi c3) dX4_cell_55 KX2_get LX4_126 IX2_get VX2_get (by decide) rfl (by assumption) rfl rfl rfl (Nat.le_of_ble_eq_true rfl) ⟨rfl, rfl⟩ ?_
          dsimp only [Option.toList, List.cons_append, List.nil_append]
          refine g_astore C dX4_cell_58 (by decide) rfl ?_
          dsimp only [List.set]
          refine g_aload C dX4_cell_60 rfl ?_
          refine g_ifnonnullN C dX4_cell_62 ?_
          refine g_bipush C dX4_cell_65 (by decide) ?_
          exact kr _ _ _ _ dX4_cell_67 ⟨congrArg (fun z => some (iv z)) (by unfold scell; rw [Int.toNat_natCast, Int.toNat_natCast]; (repeat (first | rw [if_pos (by omega)] | rw [if_neg (by omega)]))), H, hm⟩ hm.1
      refine g_aload_n C dX4_cell_0 rfl ?_
      refine g_iload_n C dX4_cell_1 rfl ?_
      refine g_V C (t_bodyA H hn) dX4_cell_2 KX4_bodyAt LX4_38 IX4_bodyAt VX4_bodyAt (by decide) rfl (by assumption) rfl rfl rfl (Nat.le_of_ble_eq_true rfl) ⟨rfl, rfl⟩ ?_
      dsimp only [Option.toList, List.cons_append, List.nil_append]
      refine g_astore C dX4_cell_5 (by decide) rfl ?_
      dsimp only [List.set]
      refine g_aload_n C dX4_cell_7 rfl ?_
      refine g_iload_n C dX4_cell_8 rfl ?_
      refine g_V C (t_bodyA H hj) dX4_cell_9 KX4_bodyAt LX4_38 IX4_bodyAt VX4_bodyAt (by decide) rfl (by assumption) rfl rfl rfl (Nat.le_of_ble_eq_true rfl) ⟨rfl, rfl⟩ ?_
      dsimp only [Option.toList, List.cons_append, List.nil_append]
      refine g_astore C dX4_cell_12 (by decide) rfl ?_
      dsimp only [List.set]
      refine g_aload C dX4_cell_14 rfl ?_
      refine g_ifnull C dX4_cell_16 ?_
      refine g_aload C dX4_cell_19 rfl ?_
      refine g_ifnonnull C dX4_cell_21 (tgt := 26) (by decide) ?_
      refine g_iload C dX4_cell_26 rfl ?_
      refine g_iconst C dX4_cell_28 ?_
      refine g_iconst C dX4_cell_29 ?_
      refine g_S C (t_isWithin hw (by omega) (by omega)) dX4_cell_30 KX4_isWithin LX4_42 SX4_isWithin (by decide) rfl rfl (Nat.le_of_ble_eq_true rfl) ⟨rfl, rfl⟩ ?_
      dsimp only [Option.toList, List.cons_append, List.nil_append]
      refine g_if_ne C dX4_cell_33 (tgt := 39) (by decide) ifr (fun h33 => ?_) (fun h33 => ?_)
      · have w33 : 0 ≤ w ∧ w ≤ 4 := if1 h33
        refine g_aload_n C dX4_cell_39 rfl ?_
        refine g_get C FX4_28 dX4_cell_40 (by assumption) rfl ?_
        refine g_aload C dX4_cell_43 rfl ?_
        refine g_aload C dX4_cell_45 rfl ?_
        refine g_RV C (w_cut H hn hj) dX4_cell_47 KX2_cut LX4_121 IX2_cut VX2_cut (by decide) rfl (by assumption) rfl rfl rfl (Nat.le_of_ble_eq_true rfl) ?_
        intro r1 g1 hP1 hz1
        obtain ⟨rfl, ⟨τ, k, hc⟩, H1, hm1⟩ := hP1
        dsimp only [Option.toList, List.cons_append, List.nil_append]
        exact part w33 _ τ k H1 (hm1.wide (by omega) (by omega)) hc
      · have w33 : ¬ (0 ≤ w ∧ w ≤ 4) := if0 h33
        refine g_bipush C dX4_cell_36 (by decide) ?_
        exact kr _ _ _ _ dX4_cell_38 ⟨congrArg (fun z => some (iv z)) (by unfold scell; (repeat (first | rw [if_pos (by omega)] | rw [if_neg (by omega)]))), H, hm⟩ hm.1
    · refine g_aload_n C dX4_cell_0 rfl ?_
      refine g_iload_n C dX4_cell_1 rfl ?_
      refine g_V C (t_bodyA H hn) dX4_cell_2 KX4_bodyAt LX4_38 IX4_bodyAt VX4_bodyAt (by decide) rfl (by assumption) rfl rfl rfl (Nat.le_of_ble_eq_true rfl) ⟨rfl, rfl⟩ ?_
      dsimp only [Option.toList, List.cons_append, List.nil_append]
      refine g_astore C dX4_cell_5 (by decide) rfl ?_
      dsimp only [List.set]
      refine g_aload_n C dX4_cell_7 rfl ?_
      refine g_iload_n C dX4_cell_8 rfl ?_
      refine g_V C (t_bodyN H hb c2) dX4_cell_9 KX4_bodyAt LX4_38 IX4_bodyAt VX4_bodyAt (by decide) rfl (by assumption) rfl rfl rfl (Nat.le_of_ble_eq_true rfl) ⟨rfl, rfl⟩ ?_
      dsimp only [Option.toList, List.cons_append, List.nil_append]
      refine g_astore C dX4_cell_12 (by decide) rfl ?_
      dsimp only [List.set]
      refine g_aload C dX4_cell_14 rfl ?_
      refine g_ifnull C dX4_cell_16 ?_
      refine g_aload C dX4_cell_19 rfl ?_
      refine g_ifnonnullN C dX4_cell_21 ?_
      refine g_iconst C dX4_cell_24 ?_
      exact kr _ _ _ _ dX4_cell_25 ⟨congrArg (fun z => some (iv z)) (by unfold scell; (repeat (first | rw [if_pos (by omega)] | rw [if_neg (by omega)]))), H, hm⟩ hm.1
  · have hN : ∃ o : Option Nat, ax_Met MX4_bodyAt [rv 0, iv b] h (some (.inr o)) h := ⟨_, t_bodyAt H.1 hb⟩
    obtain ⟨o, hN⟩ := hN
    refine g_aload_n C dX4_cell_0 rfl ?_
    refine g_iload_n C dX4_cell_1 rfl ?_
    refine g_V C (t_bodyN H ha c) dX4_cell_2 KX4_bodyAt LX4_38 IX4_bodyAt VX4_bodyAt (by decide) rfl (by assumption) rfl rfl rfl (Nat.le_of_ble_eq_true rfl) ⟨rfl, rfl⟩ ?_
    dsimp only [Option.toList, List.cons_append, List.nil_append]
    refine g_astore C dX4_cell_5 (by decide) rfl ?_
    dsimp only [List.set]
    refine g_aload_n C dX4_cell_7 rfl ?_
    refine g_iload_n C dX4_cell_8 rfl ?_
    refine g_V C (hN) dX4_cell_9 KX4_bodyAt LX4_38 IX4_bodyAt VX4_bodyAt (by decide) rfl (by assumption) rfl rfl rfl (Nat.le_of_ble_eq_true rfl) ⟨rfl, rfl⟩ ?_
    dsimp only [Option.toList, List.cons_append, List.nil_append]
    refine g_astore C dX4_cell_12 (by decide) rfl ?_
    dsimp only [List.set]
    refine g_aload C dX4_cell_14 rfl ?_
    refine g_ifnullN C dX4_cell_16 (tgt := 24) (by decide) ?_
    refine g_iconst C dX4_cell_24 ?_
    exact kr _ _ _ _ dX4_cell_25 ⟨congrArg (fun z => some (iv z)) (by unfold scell; (repeat (first | rw [if_pos (by omega)] | rw [if_neg (by omega)]))), H, hm⟩ hm.1
theorem t_slope {h : ax_H} {B K : Nat → List Pt3} {km : Nat} (H : wd h B K km) {a b i w : Int} (ha : -2147483648 ≤ a ∧ a < 2147483648) (hb : -2147483648 ≤ b ∧ b < 2147483648) (hi : -2147483648 ≤ i ∧ i < 2147483648) (hw : -2147483648 ≤ w ∧ w < 2147483648) : ax_Mt MX4_slope [rv 0, iv a, iv b, iv i, iv w] h (fun r h' => r = some (iv (sslope B a b i w)) ∧ wd h' B K km ∧ ax_sm 0 169 h h') := by
  have hm := ax_sm.rf (lo := 0) (hi := 169) h
  have g0 := H.1.1
  refine ax_ri (L0 := [some (rv 0), some (iv a), some (iv b), some (iv i), some (iv w), none, none, none]) rfl rfl (Nat.le_of_ble_eq_true rfl) rfl ?_
  intro p9 l9 e9 R9 s9 m9 args9 below9 meth9 c9 b9 D9 dA9 Q9 C kr
  by_cases c : 0 ≤ a ∧ a ≤ 3
  · obtain ⟨n, rfl⟩ : ∃ n : Nat, a = (n : Int) := ⟨a.toNat, by omega⟩
    have hn : n < 4 := by omega
    by_cases c2 : 0 ≤ b ∧ b ≤ 3
    · obtain ⟨j, rfl⟩ : ∃ n : Nat, b = (n : Int) := ⟨b.toNat, by omega⟩
      have hj : j < 4 := by omega
      obtain ⟨fs1, q1⟩ := H.cb
      have part : (0 ≤ w ∧ w ≤ 3) → ∀ (hh : ax_H) (τ : Nat → Tr) (k : Nat), wd hh B K km → ax_sm 0 169 h hh → cuw hh (B n) (B j) τ k → ax_G p9 l9 e9 R9 s9 m9 args9 below9 meth9 c9 b9 D9 dA9 MX4_slope.2.2.1 h.length (ax_sz h) Q9 (50) ([some (rv 0), some (iv (n : Int)), some (iv (j : Int)), some (iv i), some (iv w), some (rv (121 + 4 * n)), some (rv (121 + 4 * j)), none]) ([]) (hh) := by
        intro hW hh τ k H hm hc
        have g0 := H.1.1
        have ec := cl_is hc.1
        obtain ⟨v1, v2, v3, v4, v5, v6, q2⟩ := hc.sz
        by_cases c3 : 0 ≤ i ∧ i < (k : Int)
        · obtain ⟨x, rfl⟩ : ∃ n : Nat, i = (n : Int) := ⟨i.toNat, by omega⟩
          obtain ⟨a9, z1, z2, z3⟩ := hc.get (i := x) (by omega)
          have ex := ec.2.1 x (by omega)
          have eA := f_same (hc.1.1.1 x (by omega)) (ec.2.2 x (by omega)) ex.1
          have eB := f_same (hc.1.1.1 x (by omega)) (ec.2.2 x (by omega)) ex.2
          rw [eA.1, eA.2, eB.1, eB.2] at z3
          refine g_aload_n C dX4_slope_50 rfl ?_
          refine g_get C FX4_28 dX4_slope_51 (by assumption) rfl ?_
          refine g_iload_n C dX4_slope_54 rfl ?_
          refine g_V C (z2) dX4_slope_55 KX2_get LX4_126 IX2_get VX2_get (by decide) rfl (by assumption) rfl rfl rfl (Nat.le_of_ble_eq_true rfl) ⟨rfl, rfl⟩ ?_
          dsimp only [Option.toList, List.cons_append, List.nil_append]
          refine g_astore C dX4_slope_58 (by decide) rfl ?_
          dsimp only [List.set]
          refine g_aload C dX4_slope_60 rfl ?_
          refine g_ifnonnull C dX4_slope_62 (tgt := 68) (by decide) ?_
          refine g_iload C dX4_slope_68 rfl ?_
          rcases (show w = 0 ∨ w = 1 ∨ w = 2 ∨ w = 3 by omega) with rfl | rfl | rfl | rfl
          · refine g_tableIn C dX4_slope_70 (off := 26) (tgt := 96) (by decide) (by decide) (by decide) (by decide) (by decide) ?_
            refine g_ldc C dX4_slope_96 QX4_146 (show _ = Int32.ofInt 100000 by decide) ?_
            refine g_aload C dX4_slope_98 rfl ?_
            refine g_get C FX4_147 dX4_slope_100 (by assumption) rfl ?_
            refine g_iadd C dX4_slope_103 ?_
            exact kr _ _ _ _ dX4_slope_104 ⟨congrArg (fun z => some (iv z)) (by unfold sslope; rw [Int.toNat_natCast, Int.toNat_natCast, Int.toNat_natCast]; (repeat (first | rw [if_pos (by omega)] | rw [if_neg (by omega)]))), H, hm⟩ hm.1
          · refine g_tableIn C dX4_slope_70 (off := 35) (tgt := 105) (by decide) (by decide) (by decide) (by decide) (by decide) ?_
            refine g_aload C dX4_slope_105 rfl ?_
            refine g_get C FX4_150 dX4_slope_107 (by assumption) rfl ?_
            exact kr _ _ _ _ dX4_slope_110 ⟨congrArg (fun z => some (iv z)) (by unfold sslope; rw [Int.toNat_natCast, Int.toNat_natCast, Int.toNat_natCast]; (repeat (first | rw [if_pos (by omega)] | rw [if_neg (by omega)]))), H, hm⟩ hm.1
          · refine g_tableIn C dX4_slope_70 (off := 41) (tgt := 111) (by decide) (by decide) (by decide) (by decide) (by decide) ?_
            refine g_ldc C dX4_slope_111 QX4_146 (show _ = Int32.ofInt 100000 by decide) ?_
            refine g_aload C dX4_slope_113 rfl ?_
            refine g_get C FX4_153 dX4_slope_115 (by assumption) rfl ?_
            refine g_iadd C dX4_slope_118 ?_
            exact kr _ _ _ _ dX4_slope_119 ⟨congrArg (fun z => some (iv z)) (by unfold sslope; rw [Int.toNat_natCast, Int.toNat_natCast, Int.toNat_natCast]; (repeat (first | rw [if_pos (by omega)] | rw [if_neg (by omega)]))), H, hm⟩ hm.1
          · refine g_tableOut C dX4_slope_70 (tgt := 120) (by decide) (by decide) (by decide) ?_
            refine g_aload C dX4_slope_120 rfl ?_
            refine g_get C FX4_156 dX4_slope_122 (by assumption) rfl ?_
            exact kr _ _ _ _ dX4_slope_125 ⟨congrArg (fun z => some (iv z)) (by unfold sslope; rw [Int.toNat_natCast, Int.toNat_natCast, Int.toNat_natCast]; (repeat (first | rw [if_pos (by omega)] | rw [if_neg (by omega)]))), H, hm⟩ hm.1
        · refine g_aload_n C dX4_slope_50 rfl ?_
          refine g_get C FX4_28 dX4_slope_51 (by assumption) rfl ?_
          refine g_iload_n C dX4_slope_54 rfl ?_
          refine g_V C (hc.non hi c3) dX4_slope_55 KX2_get LX4_126 IX2_get VX2_get (by decide) rfl (by assumption) rfl rfl rfl (Nat.le_of_ble_eq_true rfl) ⟨rfl, rfl⟩ ?_
          dsimp only [Option.toList, List.cons_append, List.nil_append]
          refine g_astore C dX4_slope_58 (by decide) rfl ?_
          dsimp only [List.set]
          refine g_aload C dX4_slope_60 rfl ?_
          refine g_ifnonnullN C dX4_slope_62 ?_
          refine g_bipush C dX4_slope_65 (by decide) ?_
          exact kr _ _ _ _ dX4_slope_67 ⟨congrArg (fun z => some (iv z)) (by unfold sslope; rw [Int.toNat_natCast, Int.toNat_natCast]; (repeat (first | rw [if_pos (by omega)] | rw [if_neg (by omega)]))), H, hm⟩ hm.1
      refine g_aload_n C dX4_slope_0 rfl ?_
      refine g_iload_n C dX4_slope_1 rfl ?_
      refine g_V C (t_bodyA H hn) dX4_slope_2 KX4_bodyAt LX4_38 IX4_bodyAt VX4_bodyAt (by decide) rfl (by assumption) rfl rfl rfl (Nat.le_of_ble_eq_true rfl) ⟨rfl, rfl⟩ ?_
      dsimp only [Option.toList, List.cons_append, List.nil_append]
      refine g_astore C dX4_slope_5 (by decide) rfl ?_
      dsimp only [List.set]
      refine g_aload_n C dX4_slope_7 rfl ?_
      refine g_iload_n C dX4_slope_8 rfl ?_
      refine g_V C (t_bodyA H hj) dX4_slope_9 KX4_bodyAt LX4_38 IX4_bodyAt VX4_bodyAt (by decide) rfl (by assumption) rfl rfl rfl (Nat.le_of_ble_eq_true rfl) ⟨rfl, rfl⟩ ?_
      dsimp only [Option.toList, List.cons_append, List.nil_append]
      refine g_astore C dX4_slope_12 (by decide) rfl ?_
      dsimp only [List.set]
      refine g_aload C dX4_slope_14 rfl ?_
      refine g_ifnull C dX4_slope_16 ?_
      refine g_aload C dX4_slope_19 rfl ?_
      refine g_ifnonnull C dX4_slope_21 (tgt := 26) (by decide) ?_
      refine g_iload C dX4_slope_26 rfl ?_
      refine g_iconst C dX4_slope_28 ?_
      refine g_iconst C dX4_slope_29 ?_
      refine g_S C (t_isWithin hw (by omega) (by omega)) dX4_slope_30 KX4_isWithin LX4_42 SX4_isWithin (by decide) rfl rfl (Nat.le_of_ble_eq_true rfl) ⟨rfl, rfl⟩ ?_
      dsimp only [Option.toList, List.cons_append, List.nil_append]
      refine g_if_ne C dX4_slope_33 (tgt := 39) (by decide) ifr (fun h33 => ?_) (fun h33 => ?_)
      · have w33 : 0 ≤ w ∧ w ≤ 3 := if1 h33
        refine g_aload_n C dX4_slope_39 rfl ?_
        refine g_get C FX4_28 dX4_slope_40 (by assumption) rfl ?_
        refine g_aload C dX4_slope_43 rfl ?_
        refine g_aload C dX4_slope_45 rfl ?_
        refine g_RV C (w_cut H hn hj) dX4_slope_47 KX2_cut LX4_121 IX2_cut VX2_cut (by decide) rfl (by assumption) rfl rfl rfl (Nat.le_of_ble_eq_true rfl) ?_
        intro r1 g1 hP1 hz1
        obtain ⟨rfl, ⟨τ, k, hc⟩, H1, hm1⟩ := hP1
        dsimp only [Option.toList, List.cons_append, List.nil_append]
        exact part w33 _ τ k H1 (hm1.wide (by omega) (by omega)) hc
      · have w33 : ¬ (0 ≤ w ∧ w ≤ 3) := if0 h33
        refine g_bipush C dX4_slope_36 (by decide) ?_
        exact kr _ _ _ _ dX4_slope_38 ⟨congrArg (fun z => some (iv z)) (by unfold sslope; (repeat (first | rw [if_pos (by omega)] | rw [if_neg (by omega)]))), H, hm⟩ hm.1
    · refine g_aload_n C dX4_slope_0 rfl ?_
      refine g_iload_n C dX4_slope_1 rfl ?_
      refine g_V C (t_bodyA H hn) dX4_slope_2 KX4_bodyAt LX4_38 IX4_bodyAt VX4_bodyAt (by decide) rfl (by assumption) rfl rfl rfl (Nat.le_of_ble_eq_true rfl) ⟨rfl, rfl⟩ ?_
      dsimp only [Option.toList, List.cons_append, List.nil_append]
      refine g_astore C dX4_slope_5 (by decide) rfl ?_
      dsimp only [List.set]
      refine g_aload_n C dX4_slope_7 rfl ?_
      refine g_iload_n C dX4_slope_8 rfl ?_
      refine g_V C (t_bodyN H hb c2) dX4_slope_9 KX4_bodyAt LX4_38 IX4_bodyAt VX4_bodyAt (by decide) rfl (by assumption) rfl rfl rfl (Nat.le_of_ble_eq_true rfl) ⟨rfl, rfl⟩ ?_
      dsimp only [Option.toList, List.cons_append, List.nil_append]
      refine g_astore C dX4_slope_12 (by decide) rfl ?_
      dsimp only [List.set]
      refine g_aload C dX4_slope_14 rfl ?_
      refine g_ifnull C dX4_slope_16 ?_
      refine g_aload C dX4_slope_19 rfl ?_
      refine g_ifnonnullN C dX4_slope_21 ?_
      refine g_iconst C dX4_slope_24 ?_
      exact kr _ _ _ _ dX4_slope_25 ⟨congrArg (fun z => some (iv z)) (by unfold sslope; (repeat (first | rw [if_pos (by omega)] | rw [if_neg (by omega)]))), H, hm⟩ hm.1
  · have hN : ∃ o : Option Nat, ax_Met MX4_bodyAt [rv 0, iv b] h (some (.inr o)) h := ⟨_, t_bodyAt H.1 hb⟩
    obtain ⟨o, hN⟩ := hN
    refine g_aload_n C dX4_slope_0 rfl ?_
    refine g_iload_n C dX4_slope_1 rfl ?_
    refine g_V C (t_bodyN H ha c) dX4_slope_2 KX4_bodyAt LX4_38 IX4_bodyAt VX4_bodyAt (by decide) rfl (by assumption) rfl rfl rfl (Nat.le_of_ble_eq_true rfl) ⟨rfl, rfl⟩ ?_
    dsimp only [Option.toList, List.cons_append, List.nil_append]
    refine g_astore C dX4_slope_5 (by decide) rfl ?_
    dsimp only [List.set]
    refine g_aload_n C dX4_slope_7 rfl ?_
    refine g_iload_n C dX4_slope_8 rfl ?_
    refine g_V C (hN) dX4_slope_9 KX4_bodyAt LX4_38 IX4_bodyAt VX4_bodyAt (by decide) rfl (by assumption) rfl rfl rfl (Nat.le_of_ble_eq_true rfl) ⟨rfl, rfl⟩ ?_
    dsimp only [Option.toList, List.cons_append, List.nil_append]
    refine g_astore C dX4_slope_12 (by decide) rfl ?_
    dsimp only [List.set]
    refine g_aload C dX4_slope_14 rfl ?_
    refine g_ifnullN C dX4_slope_16 (tgt := 24) (by decide) ?_
    refine g_iconst C dX4_slope_24 ?_
    exact kr _ _ _ _ dX4_slope_25 ⟨congrArg (fun z => some (iv z)) (by unfold sslope; (repeat (first | rw [if_pos (by omega)] | rw [if_neg (by omega)]))), H, hm⟩ hm.1
