/-! the reference: how a point lies to a hull -/
noncomputable def cif (p : Prop) (x y : Int) : Int := @ite Int p (Classical.propDecidable p) x y
theorem cif_p {p : Prop} {x y : Int} (h : p) : cif p x y = x := if_pos h
theorem cif_n {p : Prop} {x y : Int} (h : ¬ p) : cif p x y = y := if_neg h
def eg (cx cy : Nat → Int) (cn e : Nat) (x y : Int) : Int := tu (cx e) (cy e) (cx (nxi cn e)) (cy (nxi cn e)) x y
def al (cx cy : Nat → Int) (cn e : Nat) (x y : Int) : Int := (x - cx e) * (x - cx (nxi cn e)) + (y - cy e) * (y - cy (nxi cn e))
def ngd (cx cy : Nat → Int) (cn k : Nat) (x y : Int) : Prop := ∃ e, e < k ∧ eg cx cy cn e x y < 0
def ond (cx cy : Nat → Int) (cn k : Nat) (x y : Int) : Prop := ∃ e, e < k ∧ eg cx cy cn e x y = 0 ∧ al cx cy cn e x y ≤ 0
noncomputable def lie (cx cy : Nat → Int) (cn : Nat) (x y : Int) : Int := cif (ngd cx cy cn cn x y) 0 (cif (ond cx cy cn cn x y) 1 (if 2 < cn then 2 else 0))
def gsm (f : Nat → Int) : Nat → Int
  | 0 => 0
  | k + 1 => gsm f k + f k
def gg (f : Int → Int → Int) : Int := gsm (fun x => gsm (fun y => f (x : Int) (y : Int)) 13) 13
section MX
variable {h : ax_H} {a : Nat} {s : MS} {c : MC} {xs ys : Nat → Int} {pt : Nat} {co : Nat → Int} {cc : Nat} {B K : Nat → List Pt3} {km : Nat}
theorem lie_in (cx cy : Nat → Int) (cn : Nat) (x y : Int) : 0 ≤ lie cx cy cn x y ∧ lie cx cy cn x y ≤ 2 := by
  unfold lie
  by_cases p : ngd cx cy cn cn x y
  · rw [cif_p p]; omega
  · rw [cif_n p]
    by_cases q : ond cx cy cn cn x y
    · rw [cif_p q]; omega
    · rw [cif_n q]; split <;> omega
theorem r_lies (M : mz h a s c xs ys pt co cc) {S : Int → Int → Prop} (L : laid xs ys pt co cc S) {x y : Int} (hx : 0 ≤ x ∧ x ≤ 12) (hy : 0 ≤ y ∧ y ≤ 12) : ax_Met MX5_lies [rv a, iv x, iv y] h (some (iv (lie (hC S).2.1 (hC S).2.2 (hC S).1 x y))) h := by
  have ⟨q0, q1, q2, q3, q4, q5, q6, q7, q8, q9, q10, q11⟩ := M
  have hcr := L.cr
  obtain ⟨hr, hi, hp, eS, ec, hc, r, hL⟩ := L
  rw [← ec]
  rw [← ec] at hcr
  generalize (hC S).2.1 = cx at *
  generalize (hC S).2.2 = cy at *
  refine ax_mi (L0 := [some (rv a), some (iv x), some (iv y), none, none, none, none, none, none]) rfl rfl (Nat.le_refl _) (Nat.le_refl _) (Nat.le_of_ble_eq_true rfl) rfl ?_
  intro p9 l9 e9 R9 s9 m9 args9 below9 meth9 c9 b9 D9 dA9 Q9 C kr
  have loop : ∀ (d k : Nat) (z : Int) (x5 x6 x7 x8 : Option ax_V), k + d = cc → ((z = 0 ∧ ¬ ond cx cy cc k x y) ∨ (z = 1 ∧ ond cx cy cc k x y)) → ¬ ngd cx cy cc k x y → ax_G p9 l9 e9 R9 s9 m9 args9 below9 meth9 c9 b9 D9 dA9 MX5_lies.2.2.1 h.length (ax_sz h) Q9 (5) ([some (rv a), some (iv x), some (iv y), some (iv z), some (iv (k : Int)), x5, x6, x7, x8]) ([]) (h) := by
    intro d
    induction d with
    | zero =>
      intro k z x5 x6 x7 x8 hk hz hn
      have e : k = cc := by omega
      subst e
      refine g_iload C dX5_lies_5 rfl ?_
      refine g_aload_n C dX5_lies_7 rfl ?_
      refine g_get C FX5_74 dX5_lies_8 (by assumption) rfl ?_
      refine g_icmp_ge C dX5_lies_11 (tgt := 166) (by decide) (by omega) (by omega) (fun h11 => ?_) (fun h11 => ?_)
      · refine g_iload_n C dX5_lies_166 rfl ?_
        refine g_if_eq C dX5_lies_167 (tgt := 174) (by decide) (by omega) (fun h167 => ?_) (fun h167 => ?_)
        · refine g_aload_n C dX5_lies_174 rfl ?_
          refine g_get C FX5_74 dX5_lies_175 (by assumption) rfl ?_
          refine g_iconst C dX5_lies_178 ?_
          refine g_icmp_le C dX5_lies_179 (tgt := 186) (by decide) (by omega) (by omega) (fun h179 => ?_) (fun h179 => ?_)
          · refine g_iconst C dX5_lies_186 ?_
            first | exact kr _ _ _ dX5_lies_187 (congrArg (fun z => some (iv z)) (by unfold lie; rw [cif_n hn, cif_p ((hz.resolve_left (fun q => by omega)).2)])) | exact kr _ _ _ dX5_lies_187 (congrArg (fun z => some (iv z)) (by unfold lie; rw [cif_n hn, cif_n ((hz.resolve_right (fun q => by omega)).2)]; (repeat (first | rw [if_pos (by omega)] | rw [if_neg (by omega)]))))
          · refine g_iconst C dX5_lies_182 ?_
            refine g_goto C dX5_lies_183 (tgt := 187) (by decide) ?_
            first | exact kr _ _ _ dX5_lies_187 (congrArg (fun z => some (iv z)) (by unfold lie; rw [cif_n hn, cif_p ((hz.resolve_left (fun q => by omega)).2)])) | exact kr _ _ _ dX5_lies_187 (congrArg (fun z => some (iv z)) (by unfold lie; rw [cif_n hn, cif_n ((hz.resolve_right (fun q => by omega)).2)]; (repeat (first | rw [if_pos (by omega)] | rw [if_neg (by omega)]))))
        · refine g_iconst C dX5_lies_170 ?_
          refine g_goto C dX5_lies_171 (tgt := 187) (by decide) ?_
          first | exact kr _ _ _ dX5_lies_187 (congrArg (fun z => some (iv z)) (by unfold lie; rw [cif_n hn, cif_p ((hz.resolve_left (fun q => by omega)).2)])) | exact kr _ _ _ dX5_lies_187 (congrArg (fun z => some (iv z)) (by unfold lie; rw [cif_n hn, cif_n ((hz.resolve_right (fun q => by omega)).2)]; (repeat (first | rw [if_pos (by omega)] | rw [if_neg (by omega)]))))
      · exfalso; omega
    | succ d ih =>
      intro k z x5 x6 x7 x8 hk hz hn
      have hk1 := hL k (by omega)
      have hnx := nxi_lt (cn := cc) (i := k) (by omega)
      have hk2 := hL (nxi cc k) hnx
      have r1 := hcr k (by omega)
      have r2 := hcr (nxi cc k) hnx
      have bt := tu_in r1 r2 (x2 := x) (y2 := y) (by omega)
      have b1 := mb2 (u := x - cx k) (x := x - cx (nxi cc k)) (U := 84) (M := 84) (by omega) (by omega)
      have b2 := mb2 (u := y - cy k) (x := y - cy (nxi cc k)) (U := 84) (M := 84) (by omega) (by omega)
      obtain ⟨t, et⟩ : ∃ t, t = eg cx cy cc k x y := ⟨_, rfl⟩
      obtain ⟨w, ew⟩ : ∃ t, t = al cx cy cc k x y := ⟨_, rfl⟩
      have bt2 : -14112 ≤ t ∧ t ≤ 14112 := by rw [et]; exact bt
      have bw : -14112 ≤ w ∧ w ≤ 14112 := by rw [ew]; unfold al; omega
      have nx : 0 ≤ t → ∀ (z1 : Int), ((z1 = 0 ∧ ¬ (ond cx cy cc k x y ∨ (t = 0 ∧ w ≤ 0))) ∨ (z1 = 1 ∧ (ond cx cy cc k x y ∨ (t = 0 ∧ w ≤ 0)))) → ax_G p9 l9 e9 R9 s9 m9 args9 below9 meth9 c9 b9 D9 dA9 MX5_lies.2.2.1 h.length (ax_sz h) Q9 (159) ([some (rv a), some (iv x), some (iv y), some (iv z), some (iv (k : Int)), some (iv (r k : Int)), some (iv (r (nxi cc k) : Int)), some (iv t), some (iv w)]) ([iv z1]) (h) := by
        intro ht z1 hz1
        have ho : ond cx cy cc (k + 1) x y ↔ (ond cx cy cc k x y ∨ (t = 0 ∧ w ≤ 0)) := by
          rw [et, ew]
          constructor
          · rintro ⟨e, h1, h2⟩
            by_cases q : e = k
            · subst q; exact Or.inr h2
            · exact Or.inl ⟨e, by omega, h2⟩
          · rintro (⟨e, h1, h2⟩ | q)
            · exact ⟨e, by omega, h2⟩
            · exact ⟨k, by omega, q⟩
        refine g_istore_n C dX5_lies_159 (by decide) rfl ?_
        dsimp only [List.set]
        refine g_iinc C dX5_lies_160 (by decide) rfl rfl ?_
        dsimp only [List.set]
        refine g_goto C dX5_lies_163 (tgt := 5) (by decide) ?_
        exact ih (k + 1) z1 _ _ _ _ (by omega) (by rw [ho]; exact hz1) (fun ⟨e, h1, h2⟩ => by
          by_cases q : e = k
          · subst q; omega
          · exact hn ⟨e, by omega, h2⟩)
      refine g_iload C dX5_lies_5 rfl ?_
      refine g_aload_n C dX5_lies_7 rfl ?_
      refine g_get C FX5_74 dX5_lies_8 (by assumption) rfl ?_
      refine g_icmp_ge C dX5_lies_11 (tgt := 166) (by decide) (by omega) (by omega) (fun h11 => ?_) (fun h11 => ?_)
      · exfalso; omega
      · refine g_aload_n C dX5_lies_14 rfl ?_
        refine g_get C FX5_26 dX5_lies_15 (by assumption) rfl ?_
        refine g_iload C dX5_lies_18 rfl ?_
        refine g_iald C dX5_lies_20 (by assumption) rfl (by omega) (by decide) ?_
        rw [hk1.1]
        refine g_istore C dX5_lies_21 (by decide) rfl ?_
        dsimp only [List.set]
        refine g_aload_n C dX5_lies_23 rfl ?_
        refine g_get C FX5_26 dX5_lies_24 (by assumption) rfl ?_
        refine g_iload C dX5_lies_27 rfl ?_
        refine g_iconst C dX5_lies_29 ?_
        refine g_iadd C dX5_lies_30 ?_
        refine g_aload_n C dX5_lies_31 rfl ?_
        refine g_get C FX5_74 dX5_lies_32 (by assumption) rfl ?_
        refine g_irem C dX5_lies_35 (by omega) (by omega) (by omega) ?_
        rw [tm_nxi (by omega) hc]
        refine g_iald C dX5_lies_36 (by assumption) rfl (by omega) (by decide) ?_
        rw [hk2.1]
        refine g_istore C dX5_lies_37 (by decide) rfl ?_
        dsimp only [List.set]
        refine g_aload_n C dX5_lies_39 rfl ?_
        refine g_get C FX5_20 dX5_lies_40 (by assumption) rfl ?_
        refine g_iload C dX5_lies_43 rfl ?_
        refine g_iald C dX5_lies_45 (by assumption) rfl (by omega) (by decide) ?_
        rw [hk2.2.2.1]
        refine g_aload_n C dX5_lies_46 rfl ?_
        refine g_get C FX5_20 dX5_lies_47 (by assumption) rfl ?_
        refine g_iload C dX5_lies_50 rfl ?_
        refine g_iald C dX5_lies_52 (by assumption) rfl (by omega) (by decide) ?_
        rw [hk1.2.2.1]
        refine g_isub C dX5_lies_53 ?_
        refine g_iload_n C dX5_lies_54 rfl ?_
        refine g_aload_n C dX5_lies_55 rfl ?_
        refine g_get C FX5_23 dX5_lies_56 (by assumption) rfl ?_
        refine g_iload C dX5_lies_59 rfl ?_
        refine g_iald C dX5_lies_61 (by assumption) rfl (by omega) (by decide) ?_
        rw [hk1.2.2.2]
        refine g_isub C dX5_lies_62 ?_
        refine g_imul C dX5_lies_63 ?_
        refine g_aload_n C dX5_lies_64 rfl ?_
        refine g_get C FX5_23 dX5_lies_65 (by assumption) rfl ?_
        refine g_iload C dX5_lies_68 rfl ?_
        refine g_iald C dX5_lies_70 (by assumption) rfl (by omega) (by decide) ?_
        rw [hk2.2.2.2]
        refine g_aload_n C dX5_lies_71 rfl ?_
        refine g_get C FX5_23 dX5_lies_72 (by assumption) rfl ?_
        refine g_iload C dX5_lies_75 rfl ?_
        refine g_iald C dX5_lies_77 (by assumption) rfl (by omega) (by decide) ?_
        rw [hk1.2.2.2]
        refine g_isub C dX5_lies_78 ?_
        refine g_iload_n C dX5_lies_79 rfl ?_
        refine g_aload_n C dX5_lies_80 rfl ?_
        refine g_get C FX5_20 dX5_lies_81 (by assumption) rfl ?_
        refine g_iload C dX5_lies_84 rfl ?_
        refine g_iald C dX5_lies_86 (by assumption) rfl (by omega) (by decide) ?_
        rw [hk1.2.2.1]
        refine g_isub C dX5_lies_87 ?_
        refine g_imul C dX5_lies_88 ?_
        refine g_isub C dX5_lies_89 ?_
        refine g_top (show _ = t by rw [et]; rfl) ?_
        refine g_istore C dX5_lies_90 (by decide) rfl ?_
        dsimp only [List.set]
        refine g_iload C dX5_lies_92 rfl ?_
        refine g_if_ge C dX5_lies_94 (tgt := 99) (by decide) (by omega) (fun h94 => ?_) (fun h94 => ?_)
        · refine g_iload_n C dX5_lies_99 rfl ?_
          refine g_aload_n C dX5_lies_100 rfl ?_
          refine g_get C FX5_20 dX5_lies_101 (by assumption) rfl ?_
          refine g_iload C dX5_lies_104 rfl ?_
          refine g_iald C dX5_lies_106 (by assumption) rfl (by omega) (by decide) ?_
          rw [hk1.2.2.1]
          refine g_isub C dX5_lies_107 ?_
          refine g_iload_n C dX5_lies_108 rfl ?_
          refine g_aload_n C dX5_lies_109 rfl ?_
          refine g_get C FX5_20 dX5_lies_110 (by assumption) rfl ?_
          refine g_iload C dX5_lies_113 rfl ?_
          refine g_iald C dX5_lies_115 (by assumption) rfl (by omega) (by decide) ?_
          rw [hk2.2.2.1]
          refine g_isub C dX5_lies_116 ?_
          refine g_imul C dX5_lies_117 ?_
          refine g_iload_n C dX5_lies_118 rfl ?_
          refine g_aload_n C dX5_lies_119 rfl ?_
          refine g_get C FX5_23 dX5_lies_120 (by assumption) rfl ?_
          refine g_iload C dX5_lies_123 rfl ?_
          refine g_iald C dX5_lies_125 (by assumption) rfl (by omega) (by decide) ?_
          rw [hk1.2.2.2]
          refine g_isub C dX5_lies_126 ?_
          refine g_iload_n C dX5_lies_127 rfl ?_
          refine g_aload_n C dX5_lies_128 rfl ?_
          refine g_get C FX5_23 dX5_lies_129 (by assumption) rfl ?_
          refine g_iload C dX5_lies_132 rfl ?_
          refine g_iald C dX5_lies_134 (by assumption) rfl (by omega) (by decide) ?_
          rw [hk2.2.2.2]
          refine g_isub C dX5_lies_135 ?_
          refine g_imul C dX5_lies_136 ?_
          refine g_iadd C dX5_lies_137 ?_
          refine g_top (show _ = w by rw [ew]; rfl) ?_
          refine g_istore C dX5_lies_138 (by decide) rfl ?_
          dsimp only [List.set]
          refine g_iload_n C dX5_lies_140 rfl ?_
          refine g_if_ne C dX5_lies_141 (tgt := 154) (by decide) (by omega) (fun h141 => ?_) (fun h141 => ?_)
          · refine g_iconst C dX5_lies_154 ?_
            refine g_goto C dX5_lies_155 (tgt := 159) (by decide) ?_
            first | exact nx (by omega) 1 (Or.inr ⟨rfl, Or.inl ((hz.resolve_left (fun q => by omega)).2)⟩) | exact nx (by omega) 1 (Or.inr ⟨rfl, Or.inr ⟨by omega, by omega⟩⟩) | exact nx (by omega) 0 (Or.inl ⟨rfl, fun q => q.elim (hz.resolve_right (fun q => by omega)).2 (fun q => by omega)⟩)
          · refine g_iload C dX5_lies_144 rfl ?_
            refine g_if_ne C dX5_lies_146 (tgt := 158) (by decide) (by omega) (fun h146 => ?_) (fun h146 => ?_)
            · refine g_iconst C dX5_lies_158 ?_
              first | exact nx (by omega) 1 (Or.inr ⟨rfl, Or.inl ((hz.resolve_left (fun q => by omega)).2)⟩) | exact nx (by omega) 1 (Or.inr ⟨rfl, Or.inr ⟨by omega, by omega⟩⟩) | exact nx (by omega) 0 (Or.inl ⟨rfl, fun q => q.elim (hz.resolve_right (fun q => by omega)).2 (fun q => by omega)⟩)
            · refine g_iload C dX5_lies_149 rfl ?_
              refine g_if_gt C dX5_lies_151 (tgt := 158) (by decide) (by omega) (fun h151 => ?_) (fun h151 => ?_)
              · refine g_iconst C dX5_lies_158 ?_
                first | exact nx (by omega) 1 (Or.inr ⟨rfl, Or.inl ((hz.resolve_left (fun q => by omega)).2)⟩) | exact nx (by omega) 1 (Or.inr ⟨rfl, Or.inr ⟨by omega, by omega⟩⟩) | exact nx (by omega) 0 (Or.inl ⟨rfl, fun q => q.elim (hz.resolve_right (fun q => by omega)).2 (fun q => by omega)⟩)
              · refine g_iconst C dX5_lies_154 ?_
                refine g_goto C dX5_lies_155 (tgt := 159) (by decide) ?_
                first | exact nx (by omega) 1 (Or.inr ⟨rfl, Or.inl ((hz.resolve_left (fun q => by omega)).2)⟩) | exact nx (by omega) 1 (Or.inr ⟨rfl, Or.inr ⟨by omega, by omega⟩⟩) | exact nx (by omega) 0 (Or.inl ⟨rfl, fun q => q.elim (hz.resolve_right (fun q => by omega)).2 (fun q => by omega)⟩)
        · refine g_iconst C dX5_lies_97 ?_
          exact kr _ _ _ dX5_lies_98 (congrArg (fun z => some (iv z)) (by unfold lie; rw [cif_p ⟨k, by omega, by omega⟩]))
  refine g_iconst C dX5_lies_0 ?_
  refine g_istore_n C dX5_lies_1 (by decide) rfl ?_
  dsimp only [List.set]
  refine g_iconst C dX5_lies_2 ?_
  refine g_istore C dX5_lies_3 (by decide) rfl ?_
  dsimp only [List.set]
  exact loop cc 0 0 _ _ _ _ (by omega) (Or.inl ⟨rfl, fun ⟨e, h1, _⟩ => by omega⟩) (fun ⟨e, h1, _⟩ => by omega)
theorem r_lattice (M : mz h a s c xs ys pt co cc) {S : Int → Int → Prop} (L : laid xs ys pt co cc S) {w : Int} (hw : w = 0 ∨ w = 1) : ax_Met MX5_lattice [rv a, iv w] h (some (iv (gg (fun x y => if 1 ≤ lie (hC S).2.1 (hC S).2.2 (hC S).1 x y ∧ lie (hC S).2.1 (hC S).2.2 (hC S).1 x y ≤ w + 1 then 1 else 0)))) h := by
  have ⟨q0, q1, q2, q3, q4, q5, q6, q7, q8, q9, q10, q11⟩ := M
  have hli := lie_in (hC S).2.1 (hC S).2.2 (hC S).1
  have hL := fun x hx y hy => r_lies M L (x := x) (y := y) hx hy
  generalize lie (hC S).2.1 (hC S).2.2 (hC S).1 = li at *
  refine ax_mi (L0 := [some (rv a), some (iv w), none, none, none, none]) rfl rfl (Nat.le_refl _) (Nat.le_refl _) (Nat.le_of_ble_eq_true rfl) rfl ?_
  intro p9 l9 e9 R9 s9 m9 args9 below9 meth9 c9 b9 D9 dA9 Q9 C kr
  have inner : ∀ (i : Nat), i < 13 → (∀ x5 : Option ax_V, ax_G p9 l9 e9 R9 s9 m9 args9 below9 meth9 c9 b9 D9 dA9 MX5_lattice.2.2.1 h.length (ax_sz h) Q9 (16) ([some (rv a), some (iv w), some (iv (gsm (fun x => gsm (fun y => if 1 ≤ li (x : Int) (y : Int) ∧ li (x : Int) (y : Int) ≤ w + 1 then 1 else 0) 13) (i + 1))), some (iv (w + 1)), some (iv ((i + 1 : Nat) : Int)), x5]) ([]) (h)) → ∀ (d j : Nat), j + d = 13 → ax_G p9 l9 e9 R9 s9 m9 args9 below9 meth9 c9 b9 D9 dA9 MX5_lattice.2.2.1 h.length (ax_sz h) Q9 (26) ([some (rv a), some (iv w), some (iv (gsm (fun x => gsm (fun y => if 1 ≤ li (x : Int) (y : Int) ∧ li (x : Int) (y : Int) ≤ w + 1 then 1 else 0) 13) i + gsm (fun y => if 1 ≤ li (i : Int) (y : Int) ∧ li (i : Int) (y : Int) ≤ w + 1 then 1 else 0) j)), some (iv (w + 1)), some (iv (i : Int)), some (iv (j : Int))]) ([]) (h) := by
    intro i hi K9 d
    induction d with
    | zero =>
      intro j hj
      have e : j = 13 := by omega
      subst e
      refine g_iload C dX5_lattice_26 rfl ?_
      refine g_bipush C dX5_lattice_28 (by decide) ?_
      refine g_icmp_gt C dX5_lattice_30 (tgt := 63) (by decide) (by omega) (by omega) (fun h30 => ?_) (fun h30 => ?_)
      · refine g_iinc C dX5_lattice_63 (by decide) rfl rfl ?_
        dsimp only [List.set]
        refine g_goto C dX5_lattice_66 (tgt := 16) (by decide) ?_
        exact K9 _
      · exfalso; omega
    | succ d ih =>
      intro j hj
      have b := hli (i : Int) (j : Int)
      have st := ih (j + 1) (by omega)
      rw [gsm, ← Int.add_assoc] at st
      refine g_iload C dX5_lattice_26 rfl ?_
      refine g_bipush C dX5_lattice_28 (by decide) ?_
      refine g_icmp_gt C dX5_lattice_30 (tgt := 63) (by decide) (by omega) (by omega) (fun h30 => ?_) (fun h30 => ?_)
      · exfalso; omega
      · refine g_iload_n C dX5_lattice_33 rfl ?_
        refine g_aload_n C dX5_lattice_34 rfl ?_
        refine g_iload C dX5_lattice_35 rfl ?_
        refine g_iload C dX5_lattice_37 rfl ?_
        refine g_V C (hL (i : Int) (by omega) (j : Int) (by omega)) dX5_lattice_39 KX5_lies LX5_91 IX5_lies VX5_lies (by decide) rfl (by assumption) rfl rfl rfl (Nat.le_of_ble_eq_true rfl) ⟨rfl, rfl⟩ ?_
        dsimp only [Option.toList, List.cons_append, List.nil_append]
        refine g_iconst C dX5_lattice_42 ?_
        refine g_iload_n C dX5_lattice_43 rfl ?_
        refine g_S C (r_in (x := li (i : Int) (j : Int)) (z := w + 1) (by omega) (by omega) (by omega)) dX5_lattice_44 KX5_in LX5_44 SX5_in (by decide) rfl rfl (Nat.le_of_ble_eq_true rfl) ⟨rfl, rfl⟩ ?_
        dsimp only [Option.toList, List.cons_append, List.nil_append]
        refine g_if_eq C dX5_lattice_47 (tgt := 54) (by decide) ifr (fun h47 => ?_) (fun h47 => ?_)
        · have w47 : ¬ (1 ≤ li (i : Int) (j : Int) ∧ li (i : Int) (j : Int) ≤ w + 1) := if0 h47
          rw [if_neg w47] at st
          refine g_iconst C dX5_lattice_54 ?_
          refine g_iadd C dX5_lattice_55 ?_
          refine g_istore_n C dX5_lattice_56 (by decide) rfl ?_
          dsimp only [List.set]
          refine g_iinc C dX5_lattice_57 (by decide) rfl rfl ?_
          dsimp only [List.set]
          refine g_goto C dX5_lattice_60 (tgt := 26) (by decide) ?_
          exact st
        · have w47 : 1 ≤ li (i : Int) (j : Int) ∧ li (i : Int) (j : Int) ≤ w + 1 := if1 h47
          rw [if_pos w47] at st
          refine g_iconst C dX5_lattice_50 ?_
          refine g_goto C dX5_lattice_51 (tgt := 55) (by decide) ?_
          refine g_iadd C dX5_lattice_55 ?_
          refine g_istore_n C dX5_lattice_56 (by decide) rfl ?_
          dsimp only [List.set]
          refine g_iinc C dX5_lattice_57 (by decide) rfl rfl ?_
          dsimp only [List.set]
          refine g_goto C dX5_lattice_60 (tgt := 26) (by decide) ?_
          exact st
  have outer : ∀ (d i : Nat) (x5 : Option ax_V), i + d = 13 → ax_G p9 l9 e9 R9 s9 m9 args9 below9 meth9 c9 b9 D9 dA9 MX5_lattice.2.2.1 h.length (ax_sz h) Q9 (16) ([some (rv a), some (iv w), some (iv (gsm (fun x => gsm (fun y => if 1 ≤ li (x : Int) (y : Int) ∧ li (x : Int) (y : Int) ≤ w + 1 then 1 else 0) 13) i)), some (iv (w + 1)), some (iv (i : Int)), x5]) ([]) (h) := by
    intro d
    induction d with
    | zero =>
      intro i x5 hi
      have e : i = 13 := by omega
      subst e
      refine g_iload C dX5_lattice_16 rfl ?_
      refine g_bipush C dX5_lattice_18 (by decide) ?_
      refine g_icmp_gt C dX5_lattice_20 (tgt := 69) (by decide) (by omega) (by omega) (fun h20 => ?_) (fun h20 => ?_)
      · refine g_iload_n C dX5_lattice_69 rfl ?_
        exact kr _ _ _ dX5_lattice_70 rfl
      · exfalso; omega
    | succ d ih =>
      intro i x5 hi
      refine g_iload C dX5_lattice_16 rfl ?_
      refine g_bipush C dX5_lattice_18 (by decide) ?_
      refine g_icmp_gt C dX5_lattice_20 (tgt := 69) (by decide) (by omega) (by omega) (fun h20 => ?_) (fun h20 => ?_)
      · exfalso; omega
      · refine g_iconst C dX5_lattice_23 ?_
        refine g_istore C dX5_lattice_24 (by decide) rfl ?_
        dsimp only [List.set]
        have q := inner i (by omega) (fun x5 => ih (i + 1) x5 (by omega)) 13 0 (by omega)
        rw [show ∀ f, gsm f 0 = 0 from fun _ => rfl, Int.add_zero] at q
        exact q
  refine g_iconst C dX5_lattice_0 ?_
  refine g_istore_n C dX5_lattice_1 (by decide) rfl ?_
  dsimp only [List.set]
  refine g_iload_n C dX5_lattice_2 rfl ?_
  refine g_iconst C dX5_lattice_3 ?_
  refine g_icmp_ne C dX5_lattice_4 (tgt := 11) (by decide) (by omega) (by omega) (fun h4 => ?_) (fun h4 => ?_)
  · refine g_iconst C dX5_lattice_11 ?_
    refine g_top (show _ = w + 1 by omega) ?_
    refine g_istore_n C dX5_lattice_12 (by decide) rfl ?_
    dsimp only [List.set]
    refine g_iconst C dX5_lattice_13 ?_
    refine g_istore C dX5_lattice_14 (by decide) rfl ?_
    dsimp only [List.set]
    exact outer 13 0 _ (by omega)
  · refine g_iconst C dX5_lattice_7 ?_
    refine g_goto C dX5_lattice_8 (tgt := 12) (by decide) ?_
    refine g_top (show _ = w + 1 by omega) ?_
    refine g_istore_n C dX5_lattice_12 (by decide) rfl ?_
    dsimp only [List.set]
    refine g_iconst C dX5_lattice_13 ?_
    refine g_istore C dX5_lattice_14 (by decide) rfl ?_
    dsimp only [List.set]
    exact outer 13 0 _ (by omega)
end MX
