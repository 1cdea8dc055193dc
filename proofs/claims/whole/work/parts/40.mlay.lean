/-! the reference: bodies, sums and fans laid -/
section MB
variable {h : ax_H} {a : Nat} {s : MS} {c : MC} {xs ys : Nat → Int} {pt : Nat} {co : Nat → Int} {cc : Nat} {B K : Nat → List Pt3} {km : Nat}
def mp (h : ax_H) (a : Nat) (s : MS) (c : MC) (S : Int → Int → Prop) (bd : Nat) : Prop := ∃ xs ys pt co cc, mz h a s c xs ys pt co cc ∧ rg_rg xs ys pt ∧ inj2 xs ys pt ∧ pt ≤ bd ∧ pin xs ys pt = S
def ml (h : ax_H) (a : Nat) (s : MS) (c : MC) (S : Int → Int → Prop) : Prop := ∃ xs ys pt co cc, mz h a s c xs ys pt co cc ∧ laid xs ys pt co cc S
theorem mp0 (M : mz h a s c xs ys 0 co cc) : mp h a s c (fun _ _ => False) 0 := ⟨xs, ys, 0, co, cc, M, fun i hi => by omega, fun i j hi => by omega, by omega, hull_congr (fun x y => ⟨fun ⟨i, hi, _⟩ => by omega, fun q => q.elim⟩)⟩
theorem mp.eqv {bd bd2 : Nat} {S S2 : Int → Int → Prop} (H : mp h a s c S bd) (e : ∀ x y, S x y ↔ S2 x y) (hb : bd ≤ bd2) : mp h a s c S2 bd2 := by
  obtain ⟨xs, ys, pt, co, cc, M, h1, h2, h3, h4⟩ := H
  exact ⟨xs, ys, pt, co, cc, M, h1, h2, by omega, h4.trans (hull_congr e)⟩
theorem r_inc {bd : Nat} {S : Int → Int → Prop} (H : mp h a s c S bd) (hb : bd < 128) {x y : Int} (hx : 0 ≤ x ∧ x ≤ 84) (hy : 0 ≤ y ∧ y ≤ 84) : ax_Mt MX5_addPoint [rv a, iv x, iv y] h (fun r h' => r = none ∧ mp h' a s c (fun u v => S u v ∨ (u = x ∧ v = y)) (bd + 1) ∧ ax_sm a (a + 12) h h') := by
  obtain ⟨xs, ys, pt, co, cc, M, h1, h2, h3, h4⟩ := H
  refine (r_addPoint M h1 (by omega) hx hy).mono ?_
  rintro r h' ⟨rfl, hm, ⟨q1, q2⟩ | ⟨q1, q2⟩⟩
  · refine ⟨rfl, ⟨xs, ys, pt, co, cc, q2, h1, h2, by omega, hull_congr fun u v => ?_⟩, hm⟩
    rw [h4]
    rw [h4] at q1
    exact ⟨Or.inl, fun q => q.elim id (fun z => by rw [z.1, z.2]; exact q1)⟩
  · refine ⟨rfl, ⟨_, _, _, co, cc, q2, rg_up h1 hx hy, inj_up h2 q1, by omega, hull_congr fun u v => ?_⟩, hm⟩
    rw [pin_up, h4]
theorem r_lc {bd : Nat} {S : Int → Int → Prop} (H : mp h a s c S bd) (hb : bd ≤ 128) : ax_Mt MX5_layCorners [rv a] h (fun r h' => r = none ∧ ml h' a s c S ∧ ax_sm a (a + 12) h h') := by
  obtain ⟨xs, ys, pt, co, cc, M, h1, h2, h3, h4⟩ := H
  refine (r_layCorners M h1 h2 (by omega) h4).mono ?_
  rintro r h' ⟨rfl, co', cc', q1, q2, q3⟩
  exact ⟨rfl, ⟨_, _, _, _, _, q1, q2⟩, q3⟩
theorem r_layBody (M : mz h a s c xs ys pt co cc) (S : msi s B K km) {b T : Nat} (hb : b < 4) (hT : T < 2147483648) : ax_Mt MX5_layBody [rv a, iv (b : Int), iv (T : Int)] h (fun r h' => r = none ∧ ax_sm a (a + 12) h h' ∧ ∃ xs' ys' pt' co' cc', mz h' a s c xs' ys' pt' co' cc' ∧ laid xs' ys' pt' co' cc' (S1 (B b) T) ∧ (T = 127 → pt' = (B b).length ∧ ∀ k, k < (B b).length → xs' k = lx (B b) k ∧ ys' k = ly (B b) k)) := by
  have hm := ax_sm.rf (lo := a) (hi := a + 12) h
  have hL := S.2.1.len hb
  have hO := S.2.1 b hb
  refine ax_rv (L0 := [some (rv a), some (iv (b : Int)), some (iv (T : Int)), none]) rfl rfl (Nat.le_of_ble_eq_true rfl) rfl ?_
  intro p9 l9 e9 R9 s9 m9 args9 below9 meth9 c9 b9 D9 dA9 Q9 C kr
  have loop : ∀ (d k : Nat) (hh : ax_H) (xs ys : Nat → Int) (pt : Nat) (co : Nat → Int) (cc : Nat), k + d = (B b).length → mz hh a s c xs ys pt co cc → ax_sm a (a + 12) h hh → rg_rg xs ys pt → inj2 xs ys pt → pt ≤ k → pin xs ys pt = bs (lx (B b)) (ly (B b)) k T → (T = 127 → pt = k ∧ ∀ j, j < k → xs j = lx (B b) j ∧ ys j = ly (B b) j) → ax_G p9 l9 e9 R9 s9 m9 args9 below9 meth9 c9 b9 D9 dA9 MX5_layBody.2.2.1 h.length (ax_sz h) Q9 (7) ([some (rv a), some (iv (b : Int)), some (iv (T : Int)), some (iv (k : Int))]) ([]) (hh) := by
    intro d
    induction d with
    | zero =>
      intro k hh xs ys pt co cc hk M hm hr hi hp eS e7
      have ⟨h0, h1, h2, h3, h4, h5, h6, h7, h8, h9, h10, h11⟩ := M
      have ek : k = (B b).length := by omega
      subst ek
      refine g_iload_n C dX5_layBody_7 rfl ?_
      refine g_aload_n C dX5_layBody_8 rfl ?_
      refine g_iload_n C dX5_layBody_9 rfl ?_
      refine g_V C (r_many M S hb) dX5_layBody_10 KX5_many LX5_56 IX5_many VX5_many (by decide) rfl (by assumption) rfl rfl rfl (Nat.le_of_ble_eq_true rfl) ⟨rfl, rfl⟩ ?_
      dsimp only [Option.toList, List.cons_append, List.nil_append]
      refine g_icmp_ge C dX5_layBody_13 (tgt := 48) (by decide) (by omega) (by omega) (fun h13 => ?_) (fun h13 => ?_)
      · refine g_aload_n C dX5_layBody_48 rfl ?_
        refine g_RV C (r_layCorners M hr hi (by omega) eS) dX5_layBody_49 KX5_layCorners LX5_88 IX5_layCorners VX5_layCorners (by decide) rfl (by assumption) rfl rfl rfl (Nat.le_of_ble_eq_true rfl) ?_
        intro r1 g1 hP1 hz1
        obtain ⟨rfl, co', cc', M1, L1, hm1⟩ := hP1
        dsimp only [Option.toList, List.cons_append, List.nil_append]
        exact kr _ _ _ dX5_layBody_52 ⟨rfl, hm.tr hm1, xs, ys, pt, co', cc', M1, L1, e7⟩ (hm.tr hm1).1
      · exfalso; omega
    | succ d ih =>
      intro k hh xs ys pt co cc hk M hm hr hi hp eS e7
      have ⟨h0, h1, h2, h3, h4, h5, h6, h7, h8, h9, h10, h11⟩ := M
      have hk2 := hO.1.2 k (by omega)
      refine g_iload_n C dX5_layBody_7 rfl ?_
      refine g_aload_n C dX5_layBody_8 rfl ?_
      refine g_iload_n C dX5_layBody_9 rfl ?_
      refine g_V C (r_many M S hb) dX5_layBody_10 KX5_many LX5_56 IX5_many VX5_many (by decide) rfl (by assumption) rfl rfl rfl (Nat.le_of_ble_eq_true rfl) ⟨rfl, rfl⟩ ?_
      dsimp only [Option.toList, List.cons_append, List.nil_append]
      refine g_icmp_ge C dX5_layBody_13 (tgt := 48) (by decide) (by omega) (by omega) (fun h13 => ?_) (fun h13 => ?_)
      · exfalso; omega
      · refine g_iload_n C dX5_layBody_16 rfl ?_
        refine g_iload_n C dX5_layBody_17 rfl ?_
        refine g_S C (r_has (T := T) (k := k) hT (by omega)) dX5_layBody_18 KX5_has LX5_80 SX5_has (by decide) rfl rfl (Nat.le_of_ble_eq_true rfl) ⟨rfl, rfl⟩ ?_
        dsimp only [Option.toList, List.cons_append, List.nil_append]
        refine g_if_eq C dX5_layBody_21 (tgt := 42) (by decide) ifr (fun h21 => ?_) (fun h21 => ?_)
        · have w21 : ¬ (T / 2 ^ k % 2 = 1) := if0 h21
          have st := ih (k + 1) hh xs ys pt co cc (by omega) M hm hr hi (by omega) (eS.trans (hull_congr fun x y => by rw [bs_succ]; exact ⟨Or.inl, fun q => q.elim id (fun z => absurd z.1 w21)⟩)) (fun z => absurd (by rw [z]; exact bt_n hL (by omega)) w21)
          refine g_iincT C dX5_layBody_42 (by decide) rfl (show _ = ((k + 1 : Nat) : Int) by omega) rfl ?_
          dsimp only [List.set]
          refine g_goto C dX5_layBody_45 (tgt := 7) (by decide) ?_
          exact st
        · have w21 : T / 2 ^ k % 2 = 1 := if1 h21
          refine g_aload_n C dX5_layBody_24 rfl ?_
          refine g_aload_n C dX5_layBody_25 rfl ?_
          refine g_iload_n C dX5_layBody_26 rfl ?_
          refine g_iload_n C dX5_layBody_27 rfl ?_
          refine g_iconst C dX5_layBody_28 ?_
          refine g_V C (r_of_0 M S hb (k := k) (by omega)) dX5_layBody_29 KX5_of LX5_60 IX5_of VX5_of (by decide) rfl (by assumption) rfl rfl rfl (Nat.le_of_ble_eq_true rfl) ⟨rfl, rfl⟩ ?_
          dsimp only [Option.toList, List.cons_append, List.nil_append]
          refine g_aload_n C dX5_layBody_32 rfl ?_
          refine g_iload_n C dX5_layBody_33 rfl ?_
          refine g_iload_n C dX5_layBody_34 rfl ?_
          refine g_iconst C dX5_layBody_35 ?_
          refine g_V C (r_of_1 M S hb (k := k) (by omega)) dX5_layBody_36 KX5_of LX5_60 IX5_of VX5_of (by decide) rfl (by assumption) rfl rfl rfl (Nat.le_of_ble_eq_true rfl) ⟨rfl, rfl⟩ ?_
          dsimp only [Option.toList, List.cons_append, List.nil_append]
          refine g_RV C (r_addPoint M hr (by omega) (show 0 ≤ lx (B b) k ∧ lx (B b) k ≤ 84 by omega) (show 0 ≤ ly (B b) k ∧ ly (B b) k ≤ 84 by omega)) dX5_layBody_39 KX5_addPoint LX5_84 IX5_addPoint VX5_addPoint (by decide) rfl (by assumption) rfl rfl rfl (Nat.le_of_ble_eq_true rfl) ?_
          intro r1 g1 hP1 hz1
          obtain ⟨rfl, hm1, ⟨q1, M1⟩ | ⟨q1, M1⟩⟩ := hP1
          · refine g_iincT C dX5_layBody_42 (by decide) rfl (show _ = ((k + 1 : Nat) : Int) by omega) rfl ?_
            dsimp only [List.set]
            refine g_goto C dX5_layBody_45 (tgt := 7) (by decide) ?_
            refine ih (k + 1) _ xs ys pt co cc (by omega) M1 (hm.tr hm1) hr hi (by omega) (eS.trans (hull_congr fun x y => ?_)) (fun z => ?_)
            · rw [bs_succ]
              rw [eS] at q1
              exact ⟨Or.inl, fun q => q.elim id (fun z => by rw [z.2.1, z.2.2]; exact q1)⟩
            · exfalso
              obtain ⟨i, hi2, e1, e2⟩ := q1
              have z2 := e7 z
              have z3 := z2.2 i (by omega)
              have := hO.2 i k (by omega) (by omega) (by rw [← z3.1]; exact e1) (by rw [← z3.2]; exact e2)
              omega
          dsimp only [Option.toList, List.cons_append, List.nil_append]
          refine g_iincT C dX5_layBody_42 (by decide) rfl (show _ = ((k + 1 : Nat) : Int) by omega) rfl ?_
          dsimp only [List.set]
          refine g_goto C dX5_layBody_45 (tgt := 7) (by decide) ?_
          refine ih (k + 1) _ _ _ _ co cc (by omega) M1 (hm.tr hm1) (rg_up hr (by omega) (by omega)) (inj_up hi q1) (by omega) (hull_congr fun x y => ?_) (fun z => ?_)
          · rw [pin_up, eS, bs_succ]
            exact ⟨fun q => q.elim Or.inl (fun z => Or.inr ⟨w21, z⟩), fun q => q.elim Or.inl (fun z => Or.inr z.2)⟩
          · have z2 := e7 z
            refine ⟨by omega, fun j hj => ?_⟩
            by_cases w : j = pt
            · subst w; rw [va_eq, va_eq, z2.1]; exact ⟨rfl, rfl⟩
            · rw [va_ne w, va_ne w]; exact z2.2 j (by omega)
  have ⟨h0, h1, h2, h3, h4, h5, h6, h7, h8, h9, h10, h11⟩ := M
  refine g_aload_n C dX5_layBody_0 rfl ?_
  refine g_iconst C dX5_layBody_1 ?_
  refine g_put C FX5_63 dX5_layBody_2 (by assumption) rfl rfl (Nat.le_of_ble_eq_true rfl) ?_
  dsimp only [List.set]
  refine mo_s_pt 0 rfl M hm ?_
  intro h9 M hm
  refine g_iconst C dX5_layBody_5 ?_
  refine g_istore_n C dX5_layBody_6 (by decide) rfl ?_
  dsimp only [List.set]
  exact loop (B b).length 0 _ xs ys 0 co cc (by omega) M hm (fun i hi => by omega) (fun i j hi => by omega) (by omega) (hull_congr fun x y => ⟨fun ⟨i, hi, _⟩ => by omega, fun ⟨i, hi, _⟩ => by omega⟩) (fun _ => ⟨rfl, fun j hj => by omega⟩)
end MB
