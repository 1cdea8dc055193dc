section MG
variable {h : ax_H} {a : Nat} {s : MS} {c : MC} {us vs lw fi se : Nat → Int} {ce : Nat} {xs ys : Nat → Int} {pt : Nat} {co : Nat → Int} {cc : Nat} {B K : Nat → List Pt3} {km : Nat}
def cqs (c : MC) (l m : List Pt3) : Prop := slp l m (fun i => (c.1 i, c.2.1 i, c.2.2.1 i)) c.2.2.2.1 ∧ (∀ i, i < c.2.2.2.1 → tbd (c.1 i, c.2.1 i, c.2.2.1 i)) ∧ c.2.2.2.1 ≤ 93
theorem lay_all {l m : List Pt3} {F G : Nat → Nat} {n : Nat} {τ : Nat → Tr} {ce : Nat} (hc : ∀ f g, f < l.length → g < m.length → ∃ q, q < n ∧ F q = f ∧ G q = g) (hs : tsr τ ce) (hd : ∀ i j k, i < j → j < k → k < n → ok3 l m F G i j k → ∃ q, q < ce ∧ teq (T3 l m F G i j k) (τ q)) {t : Tr} (ht : CSl l m t) : ∃ q, q < ce ∧ teq t (τ q) := by
  obtain ⟨hw, i1, i2, i3, j1, j2, j3, ⟨a1, a2, a3⟩, ⟨b1, b2, b3⟩, hne⟩ := ht
  obtain ⟨q1, z1, rfl, rfl⟩ := hc i1 j1 a1.1 b1.1
  obtain ⟨q2, z2, rfl, rfl⟩ := hc i2 j2 a2.1 b2.1
  obtain ⟨q3, z3, rfl, rfl⟩ := hc i3 j3 a3.1 b3.1
  obtain ⟨x, y, z, hxy, hyz, px, py, pz, hn⟩ := ord3 (P := fun q => q < n ∧ lw2 l m t (F q) (G q)) (c := fun i j k => tu (lx l (F i) + lx m (G i)) (ly l (F i) + ly m (G i)) (lx l (F j) + lx m (G j)) (ly l (F j) + ly m (G j)) (lx l (F k) + lx m (G k)) (ly l (F k) + ly m (G k))) (fun i j k => tu_sw _ _ _ _ _ _) (fun i j k => by unfold tu; grind) (fun i j => by unfold tu; grind) ⟨z1, a1, b1⟩ ⟨z2, a2, b2⟩ ⟨z3, a3, b3⟩ hne
  have eX : ∀ i, s3 l m 0 (F i) (G i) = lx l (F i) + lx m (G i) := fun i => rfl
  have eY : ∀ i, s3 l m 1 (F i) (G i) = ly l (F i) + ly m (G i) := fun i => rfl
  have eW : ∀ i, s3 l m 2 (F i) (G i) = lv l (F i) + lv m (G i) := fun i => rfl
  have hD : D3 l m F G x y z ≠ 0 := by
    unfold D3
    rw [eX, eX, eX, eY, eY, eY]
    intro q
    apply hn
    unfold tu
    grind
  have hT : teq t (T3 l m F G x y z) := by
    unfold T3
    have d1 := lwm_dif px.2.1 py.2.1
    have d2 := lwm_dif px.2.2 py.2.2
    have d3 := lwm_dif px.2.1 pz.2.1
    have d4 := lwm_dif px.2.2 pz.2.2
    refine pr3_teq ?_ ?_
    · rw [eX, eX, eY, eY, eW, eW]; grind
    · rw [eX, eX, eY, eY, eW, eW]; grind
  have hp : 0 < (T3 l m F G x y z).2.2 := pr3_pos hD
  have lo : ∀ q, lw2 l m t (F q) (G q) → lw2 l m (T3 l m F G x y z) (F q) (G q) := fun q hq => ⟨lwm_teq hw hp hT hq.1, lwm_teq hw hp hT hq.2⟩
  obtain ⟨q, hq, e⟩ := hd x y z hxy hyz pz.1 ⟨hD, lo x px.2, lo y py.2, lo z pz.2⟩
  exact ⟨q, hq, teq.tr hw hp (hs.1 q hq) hT e⟩
theorem r_layCells (M : mz h a s c xs ys pt co cc) (S : msi s B K km) {b b2 : Nat} (hb : b < 4) (hb2 : b2 < 4) : ax_Mt MX5_layCells [rv a, iv (b : Int), iv (b2 : Int)] h (fun r h' => r = none ∧ ax_sm a (a + 12) h h' ∧ ∃ c', mz h' a s c' xs ys pt co cc ∧ cqs c' (B b) (B b2)) := by
  have hm := ax_sm.rf (lo := a) (hi := a + 12) h
  obtain ⟨us, vs, lw, ce, fi, se⟩ := c
  have M : mcx h a s us vs lw ce fi se xs ys pt co cc := M
  have hO := S.2.1 b hb
  have hO2 := S.2.1 b2 hb2
  have hL := hO.1.1
  have hL2 := hO2.1.1
  refine ax_rv (L0 := [some (rv a), some (iv (b : Int)), some (iv (b2 : Int)), none, none, none, none]) rfl rfl (Nat.le_of_ble_eq_true rfl) rfl ?_
  intro p9 l9 e9 R9 s9 m9 args9 below9 meth9 c9 b9 D9 dA9 Q9 C kr
  -- the threes
  have threes : ∀ (n : Nat) (fi se : Nat → Int) (F G : Nat → Nat), n ≤ 49 → (∀ q, q < n → fi q = (F q : Int) ∧ se q = (G q : Int) ∧ F q < (B b).length ∧ G q < (B b2).length) → (∀ f g, f < (B b).length → g < (B b2).length → ∃ q, q < n ∧ F q = f ∧ G q = g) → ∀ (hh : ax_H) (x4 x5 : Option ax_V), mcx hh a s us vs lw 0 fi se xs ys pt co cc → ax_sm a (a + 12) h hh → ax_G p9 l9 e9 R9 s9 m9 args9 below9 meth9 c9 b9 D9 dA9 MX5_layCells.2.2.1 h.length (ax_sz h) Q9 (64) ([some (rv a), some (iv (b : Int)), some (iv (b2 : Int)), some (iv (n : Int)), x4, x5, none]) ([]) (hh) := by
    intro n fi se F G hn hq hcov
    have hq2 : ∀ q, q < n → q < 49 ∧ fi q = (F q : Int) ∧ se q = (G q : Int) ∧ F q < (B b).length ∧ G q < (B b2).length := fun q hq3 => ⟨by omega, hq q hq3⟩
    have inK : ∀ (i j : Nat), i < j → j < n → (∀ (hh : ax_H) (u1 v1 l1 : Nat → Int) (c1 : Nat) (x6 : Option ax_V), mcx hh a s u1 v1 l1 c1 fi se xs ys pt co cc → ax_sm a (a + 12) h hh → tsr (fun i => (u1 i, v1 i, l1 i)) c1 → (∀ q, q < c1 → tbd (u1 q, v1 q, l1 q) ∧ CSl (B b) (B b2) (u1 q, v1 q, l1 q)) → (∀ i' j' k', i' < i ∨ (i' = i ∧ j' < j + 1) → i' < j' → j' < k' → k' < n → ok3 (B b) (B b2) F G i' j' k' → ∃ q, q < c1 ∧ teq (T3 (B b) (B b2) F G i' j' k') (u1 q, v1 q, l1 q)) → ax_G p9 l9 e9 R9 s9 m9 args9 below9 meth9 c9 b9 D9 dA9 MX5_layCells.2.2.1 h.length (ax_sz h) Q9 (79) ([some (rv a), some (iv (b : Int)), some (iv (b2 : Int)), some (iv (n : Int)), some (iv (i : Int)), some (iv ((j + 1 : Nat) : Int)), x6]) ([]) (hh)) → ∀ (d k : Nat) (hh : ax_H) (u1 v1 l1 : Nat → Int) (c1 : Nat), k + d = n → j < k → mcx hh a s u1 v1 l1 c1 fi se xs ys pt co cc → ax_sm a (a + 12) h hh → tsr (fun i => (u1 i, v1 i, l1 i)) c1 → (∀ q, q < c1 → tbd (u1 q, v1 q, l1 q) ∧ CSl (B b) (B b2) (u1 q, v1 q, l1 q)) → (∀ i' j' k', i' < i ∨ (i' = i ∧ (j' < j ∨ (j' = j ∧ k' < k))) → i' < j' → j' < k' → k' < n → ok3 (B b) (B b2) F G i' j' k' → ∃ q, q < c1 ∧ teq (T3 (B b) (B b2) F G i' j' k') (u1 q, v1 q, l1 q)) → ax_G p9 l9 e9 R9 s9 m9 args9 below9 meth9 c9 b9 D9 dA9 MX5_layCells.2.2.1 h.length (ax_sz h) Q9 (91) ([some (rv a), some (iv (b : Int)), some (iv (b2 : Int)), some (iv (n : Int)), some (iv (i : Int)), some (iv (j : Int)), some (iv (k : Int))]) ([]) (hh) := by
      intro i j hij hj K9 d
      induction d with
      | zero =>
        intro k hh u1 v1 l1 c1 hk hjk M hm hs hcs hdn
        have ⟨h0, h1, h2, h3, h4, h5, h6, h7, h8, h9, h10, h11⟩ := M
        refine g_iload C dX5_layCells_91 rfl ?_
        refine g_iload_n C dX5_layCells_93 rfl ?_
        refine g_icmp_ge C dX5_layCells_94 (tgt := 115) (by decide) (by omega) (by omega) (fun h94 => ?_) (fun h94 => ?_)
        · refine g_iinc C dX5_layCells_115 (by decide) rfl rfl ?_
          dsimp only [List.set]
          refine g_goto C dX5_layCells_118 (tgt := 79) (by decide) ?_
          exact K9 hh u1 v1 l1 c1 _ M hm hs hcs (fun i' j' k' q1 q2 q3 q4 q5 => hdn i' j' k' (by omega) q2 q3 q4 q5)
        · exfalso; omega
      | succ d ih =>
        intro k hh u1 v1 l1 c1 hk hjk M hm hs hcs hdn
        have ⟨h0, h1, h2, h3, h4, h5, h6, h7, h8, h9, h10, h11⟩ := M
        refine g_iload C dX5_layCells_91 rfl ?_
        refine g_iload_n C dX5_layCells_93 rfl ?_
        refine g_icmp_ge C dX5_layCells_94 (tgt := 115) (by decide) (by omega) (by omega) (fun h94 => ?_) (fun h94 => ?_)
        · exfalso; omega
        · refine g_aload_n C dX5_layCells_97 rfl ?_
          refine g_iload_n C dX5_layCells_98 rfl ?_
          refine g_iload_n C dX5_layCells_99 rfl ?_
          refine g_iload C dX5_layCells_100 rfl ?_
          refine g_iload C dX5_layCells_102 rfl ?_
          refine g_iload C dX5_layCells_104 rfl ?_
          refine g_RV C (r_tryThree M S (i := i) (j := j) (k := k) (F := F) (G := G) hb hb2 hs hcs (hq2 i (by omega)) (hq2 j (by omega)) (hq2 k (by omega))) dX5_layCells_106 KX5_tryThree LX5_137 IX5_tryThree VX5_tryThree (by decide) rfl (by assumption) rfl rfl rfl (Nat.le_of_ble_eq_true rfl) ?_
          intro r1 g1 hP1 hz1
          obtain ⟨rfl, hm1, u2, v2, l2, c2, M2, f1, f2, f3, f4⟩ := hP1
          dsimp only [Option.toList, List.cons_append, List.nil_append]
          refine g_iinc C dX5_layCells_109 (by decide) rfl rfl ?_
          dsimp only [List.set]
          refine g_goto C dX5_layCells_112 (tgt := 91) (by decide) ?_
          exact ih (k + 1) _ u2 v2 l2 c2 (by omega) (by omega) M2 (hm.tr hm1) f1 f2 (fun i' j' k' q1 q2 q3 q4 q5 => by
            by_cases w : i' = i ∧ j' = j ∧ k' = k
            · obtain ⟨rfl, rfl, rfl⟩ := w; exact f4 q5
            · obtain ⟨q, w1, w2⟩ := hdn i' j' k' (by omega) q2 q3 q4 q5
              obtain ⟨z, z1, z2⟩ := f3 q w1
              exact ⟨z, z1, by rw [z2]; exact w2⟩)
    have inJ : ∀ (i : Nat), i < n → (∀ (hh : ax_H) (u1 v1 l1 : Nat → Int) (c1 : Nat) (x5 x6 : Option ax_V), mcx hh a s u1 v1 l1 c1 fi se xs ys pt co cc → ax_sm a (a + 12) h hh → tsr (fun i => (u1 i, v1 i, l1 i)) c1 → (∀ q, q < c1 → tbd (u1 q, v1 q, l1 q) ∧ CSl (B b) (B b2) (u1 q, v1 q, l1 q)) → (∀ i' j' k', i' < i + 1 → i' < j' → j' < k' → k' < n → ok3 (B b) (B b2) F G i' j' k' → ∃ q, q < c1 ∧ teq (T3 (B b) (B b2) F G i' j' k') (u1 q, v1 q, l1 q)) → ax_G p9 l9 e9 R9 s9 m9 args9 below9 meth9 c9 b9 D9 dA9 MX5_layCells.2.2.1 h.length (ax_sz h) Q9 (67) ([some (rv a), some (iv (b : Int)), some (iv (b2 : Int)), some (iv (n : Int)), some (iv ((i + 1 : Nat) : Int)), x5, x6]) ([]) (hh)) → ∀ (d j : Nat) (hh : ax_H) (u1 v1 l1 : Nat → Int) (c1 : Nat) (x6 : Option ax_V), j + d = n → i < j → mcx hh a s u1 v1 l1 c1 fi se xs ys pt co cc → ax_sm a (a + 12) h hh → tsr (fun i => (u1 i, v1 i, l1 i)) c1 → (∀ q, q < c1 → tbd (u1 q, v1 q, l1 q) ∧ CSl (B b) (B b2) (u1 q, v1 q, l1 q)) → (∀ i' j' k', i' < i ∨ (i' = i ∧ j' < j) → i' < j' → j' < k' → k' < n → ok3 (B b) (B b2) F G i' j' k' → ∃ q, q < c1 ∧ teq (T3 (B b) (B b2) F G i' j' k') (u1 q, v1 q, l1 q)) → ax_G p9 l9 e9 R9 s9 m9 args9 below9 meth9 c9 b9 D9 dA9 MX5_layCells.2.2.1 h.length (ax_sz h) Q9 (79) ([some (rv a), some (iv (b : Int)), some (iv (b2 : Int)), some (iv (n : Int)), some (iv (i : Int)), some (iv (j : Int)), x6]) ([]) (hh) := by
      intro i hi K9 d
      induction d with
      | zero =>
        intro j hh u1 v1 l1 c1 x6 hj hij M hm hs hcs hdn
        refine g_iload C dX5_layCells_79 rfl ?_
        refine g_iload_n C dX5_layCells_81 rfl ?_
        refine g_icmp_ge C dX5_layCells_82 (tgt := 121) (by decide) (by omega) (by omega) (fun h82 => ?_) (fun h82 => ?_)
        · refine g_iinc C dX5_layCells_121 (by decide) rfl rfl ?_
          dsimp only [List.set]
          refine g_goto C dX5_layCells_124 (tgt := 67) (by decide) ?_
          exact K9 hh u1 v1 l1 c1 _ _ M hm hs hcs (fun i' j' k' q1 q2 q3 q4 q5 => hdn i' j' k' (by omega) q2 q3 q4 q5)
        · exfalso; omega
      | succ d ih =>
        intro j hh u1 v1 l1 c1 x6 hj hij M hm hs hcs hdn
        refine g_iload C dX5_layCells_79 rfl ?_
        refine g_iload_n C dX5_layCells_81 rfl ?_
        refine g_icmp_ge C dX5_layCells_82 (tgt := 121) (by decide) (by omega) (by omega) (fun h82 => ?_) (fun h82 => ?_)
        · exfalso; omega
        · refine g_iload C dX5_layCells_85 rfl ?_
          refine g_iconst C dX5_layCells_87 ?_
          refine g_iadd C dX5_layCells_88 ?_
          refine g_istore C dX5_layCells_89 (by decide) rfl ?_
          dsimp only [List.set]
          exact inK i j hij (by omega) (fun hh u1 v1 l1 c1 x6 M hm hs hcs hdn => ih (j + 1) hh u1 v1 l1 c1 x6 (by omega) (by omega) M hm hs hcs hdn) d (j + 1) hh u1 v1 l1 c1 (by omega) (by omega) M hm hs hcs (fun i' j' k' q1 q2 q3 q4 q5 => hdn i' j' k' (by omega) q2 q3 q4 q5)
    have inI : ∀ (d i : Nat) (hh : ax_H) (u1 v1 l1 : Nat → Int) (c1 : Nat) (x5 x6 : Option ax_V), i + d = n → mcx hh a s u1 v1 l1 c1 fi se xs ys pt co cc → ax_sm a (a + 12) h hh → tsr (fun i => (u1 i, v1 i, l1 i)) c1 → (∀ q, q < c1 → tbd (u1 q, v1 q, l1 q) ∧ CSl (B b) (B b2) (u1 q, v1 q, l1 q)) → (∀ i' j' k', i' < i → i' < j' → j' < k' → k' < n → ok3 (B b) (B b2) F G i' j' k' → ∃ q, q < c1 ∧ teq (T3 (B b) (B b2) F G i' j' k') (u1 q, v1 q, l1 q)) → ax_G p9 l9 e9 R9 s9 m9 args9 below9 meth9 c9 b9 D9 dA9 MX5_layCells.2.2.1 h.length (ax_sz h) Q9 (67) ([some (rv a), some (iv (b : Int)), some (iv (b2 : Int)), some (iv (n : Int)), some (iv (i : Int)), x5, x6]) ([]) (hh) := by
      intro d
      induction d with
      | zero =>
        intro i hh u1 v1 l1 c1 x5 x6 hi M hm hs hcs hdn
        have h93 : c1 ≤ 93 := cs93 hO.1 hO2.1 (τ := fun i => (u1 i, v1 i, l1 i)) (fun i hi => (hcs i hi).2) (fun i j hi hj e => hs.inj hi hj e)
        refine g_iload C dX5_layCells_67 rfl ?_
        refine g_iload_n C dX5_layCells_69 rfl ?_
        refine g_icmp_ge C dX5_layCells_70 (tgt := 127) (by decide) (by omega) (by omega) (fun h70 => ?_) (fun h70 => ?_)
        · exact kr _ _ _ dX5_layCells_127 ⟨rfl, hm, (u1, v1, l1, c1, fi, se), M, ⟨hs, fun q hq => (hcs q hq).2, fun t ht => lay_all hcov hs (fun i' j' k' q2 q3 q4 q5 => hdn i' j' k' (by omega) q2 q3 q4 q5) ht⟩, fun q hq => (hcs q hq).1, h93⟩ hm.1
        · exfalso; omega
      | succ d ih =>
        intro i hh u1 v1 l1 c1 x5 x6 hi M hm hs hcs hdn
        refine g_iload C dX5_layCells_67 rfl ?_
        refine g_iload_n C dX5_layCells_69 rfl ?_
        refine g_icmp_ge C dX5_layCells_70 (tgt := 127) (by decide) (by omega) (by omega) (fun h70 => ?_) (fun h70 => ?_)
        · exfalso; omega
        · refine g_iload C dX5_layCells_73 rfl ?_
          refine g_iconst C dX5_layCells_75 ?_
          refine g_iadd C dX5_layCells_76 ?_
          refine g_top (show _ = ((i + 1 : Nat) : Int) by omega) ?_
          refine g_istore C dX5_layCells_77 (by decide) rfl ?_
          dsimp only [List.set]
          exact inJ i (by omega) (fun hh u1 v1 l1 c1 x5 x6 M hm hs hcs hdn => ih (i + 1) hh u1 v1 l1 c1 x5 x6 (by omega) M hm hs hcs hdn) d (i + 1) hh u1 v1 l1 c1 _ (by omega) (by omega) M hm hs hcs (fun i' j' k' q1 q2 q3 q4 q5 => hdn i' j' k' (by omega) q2 q3 q4 q5)
    intro hh x4 x5 M hm
    refine g_iconst C dX5_layCells_64 ?_
    refine g_istore C dX5_layCells_65 (by decide) rfl ?_
    dsimp only [List.set]
    exact inI n 0 hh us vs lw 0 _ _ (by omega) M hm ⟨fun i hi => by omega, fun i j h1 h2 => by omega⟩ (fun q hq => by omega) (fun i' j' k' q1 => by omega)
  -- the sums
  have sumsJ : ∀ (i : Nat), i < (B b).length → (∀ (hh : ax_H) (n : Nat) (fi se : Nat → Int) (F G : Nat → Nat) (x5 : Option ax_V), mcx hh a s us vs lw 0 fi se xs ys pt co cc → ax_sm a (a + 12) h hh → n ≤ 7 * (i + 1) → (∀ q, q < n → fi q = (F q : Int) ∧ se q = (G q : Int) ∧ F q < (B b).length ∧ G q < (B b2).length) → (∀ f g, f < i + 1 → g < (B b2).length → ∃ q, q < n ∧ F q = f ∧ G q = g) → ax_G p9 l9 e9 R9 s9 m9 args9 below9 meth9 c9 b9 D9 dA9 MX5_layCells.2.2.1 h.length (ax_sz h) Q9 (10) ([some (rv a), some (iv (b : Int)), some (iv (b2 : Int)), some (iv (n : Int)), some (iv ((i + 1 : Nat) : Int)), x5, none]) ([]) (hh)) → ∀ (d j : Nat) (hh : ax_H) (n : Nat) (fi se : Nat → Int) (F G : Nat → Nat), j + d = (B b2).length → mcx hh a s us vs lw 0 fi se xs ys pt co cc → ax_sm a (a + 12) h hh → n ≤ 7 * i + j → (∀ q, q < n → fi q = (F q : Int) ∧ se q = (G q : Int) ∧ F q < (B b).length ∧ G q < (B b2).length) → (∀ f g, (f < i ∧ g < (B b2).length) ∨ (f = i ∧ g < j) → ∃ q, q < n ∧ F q = f ∧ G q = g) → ax_G p9 l9 e9 R9 s9 m9 args9 below9 meth9 c9 b9 D9 dA9 MX5_layCells.2.2.1 h.length (ax_sz h) Q9 (23) ([some (rv a), some (iv (b : Int)), some (iv (b2 : Int)), some (iv (n : Int)), some (iv (i : Int)), some (iv (j : Int)), none]) ([]) (hh) := by
    intro i hi K9 d
    induction d with
    | zero =>
      intro j hh n fi se F G hj M hm hn hq hcov
      have ⟨h0, h1, h2, h3, h4, h5, h6, h7, h8, h9, h10, h11⟩ := M
      have Mz : mz hh a s (us, vs, lw, 0, fi, se) xs ys pt co cc := M
      refine g_iload C dX5_layCells_23 rfl ?_
      refine g_aload_n C dX5_layCells_25 rfl ?_
      refine g_iload_n C dX5_layCells_26 rfl ?_
      refine g_V C (r_many Mz S hb2) dX5_layCells_27 KX5_many LX5_56 IX5_many VX5_many (by decide) rfl (by assumption) rfl rfl rfl (Nat.le_of_ble_eq_true rfl) ⟨rfl, rfl⟩ ?_
      dsimp only [Option.toList, List.cons_append, List.nil_append]
      refine g_icmp_ge C dX5_layCells_30 (tgt := 58) (by decide) (by omega) (by omega) (fun h30 => ?_) (fun h30 => ?_)
      · refine g_iinc C dX5_layCells_58 (by decide) rfl rfl ?_
        dsimp only [List.set]
        refine g_goto C dX5_layCells_61 (tgt := 10) (by decide) ?_
        exact K9 hh n fi se F G _ M hm (by omega) hq (fun f g z1 z2 => hcov f g (by omega))
      · exfalso; omega
    | succ d ih =>
      intro j hh n fi se F G hj M hm hn hq hcov
      have ⟨h0, h1, h2, h3, h4, h5, h6, h7, h8, h9, h10, h11⟩ := M
      have Mz : mz hh a s (us, vs, lw, 0, fi, se) xs ys pt co cc := M
      refine g_iload C dX5_layCells_23 rfl ?_
      refine g_aload_n C dX5_layCells_25 rfl ?_
      refine g_iload_n C dX5_layCells_26 rfl ?_
      refine g_V C (r_many Mz S hb2) dX5_layCells_27 KX5_many LX5_56 IX5_many VX5_many (by decide) rfl (by assumption) rfl rfl rfl (Nat.le_of_ble_eq_true rfl) ⟨rfl, rfl⟩ ?_
      dsimp only [Option.toList, List.cons_append, List.nil_append]
      refine g_icmp_ge C dX5_layCells_30 (tgt := 58) (by decide) (by omega) (by omega) (fun h30 => ?_) (fun h30 => ?_)
      · exfalso; omega
      · refine g_aload_n C dX5_layCells_33 rfl ?_
        refine g_get C FX5_38 dX5_layCells_34 (by assumption) rfl ?_
        refine g_iload_n C dX5_layCells_37 rfl ?_
        refine g_iload C dX5_layCells_38 rfl ?_
        refine g_iast C dX5_layCells_40 (by assumption) rfl (by omega) (by decide) ?_
        refine mo_s_fi M hm ?_
        intro h9 M hm
        have ⟨h0, h1, h2, h3, h4, h5, h6, h7, h8, h9, h10, h11⟩ := M
        refine g_aload_n C dX5_layCells_41 rfl ?_
        refine g_get C FX5_41 dX5_layCells_42 (by assumption) rfl ?_
        refine g_iload_n C dX5_layCells_45 rfl ?_
        refine g_iload C dX5_layCells_46 rfl ?_
        refine g_iast C dX5_layCells_48 (by assumption) rfl (by omega) (by decide) ?_
        refine mo_s_se M hm ?_
        intro h9 M hm
        refine g_iinc C dX5_layCells_49 (by decide) rfl rfl ?_
        dsimp only [List.set]
        refine g_iinc C dX5_layCells_52 (by decide) rfl rfl ?_
        dsimp only [List.set]
        refine g_goto C dX5_layCells_55 (tgt := 23) (by decide) ?_
        exact ih (j + 1) _ (n + 1) (va_up fi n (i : Int)) (va_up se n (j : Int)) (va_up F n i) (va_up G n j) (by omega) M hm (by omega) (fun q hq2 => by
          by_cases w : q = n
          · subst w; rw [va_eq, va_eq, va_eq, va_eq]; exact ⟨rfl, rfl, hi, by omega⟩
          · rw [va_ne w, va_ne w, va_ne w, va_ne w]; exact hq q (by omega)) (fun f g z => by
          by_cases w : f = i ∧ g = j
          · exact ⟨n, by omega, by rw [va_eq]; exact w.1.symm, by rw [va_eq]; exact w.2.symm⟩
          · obtain ⟨q, w1, w2, w3⟩ := hcov f g (by omega)
            exact ⟨q, by omega, by rw [va_ne (by omega)]; exact w2, by rw [va_ne (by omega)]; exact w3⟩)
  have sumsI : ∀ (d i : Nat) (hh : ax_H) (n : Nat) (fi se : Nat → Int) (F G : Nat → Nat) (x5 : Option ax_V), i + d = (B b).length → mcx hh a s us vs lw 0 fi se xs ys pt co cc → ax_sm a (a + 12) h hh → n ≤ 7 * i → (∀ q, q < n → fi q = (F q : Int) ∧ se q = (G q : Int) ∧ F q < (B b).length ∧ G q < (B b2).length) → (∀ f g, f < i → g < (B b2).length → ∃ q, q < n ∧ F q = f ∧ G q = g) → ax_G p9 l9 e9 R9 s9 m9 args9 below9 meth9 c9 b9 D9 dA9 MX5_layCells.2.2.1 h.length (ax_sz h) Q9 (10) ([some (rv a), some (iv (b : Int)), some (iv (b2 : Int)), some (iv (n : Int)), some (iv (i : Int)), x5, none]) ([]) (hh) := by
    intro d
    induction d with
    | zero =>
      intro i hh n fi se F G x5 hi M hm hn hq hcov
      have ⟨h0, h1, h2, h3, h4, h5, h6, h7, h8, h9, h10, h11⟩ := M
      have Mz : mz hh a s (us, vs, lw, 0, fi, se) xs ys pt co cc := M
      refine g_iload C dX5_layCells_10 rfl ?_
      refine g_aload_n C dX5_layCells_12 rfl ?_
      refine g_iload_n C dX5_layCells_13 rfl ?_
      refine g_V C (r_many Mz S hb) dX5_layCells_14 KX5_many LX5_56 IX5_many VX5_many (by decide) rfl (by assumption) rfl rfl rfl (Nat.le_of_ble_eq_true rfl) ⟨rfl, rfl⟩ ?_
      dsimp only [Option.toList, List.cons_append, List.nil_append]
      refine g_icmp_ge C dX5_layCells_17 (tgt := 64) (by decide) (by omega) (by omega) (fun h17 => ?_) (fun h17 => ?_)
      · exact threes n fi se F G (by omega) hq (fun f g z1 z2 => hcov f g (by omega) z2) hh _ _ M hm
      · exfalso; omega
    | succ d ih =>
      intro i hh n fi se F G x5 hi M hm hn hq hcov
      have ⟨h0, h1, h2, h3, h4, h5, h6, h7, h8, h9, h10, h11⟩ := M
      have Mz : mz hh a s (us, vs, lw, 0, fi, se) xs ys pt co cc := M
      refine g_iload C dX5_layCells_10 rfl ?_
      refine g_aload_n C dX5_layCells_12 rfl ?_
      refine g_iload_n C dX5_layCells_13 rfl ?_
      refine g_V C (r_many Mz S hb) dX5_layCells_14 KX5_many LX5_56 IX5_many VX5_many (by decide) rfl (by assumption) rfl rfl rfl (Nat.le_of_ble_eq_true rfl) ⟨rfl, rfl⟩ ?_
      dsimp only [Option.toList, List.cons_append, List.nil_append]
      refine g_icmp_ge C dX5_layCells_17 (tgt := 64) (by decide) (by omega) (by omega) (fun h17 => ?_) (fun h17 => ?_)
      · exfalso; omega
      · refine g_iconst C dX5_layCells_20 ?_
        refine g_istore C dX5_layCells_21 (by decide) rfl ?_
        dsimp only [List.set]
        exact sumsJ i (by omega) (fun hh n fi se F G x5 M hm hn hq hcov => ih (i + 1) hh n fi se F G x5 (by omega) M hm hn hq hcov) (B b2).length 0 hh n fi se F G (by omega) M hm (by omega) hq (fun f g z => hcov f g (by omega) (by omega))
  have ⟨h0, h1, h2, h3, h4, h5, h6, h7, h8, h9, h10, h11⟩ := M
  refine g_aload_n C dX5_layCells_0 rfl ?_
  refine g_iconst C dX5_layCells_1 ?_
  refine g_put C FX5_118 dX5_layCells_2 (by assumption) rfl rfl (Nat.le_of_ble_eq_true rfl) ?_
  dsimp only [List.set]
  refine mo_s_ce 0 rfl M hm ?_
  intro h9 M hm
  refine g_iconst C dX5_layCells_5 ?_
  refine g_istore_n C dX5_layCells_6 (by decide) rfl ?_
  dsimp only [List.set]
  refine g_iconst C dX5_layCells_7 ?_
  refine g_istore C dX5_layCells_8 (by decide) rfl ?_
  dsimp only [List.set]
  exact sumsI (B b).length 0 _ 0 fi se (fun _ => 0) (fun _ => 0) _ (by omega) M hm (by omega) (fun q hq => by omega) (fun f g z => by omega)
end MG
