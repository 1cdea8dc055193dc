theorem rg_tn {xs ys : Nat → Int} {sz i j k : Nat} (hr : rg_rg xs ys sz) (hi : i < sz) (hj : j < sz) (hk : k < sz) : (-7056 ≤ (xs j - xs i) * (ys k - ys i) ∧ (xs j - xs i) * (ys k - ys i) ≤ 7056) ∧ (-7056 ≤ (ys j - ys i) * (xs k - xs i) ∧ (ys j - ys i) * (xs k - xs i) ≤ 7056) := by
  have a := hr i hi
  have b := hr j hj
  have c := hr k hk
  exact ⟨mb2 (U := 84) (M := 84) (by omega) (by omega), mb2 (U := 84) (M := 84) (by omega) (by omega)⟩
theorem t_turnsLeft {h : ax_H} {a sz cn i j k : Nat} {xs ys rd : Nat → Int} (hR : rg_at h a xs ys sz rd cn) (hr : rg_rg xs ys sz) (hz : sz ≤ 128) (hi : i < sz) (hj : j < sz) (hk : k < sz) : ax_Met MX3_turnsLeft [rv a, iv (i : Int), iv (j : Int), iv (k : Int)] h (some (iv (if 0 < tn xs ys i j k then 1 else 0))) h := by
  obtain ⟨h0, h1, h2, h3⟩ := hR
  have q := rg_tn hr hi hj hk
  unfold tn
  refine ax_mz (L0 := [some (rv a), some (iv (i : Int)), some (iv (j : Int)), some (iv (k : Int))]) rfl rfl (Nat.le_refl _) (Nat.le_refl _) (Nat.le_of_ble_eq_true rfl) rfl ?_
  intro p9 l9 e9 R9 s9 m9 args9 below9 meth9 c9 b9 D9 dA9 Q9 C kr
  refine g_aload_n C dX3_turnsLeft_0 rfl ?_
  refine g_get C FX3_11 dX3_turnsLeft_1 (by assumption) rfl ?_
  refine g_iload_n C dX3_turnsLeft_4 rfl ?_
  refine g_iald C dX3_turnsLeft_5 (by assumption) rfl (by omega) (by decide) ?_
  refine g_aload_n C dX3_turnsLeft_6 rfl ?_
  refine g_get C FX3_11 dX3_turnsLeft_7 (by assumption) rfl ?_
  refine g_iload_n C dX3_turnsLeft_10 rfl ?_
  refine g_iald C dX3_turnsLeft_11 (by assumption) rfl (by omega) (by decide) ?_
  refine g_isub C dX3_turnsLeft_12 ?_
  refine g_aload_n C dX3_turnsLeft_13 rfl ?_
  refine g_get C FX3_15 dX3_turnsLeft_14 (by assumption) rfl ?_
  refine g_iload_n C dX3_turnsLeft_17 rfl ?_
  refine g_iald C dX3_turnsLeft_18 (by assumption) rfl (by omega) (by decide) ?_
  refine g_aload_n C dX3_turnsLeft_19 rfl ?_
  refine g_get C FX3_15 dX3_turnsLeft_20 (by assumption) rfl ?_
  refine g_iload_n C dX3_turnsLeft_23 rfl ?_
  refine g_iald C dX3_turnsLeft_24 (by assumption) rfl (by omega) (by decide) ?_
  refine g_isub C dX3_turnsLeft_25 ?_
  refine g_imul C dX3_turnsLeft_26 ?_
  refine g_aload_n C dX3_turnsLeft_27 rfl ?_
  refine g_get C FX3_15 dX3_turnsLeft_28 (by assumption) rfl ?_
  refine g_iload_n C dX3_turnsLeft_31 rfl ?_
  refine g_iald C dX3_turnsLeft_32 (by assumption) rfl (by omega) (by decide) ?_
  refine g_aload_n C dX3_turnsLeft_33 rfl ?_
  refine g_get C FX3_15 dX3_turnsLeft_34 (by assumption) rfl ?_
  refine g_iload_n C dX3_turnsLeft_37 rfl ?_
  refine g_iald C dX3_turnsLeft_38 (by assumption) rfl (by omega) (by decide) ?_
  refine g_isub C dX3_turnsLeft_39 ?_
  refine g_aload_n C dX3_turnsLeft_40 rfl ?_
  refine g_get C FX3_11 dX3_turnsLeft_41 (by assumption) rfl ?_
  refine g_iload_n C dX3_turnsLeft_44 rfl ?_
  refine g_iald C dX3_turnsLeft_45 (by assumption) rfl (by omega) (by decide) ?_
  refine g_aload_n C dX3_turnsLeft_46 rfl ?_
  refine g_get C FX3_11 dX3_turnsLeft_47 (by assumption) rfl ?_
  refine g_iload_n C dX3_turnsLeft_50 rfl ?_
  refine g_iald C dX3_turnsLeft_51 (by assumption) rfl (by omega) (by decide) ?_
  refine g_isub C dX3_turnsLeft_52 ?_
  refine g_imul C dX3_turnsLeft_53 ?_
  refine g_icmp_le C dX3_turnsLeft_54 (tgt := 61) (by decide) (by omega) (by omega) (fun h54 => ?_) (fun h54 => ?_)
  · refine g_iconst C dX3_turnsLeft_61 ?_
    first | exact kr _ _ _ dX3_turnsLeft_62 (Or.inr rfl) (by rw [if_pos (by omega)]) | exact kr _ _ _ dX3_turnsLeft_62 (Or.inl rfl) (by rw [if_neg (by omega)])
  · refine g_iconst C dX3_turnsLeft_57 ?_
    refine g_goto C dX3_turnsLeft_58 (tgt := 62) (by decide) ?_
    first | exact kr _ _ _ dX3_turnsLeft_62 (Or.inr rfl) (by rw [if_pos (by omega)]) | exact kr _ _ _ dX3_turnsLeft_62 (Or.inl rfl) (by rw [if_neg (by omega)])
/-- the first corner -/
theorem t_turnTo0 {h : ax_H} {a sz i : Nat} {xs ys rd : Nat → Int} (hR : rg_at h a xs ys sz rd 0) : ax_Mt MX3_turnTo [rv a, iv (i : Int), iv 1] h (fun r h' => r = none ∧ rg_at h' a xs ys sz (va_up rd 0 (i : Int)) 1 ∧ ax_sm a (a + 4) h h') := by
  have hm := ax_sm.rf (lo := a) (hi := a + 4) h
  have ⟨h0, h1, h2, h3⟩ := hR
  refine ax_rv (L0 := [some (rv a), some (iv (i : Int)), some (iv 1)]) rfl rfl (Nat.le_of_ble_eq_true rfl) rfl ?_
  intro p9 l9 e9 R9 s9 m9 args9 below9 meth9 c9 b9 D9 dA9 Q9 C kr
  refine g_aload_n C dX3_turnTo_0 rfl ?_
  refine g_get C FX3_50 dX3_turnTo_1 (by assumption) rfl ?_
  refine g_iload_n C dX3_turnTo_4 rfl ?_
  refine g_icmp_le C dX3_turnTo_5 (tgt := 51) (by decide) (by omega) (by omega) (fun h5 => ?_) (fun h5 => ?_)
  · refine g_aload_n C dX3_turnTo_51 rfl ?_
    refine g_get C FX3_50 dX3_turnTo_52 (by assumption) rfl ?_
    refine g_aload_n C dX3_turnTo_55 rfl ?_
    refine g_get C FX3_18 dX3_turnTo_56 (by assumption) rfl ?_
    refine g_alen C dX3_turnTo_59 (by assumption) rfl ?_
    refine g_icmp_ge C dX3_turnTo_60 (tgt := 83) (by decide) (by omega) (by omega) (fun h60 => ?_) (fun h60 => ?_)
    · exfalso; omega
    · refine g_aload_n C dX3_turnTo_63 rfl ?_
      refine g_get C FX3_18 dX3_turnTo_64 (by assumption) rfl ?_
      refine g_aload_n C dX3_turnTo_67 rfl ?_
      refine g_get C FX3_50 dX3_turnTo_68 (by assumption) rfl ?_
      refine g_iload_n C dX3_turnTo_71 rfl ?_
      refine g_iast C dX3_turnTo_72 (by assumption) rfl (by omega) (by decide) ?_
      refine rg_s_rd hR hm ?_
      intro h9 hR hm
      have ⟨h0, h1, h2, h3⟩ := hR
      refine g_aload_n C dX3_turnTo_73 rfl ?_
      refine g_dup C dX3_turnTo_74 ?_
      refine g_get C FX3_50 dX3_turnTo_75 (by assumption) rfl ?_
      refine g_iconst C dX3_turnTo_78 ?_
      refine g_iadd C dX3_turnTo_79 ?_
      refine g_put C FX3_50 dX3_turnTo_80 (by assumption) rfl rfl (Nat.le_of_ble_eq_true rfl) ?_
      dsimp only [List.set]
      refine rg_s_cn 1 rfl hR hm ?_
      intro h9 hR hm
      exact kr _ _ _ dX3_turnTo_83 ⟨rfl, hR, hm⟩ hm.1
  · exfalso; omega
theorem t_turnTo {h : ax_H} {a sz cn lo i : Nat} {xs ys rd : Nat → Int} (hR : rg_at h a xs ys sz rd cn) (hr : rg_rg xs ys sz) (hz : sz ≤ 128) (hi : i < sz) (hc : cn ≤ 255) {A B : Int} {S S2 : Nat → Prop} {rk r : Nat → Nat} (hS : ∀ j, S j → j < sz) (hrd : ∀ e, e < cn → rd e = (r e : Int)) (hP : ch_pop xs ys A B S rk r lo cn i) (hk : ∀ j, S j → kp xs ys A B j < kp xs ys A B i) (hrk : ∀ j, S j → rk j < rk i) (hS2 : ∀ j, S2 j ↔ S j ∨ j = i) : ax_Mt MX3_turnTo [rv a, iv (i : Int), iv ((lo + 1 : Nat) : Int)] h (fun v h' => v = none ∧ ∃ (rd' : Nat → Int) (cn' : Nat) (r' : Nat → Nat), rg_at h' a xs ys sz rd' cn' ∧ ax_sm a (a + 4) h h' ∧ (∀ e, e < cn' → rd' e = (r' e : Int)) ∧ ch_ok xs ys A B S2 rk r' lo cn' ∧ r' (cn' - 1) = i ∧ (∀ e, e ≤ lo → r' e = r e) ∧ lo + 1 < cn') := by
  have hm := ax_sm.rf (lo := a) (hi := a + 4) h
  refine ax_rv (L0 := [some (rv a), some (iv (i : Int)), some (iv ((lo + 1 : Nat) : Int))]) rfl rfl (Nat.le_of_ble_eq_true rfl) rfl ?_
  intro p9 l9 e9 R9 s9 m9 args9 below9 meth9 c9 b9 D9 dA9 Q9 C kr
  have fin : ∀ (cn : Nat) (hh : ax_H), cn ≤ 255 → rg_at hh a xs ys sz rd cn → ax_sm a (a + 4) h hh → (∀ e, e < cn → rd e = (r e : Int)) → ch_pop xs ys A B S rk r lo cn i → (lo + 1 < cn → 0 < tn xs ys (r (cn - 2)) (r (cn - 1)) i) → ax_G p9 l9 e9 R9 s9 m9 args9 below9 meth9 c9 b9 D9 dA9 MX3_turnTo.2.2.1 h.length (ax_sz h) Q9 (51) ([some (rv a), some (iv (i : Int)), some (iv ((lo + 1 : Nat) : Int))]) ([]) (hh) := by
    intro cn hh hc hR hm hrd hP ht
    have ⟨h0, h1, h2, h3⟩ := hR
    have hlo := hP.1.1
    refine g_aload_n C dX3_turnTo_51 rfl ?_
    refine g_get C FX3_50 dX3_turnTo_52 (by assumption) rfl ?_
    refine g_aload_n C dX3_turnTo_55 rfl ?_
    refine g_get C FX3_18 dX3_turnTo_56 (by assumption) rfl ?_
    refine g_alen C dX3_turnTo_59 (by assumption) rfl ?_
    refine g_icmp_ge C dX3_turnTo_60 (tgt := 83) (by decide) (by omega) (by omega) (fun h60 => ?_) (fun h60 => ?_)
    · exfalso; omega
    · refine g_aload_n C dX3_turnTo_63 rfl ?_
      refine g_get C FX3_18 dX3_turnTo_64 (by assumption) rfl ?_
      refine g_aload_n C dX3_turnTo_67 rfl ?_
      refine g_get C FX3_50 dX3_turnTo_68 (by assumption) rfl ?_
      refine g_iload_n C dX3_turnTo_71 rfl ?_
      refine g_iast C dX3_turnTo_72 (by assumption) rfl (by omega) (by decide) ?_
      refine rg_s_rd hR hm ?_
      intro h9 hR hm
      have ⟨h0, h1, h2, h3⟩ := hR
      refine g_aload_n C dX3_turnTo_73 rfl ?_
      refine g_dup C dX3_turnTo_74 ?_
      refine g_get C FX3_50 dX3_turnTo_75 (by assumption) rfl ?_
      refine g_iconst C dX3_turnTo_78 ?_
      refine g_iadd C dX3_turnTo_79 ?_
      refine g_put C FX3_50 dX3_turnTo_80 (by assumption) rfl rfl (Nat.le_of_ble_eq_true rfl) ?_
      dsimp only [List.set]
      refine rg_s_cn (cn + 1) rfl hR hm ?_
      intro h9 hR hm
      refine kr _ _ _ dX3_turnTo_83 ⟨rfl, _, _, fun e => if e < cn then r e else i, hR, hm, fun e he => ?_, hP.push hk hrk ht (fun e he => if_pos he) (if_neg (by omega)) hS2, ?_, fun e he => if_pos (by omega), by omega⟩ hm.1
      · by_cases q : e = cn
        · subst q; simp [va_up]
        · simp only [va_up, if_neg q]; rw [if_pos (by omega)]; exact hrd e (by omega)
      · show (if cn + 1 - 1 < cn then _ else i) = i; rw [if_neg (by omega)]
  have loop : ∀ (d cn : Nat) (hh : ax_H), cn = lo + 1 + d → cn ≤ 255 → rg_at hh a xs ys sz rd cn → ax_sm a (a + 4) h hh → (∀ e, e < cn → rd e = (r e : Int)) → ch_pop xs ys A B S rk r lo cn i → ax_G p9 l9 e9 R9 s9 m9 args9 below9 meth9 c9 b9 D9 dA9 MX3_turnTo.2.2.1 h.length (ax_sz h) Q9 (0) ([some (rv a), some (iv (i : Int)), some (iv ((lo + 1 : Nat) : Int))]) ([]) (hh) := by
    intro d
    induction d with
    | zero =>
      intro cn hh hcd hc hR hm hrd hP
      have ⟨h0, h1, h2, h3⟩ := hR
      refine g_aload_n C dX3_turnTo_0 rfl ?_
      refine g_get C FX3_50 dX3_turnTo_1 (by assumption) rfl ?_
      refine g_iload_n C dX3_turnTo_4 rfl ?_
      refine g_icmp_le C dX3_turnTo_5 (tgt := 51) (by decide) (by omega) (by omega) (fun h5 => ?_) (fun h5 => ?_)
      · exact fin cn hh hc hR hm hrd hP (fun q => by omega)
      · exfalso; omega
    | succ d ih =>
      intro cn hh hcd hc hR hm hrd hP
      have ⟨h0, h1, h2, h3⟩ := hR
      have s1 := hS _ (hP.1.2.1 (cn - 2) (by omega) (by omega))
      have s2 := hS _ (hP.1.2.1 (cn - 1) (by omega) (by omega))
      refine g_aload_n C dX3_turnTo_0 rfl ?_
      refine g_get C FX3_50 dX3_turnTo_1 (by assumption) rfl ?_
      refine g_iload_n C dX3_turnTo_4 rfl ?_
      refine g_icmp_le C dX3_turnTo_5 (tgt := 51) (by decide) (by omega) (by omega) (fun h5 => ?_) (fun h5 => ?_)
      · exfalso; omega
      · refine g_aload_n C dX3_turnTo_8 rfl ?_
        refine g_aload_n C dX3_turnTo_9 rfl ?_
        refine g_get C FX3_18 dX3_turnTo_10 (by assumption) rfl ?_
        refine g_aload_n C dX3_turnTo_13 rfl ?_
        refine g_get C FX3_50 dX3_turnTo_14 (by assumption) rfl ?_
        refine g_iconst C dX3_turnTo_17 ?_
        refine g_isub C dX3_turnTo_18 ?_
        refine g_top (show _ = ((cn - 2 : Nat) : Int) by omega) ?_
        refine g_iald C dX3_turnTo_19 (by assumption) rfl (by omega) (by decide) ?_
        rw [hrd (cn - 2) (by omega)]
        refine g_aload_n C dX3_turnTo_20 rfl ?_
        refine g_get C FX3_18 dX3_turnTo_21 (by assumption) rfl ?_
        refine g_aload_n C dX3_turnTo_24 rfl ?_
        refine g_get C FX3_50 dX3_turnTo_25 (by assumption) rfl ?_
        refine g_iconst C dX3_turnTo_28 ?_
        refine g_isub C dX3_turnTo_29 ?_
        refine g_top (show _ = ((cn - 1 : Nat) : Int) by omega) ?_
        refine g_iald C dX3_turnTo_30 (by assumption) rfl (by omega) (by decide) ?_
        rw [hrd (cn - 1) (by omega)]
        refine g_iload_n C dX3_turnTo_31 rfl ?_
        refine g_V C (t_turnsLeft hR hr hz s1 s2 hi) dX3_turnTo_32 KX3_turnsLeft LX3_56 IX3_turnsLeft VX3_turnsLeft (by decide) rfl (by assumption) rfl rfl rfl (Nat.le_of_ble_eq_true rfl) ⟨rfl, rfl⟩ ?_
        dsimp only [Option.toList, List.cons_append, List.nil_append]
        refine g_if_ne C dX3_turnTo_35 (tgt := 51) (by decide) (by split <;> omega) (fun h35 => ?_) (fun h35 => ?_)
        · have ht : 0 < tn xs ys (r (cn - 2)) (r (cn - 1)) i := by
            by_cases q : 0 < tn xs ys (r (cn - 2)) (r (cn - 1)) i
            · exact q
            · rw [if_neg q] at h35; exact absurd rfl h35
          exact fin cn hh hc hR hm hrd hP (fun _ => ht)
        · have ht : ¬ 0 < tn xs ys (r (cn - 2)) (r (cn - 1)) i := fun q => by rw [if_pos q] at h35; exact absurd h35 (by decide)
          refine g_aload_n C dX3_turnTo_38 rfl ?_
          refine g_dup C dX3_turnTo_39 ?_
          refine g_get C FX3_50 dX3_turnTo_40 (by assumption) rfl ?_
          refine g_iconst C dX3_turnTo_43 ?_
          refine g_isub C dX3_turnTo_44 ?_
          refine g_put C FX3_50 dX3_turnTo_45 (by assumption) rfl rfl (Nat.le_of_ble_eq_true rfl) ?_
          dsimp only [List.set]
          refine rg_s_cn (cn - 1) (by omega) hR hm ?_
          intro h9 hR hm
          refine g_goto C dX3_turnTo_48 (tgt := 0) (by decide) ?_
          exact ih (cn - 1) _ (by omega) (by omega) hR hm (fun e he => hrd e (by omega)) (hP.pop hk (by omega) ht)
  exact loop (cn - (lo + 1)) cn h (by have := hP.1.1; omega) hc hR hm hrd hP
theorem t_findCorners {h : ax_H} {a sz cn : Nat} {xs ys rd : Nat → Int} (hR : rg_at h a xs ys sz rd cn) (hr : rg_rg xs ys sz) (hs : srt xs ys sz) (hz : sz ≤ 128) : ax_Mt MX3_findCorners [rv a] h (fun v h' => v = some (rv a) ∧ ∃ (rd' : Nat → Int) (cn' : Nat) (r' : Nat → Nat), rg_at h' a xs ys sz rd' cn' ∧ ax_sm a (a + 4) h h' ∧ cn' ≤ 256 ∧ (∀ e, e < cn' → rd' e = (r' e : Int) ∧ r' e < sz) ∧ hl_ok xs ys sz r' cn') := by
  have hm := ax_sm.rf (lo := a) (hi := a + 4) h
  have hk : ∀ i j, i < j → j < sz → kp xs ys 1 1000 i < kp xs ys 1 1000 j := fun i j a b => by rw [kp_ky, kp_ky]; exact hs i j a b
  refine ax_ra (L0 := [some (rv a), none, none]) rfl rfl (Or.inl ⟨_, rfl⟩) (Nat.le_of_ble_eq_true rfl) rfl ?_
  intro p9 l9 e9 R9 s9 m9 args9 below9 meth9 c9 b9 D9 dA9 Q9 C kr
  have fin : ∀ (cn : Nat) (hh : ax_H) (rd : Nat → Int) (r : Nat → Nat) (x1 x2 : Option ax_V), 2 ≤ sz → cn ≤ 256 → rg_at hh a xs ys sz rd cn → ax_sm a (a + 4) h hh → (∀ e, e < cn → rd e = (r e : Int) ∧ r e < sz) → 2 ≤ cn → hl_ok xs ys sz r (cn - 1) → ax_G p9 l9 e9 R9 s9 m9 args9 below9 meth9 c9 b9 D9 dA9 MX3_findCorners.2.2.1 h.length (ax_sz h) Q9 (55) ([some (rv a), x1, x2]) ([]) (hh) := by
    intro cn hh rd r x1 x2 hs2 hc hR hm hrd hc2 ho
    have ⟨h0, h1, h2, h3⟩ := hR
    refine g_aload_n C dX3_findCorners_55 rfl ?_
    refine g_get C FX3_21 dX3_findCorners_56 (by assumption) rfl ?_
    refine g_iconst C dX3_findCorners_59 ?_
    refine g_icmp_le C dX3_findCorners_60 (tgt := 73) (by decide) (by omega) (by omega) (fun h60 => ?_) (fun h60 => ?_)
    · exfalso; omega
    · refine g_aload_n C dX3_findCorners_63 rfl ?_
      refine g_dup C dX3_findCorners_64 ?_
      refine g_get C FX3_50 dX3_findCorners_65 (by assumption) rfl ?_
      refine g_iconst C dX3_findCorners_68 ?_
      refine g_isub C dX3_findCorners_69 ?_
      refine g_put C FX3_50 dX3_findCorners_70 (by assumption) rfl rfl (Nat.le_of_ble_eq_true rfl) ?_
      dsimp only [List.set]
      refine rg_s_cn (cn - 1) (by omega) hR hm ?_
      intro h9 hR hm
      refine g_aload_n C dX3_findCorners_73 rfl ?_
      exact kr _ _ _ _ dX3_findCorners_74 ⟨rfl, _, _, r, hR, hm, by omega, fun e he => hrd e (by omega), ho⟩ hm.1
  -- down along the left side
  have loop2 : ∀ (top : Nat) (r0 : Nat → Nat), ch_ok xs ys 1 1000 (fun i => i < sz) (fun i => i) r0 0 top → r0 0 = 0 → r0 (top - 1) = sz - 1 → 2 ≤ sz → ∀ (d n cn : Nat) (hh : ax_H) (rd : Nat → Int) (r : Nat → Nat), n + d = sz - 1 → cn ≤ 256 → rg_at hh a xs ys sz rd cn → ax_sm a (a + 4) h hh → (∀ e, e < cn → rd e = (r e : Int)) → ch_ok xs ys (-1) (-1000) (fun i => sz - 1 - n ≤ i ∧ i < sz) (fun i => sz - 1 - i) r (top - 1) cn → r (cn - 1) = sz - 1 - n → (∀ e, e < top → r e = r0 e) → ax_G p9 l9 e9 R9 s9 m9 args9 below9 meth9 c9 b9 D9 dA9 MX3_findCorners.2.2.1 h.length (ax_sz h) Q9 (39) ([some (rv a), some (iv (top : Int)), some (iv ((sz : Int) - 2 - n))]) ([]) (hh) := by
    intro top r0 hch1 he0 he1 hs2 d
    have htop := hch1.1
    have htz : top ≤ sz := by
      have q1 := hch1.2.2.2.2.2.2 (top - 1) (by omega) (by omega)
      rw [he1] at q1
      have q2 : top - 1 - 0 ≤ sz - 1 := q1
      omega
    induction d with
    | zero =>
      intro n cn hh rd r hn hc hR hm hrd hch hlast hsame
      have ⟨h0, h1, h2, h3⟩ := hR
      have e9 : sz - 1 - n = 0 := by omega
      have hch' : ch_ok xs ys (-1) (-1000) (fun i => i < sz) (fun i => sz - 1 - i) r (top - 1) cn := by
        obtain ⟨c1, c2, c3, c4, c5, c6, c7⟩ := hch
        exact ⟨c1, fun e q1 q2 => (c2 e q1 q2).2, c3, c4, fun e j q1 q2 hj => c5 e j q1 q2 ⟨by omega, hj⟩, fun j hj => c6 j ⟨by omega, hj⟩, c7⟩
      have hch1' : ch_ok xs ys 1 1000 (fun i => i < sz) (fun i => i) r 0 top := by
        obtain ⟨c1, c2, c3, c4, c5, c6, c7⟩ := hch1
        refine ⟨c1, fun e q1 q2 => ?_, fun e q1 q2 => ?_, fun e q1 q2 => ?_, fun e j q1 q2 hj => ?_, fun j hj => ?_, fun e q1 q2 => ?_⟩
        · rw [hsame e q2]; exact c2 e q1 q2
        · rw [hsame e (by omega), hsame _ q2]; exact c3 e q1 q2
        · rw [hsame e (by omega), hsame _ (by omega), hsame _ q2]; exact c4 e q1 q2
        · rw [hsame e (by omega), hsame _ q2]; exact c5 e j q1 q2 hj
        · rw [hsame 0 c1]; exact c6 j hj
        · rw [hsame e q2]; exact c7 e q1 q2
      have ho := hl_join hs2 hk hch1' (by rw [hsame 0 htop]; exact he0) (by rw [hsame (top - 1) (by omega)]; exact he1) hch' (by rw [hlast]; exact e9)
      have hcn : 2 ≤ cn := by
        have := (ho.2.2 hs2).1
        omega
      refine g_iload_n C dX3_findCorners_39 rfl ?_
      refine g_if_lt C dX3_findCorners_40 (tgt := 55) (by decide) (by omega) (fun h40 => ?_) (fun h40 => ?_)
      · exact fin cn hh rd r _ _ hs2 hc hR hm (fun e he => ⟨hrd e he, by
          by_cases q : e < top
          · exact hch1'.2.1 e (by omega) q
          · exact hch'.2.1 e (by omega) he⟩) hcn ho
      · exfalso; omega
    | succ d ih =>
      intro n cn hh rd r hn hc hR hm hrd hch hlast hsame
      have ⟨h0, h1, h2, h3⟩ := hR
      have hlo := hch.1
      have hcr := hch.2.2.2.2.2.2 (cn - 1) (by omega) (by omega)
      rw [hlast] at hcr
      have hcr2 : cn - 1 - (top - 1) ≤ sz - 1 - (sz - 1 - n) := hcr
      have hP := ch_pop.start (i := sz - 1 - (n + 1)) hch (fun j hj hk2 => by
        rw [hlast] at hk2 ⊢
        rw [kp_neg, kp_neg] at hk2
        by_cases q : sz - 1 - n < j
        · have := hk _ j q hj.2; omega
        · omega)
      refine g_iload_n C dX3_findCorners_39 rfl ?_
      refine g_if_lt C dX3_findCorners_40 (tgt := 55) (by decide) (by omega) (fun h40 => ?_) (fun h40 => ?_)
      · exfalso; omega
      · refine g_aload_n C dX3_findCorners_43 rfl ?_
        refine g_iload_n C dX3_findCorners_44 rfl ?_
        refine g_top (show (sz : Int) - 2 - n = ((sz - 1 - (n + 1) : Nat) : Int) by omega) ?_
        refine g_iload_n C dX3_findCorners_45 rfl ?_
        refine g_top (show (top : Int) = ((top - 1 + 1 : Nat) : Int) by omega) ?_
        refine g_RV C (t_turnTo (S2 := fun i => sz - 1 - (n + 1) ≤ i ∧ i < sz) hR hr hz (show sz - 1 - (n + 1) < sz by omega) (by omega) (fun j hj => hj.2) hrd hP (fun j hj => by rw [kp_neg, kp_neg]; have := hk (sz - 1 - (n + 1)) j (by omega) hj.2; omega) (fun j hj => by show sz - 1 - j < sz - 1 - (sz - 1 - (n + 1)); omega) (fun j => by omega)) dX3_findCorners_46 KX3_turnTo LX3_53 IX3_turnTo VX3_turnTo (by decide) rfl (by assumption) rfl rfl rfl (Nat.le_of_ble_eq_true rfl) ?_
        intro r1 h1 hP1 hz1
        obtain ⟨rfl, rd', cn', r', hR, hm1, hrd', hch', hl', hsm', hcn'⟩ := hP1
        have hm := hm.tr hm1
        have hcr' := hch'.2.2.2.2.2.2 (cn' - 1) (by omega) (by omega)
        rw [hl'] at hcr'
        have hcr3 : cn' - 1 - (top - 1) ≤ sz - 1 - (sz - 1 - (n + 1)) := hcr'
        dsimp only [Option.toList, List.cons_append, List.nil_append]
        refine g_iincT C dX3_findCorners_49 (by decide) rfl (show _ = ((sz : Int) - 2 - ((n + 1 : Nat) : Int)) by omega) rfl ?_
        dsimp only [List.set]
        refine g_goto C dX3_findCorners_52 (tgt := 39) (by decide) ?_
        exact ih (n + 1) cn' _ rd' r' (by omega) (by omega) hR hm hrd' hch' hl' (fun e he => by rw [hsm' e (by omega)]; exact hsame e he)
  -- up along the right side
  have loop1 : ∀ (d n cn : Nat) (hh : ax_H) (rd : Nat → Int) (r : Nat → Nat), n + d + 1 = sz → cn ≤ 128 → rg_at hh a xs ys sz rd cn → ax_sm a (a + 4) h hh → (∀ e, e < cn → rd e = (r e : Int)) → ch_ok xs ys 1 1000 (fun i => i < n + 1) (fun i => i) r 0 cn → r 0 = 0 → r (cn - 1) = n → ax_G p9 l9 e9 R9 s9 m9 args9 below9 meth9 c9 b9 D9 dA9 MX3_findCorners.2.2.1 h.length (ax_sz h) Q9 (7) ([some (rv a), some (iv ((n + 1 : Nat) : Int)), none]) ([]) (hh) := by
    intro d
    induction d with
    | zero =>
      intro n cn hh rd r hn hc hR hm hrd hch he0 he1
      have ⟨h0, h1, h2, h3⟩ := hR
      have hlo := hch.1
      refine g_iload_n C dX3_findCorners_7 rfl ?_
      refine g_aload_n C dX3_findCorners_8 rfl ?_
      refine g_get C FX3_21 dX3_findCorners_9 (by assumption) rfl ?_
      refine g_icmp_ge C dX3_findCorners_12 (tgt := 27) (by decide) (by omega) (by omega) (fun h12 => ?_) (fun h12 => ?_)
      · refine g_aload_n C dX3_findCorners_27 rfl ?_
        refine g_get C FX3_50 dX3_findCorners_28 (by assumption) rfl ?_
        refine g_istore_n C dX3_findCorners_31 (by decide) rfl ?_
        dsimp only [List.set]
        refine g_aload_n C dX3_findCorners_32 rfl ?_
        refine g_get C FX3_21 dX3_findCorners_33 (by assumption) rfl ?_
        refine g_iconst C dX3_findCorners_36 ?_
        by_cases hs1 : sz = 1
        · have hcn1 : cn = 1 := by
            by_cases q : cn = 1
            · exact q
            · have q1 := hch.2.2.1 0 (by omega) (by omega)
              have q2 : r 0 < n + 1 := hch.2.1 0 (by omega) (by omega)
              have q3 : r (0 + 1) < n + 1 := hch.2.1 1 (by omega) (by omega)
              rw [show r 0 = r (0 + 1) by omega] at q1
              omega
          refine g_isub C dX3_findCorners_37 ?_
          refine g_istore_n C dX3_findCorners_38 (by decide) rfl ?_
          dsimp only [List.set]
          refine g_iload_n C dX3_findCorners_39 rfl ?_
          refine g_if_lt C dX3_findCorners_40 (tgt := 55) (by decide) (by omega) (fun h40 => ?_) (fun h40 => ?_)
          · refine g_aload_n C dX3_findCorners_55 rfl ?_
            refine g_get C FX3_21 dX3_findCorners_56 (by assumption) rfl ?_
            refine g_iconst C dX3_findCorners_59 ?_
            refine g_icmp_le C dX3_findCorners_60 (tgt := 73) (by decide) (by omega) (by omega) (fun h60 => ?_) (fun h60 => ?_)
            · refine g_aload_n C dX3_findCorners_73 rfl ?_
              exact kr _ _ _ _ dX3_findCorners_74 ⟨rfl, _, _, r, hR, hm, by omega, fun e he => ⟨hrd e he, by have : r e < n + 1 := hch.2.1 e (by omega) he; omega⟩, fun q => by omega, fun _ => ⟨hcn1, he0⟩, fun q => by omega⟩ hm.1
            · exfalso; omega
          · exfalso; omega
        · refine g_isub C dX3_findCorners_37 ?_
          refine g_istore_n C dX3_findCorners_38 (by decide) rfl ?_
          dsimp only [List.set]
          refine g_L (show _ = [some (rv a), some (iv (cn : Int)), some (iv ((sz : Int) - 2 - ((0 : Nat) : Int)))] by simp) ?_
          have hn9 : n + 1 = sz := by omega
          rw [hn9] at hch
          exact loop2 cn r hch he0 (by rw [he1]; omega) (by omega) (sz - 1) 0 cn hh rd r (by omega) (by omega) hR hm hrd (by
            have := ch_one (px := xs) (py := ys) (A := -1) (B := -1000) (rk := fun i => sz - 1 - i) (lo := cn - 1) (i := sz - 1) (r := r) (S := fun i => sz - 1 - 0 ≤ i ∧ i < sz) (by rw [he1]; omega) (fun j => by omega)
            rw [show cn - 1 + 1 = cn by omega] at this
            exact this) (by rw [he1]; omega) (fun e he => rfl)
      · exfalso; omega
    | succ d ih =>
      intro n cn hh rd r hn hc hR hm hrd hch he0 he1
      have ⟨h0, h1, h2, h3⟩ := hR
      have hlo := hch.1
      have hcr := hch.2.2.2.2.2.2 (cn - 1) (by omega) (by omega)
      rw [he1] at hcr
      have hcr' : cn - 1 - 0 ≤ n := hcr
      have hP := ch_pop.start (i := n + 1) hch (fun j hj hk2 => by
        rw [he1] at hk2 ⊢
        by_cases q : j < n
        · have := hk j n q (by omega); omega
        · have : j < n + 1 := hj; omega)
      refine g_iload_n C dX3_findCorners_7 rfl ?_
      refine g_aload_n C dX3_findCorners_8 rfl ?_
      refine g_get C FX3_21 dX3_findCorners_9 (by assumption) rfl ?_
      refine g_icmp_ge C dX3_findCorners_12 (tgt := 27) (by decide) (by omega) (by omega) (fun h12 => ?_) (fun h12 => ?_)
      · exfalso; omega
      · refine g_aload_n C dX3_findCorners_15 rfl ?_
        refine g_iload_n C dX3_findCorners_16 rfl ?_
        refine g_iconst C dX3_findCorners_17 ?_
        refine g_top (show (1 : Int) = ((0 + 1 : Nat) : Int) by rfl) ?_
        refine g_RV C (t_turnTo (S2 := fun i => i < n + 1 + 1) hR hr hz (show n + 1 < sz by omega) (by omega) (fun j hj => by have : j < n + 1 := hj; omega) hrd hP (fun j hj => hk j (n + 1) hj (by omega)) (fun j hj => hj) (fun j => by omega)) dX3_findCorners_18 KX3_turnTo LX3_53 IX3_turnTo VX3_turnTo (by decide) rfl (by assumption) rfl rfl rfl (Nat.le_of_ble_eq_true rfl) ?_
        intro r1 h1 hP1 hz1
        obtain ⟨rfl, rd', cn', r', hR, hm1, hrd', hch', hl', hsm', hcn'⟩ := hP1
        have hm := hm.tr hm1
        have hcr' := hch'.2.2.2.2.2.2 (cn' - 1) (by omega) (by omega)
        rw [hl'] at hcr'
        have hcr'' : cn' - 1 - 0 ≤ n + 1 := hcr'
        dsimp only [Option.toList, List.cons_append, List.nil_append]
        refine g_iinc C dX3_findCorners_21 (by decide) rfl rfl ?_
        dsimp only [List.set]
        refine g_goto C dX3_findCorners_24 (tgt := 7) (by decide) ?_
        exact ih (n + 1) cn' _ rd' r' (by omega) (by omega) hR hm hrd' hch' (by rw [hsm' 0 (by omega)]; exact he0) hl'
  have start : ∀ (hh : ax_H), rg_at hh a xs ys sz rd 0 → ax_sm a (a + 4) h hh → ax_G p9 l9 e9 R9 s9 m9 args9 below9 meth9 c9 b9 D9 dA9 MX3_findCorners.2.2.1 h.length (ax_sz h) Q9 (7) ([some (rv a), some (iv 0), none]) ([]) (hh) := by
    intro hh hR hm
    have ⟨h0, h1, h2, h3⟩ := hR
    by_cases hs0 : sz = 0
    · refine g_iload_n C dX3_findCorners_7 rfl ?_
      refine g_aload_n C dX3_findCorners_8 rfl ?_
      refine g_get C FX3_21 dX3_findCorners_9 (by assumption) rfl ?_
      refine g_icmp_ge C dX3_findCorners_12 (tgt := 27) (by decide) (by omega) (by omega) (fun h12 => ?_) (fun h12 => ?_)
      · refine g_aload_n C dX3_findCorners_27 rfl ?_
        refine g_get C FX3_50 dX3_findCorners_28 (by assumption) rfl ?_
        refine g_istore_n C dX3_findCorners_31 (by decide) rfl ?_
        dsimp only [List.set]
        refine g_aload_n C dX3_findCorners_32 rfl ?_
        refine g_get C FX3_21 dX3_findCorners_33 (by assumption) rfl ?_
        refine g_iconst C dX3_findCorners_36 ?_
        refine g_isub C dX3_findCorners_37 ?_
        refine g_istore_n C dX3_findCorners_38 (by decide) rfl ?_
        dsimp only [List.set]
        refine g_iload_n C dX3_findCorners_39 rfl ?_
        refine g_if_lt C dX3_findCorners_40 (tgt := 55) (by decide) (by omega) (fun h40 => ?_) (fun h40 => ?_)
        · refine g_aload_n C dX3_findCorners_55 rfl ?_
          refine g_get C FX3_21 dX3_findCorners_56 (by assumption) rfl ?_
          refine g_iconst C dX3_findCorners_59 ?_
          refine g_icmp_le C dX3_findCorners_60 (tgt := 73) (by decide) (by omega) (by omega) (fun h60 => ?_) (fun h60 => ?_)
          · refine g_aload_n C dX3_findCorners_73 rfl ?_
            exact kr _ _ _ _ dX3_findCorners_74 ⟨rfl, _, _, fun _ => 0, hR, hm, by omega, fun e he => by omega, fun _ => rfl, fun q => by omega, fun q => by omega⟩ hm.1
          · exfalso; omega
        · exfalso; omega
      · exfalso; omega
    · refine g_iload_n C dX3_findCorners_7 rfl ?_
      refine g_aload_n C dX3_findCorners_8 rfl ?_
      refine g_get C FX3_21 dX3_findCorners_9 (by assumption) rfl ?_
      refine g_icmp_ge C dX3_findCorners_12 (tgt := 27) (by decide) (by omega) (by omega) (fun h12 => ?_) (fun h12 => ?_)
      · exfalso; omega
      · refine g_aload_n C dX3_findCorners_15 rfl ?_
        refine g_iload_n C dX3_findCorners_16 rfl ?_
        refine g_iconst C dX3_findCorners_17 ?_
        refine g_RV C (t_turnTo0 (i := 0) hR) dX3_findCorners_18 KX3_turnTo LX3_53 IX3_turnTo VX3_turnTo (by decide) rfl (by assumption) rfl rfl rfl (Nat.le_of_ble_eq_true rfl) ?_
        intro r1 h1 hP1 hz1
        obtain ⟨rfl, hR, hm1⟩ := hP1
        have hm := hm.tr hm1
        dsimp only [Option.toList, List.cons_append, List.nil_append]
        refine g_iinc C dX3_findCorners_21 (by decide) rfl rfl ?_
        dsimp only [List.set]
        refine g_goto C dX3_findCorners_24 (tgt := 7) (by decide) ?_
        exact loop1 (sz - 1) 0 1 _ (va_up rd 0 ((0 : Nat) : Int)) (fun _ => 0) (by omega) (by omega) hR hm (fun e he => by simp [show e = 0 by omega, va_up]) (ch_one (i := 0) rfl (fun j => by omega)) rfl rfl
  have ⟨h0, h1, h2, h3⟩ := hR
  refine g_aload_n C dX3_findCorners_0 rfl ?_
  refine g_iconst C dX3_findCorners_1 ?_
  refine g_put C FX3_50 dX3_findCorners_2 (by assumption) rfl rfl (Nat.le_of_ble_eq_true rfl) ?_
  dsimp only [List.set]
  refine rg_s_cn 0 rfl hR hm ?_
  intro h9 hR hm
  refine g_iconst C dX3_findCorners_5 ?_
  refine g_istore_n C dX3_findCorners_6 (by decide) rfl ?_
  dsimp only [List.set]
  exact start _ hR hm
