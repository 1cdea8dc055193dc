/-! Body -/
def bo_at (h : ax_H) (a : Nat) (X Y V : Nat → Int) (n : Nat) : Prop := h[a]? = some (.inr (0, [rv (a + 1), rv (a + 2), rv (a + 3), iv (n : Int)])) ∧ h[a + 1]? = some (.inl (0, 7, .inl X)) ∧ h[a + 2]? = some (.inl (0, 7, .inl Y)) ∧ h[a + 3]? = some (.inl (0, 7, .inl V))
def bo_find (X Y : Nat → Int) (x y : Int) : Nat → Nat → Int
  | 0, _ => -1
  | d + 1, k => if X k = x ∧ Y k = y then (k : Int) else bo_find X Y x y d (k + 1)
def bo_ok (X Y V : Nat → Int) (n : Nat) : Prop := n ≤ 7 ∧ ∀ k, k < n → (0 ≤ X k ∧ X k ≤ 12) ∧ (0 ≤ Y k ∧ Y k ≤ 12) ∧ (0 ≤ V k ∧ V k ≤ 50)
theorem t_find {h : ax_H} {a n : Nat} {X Y V : Nat → Int} (hB : bo_at h a X Y V n) (ho : bo_ok X Y V n) {x y : Int} (hx : -2147483648 ≤ x ∧ x < 2147483648) (hy : -2147483648 ≤ y ∧ y < 2147483648) : ax_Met MX0_find [rv a, iv x, iv y] h (some (iv (bo_find X Y x y n 0))) h := by
  obtain ⟨h0, h1, h2, h3⟩ := hB
  refine ax_mi (L0 := [some (rv a), some (iv x), some (iv y), none]) rfl rfl (Nat.le_refl _) (Nat.le_refl _) (Nat.le_of_ble_eq_true rfl) rfl ?_
  intro p l e R s m args below meth c b D dA Q C kr
  have loop : ∀ (d k : Nat), k + d = n → bo_find X Y x y n 0 = bo_find X Y x y d k → ax_G p l e R s m args below meth c b D dA MX0_find.2.2.1 h.length (ax_sz h) Q (2) ([some (rv a), some (iv x), some (iv y), some (iv (k : Int))]) ([]) (h) := by
    intro d
    induction d with
    | zero =>
      intro k hk e
      have hn := ho.1
      refine g_iload_n C dX0_find_2 rfl ?_
      refine g_aload_n C dX0_find_3 rfl ?_
      refine g_get C FX0_21 dX0_find_4 (by assumption) rfl ?_
      refine g_icmp_ge C dX0_find_7 (tgt := 38) (by decide) (by omega) (by omega) (fun h7 => ?_) (fun h7 => ?_)
      · refine g_iconst C dX0_find_38 ?_
        exact kr _ _ _ dX0_find_39 (congrArg (fun z => some (iv z)) e)
      · exfalso; omega
    | succ d ih =>
      intro k hk e
      have hn := ho.1
      have hb := ho.2 k (by omega)
      rw [bo_find] at e
      refine g_iload_n C dX0_find_2 rfl ?_
      refine g_aload_n C dX0_find_3 rfl ?_
      refine g_get C FX0_21 dX0_find_4 (by assumption) rfl ?_
      refine g_icmp_ge C dX0_find_7 (tgt := 38) (by decide) (by omega) (by omega) (fun h7 => ?_) (fun h7 => ?_)
      · exfalso; omega
      · refine g_aload_n C dX0_find_10 rfl ?_
        refine g_get C FX0_9 dX0_find_11 (by assumption) rfl ?_
        refine g_iload_n C dX0_find_14 rfl ?_
        refine g_iald C dX0_find_15 (by assumption) rfl (by omega) (by decide) ?_
        refine g_iload_n C dX0_find_16 rfl ?_
        refine g_icmp_ne C dX0_find_17 (tgt := 32) (by decide) (by omega) (by omega) (fun h17 => ?_) (fun h17 => ?_)
        · rw [if_neg (by omega)] at e
          refine g_iinc C dX0_find_32 (by decide) rfl rfl ?_
          dsimp only [List.set]
          refine g_goto C dX0_find_35 (tgt := 2) (by decide) ?_
          exact ih (k + 1) (by omega) e
        · refine g_aload_n C dX0_find_20 rfl ?_
          refine g_get C FX0_15 dX0_find_21 (by assumption) rfl ?_
          refine g_iload_n C dX0_find_24 rfl ?_
          refine g_iald C dX0_find_25 (by assumption) rfl (by omega) (by decide) ?_
          refine g_iload_n C dX0_find_26 rfl ?_
          refine g_icmp_ne C dX0_find_27 (tgt := 32) (by decide) (by omega) (by omega) (fun h27 => ?_) (fun h27 => ?_)
          · rw [if_neg (by omega)] at e
            refine g_iinc C dX0_find_32 (by decide) rfl rfl ?_
            dsimp only [List.set]
            refine g_goto C dX0_find_35 (tgt := 2) (by decide) ?_
            exact ih (k + 1) (by omega) e
          · rw [if_pos ⟨h17, h27⟩] at e
            refine g_iload_n C dX0_find_30 rfl ?_
            exact kr _ _ _ dX0_find_31 (congrArg (fun z => some (iv z)) e)
  refine g_iconst C dX0_find_0 ?_
  refine g_istore_n C dX0_find_1 (by decide) rfl ?_
  dsimp only [List.set]
  exact loop n 0 (by omega) rfl
