/-! the world when both objects are born -/
theorem boL_get : ∀ (n i r : Nat), i < n → r < 4 → (boL n)[4 * i + r]? = (boC (121 + 4 * i))[r]?
  | 0, i, r, h, _ => absurd h (Nat.not_lt_zero i)
  | n + 1, i, r, h, hr => by
    rw [boL]
    by_cases q : i < n
    · rw [List.getElem?_append_left (by rw [boL_len]; omega)]
      exact boL_get n i r q hr
    · have e : i = n := by omega
      subst e
      rw [List.getElem?_append_right (by rw [boL_len]; omega), boL_len, show 4 * i + r - 4 * i = r by omega]
theorem mxH_T {j : Nat} : mxH[3 + j]? = (mxU ++ boL 12)[j]? := by
  rw [Nat.add_comm]; rfl
theorem mxH_bo {i r : Nat} (hi : i < 12) (hr : r < 4) : mxH[121 + 4 * i + r]? = (boC (121 + 4 * i))[r]? := by
  rw [show 121 + 4 * i + r = 3 + (118 + (4 * i + r)) by omega, mxH_T, List.getElem?_append_right (by rw [mxU_len]; omega), mxU_len, show 118 + (4 * i + r) - 118 = 4 * i + r by omega]
  exact boL_get 12 i r hi hr
theorem mxH_mu {j : Nat} (hj : j < 14) : mxH[107 + j]? = muC[j]? := by
  rw [show 107 + j = 3 + (104 + j) by omega, mxH_T, List.getElem?_append_left (by rw [mxU_len]; omega), mxU, List.getElem?_append_right (by rw [mxT_len]; omega), mxT_len, show 104 + j - 104 = j by omega]
theorem mxH_cu {j : Nat} (hj : j < 100) : mxH[7 + j]? = (cuD 7 94 94)[j]? := by
  rw [show 7 + j = 3 + (4 + j) by omega, mxH_T, List.getElem?_append_left (by rw [mxU_len]; omega), mxU, List.getElem?_append_left (by rw [mxT_len]; omega), mxT, List.getElem?_append_right (by rw [rgC_len]; omega), rgC_len, show 4 + j - 4 = j by omega]
theorem mxH_rg {j : Nat} (hj : j < 4) : mxH[3 + j]? = (rgC 3)[j]? := by
  rw [mxH_T, List.getElem?_append_left (by rw [mxU_len]; omega), mxU, List.getElem?_append_left (by rw [mxT_len]; omega), mxT, List.getElem?_append_left (by rw [rgC_len]; omega)]
theorem mxH_cel {i : Nat} (hi : i < 94) : mxH[13 + i]? = some cel := by
  rw [show 13 + i = 7 + (6 + i) by omega, mxH_cu (by omega), show 6 + i = i + 1 + 1 + 1 + 1 + 1 + 1 by omega]
  unfold cuD
  simp only [List.getElem?_cons_succ, List.getElem?_replicate, if_pos hi]
theorem bl_ok_nil : bl_ok [] := ⟨⟨by decide, fun k hk => absurd hk (Nat.not_lt_zero k)⟩, fun i j hi => absurd hi (Nat.not_lt_zero i)⟩
theorem wd_new {h : ax_H} (hg : ∀ (j : Nat) (e : ax_E), mxH[j]? = some e → h[j]? = some e) : wd h (fun _ => []) (fun _ => []) 0 := by
  have hb : ∀ i, i < 12 → bl_at h (121 + 4 * i) [] := fun i hi =>
    ⟨fun _ => 0, fun _ => 0, fun _ => 0, ⟨hg _ _ (mxH_bo (r := 0) hi (by decide)), hg _ _ (mxH_bo (r := 1) hi (by decide)), hg _ _ (mxH_bo (r := 2) hi (by decide)), hg _ _ (mxH_bo (r := 3) hi (by decide))⟩, fun k hk => absurd hk (Nat.not_lt_zero k)⟩
  refine ⟨⟨hg 0 _ rfl, ⟨ixF 121 4, hg 1 _ rfl, fun i hi => if_pos hi⟩, ⟨ixF 137 8, hg 2 _ rfl, fun i hi => if_pos hi⟩, ⟨fun j => some (107 + 1 + j), hg 107 _ (mxH_mu (j := 0) (by decide)), fun i hi => rfl⟩⟩, ⟨fun _ => 0, fun _ => 0, 0, fun _ => 0, 0, hg 3 _ (mxH_rg (j := 0) (by decide)), hg 4 _ (mxH_rg (j := 1) (by decide)), hg 5 _ (mxH_rg (j := 2) (by decide)), hg 6 _ (mxH_rg (j := 3) (by decide))⟩, ?_, fun i hi => ⟨fun _ => 0, ?_⟩, fun i hi => hb i (by omega), fun i hi => ?_, fun _ _ => bl_ok_nil, fun _ _ => bl_ok_nil, by decide⟩
  · refine ⟨fdI 7 94, 0, fun _ => 0, fun _ => 0, fun _ => 0, fun _ => 0, 0, fun i => 13 + i, ⟨hg 7 _ (mxH_cu (j := 0) (by decide)), hg 8 _ (mxH_cu (j := 1) (by decide)), hg 9 _ (mxH_cu (j := 2) (by decide)), hg 10 _ (mxH_cu (j := 3) (by decide)), hg 11 _ (mxH_cu (j := 4) (by decide)), hg 12 _ (mxH_cu (j := 5) (by decide))⟩, fun i hi => if_pos hi, fun i hi => ⟨by show 7 + 6 ≤ 13 + i; omega, by show 13 + i < 7 + 100; omega⟩, fun i j _ _ q => by have q2 : 13 + i = 13 + j := q; omega, fun i hi => ⟨0, 0, 0, 0, 0, 0, hg _ _ (mxH_cel hi)⟩⟩
  · refine hg _ _ ?_
    rw [show 108 + i = 107 + (i + 1) by omega, mxH_mu (by omega)]
    show (List.replicate 13 (zA 13))[i]? = _
    rw [List.getElem?_replicate, if_pos hi]
    rfl
  · have := hb (4 + i) (by omega)
    rw [show 121 + 4 * (4 + i) = 137 + 4 * i by omega] at this
    exact this
theorem mw_new {h : ax_H} {a : Nat} (hg : ∀ (j : Nat) (e : ax_E), (moC a)[j]? = some e → h[a + j]? = some e) : mw h a (fun _ => []) (fun _ => []) 0 := by
  refine ⟨(fun _ => 0, fun _ => 0, fun _ => 0), (fun _ => 0, fun _ => 0, fun _ => 0, 0, fun _ => 0, fun _ => 0), fun _ => 0, fun _ => 0, 0, fun _ => 0, 0, ⟨hg 0 _ rfl, hg 1 _ rfl, hg 2 _ rfl, hg 3 _ rfl, hg 4 _ rfl, hg 5 _ rfl, hg 6 _ rfl, hg 7 _ rfl, hg 8 _ rfl, hg 9 _ rfl, hg 10 _ rfl, hg 11 _ rfl⟩, fun b _ => ⟨rfl, fun k hk => absurd hk (Nat.not_lt_zero k)⟩, fun _ _ => bl_ok_nil, fun k _ => ⟨fun b _ => ⟨rfl, fun k hk => absurd hk (Nat.not_lt_zero k)⟩, fun _ _ => bl_ok_nil⟩, fun k _ => ?_, by decide⟩
  show (0 : Int) = ((0 / 2 ^ k % 2 : Nat) : Int)
  rw [Nat.zero_div]
  rfl
/-! what one object does leaves the other -/
theorem wd.hi {h h1 : ax_H} {B K : Nat → List Pt3} {km : Nat} (H : wd h B K km) (S : ax_sm 169 (169 + 12) h h1) : wd h1 B K km := by
  obtain ⟨a1, a2, a3, a4, a5, a6, a7⟩ := H
  exact ⟨a1.sm S (by omega), a2.sm S (by omega), a3.sm S (by omega), a4.sm S (by omega), fun i hi => (a5 i hi).sm S (by omega), fun i hi => (a6 i hi).sm S (by omega), a7⟩
theorem mw.lo {h h1 : ax_H} {B K : Nat → List Pt3} {km : Nat} (H : mw h 169 B K km) (S : ax_sm 0 169 h h1) : mw h1 169 B K km := by
  obtain ⟨s, c, xs, ys, pt, co, cc, M, q⟩ := H
  exact ⟨s, c, xs, ys, pt, co, cc, M.sm S (by omega), q⟩
theorem mw.ob0 {h : ax_H} {a : Nat} {B K : Nat → List Pt3} {km : Nat} (H : mw h a B K km) : ∃ fs, h[a]? = some (.inr (5, fs)) := by
  obtain ⟨s, c, xs, ys, pt, co, cc, M, q⟩ := H
  exact ⟨_, M.1⟩
theorem wd.ob0 {h : ax_H} {B K : Nat → List Pt3} {km : Nat} (H : wd h B K km) : ∃ fs, h[0]? = some (.inr (4, fs)) := ⟨_, H.1.1⟩
/-- the heap when both objects are made -/
theorem born : wd (mxH ++ moC 169) (fun _ => []) (fun _ => []) 0 ∧ mw (mxH ++ moC 169) 169 (fun _ => []) (fun _ => []) 0 := by
  have fL : mxH.length = 169 := mxW_len
  refine ⟨wd_new fun j e he => ?_, mw_new fun j e he => ?_⟩
  · rw [List.getElem?_append_left (List.getElem?_eq_some_iff.mp he).1]
    exact he
  · rw [show 169 + j = mxH.length + j by rw [fL], getA]
    exact he
