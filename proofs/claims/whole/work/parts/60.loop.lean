/-! the law's loop -/
theorem law_loop {p : Program} {l : Launch} {e : Env} {R : Room} {s : State} {m : MethodId} {args : Array Value} {below : List Frame} {meth : Method} {c : Code} {b : Nat} {D : va_G} {dA : Nat → ClassId} {z0 : Nat} {Q : State → Prop} {bs N : Nat} {xs : Nat → Int32} (C : ax_C p R s m args meth c b D dA 4 0 code RL 10) (X : va_X bs N xs s s.heap) (hb : s.heap.size = b) (hbs : bs < s.heap.size) (hN : N ≤ 2560) (kr : ∀ (L : List (Option ax_V)) (h : ax_H), lw_J p l e R s m args below meth c b D dA 4 0 z0 Q bs 774 L [iv 1] h) :
    ∀ (n i : Nat), N < i + 5 * n → i ≤ N + 5 → ∀ (B K : Nat → List Pt3) (km : Nat) (h : ax_H), wd h B K km → mw h 169 B K km → lw_J p l e R s m args below meth c b D dA 4 0 z0 Q bs 18 [none, some (rv 0), some (rv 169), some (iv (i : Int))] [] h := by
  intro n
  induction n with
  | zero =>
    intro i h1 h2 B K km h Hw Hm
    refine j_iload_n C dL_law_18 rfl ?_
    refine j_slen C X hb hbs dL_law_19 dL_law_20 ?_
    refine j_iconst C dL_law_21 ?_
    refine j_isub C dL_law_22 ?_
    refine j_icmp_gt C dL_law_23 (tgt := 773) (by decide) (by omega) (by omega) (fun h23 => ?_) (fun h23 => ?_)
    · refine j_iconst C dL_law_773 ?_
      exact kr _ _
    · exfalso; omega
  | succ n ih =>
    intro i h1 h2 B K km h Hw Hm
    refine j_iload_n C dL_law_18 rfl ?_
    refine j_slen C X hb hbs dL_law_19 dL_law_20 ?_
    refine j_iconst C dL_law_21 ?_
    refine j_isub C dL_law_22 ?_
    refine j_icmp_gt C dL_law_23 (tgt := 773) (by decide) (by omega) (by omega) (fun h23 => ?_) (fun h23 => ?_)
    · refine j_iconst C dL_law_773 ?_
      exact kr _ _
    · have hi : i + 5 ≤ N := by omega
      have k : ∀ (B2 K2 : Nat → List Pt3) (km2 : Nat) (h2 : ax_H), wd h2 B2 K2 km2 → mw h2 169 B2 K2 km2 → lw_J p l e R s m args below meth c b D dA 4 0 z0 Q bs 767 [none, some (rv 0), some (rv 169), some (iv (i : Int))] [] h2 := fun B2 K2 km2 h2 Hw2 Hm2 => by
        refine j_iinc C dL_law_767 (by decide) (by decide) rfl (show _ = ((i + 5 : Nat) : Int) by omega) rfl ?_
        dsimp only [List.set]
        refine j_goto C dL_law_770 (tgt := 18) (by decide) ?_
        exact ih (i + 5) (by omega) (by omega) B2 K2 km2 h2 Hw2 Hm2
      refine j_sld0 C X hb hbs dL_law_26 dL_law_27 dL_law_28 rfl (by omega) (by omega) ?_
      refine j_bipush C dL_law_29 (by decide) ?_
      obtain ⟨z, hz, z1, z2⟩ := and31z ((xs i).toInt)
      refine j_iand C dL_law_31 hz ?_
      rcases (show z = 0 ∨ z = 1 ∨ z = 2 ∨ z = 3 ∨ z = 4 ∨ z = 5 ∨ z = 6 ∨ z = 7 ∨ z = 8 ∨ z = 9 ∨ z = 10 ∨ z = 11 ∨ z = 12 ∨ z = 13 ∨ z = 14 ∨ z = 15 ∨ z = 16 ∨ 16 < z by omega) with rfl | rfl | rfl | rfl | rfl | rfl | rfl | rfl | rfl | rfl | rfl | rfl | rfl | rfl | rfl | rfl | rfl | hz
      · refine j_tableIn C dL_law_32 (off := 84) (tgt := 116) (by decide) (by decide) (by decide) (by decide) (by decide) ?_
        exact lc_put C X hb hbs hN hi Hw Hm k
      · refine j_tableIn C dL_law_32 (off := 137) (tgt := 169) (by decide) (by decide) (by decide) (by decide) (by decide) ?_
        exact lc_take C X hb hbs hN hi Hw Hm k
      · refine j_tableIn C dL_law_32 (off := 170) (tgt := 202) (by decide) (by decide) (by decide) (by decide) (by decide) ?_
        exact lc_clear C X hb hbs hN hi Hw Hm k
      · refine j_tableIn C dL_law_32 (off := 193) (tgt := 225) (by decide) (by decide) (by decide) (by decide) (by decide) ?_
        exact lc_point C X hb hbs hN hi Hw Hm k
      · refine j_tableIn C dL_law_32 (off := 236) (tgt := 268) (by decide) (by decide) (by decide) (by decide) (by decide) ?_
        exact lc_hull C X hb hbs hN hi Hw Hm k
      · refine j_tableIn C dL_law_32 (off := 269) (tgt := 301) (by decide) (by decide) (by decide) (by decide) (by decide) ?_
        exact lc_corner C X hb hbs hN hi Hw Hm k
      · refine j_tableIn C dL_law_32 (off := 302) (tgt := 334) (by decide) (by decide) (by decide) (by decide) (by decide) ?_
        exact lc_sum C X hb hbs hN hi Hw Hm k
      · refine j_tableIn C dL_law_32 (off := 345) (tgt := 377) (by decide) (by decide) (by decide) (by decide) (by decide) ?_
        exact lc_sumCorner C X hb hbs hN hi Hw Hm k
      · refine j_tableIn C dL_law_32 (off := 398) (tgt := 430) (by decide) (by decide) (by decide) (by decide) (by decide) ?_
        exact lc_cells C X hb hbs hN hi Hw Hm k
      · refine j_tableIn C dL_law_32 (off := 441) (tgt := 473) (by decide) (by decide) (by decide) (by decide) (by decide) ?_
        exact lc_cell C X hb hbs hN hi Hw Hm k
      · refine j_tableIn C dL_law_32 (off := 494) (tgt := 526) (by decide) (by decide) (by decide) (by decide) (by decide) ?_
        exact lc_slope C X hb hbs hN hi Hw Hm k
      · refine j_tableIn C dL_law_32 (off := 547) (tgt := 579) (by decide) (by decide) (by decide) (by decide) (by decide) ?_
        exact lc_low C X hb hbs hN hi Hw Hm k
      · refine j_tableIn C dL_law_32 (off := 590) (tgt := 622) (by decide) (by decide) (by decide) (by decide) (by decide) ?_
        exact lc_fan C X hb hbs hN hi Hw Hm k
      · refine j_tableIn C dL_law_32 (off := 623) (tgt := 655) (by decide) (by decide) (by decide) (by decide) (by decide) ?_
        exact lc_roots C X hb hbs hN hi Hw Hm k
      · refine j_tableIn C dL_law_32 (off := 666) (tgt := 698) (by decide) (by decide) (by decide) (by decide) (by decide) ?_
        exact lc_image C X hb hbs hN hi Hw Hm k
      · refine j_tableIn C dL_law_32 (off := 689) (tgt := 721) (by decide) (by decide) (by decide) (by decide) (by decide) ?_
        exact lc_restore C X hb hbs hN hi Hw Hm k
      · refine j_tableIn C dL_law_32 (off := 712) (tgt := 744) (by decide) (by decide) (by decide) (by decide) (by decide) ?_
        exact lc_count C X hb hbs hN hi Hw Hm k
      · refine j_tableOut C dL_law_32 (tgt := 767) (by omega) (by omega) (by decide) ?_
        exact k B K km h Hw Hm
