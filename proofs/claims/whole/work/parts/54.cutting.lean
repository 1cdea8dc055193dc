/-! the constructor of Cutting -/
def cel : ax_E := .inr (1, [iv 0, iv 0, iv 0, iv 0, iv 0, iv 0])
def fdI (a i k : Nat) : Option Nat := if k < i then some (a + 6 + k) else none
def cuD (a i j : Nat) : ax_H := .inr (2, [rv (a + 1), iv 0, rv (a + 2), rv (a + 3), rv (a + 4), rv (a + 5), iv 0]) :: .inl (3, 94, .inr (fdI a i)) :: zA 42 :: zA 42 :: zA 42 :: zA 42 :: List.replicate j cel
theorem getA {g k : ax_H} {j : Nat} : (g ++ k)[g.length + j]? = k[j]? := by
  rw [List.getElem?_append_right (by omega), show g.length + j - g.length = j by omega]
theorem setA {g k : ax_H} {j : Nat} {v : ax_E} : (g ++ k).set (g.length + j) v = g ++ k.set j v := by
  rw [List.set_append_right _ _ (by omega), show g.length + j - g.length = j by omega]
theorem sz_rep (j : Nat) : ax_sz (List.replicate j cel) = 6 * j := by
  induction j with
  | zero => rfl
  | succ j ih => rw [List.replicate_succ, show cel :: List.replicate j cel = [cel] ++ List.replicate j cel from rfl, sz_app, ih, show ax_sz [cel] = 6 from rfl]; omega
theorem cuD_len (a i j : Nat) : (cuD a i j).length = 6 + j := by simp [cuD]; omega
theorem cuD_sz (a i j : Nat) : ax_sz (cuD a i j) = 269 + 6 * j := by
  rw [show cuD a i j = [.inr (2, [rv (a + 1), iv 0, rv (a + 2), rv (a + 3), rv (a + 4), rv (a + 5), iv 0]), .inl (3, 94, .inr (fdI a i)), zA 42, zA 42, zA 42, zA 42] ++ List.replicate j cel from rfl, sz_app, sz_rep]
  rfl
theorem n_Cutting {g h : ax_H} (e : h = g ++ [.inr (2, [nv, iv 0, nv, nv, nv, nv, iv 0])]) : ax_Met MX2_init [rv g.length] h none (g ++ cuD g.length 94 94) := by
  have eL : h.length = g.length + 1 := by rw [e]; simp
  have eZ : ax_sz h = ax_sz g + 7 := by rw [e, sz_app]; rfl
  have fL : (g ++ cuD g.length 94 94).length = g.length + 100 := by rw [List.length_append, cuD_len]
  have fZ : ax_sz (g ++ cuD g.length 94 94) = ax_sz g + 833 := by rw [sz_app, cuD_sz]
  refine ax_mv (L0 := [some (rv g.length), none]) rfl rfl (by omega) (by omega) (Nat.le_of_ble_eq_true rfl) rfl ?_
  intro p9 l9 e9 R9 s9 m9 args9 below9 meth9 c9 b9 D9 dA9 Q9 C hnm hcc hss kr
  rw [fL, eL] at hcc
  rw [fZ, eZ] at hss
  have loop : ∀ (d i : Nat), i + d = 94 → ax_G p9 l9 e9 R9 s9 m9 args9 below9 meth9 c9 b9 D9 dA9 MX2_init.2.2.1 h.length (ax_sz h) Q9 (47) ([some (rv g.length), some (iv (i : Int))]) ([]) (g ++ cuD g.length i i) := by
    intro d
    induction d with
    | zero =>
      intro i hi
      have ei : i = 94 := by omega
      subst ei
      have q0 : (g ++ cuD g.length 94 94)[g.length]? = some (.inr (2, [rv (g.length + 1), iv 0, rv (g.length + 2), rv (g.length + 3), rv (g.length + 4), rv (g.length + 5), iv 0])) := getA (j := 0)
      have q1 : (g ++ cuD g.length 94 94)[g.length + 1]? = some (.inl (3, 94, .inr (fdI g.length 94))) := getA (j := 1)
      refine g_iload_n C dX2_init_47 rfl ?_
      refine g_aload_n C dX2_init_48 rfl ?_
      refine g_get C FX2_13 dX2_init_49 (by assumption) rfl ?_
      refine g_alen C dX2_init_52 (by assumption) rfl ?_
      refine g_icmp_ge C dX2_init_53 (tgt := 75) (by decide) (by omega) (by omega) (fun h53 => ?_) (fun h53 => ?_)
      · exact kr _ _ dX2_init_75
      · exfalso; omega
    | succ d ih =>
      intro i hi
      have q0 : (g ++ cuD g.length i i)[g.length]? = some (.inr (2, [rv (g.length + 1), iv 0, rv (g.length + 2), rv (g.length + 3), rv (g.length + 4), rv (g.length + 5), iv 0])) := getA (j := 0)
      have q1 : (g ++ cuD g.length i i)[g.length + 1]? = some (.inl (3, 94, .inr (fdI g.length i))) := getA (j := 1)
      have e1 : (g ++ cuD g.length i i) ++ [cel] = g ++ cuD g.length i (i + 1) := by
        rw [List.append_assoc]
        congr 1
        unfold cuD
        rw [List.replicate_succ']
        rfl
      have e2 : (g ++ cuD g.length i i).length = g.length + 6 + i := by rw [List.length_append, cuD_len]; omega
      have p1 : (g ++ cuD g.length i (i + 1))[g.length + 1]? = some (.inl (3, 94, .inr (fdI g.length i))) := getA (j := 1)
      have p2 : (g ++ cuD g.length i (i + 1))[g.length + 6 + i]? = some cel := by
        rw [show g.length + 6 + i = g.length + (6 + i) by omega, getA, show 6 + i = i + 1 + 1 + 1 + 1 + 1 + 1 by omega]
        unfold cuD
        simp
      have e3 : (g ++ cuD g.length i (i + 1)).set (g.length + 1) (.inl (3, 94, .inr (va_up (fdI g.length i) i (some (g.length + 6 + i))))) = g ++ cuD g.length (i + 1) (i + 1) := by
        have ef : va_up (fdI g.length i) i (some (g.length + 6 + i)) = fdI g.length (i + 1) := by
          funext k
          unfold va_up fdI
          by_cases z : k = i
          · rw [if_pos z, if_pos (by omega), z]
          · rw [if_neg z]
            by_cases z2 : k < i
            · rw [if_pos z2, if_pos (by omega)]
            · rw [if_neg z2, if_neg (by omega)]
        rw [ef, setA]
        rfl
      refine g_iload_n C dX2_init_47 rfl ?_
      refine g_aload_n C dX2_init_48 rfl ?_
      refine g_get C FX2_13 dX2_init_49 (by assumption) rfl ?_
      refine g_alen C dX2_init_52 (by assumption) rfl ?_
      refine g_icmp_ge C dX2_init_53 (tgt := 75) (by decide) (by omega) (by omega) (fun h53 => ?_) (fun h53 => ?_)
      · exfalso; omega
      · refine g_aload_n C dX2_init_56 rfl ?_
        refine g_get C FX2_13 dX2_init_57 (by assumption) rfl ?_
        refine g_iload_n C dX2_init_60 rfl ?_
        refine g_new C NX2_11 dX2_init_61 (by rw [e2]; omega) (by rw [sz_app, cuD_sz]; omega) ?_
        refine g_hp e1 ?_
        refine g_st (show _ = [rv (g.length + 6 + i), iv (i : Int), rv (g.length + 1)] by rw [e2]) ?_
        refine g_dup C dX2_init_64 ?_
        refine g_callIN C (by have q := n_Cell (g := List.replicate (g.length + 6 + i) cel) (h := g ++ cuD g.length i (i + 1)); rw [List.length_replicate] at q; exact q) dX2_init_65 KX1_init rfl rfl LX2_30 IX1_init (by decide) rfl rfl (Nat.le_of_ble_eq_true rfl) (by rw [List.length_append, cuD_len]; omega) (by rw [sz_app, cuD_sz]; omega) ?_
        refine g_aast C dX2_init_68 p1 rfl p2 rfl rfl (by omega) (by decide) ?_
        refine g_hp e3 ?_
        refine g_iinc C dX2_init_69 (by decide) rfl rfl ?_
        dsimp only [List.set]
        refine g_goto C dX2_init_72 (tgt := 47) (by decide) ?_
        exact ih (i + 1) (by omega)
  refine g_aload_n C dX2_init_0 rfl ?_
  refine g_objInit C dX2_init_1 LX2_3 IObj KObj (by decide) (Nat.le_of_ble_eq_true rfl) ?_
  refine g_aload_n C dX2_init_4 rfl ?_
  refine g_bipush C dX2_init_5 (by decide) ?_
  refine g_newq C (t := 3) (n := 94) dX2_init_7 PX2_11 AOX1 rfl rfl (by decide) (by omega) (by omega) ?_
  refine g_hp (show _ = g ++ [.inr (2, [nv, iv 0, nv, nv, nv, nv, iv 0]), .inl (3, 94, .inr (fun _ => none))] by rw [e]; simp) ?_
  refine g_st (show _ = [rv (g.length + 1), rv g.length] by rw [eL]) ?_
  refine g_putF C FX2_13 hnm (fun q hq => by cases hq; rfl) dX2_init_10 (show (g ++ [.inr (2, [nv, iv 0, nv, nv, nv, nv, iv 0]), .inl (3, 94, .inr (fun _ => none))])[g.length]? = some (.inr (2, [nv, iv 0, nv, nv, nv, nv, iv 0])) by simp) rfl rfl (Nat.le_of_ble_eq_true rfl) ?_
  dsimp only [List.set]
  refine g_hp (show _ = g ++ [.inr (2, [rv (g.length + 1), iv 0, nv, nv, nv, nv, iv 0]), .inl (3, 94, .inr (fun _ => none))] by simp) ?_
  refine g_aload_n C dX2_init_13 rfl ?_
  refine g_bipush C dX2_init_14 (by decide) ?_
  refine g_newi C dX2_init_16 AWi (n := 42) rfl (by decide) (by rw [List.length_append]; simp only [List.length_cons, List.length_nil]; omega) (by rw [sz_app, show ax_sz [.inr (2, [rv (g.length + 1), iv 0, nv, nv, nv, nv, iv 0]), .inl (3, 94, .inr (fun _ => none))] = 101 from rfl]; omega) ?_
  refine g_hp (show _ = g ++ [.inr (2, [rv (g.length + 1), iv 0, nv, nv, nv, nv, iv 0]), .inl (3, 94, .inr (fun _ => none)), zA 42] by simp [zA]) ?_
  refine g_st (show _ = [rv (g.length + 2), rv g.length] by simp) ?_
  refine g_putF C FX2_17 hnm (fun q hq => by cases hq; rfl) dX2_init_18 (show (g ++ [.inr (2, [rv (g.length + 1), iv 0, nv, nv, nv, nv, iv 0]), .inl (3, 94, .inr (fun _ => none)), zA 42])[g.length]? = some (.inr (2, [rv (g.length + 1), iv 0, nv, nv, nv, nv, iv 0])) by simp) rfl rfl (Nat.le_of_ble_eq_true rfl) ?_
  dsimp only [List.set]
  refine g_hp (show _ = g ++ [.inr (2, [rv (g.length + 1), iv 0, rv (g.length + 2), nv, nv, nv, iv 0]), .inl (3, 94, .inr (fun _ => none)), zA 42] by simp) ?_
  refine g_aload_n C dX2_init_21 rfl ?_
  refine g_bipush C dX2_init_22 (by decide) ?_
  refine g_newi C dX2_init_24 AWi (n := 42) rfl (by decide) (by rw [List.length_append]; simp only [List.length_cons, List.length_nil]; omega) (by rw [sz_app, show ax_sz [.inr (2, [rv (g.length + 1), iv 0, rv (g.length + 2), nv, nv, nv, iv 0]), .inl (3, 94, .inr (fun _ => none)), zA 42] = 143 from rfl]; omega) ?_
  refine g_hp (show _ = g ++ [.inr (2, [rv (g.length + 1), iv 0, rv (g.length + 2), nv, nv, nv, iv 0]), .inl (3, 94, .inr (fun _ => none)), zA 42, zA 42] by simp [zA]) ?_
  refine g_st (show _ = [rv (g.length + 3), rv g.length] by simp) ?_
  refine g_putF C FX2_21 hnm (fun q hq => by cases hq; rfl) dX2_init_26 (show (g ++ [.inr (2, [rv (g.length + 1), iv 0, rv (g.length + 2), nv, nv, nv, iv 0]), .inl (3, 94, .inr (fun _ => none)), zA 42, zA 42])[g.length]? = some (.inr (2, [rv (g.length + 1), iv 0, rv (g.length + 2), nv, nv, nv, iv 0])) by simp) rfl rfl (Nat.le_of_ble_eq_true rfl) ?_
  dsimp only [List.set]
  refine g_hp (show _ = g ++ [.inr (2, [rv (g.length + 1), iv 0, rv (g.length + 2), rv (g.length + 3), nv, nv, iv 0]), .inl (3, 94, .inr (fun _ => none)), zA 42, zA 42] by simp) ?_
  refine g_aload_n C dX2_init_29 rfl ?_
  refine g_bipush C dX2_init_30 (by decide) ?_
  refine g_newi C dX2_init_32 AWi (n := 42) rfl (by decide) (by rw [List.length_append]; simp only [List.length_cons, List.length_nil]; omega) (by rw [sz_app, show ax_sz [.inr (2, [rv (g.length + 1), iv 0, rv (g.length + 2), rv (g.length + 3), nv, nv, iv 0]), .inl (3, 94, .inr (fun _ => none)), zA 42, zA 42] = 185 from rfl]; omega) ?_
  refine g_hp (show _ = g ++ [.inr (2, [rv (g.length + 1), iv 0, rv (g.length + 2), rv (g.length + 3), nv, nv, iv 0]), .inl (3, 94, .inr (fun _ => none)), zA 42, zA 42, zA 42] by simp [zA]) ?_
  refine g_st (show _ = [rv (g.length + 4), rv g.length] by simp) ?_
  refine g_putF C FX2_24 hnm (fun q hq => by cases hq; rfl) dX2_init_34 (show (g ++ [.inr (2, [rv (g.length + 1), iv 0, rv (g.length + 2), rv (g.length + 3), nv, nv, iv 0]), .inl (3, 94, .inr (fun _ => none)), zA 42, zA 42, zA 42])[g.length]? = some (.inr (2, [rv (g.length + 1), iv 0, rv (g.length + 2), rv (g.length + 3), nv, nv, iv 0])) by simp) rfl rfl (Nat.le_of_ble_eq_true rfl) ?_
  dsimp only [List.set]
  refine g_hp (show _ = g ++ [.inr (2, [rv (g.length + 1), iv 0, rv (g.length + 2), rv (g.length + 3), rv (g.length + 4), nv, iv 0]), .inl (3, 94, .inr (fun _ => none)), zA 42, zA 42, zA 42] by simp) ?_
  refine g_aload_n C dX2_init_37 rfl ?_
  refine g_bipush C dX2_init_38 (by decide) ?_
  refine g_newi C dX2_init_40 AWi (n := 42) rfl (by decide) (by rw [List.length_append]; simp only [List.length_cons, List.length_nil]; omega) (by rw [sz_app, show ax_sz [.inr (2, [rv (g.length + 1), iv 0, rv (g.length + 2), rv (g.length + 3), rv (g.length + 4), nv, iv 0]), .inl (3, 94, .inr (fun _ => none)), zA 42, zA 42, zA 42] = 227 from rfl]; omega) ?_
  refine g_hp (show _ = g ++ [.inr (2, [rv (g.length + 1), iv 0, rv (g.length + 2), rv (g.length + 3), rv (g.length + 4), nv, iv 0]), .inl (3, 94, .inr (fun _ => none)), zA 42, zA 42, zA 42, zA 42] by simp [zA]) ?_
  refine g_st (show _ = [rv (g.length + 5), rv g.length] by simp) ?_
  refine g_putF C FX2_27 hnm (fun q hq => by cases hq; rfl) dX2_init_42 (show (g ++ [.inr (2, [rv (g.length + 1), iv 0, rv (g.length + 2), rv (g.length + 3), rv (g.length + 4), nv, iv 0]), .inl (3, 94, .inr (fun _ => none)), zA 42, zA 42, zA 42, zA 42])[g.length]? = some (.inr (2, [rv (g.length + 1), iv 0, rv (g.length + 2), rv (g.length + 3), rv (g.length + 4), nv, iv 0])) by simp) rfl rfl (Nat.le_of_ble_eq_true rfl) ?_
  dsimp only [List.set]
  refine g_hp (show _ = g ++ cuD g.length 0 0 by unfold cuD fdI; simp) ?_
  refine g_iconst C dX2_init_45 ?_
  refine g_istore_n C dX2_init_46 (by decide) rfl ?_
  dsimp only [List.set]
  exact loop 94 0 (by omega)
