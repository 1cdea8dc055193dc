/-! constructors -/
def zA (n : Nat) : ax_E := .inl (0, n, .inl (fun _ => 0))
def boC (a : Nat) : ax_H := [.inr (0, [rv (a + 1), rv (a + 2), rv (a + 3), iv 0]), zA 7, zA 7, zA 7]
theorem sz_app (g k : ax_H) : ax_sz (g ++ k) = ax_sz g + ax_sz k := by simp [ax_sz]
theorem n_Body {g h : ax_H} (e : h = g ++ [.inr (0, [nv, nv, nv, iv 0])]) : ax_Met MX0_init [rv g.length] h none (g ++ boC g.length) := by
  have eL : h.length = g.length + 1 := by rw [e]; simp
  have eZ : ax_sz h = ax_sz g + 4 := by rw [e, sz_app]; rfl
  have fL : (g ++ boC g.length).length = g.length + 4 := by simp [boC]
  have fZ : ax_sz (g ++ boC g.length) = ax_sz g + 25 := by rw [sz_app]; rfl
  refine ax_mv (L0 := [some (rv g.length)]) rfl rfl (by omega) (by omega) (Nat.le_of_ble_eq_true rfl) rfl ?_
  intro p9 l9 e9 R9 s9 m9 args9 below9 meth9 c9 b9 D9 dA9 Q9 C hnm hcc hss kr
  rw [fL, eL] at hcc
  rw [fZ, eZ] at hss
  refine g_aload_n C dX0_init_0 rfl ?_
  refine g_objInit C dX0_init_1 LX0_3 IObj KObj (by decide) (Nat.le_of_ble_eq_true rfl) ?_
  refine g_aload_n C dX0_init_4 rfl ?_
  refine g_bipush C dX0_init_5 (by decide) ?_
  refine g_newi C dX0_init_7 AWi (n := 7) rfl (by decide) (by omega) (by omega) ?_
  refine g_hp (show _ = g ++ [.inr (0, [nv, nv, nv, iv 0]), zA 7] by rw [e]; simp [zA]) ?_
  refine g_st (show _ = [rv (g.length + 1), rv g.length] by rw [eL]) ?_
  refine g_putF C FX0_9 hnm (fun q hq => by cases hq; rfl) dX0_init_9 (show (g ++ [.inr (0, [nv, nv, nv, iv 0]), zA 7])[g.length]? = some (.inr (0, [nv, nv, nv, iv 0])) by simp) rfl rfl (Nat.le_of_ble_eq_true rfl) ?_
  dsimp only [List.set]
  refine g_hp (show _ = g ++ [.inr (0, [rv (g.length + 1), nv, nv, iv 0]), zA 7] by simp) ?_
  refine g_aload_n C dX0_init_12 rfl ?_
  refine g_bipush C dX0_init_13 (by decide) ?_
  refine g_newi C dX0_init_15 AWi (n := 7) rfl (by decide) (by rw [List.length_append]; simp only [List.length_cons, List.length_nil]; omega) (by rw [sz_app, show ax_sz [.inr (0, [rv (g.length + 1), nv, nv, iv 0]), zA 7] = 11 from rfl]; omega) ?_
  refine g_hp (show _ = g ++ [.inr (0, [rv (g.length + 1), nv, nv, iv 0]), zA 7, zA 7] by simp [zA]) ?_
  refine g_st (show _ = [rv (g.length + 2), rv g.length] by simp) ?_
  refine g_putF C FX0_15 hnm (fun q hq => by cases hq; rfl) dX0_init_17 (show (g ++ [.inr (0, [rv (g.length + 1), nv, nv, iv 0]), zA 7, zA 7])[g.length]? = some (.inr (0, [rv (g.length + 1), nv, nv, iv 0])) by simp) rfl rfl (Nat.le_of_ble_eq_true rfl) ?_
  dsimp only [List.set]
  refine g_hp (show _ = g ++ [.inr (0, [rv (g.length + 1), rv (g.length + 2), nv, iv 0]), zA 7, zA 7] by simp) ?_
  refine g_aload_n C dX0_init_20 rfl ?_
  refine g_bipush C dX0_init_21 (by decide) ?_
  refine g_newi C dX0_init_23 AWi (n := 7) rfl (by decide) (by rw [List.length_append]; simp only [List.length_cons, List.length_nil]; omega) (by rw [sz_app, show ax_sz [.inr (0, [rv (g.length + 1), rv (g.length + 2), nv, iv 0]), zA 7, zA 7] = 18 from rfl]; omega) ?_
  refine g_hp (show _ = g ++ [.inr (0, [rv (g.length + 1), rv (g.length + 2), nv, iv 0]), zA 7, zA 7, zA 7] by simp [zA]) ?_
  refine g_st (show _ = [rv (g.length + 3), rv g.length] by simp) ?_
  refine g_putF C FX0_18 hnm (fun q hq => by cases hq; rfl) dX0_init_25 (show (g ++ [.inr (0, [rv (g.length + 1), rv (g.length + 2), nv, iv 0]), zA 7, zA 7, zA 7])[g.length]? = some (.inr (0, [rv (g.length + 1), rv (g.length + 2), nv, iv 0])) by simp) rfl rfl (Nat.le_of_ble_eq_true rfl) ?_
  dsimp only [List.set]
  refine g_hp (show _ = g ++ boC g.length by simp [boC]) ?_
  exact kr _ _ dX0_init_28
