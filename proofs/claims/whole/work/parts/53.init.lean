/-! constructors -/
def zA (n : Nat) : ax_E := .inl (0, n, .inl (fun _ => 0))
def zB (n : Nat) : ax_E := .inl (1, n, .inl (fun _ => 0))
theorem sz_app (g k : ax_H) : ax_sz (g ++ k) = ax_sz g + ax_sz k := by simp [ax_sz]
def boC (a : Nat) : ax_H := [.inr (0, [rv (a + 1), rv (a + 2), rv (a + 3), iv 0]), zA 7, zA 7, zA 7]
theorem n_Body {g h : ax_H} (e : h = g ++ [.inr (0, [nv, nv, nv, iv 0])]) : ax_Met MX0_init [rv g.length] h none (g ++ boC g.length) := by
  have eL : h.length = g.length + 1 := by rw [e]; simp
  have eZ : ax_sz h = ax_sz g + 4 := by rw [e, sz_app]; rfl
  have fL : (g ++ boC g.length).length = g.length + 4 := by simp [boC]
  have fZ : ax_sz (g ++ boC g.length) = ax_sz g + 25 := by rw [sz_app]; rfl
  refine ax_mv (L0 := [some (rv g.length)]) rfl rfl (by omega) (by omega) (Nat.le_of_ble_eq_true rfl) rfl ?_
  intro p9 l9 e9 R9 s9 m9 args9 below9 meth9 c9 b9 D9 dA9 Q9 C hnm hcc hss kr
  rw [fL, eL] at hcc
  rw [fZ, eZ] at hss
  refine g_aload_n C dX0_init_0 rfl ?_
  refine g_objInit C dX0_init_1 LX0_3 IObj KObj (by decide) (Nat.le_of_ble_eq_true rfl) ?_
  refine g_aload_n C dX0_init_4 rfl ?_
  refine g_bipush C dX0_init_5 (by decide) ?_
  refine g_newi C dX0_init_7 AWi (n := 7) rfl (by decide) (by omega) (by omega) ?_
  refine g_hp (show _ = g ++ [.inr (0, [nv, nv, nv, iv 0]), zA 7] by rw [e]; simp [zA]) ?_
  refine g_st (show _ = [rv (g.length + 1), rv g.length] by rw [eL]) ?_
  refine g_putF C FX0_9 hnm (fun q hq => by cases hq; rfl) dX0_init_9 (show (g ++ [.inr (0, [nv, nv, nv, iv 0]), zA 7])[g.length]? = some (.inr (0, [nv, nv, nv, iv 0])) by simp) rfl rfl (Nat.le_of_ble_eq_true rfl) ?_
  dsimp only [List.set]
  refine g_hp (show _ = g ++ [.inr (0, [rv (g.length + 1), nv, nv, iv 0]), zA 7] by simp) ?_
  refine g_aload_n C dX0_init_12 rfl ?_
  refine g_bipush C dX0_init_13 (by decide) ?_
  refine g_newi C dX0_init_15 AWi (n := 7) rfl (by decide) (by rw [List.length_append]; simp only [List.length_cons, List.length_nil]; omega) (by rw [sz_app, show ax_sz [.inr (0, [rv (g.length + 1), nv, nv, iv 0]), zA 7] = 11 from rfl]; omega) ?_
  refine g_hp (show _ = g ++ [.inr (0, [rv (g.length + 1), nv, nv, iv 0]), zA 7, zA 7] by simp [zA]) ?_
  refine g_st (show _ = [rv (g.length + 2), rv g.length] by simp) ?_
  refine g_putF C FX0_15 hnm (fun q hq => by cases hq; rfl) dX0_init_17 (show (g ++ [.inr (0, [rv (g.length + 1), nv, nv, iv 0]), zA 7, zA 7])[g.length]? = some (.inr (0, [rv (g.length + 1), nv, nv, iv 0])) by simp) rfl rfl (Nat.le_of_ble_eq_true rfl) ?_
  dsimp only [List.set]
  refine g_hp (show _ = g ++ [.inr (0, [rv (g.length + 1), rv (g.length + 2), nv, iv 0]), zA 7, zA 7] by simp) ?_
  refine g_aload_n C dX0_init_20 rfl ?_
  refine g_bipush C dX0_init_21 (by decide) ?_
  refine g_newi C dX0_init_23 AWi (n := 7) rfl (by decide) (by rw [List.length_append]; simp only [List.length_cons, List.length_nil]; omega) (by rw [sz_app, show ax_sz [.inr (0, [rv (g.length + 1), rv (g.length + 2), nv, iv 0]), zA 7, zA 7] = 18 from rfl]; omega) ?_
  refine g_hp (show _ = g ++ [.inr (0, [rv (g.length + 1), rv (g.length + 2), nv, iv 0]), zA 7, zA 7, zA 7] by simp [zA]) ?_
  refine g_st (show _ = [rv (g.length + 3), rv g.length] by simp) ?_
  refine g_putF C FX0_18 hnm (fun q hq => by cases hq; rfl) dX0_init_25 (show (g ++ [.inr (0, [rv (g.length + 1), rv (g.length + 2), nv, iv 0]), zA 7, zA 7, zA 7])[g.length]? = some (.inr (0, [rv (g.length + 1), rv (g.length + 2), nv, iv 0])) by simp) rfl rfl (Nat.le_of_ble_eq_true rfl) ?_
  dsimp only [List.set]
  refine g_hp (show _ = g ++ boC g.length by simp [boC]) ?_
  exact kr _ _ dX0_init_28
def rgC (a : Nat) : ax_H := [.inr (3, [rv (a + 1), rv (a + 2), iv 0, rv (a + 3), iv 0]), zA 128, zA 128, zA 256]
theorem n_Region {g h : ax_H} (e : h = g ++ [.inr (3, [nv, nv, iv 0, nv, iv 0])]) : ax_Met MX3_init [rv g.length] h none (g ++ rgC g.length) := by
  have eL : h.length = g.length + 1 := by rw [e]; simp
  have eZ : ax_sz h = ax_sz g + 5 := by rw [e, sz_app]; rfl
  have fL : (g ++ rgC g.length).length = g.length + 4 := by simp [rgC]
  have fZ : ax_sz (g ++ rgC g.length) = ax_sz g + 517 := by rw [sz_app]; rfl
  refine ax_mv (L0 := [some (rv g.length)]) rfl rfl (by omega) (by omega) (Nat.le_of_ble_eq_true rfl) rfl ?_
  intro p9 l9 e9 R9 s9 m9 args9 below9 meth9 c9 b9 D9 dA9 Q9 C hnm hcc hss kr
  rw [fL, eL] at hcc
  rw [fZ, eZ] at hss
  refine g_aload_n C dX3_init_0 rfl ?_
  refine g_objInit C dX3_init_1 LX3_3 IObj KObj (by decide) (Nat.le_of_ble_eq_true rfl) ?_
  refine g_aload_n C dX3_init_4 rfl ?_
  refine g_sipush C dX3_init_5 (by decide) ?_
  refine g_newi C dX3_init_8 AWi (n := 128) rfl (by decide) (by omega) (by omega) ?_
  refine g_hp (show _ = g ++ [.inr (3, [nv, nv, iv 0, nv, iv 0]), zA 128] by rw [e]; simp [zA]) ?_
  refine g_st (show _ = [rv (g.length + 1), rv g.length] by rw [eL]) ?_
  refine g_putF C FX3_11 hnm (fun q hq => by cases hq; rfl) dX3_init_10 (show (g ++ [.inr (3, [nv, nv, iv 0, nv, iv 0]), zA 128])[g.length]? = some (.inr (3, [nv, nv, iv 0, nv, iv 0])) by simp) rfl rfl (Nat.le_of_ble_eq_true rfl) ?_
  dsimp only [List.set]
  refine g_hp (show _ = g ++ [.inr (3, [rv (g.length + 1), nv, iv 0, nv, iv 0]), zA 128] by simp) ?_
  refine g_aload_n C dX3_init_13 rfl ?_
  refine g_sipush C dX3_init_14 (by decide) ?_
  refine g_newi C dX3_init_17 AWi (n := 128) rfl (by decide) (by rw [List.length_append]; simp only [List.length_cons, List.length_nil]; omega) (by rw [sz_app, show ax_sz [.inr (3, [rv (g.length + 1), nv, iv 0, nv, iv 0]), zA 128] = 133 from rfl]; omega) ?_
  refine g_hp (show _ = g ++ [.inr (3, [rv (g.length + 1), nv, iv 0, nv, iv 0]), zA 128, zA 128] by simp [zA]) ?_
  refine g_st (show _ = [rv (g.length + 2), rv g.length] by simp) ?_
  refine g_putF C FX3_15 hnm (fun q hq => by cases hq; rfl) dX3_init_19 (show (g ++ [.inr (3, [rv (g.length + 1), nv, iv 0, nv, iv 0]), zA 128, zA 128])[g.length]? = some (.inr (3, [rv (g.length + 1), nv, iv 0, nv, iv 0])) by simp) rfl rfl (Nat.le_of_ble_eq_true rfl) ?_
  dsimp only [List.set]
  refine g_hp (show _ = g ++ [.inr (3, [rv (g.length + 1), rv (g.length + 2), iv 0, nv, iv 0]), zA 128, zA 128] by simp) ?_
  refine g_aload_n C dX3_init_22 rfl ?_
  refine g_sipush C dX3_init_23 (by decide) ?_
  refine g_newi C dX3_init_26 AWi (n := 256) rfl (by decide) (by rw [List.length_append]; simp only [List.length_cons, List.length_nil]; omega) (by rw [sz_app, show ax_sz [.inr (3, [rv (g.length + 1), rv (g.length + 2), iv 0, nv, iv 0]), zA 128, zA 128] = 261 from rfl]; omega) ?_
  refine g_hp (show _ = g ++ [.inr (3, [rv (g.length + 1), rv (g.length + 2), iv 0, nv, iv 0]), zA 128, zA 128, zA 256] by simp [zA]) ?_
  refine g_st (show _ = [rv (g.length + 3), rv g.length] by simp) ?_
  refine g_putF C FX3_18 hnm (fun q hq => by cases hq; rfl) dX3_init_28 (show (g ++ [.inr (3, [rv (g.length + 1), rv (g.length + 2), iv 0, nv, iv 0]), zA 128, zA 128, zA 256])[g.length]? = some (.inr (3, [rv (g.length + 1), rv (g.length + 2), iv 0, nv, iv 0])) by simp) rfl rfl (Nat.le_of_ble_eq_true rfl) ?_
  dsimp only [List.set]
  refine g_hp (show _ = g ++ rgC g.length by simp [rgC]) ?_
  exact kr _ _ dX3_init_31
def moC (a : Nat) : ax_H := [.inr (5, [rv (a + 1), rv (a + 2), rv (a + 3), rv (a + 4), rv (a + 5), iv 0, rv (a + 6), iv 0, rv (a + 7), rv (a + 8), rv (a + 9), iv 0, rv (a + 10), rv (a + 11)]), zA 88, zA 176, zB 2, zA 128, zA 128, zA 128, zA 512, zA 512, zA 512, zA 49, zA 49]
theorem n_Model {g h : ax_H} (e : h = g ++ [.inr (5, [nv, nv, nv, nv, nv, iv 0, nv, iv 0, nv, nv, nv, iv 0, nv, nv])]) : ax_Met MX5_init [rv g.length] h none (g ++ moC g.length) := by
  have eL : h.length = g.length + 1 := by rw [e]; simp
  have eZ : ax_sz h = ax_sz g + 14 := by rw [e, sz_app]; rfl
  have fL : (g ++ moC g.length).length = g.length + 12 := by simp [moC]
  have fZ : ax_sz (g ++ moC g.length) = ax_sz g + 2298 := by rw [sz_app]; rfl
  refine ax_mv (L0 := [some (rv g.length)]) rfl rfl (by omega) (by omega) (Nat.le_of_ble_eq_true rfl) rfl ?_
  intro p9 l9 e9 R9 s9 m9 args9 below9 meth9 c9 b9 D9 dA9 Q9 C hnm hcc hss kr
  rw [fL, eL] at hcc
  rw [fZ, eZ] at hss
  refine g_aload_n C dX5_init_0 rfl ?_
  refine g_objInit C dX5_init_1 LX5_1 IObj KObj (by decide) (Nat.le_of_ble_eq_true rfl) ?_
  refine g_aload_n C dX5_init_4 rfl ?_
  refine g_bipush C dX5_init_5 (by decide) ?_
  refine g_newi C dX5_init_7 AWi (n := 88) rfl (by decide) (by omega) (by omega) ?_
  refine g_hp (show _ = g ++ [.inr (5, [nv, nv, nv, nv, nv, iv 0, nv, iv 0, nv, nv, nv, iv 0, nv, nv]), zA 88] by rw [e]; simp [zA]) ?_
  refine g_st (show _ = [rv (g.length + 1), rv g.length] by rw [eL]) ?_
  refine g_putF C FX5_7 hnm (fun q hq => by cases hq; rfl) dX5_init_9 (show (g ++ [.inr (5, [nv, nv, nv, nv, nv, iv 0, nv, iv 0, nv, nv, nv, iv 0, nv, nv]), zA 88])[g.length]? = some (.inr (5, [nv, nv, nv, nv, nv, iv 0, nv, iv 0, nv, nv, nv, iv 0, nv, nv])) by simp) rfl rfl (Nat.le_of_ble_eq_true rfl) ?_
  dsimp only [List.set]
  refine g_hp (show _ = g ++ [.inr (5, [rv (g.length + 1), nv, nv, nv, nv, iv 0, nv, iv 0, nv, nv, nv, iv 0, nv, nv]), zA 88] by simp) ?_
  refine g_aload_n C dX5_init_12 rfl ?_
  refine g_sipush C dX5_init_13 (by decide) ?_
  refine g_newi C dX5_init_16 AWi (n := 176) rfl (by decide) (by rw [List.length_append]; simp only [List.length_cons, List.length_nil]; omega) (by rw [sz_app, show ax_sz [.inr (5, [rv (g.length + 1), nv, nv, nv, nv, iv 0, nv, iv 0, nv, nv, nv, iv 0, nv, nv]), zA 88] = 102 from rfl]; omega) ?_
  refine g_hp (show _ = g ++ [.inr (5, [rv (g.length + 1), nv, nv, nv, nv, iv 0, nv, iv 0, nv, nv, nv, iv 0, nv, nv]), zA 88, zA 176] by simp [zA]) ?_
  refine g_st (show _ = [rv (g.length + 2), rv g.length] by simp) ?_
  refine g_putF C FX5_13 hnm (fun q hq => by cases hq; rfl) dX5_init_18 (show (g ++ [.inr (5, [rv (g.length + 1), nv, nv, nv, nv, iv 0, nv, iv 0, nv, nv, nv, iv 0, nv, nv]), zA 88, zA 176])[g.length]? = some (.inr (5, [rv (g.length + 1), nv, nv, nv, nv, iv 0, nv, iv 0, nv, nv, nv, iv 0, nv, nv])) by simp) rfl rfl (Nat.le_of_ble_eq_true rfl) ?_
  dsimp only [List.set]
  refine g_hp (show _ = g ++ [.inr (5, [rv (g.length + 1), rv (g.length + 2), nv, nv, nv, iv 0, nv, iv 0, nv, nv, nv, iv 0, nv, nv]), zA 88, zA 176] by simp) ?_
  refine g_aload_n C dX5_init_21 rfl ?_
  refine g_iconst C dX5_init_22 ?_
  refine g_newz C dX5_init_23 AWz (n := 2) rfl (by decide) (by rw [List.length_append]; simp only [List.length_cons, List.length_nil]; omega) (by rw [sz_app, show ax_sz [.inr (5, [rv (g.length + 1), rv (g.length + 2), nv, nv, nv, iv 0, nv, iv 0, nv, nv, nv, iv 0, nv, nv]), zA 88, zA 176] = 278 from rfl]; omega) ?_
  refine g_hp (show _ = g ++ [.inr (5, [rv (g.length + 1), rv (g.length + 2), nv, nv, nv, iv 0, nv, iv 0, nv, nv, nv, iv 0, nv, nv]), zA 88, zA 176, zB 2] by simp [zB]) ?_
  refine g_st (show _ = [rv (g.length + 3), rv g.length] by simp) ?_
  refine g_putF C FX5_16 hnm (fun q hq => by cases hq; rfl) dX5_init_25 (show (g ++ [.inr (5, [rv (g.length + 1), rv (g.length + 2), nv, nv, nv, iv 0, nv, iv 0, nv, nv, nv, iv 0, nv, nv]), zA 88, zA 176, zB 2])[g.length]? = some (.inr (5, [rv (g.length + 1), rv (g.length + 2), nv, nv, nv, iv 0, nv, iv 0, nv, nv, nv, iv 0, nv, nv])) by simp) rfl rfl (Nat.le_of_ble_eq_true rfl) ?_
  dsimp only [List.set]
  refine g_hp (show _ = g ++ [.inr (5, [rv (g.length + 1), rv (g.length + 2), rv (g.length + 3), nv, nv, iv 0, nv, iv 0, nv, nv, nv, iv 0, nv, nv]), zA 88, zA 176, zB 2] by simp) ?_
  refine g_aload_n C dX5_init_28 rfl ?_
  refine g_sipush C dX5_init_29 (by decide) ?_
  refine g_newi C dX5_init_32 AWi (n := 128) rfl (by decide) (by rw [List.length_append]; simp only [List.length_cons, List.length_nil]; omega) (by rw [sz_app, show ax_sz [.inr (5, [rv (g.length + 1), rv (g.length + 2), rv (g.length + 3), nv, nv, iv 0, nv, iv 0, nv, nv, nv, iv 0, nv, nv]), zA 88, zA 176, zB 2] = 280 from rfl]; omega) ?_
  refine g_hp (show _ = g ++ [.inr (5, [rv (g.length + 1), rv (g.length + 2), rv (g.length + 3), nv, nv, iv 0, nv, iv 0, nv, nv, nv, iv 0, nv, nv]), zA 88, zA 176, zB 2, zA 128] by simp [zA]) ?_
  refine g_st (show _ = [rv (g.length + 4), rv g.length] by simp) ?_
  refine g_putF C FX5_20 hnm (fun q hq => by cases hq; rfl) dX5_init_34 (show (g ++ [.inr (5, [rv (g.length + 1), rv (g.length + 2), rv (g.length + 3), nv, nv, iv 0, nv, iv 0, nv, nv, nv, iv 0, nv, nv]), zA 88, zA 176, zB 2, zA 128])[g.length]? = some (.inr (5, [rv (g.length + 1), rv (g.length + 2), rv (g.length + 3), nv, nv, iv 0, nv, iv 0, nv, nv, nv, iv 0, nv, nv])) by simp) rfl rfl (Nat.le_of_ble_eq_true rfl) ?_
  dsimp only [List.set]
  refine g_hp (show _ = g ++ [.inr (5, [rv (g.length + 1), rv (g.length + 2), rv (g.length + 3), rv (g.length + 4), nv, iv 0, nv, iv 0, nv, nv, nv, iv 0, nv, nv]), zA 88, zA 176, zB 2, zA 128] by simp) ?_
  refine g_aload_n C dX5_init_37 rfl ?_
  refine g_sipush C dX5_init_38 (by decide) ?_
  refine g_newi C dX5_init_41 AWi (n := 128) rfl (by decide) (by rw [List.length_append]; simp only [List.length_cons, List.length_nil]; omega) (by rw [sz_app, show ax_sz [.inr (5, [rv (g.length + 1), rv (g.length + 2), rv (g.length + 3), rv (g.length + 4), nv, iv 0, nv, iv 0, nv, nv, nv, iv 0, nv, nv]), zA 88, zA 176, zB 2, zA 128] = 408 from rfl]; omega) ?_
  refine g_hp (show _ = g ++ [.inr (5, [rv (g.length + 1), rv (g.length + 2), rv (g.length + 3), rv (g.length + 4), nv, iv 0, nv, iv 0, nv, nv, nv, iv 0, nv, nv]), zA 88, zA 176, zB 2, zA 128, zA 128] by simp [zA]) ?_
  refine g_st (show _ = [rv (g.length + 5), rv g.length] by simp) ?_
  refine g_putF C FX5_23 hnm (fun q hq => by cases hq; rfl) dX5_init_43 (show (g ++ [.inr (5, [rv (g.length + 1), rv (g.length + 2), rv (g.length + 3), rv (g.length + 4), nv, iv 0, nv, iv 0, nv, nv, nv, iv 0, nv, nv]), zA 88, zA 176, zB 2, zA 128, zA 128])[g.length]? = some (.inr (5, [rv (g.length + 1), rv (g.length + 2), rv (g.length + 3), rv (g.length + 4), nv, iv 0, nv, iv 0, nv, nv, nv, iv 0, nv, nv])) by simp) rfl rfl (Nat.le_of_ble_eq_true rfl) ?_
  dsimp only [List.set]
  refine g_hp (show _ = g ++ [.inr (5, [rv (g.length + 1), rv (g.length + 2), rv (g.length + 3), rv (g.length + 4), rv (g.length + 5), iv 0, nv, iv 0, nv, nv, nv, iv 0, nv, nv]), zA 88, zA 176, zB 2, zA 128, zA 128] by simp) ?_
  refine g_aload_n C dX5_init_46 rfl ?_
  refine g_sipush C dX5_init_47 (by decide) ?_
  refine g_newi C dX5_init_50 AWi (n := 128) rfl (by decide) (by rw [List.length_append]; simp only [List.length_cons, List.length_nil]; omega) (by rw [sz_app, show ax_sz [.inr (5, [rv (g.length + 1), rv (g.length + 2), rv (g.length + 3), rv (g.length + 4), rv (g.length + 5), iv 0, nv, iv 0, nv, nv, nv, iv 0, nv, nv]), zA 88, zA 176, zB 2, zA 128, zA 128] = 536 from rfl]; omega) ?_
  refine g_hp (show _ = g ++ [.inr (5, [rv (g.length + 1), rv (g.length + 2), rv (g.length + 3), rv (g.length + 4), rv (g.length + 5), iv 0, nv, iv 0, nv, nv, nv, iv 0, nv, nv]), zA 88, zA 176, zB 2, zA 128, zA 128, zA 128] by simp [zA]) ?_
  refine g_st (show _ = [rv (g.length + 6), rv g.length] by simp) ?_
  refine g_putF C FX5_26 hnm (fun q hq => by cases hq; rfl) dX5_init_52 (show (g ++ [.inr (5, [rv (g.length + 1), rv (g.length + 2), rv (g.length + 3), rv (g.length + 4), rv (g.length + 5), iv 0, nv, iv 0, nv, nv, nv, iv 0, nv, nv]), zA 88, zA 176, zB 2, zA 128, zA 128, zA 128])[g.length]? = some (.inr (5, [rv (g.length + 1), rv (g.length + 2), rv (g.length + 3), rv (g.length + 4), rv (g.length + 5), iv 0, nv, iv 0, nv, nv, nv, iv 0, nv, nv])) by simp) rfl rfl (Nat.le_of_ble_eq_true rfl) ?_
  dsimp only [List.set]
  refine g_hp (show _ = g ++ [.inr (5, [rv (g.length + 1), rv (g.length + 2), rv (g.length + 3), rv (g.length + 4), rv (g.length + 5), iv 0, rv (g.length + 6), iv 0, nv, nv, nv, iv 0, nv, nv]), zA 88, zA 176, zB 2, zA 128, zA 128, zA 128] by simp) ?_
  refine g_aload_n C dX5_init_55 rfl ?_
  refine g_sipush C dX5_init_56 (by decide) ?_
  refine g_newi C dX5_init_59 AWi (n := 512) rfl (by decide) (by rw [List.length_append]; simp only [List.length_cons, List.length_nil]; omega) (by rw [sz_app, show ax_sz [.inr (5, [rv (g.length + 1), rv (g.length + 2), rv (g.length + 3), rv (g.length + 4), rv (g.length + 5), iv 0, rv (g.length + 6), iv 0, nv, nv, nv, iv 0, nv, nv]), zA 88, zA 176, zB 2, zA 128, zA 128, zA 128] = 664 from rfl]; omega) ?_
  refine g_hp (show _ = g ++ [.inr (5, [rv (g.length + 1), rv (g.length + 2), rv (g.length + 3), rv (g.length + 4), rv (g.length + 5), iv 0, rv (g.length + 6), iv 0, nv, nv, nv, iv 0, nv, nv]), zA 88, zA 176, zB 2, zA 128, zA 128, zA 128, zA 512] by simp [zA]) ?_
  refine g_st (show _ = [rv (g.length + 7), rv g.length] by simp) ?_
  refine g_putF C FX5_29 hnm (fun q hq => by cases hq; rfl) dX5_init_61 (show (g ++ [.inr (5, [rv (g.length + 1), rv (g.length + 2), rv (g.length + 3), rv (g.length + 4), rv (g.length + 5), iv 0, rv (g.length + 6), iv 0, nv, nv, nv, iv 0, nv, nv]), zA 88, zA 176, zB 2, zA 128, zA 128, zA 128, zA 512])[g.length]? = some (.inr (5, [rv (g.length + 1), rv (g.length + 2), rv (g.length + 3), rv (g.length + 4), rv (g.length + 5), iv 0, rv (g.length + 6), iv 0, nv, nv, nv, iv 0, nv, nv])) by simp) rfl rfl (Nat.le_of_ble_eq_true rfl) ?_
  dsimp only [List.set]
  refine g_hp (show _ = g ++ [.inr (5, [rv (g.length + 1), rv (g.length + 2), rv (g.length + 3), rv (g.length + 4), rv (g.length + 5), iv 0, rv (g.length + 6), iv 0, rv (g.length + 7), nv, nv, iv 0, nv, nv]), zA 88, zA 176, zB 2, zA 128, zA 128, zA 128, zA 512] by simp) ?_
  refine g_aload_n C dX5_init_64 rfl ?_
  refine g_sipush C dX5_init_65 (by decide) ?_
  refine g_newi C dX5_init_68 AWi (n := 512) rfl (by decide) (by rw [List.length_append]; simp only [List.length_cons, List.length_nil]; omega) (by rw [sz_app, show ax_sz [.inr (5, [rv (g.length + 1), rv (g.length + 2), rv (g.length + 3), rv (g.length + 4), rv (g.length + 5), iv 0, rv (g.length + 6), iv 0, rv (g.length + 7), nv, nv, iv 0, nv, nv]), zA 88, zA 176, zB 2, zA 128, zA 128, zA 128, zA 512] = 1176 from rfl]; omega) ?_
  refine g_hp (show _ = g ++ [.inr (5, [rv (g.length + 1), rv (g.length + 2), rv (g.length + 3), rv (g.length + 4), rv (g.length + 5), iv 0, rv (g.length + 6), iv 0, rv (g.length + 7), nv, nv, iv 0, nv, nv]), zA 88, zA 176, zB 2, zA 128, zA 128, zA 128, zA 512, zA 512] by simp [zA]) ?_
  refine g_st (show _ = [rv (g.length + 8), rv g.length] by simp) ?_
  refine g_putF C FX5_32 hnm (fun q hq => by cases hq; rfl) dX5_init_70 (show (g ++ [.inr (5, [rv (g.length + 1), rv (g.length + 2), rv (g.length + 3), rv (g.length + 4), rv (g.length + 5), iv 0, rv (g.length + 6), iv 0, rv (g.length + 7), nv, nv, iv 0, nv, nv]), zA 88, zA 176, zB 2, zA 128, zA 128, zA 128, zA 512, zA 512])[g.length]? = some (.inr (5, [rv (g.length + 1), rv (g.length + 2), rv (g.length + 3), rv (g.length + 4), rv (g.length + 5), iv 0, rv (g.length + 6), iv 0, rv (g.length + 7), nv, nv, iv 0, nv, nv])) by simp) rfl rfl (Nat.le_of_ble_eq_true rfl) ?_
  dsimp only [List.set]
  refine g_hp (show _ = g ++ [.inr (5, [rv (g.length + 1), rv (g.length + 2), rv (g.length + 3), rv (g.length + 4), rv (g.length + 5), iv 0, rv (g.length + 6), iv 0, rv (g.length + 7), rv (g.length + 8), nv, iv 0, nv, nv]), zA 88, zA 176, zB 2, zA 128, zA 128, zA 128, zA 512, zA 512] by simp) ?_
  refine g_aload_n C dX5_init_73 rfl ?_
  refine g_sipush C dX5_init_74 (by decide) ?_
  refine g_newi C dX5_init_77 AWi (n := 512) rfl (by decide) (by rw [List.length_append]; simp only [List.length_cons, List.length_nil]; omega) (by rw [sz_app, show ax_sz [.inr (5, [rv (g.length + 1), rv (g.length + 2), rv (g.length + 3), rv (g.length + 4), rv (g.length + 5), iv 0, rv (g.length + 6), iv 0, rv (g.length + 7), rv (g.length + 8), nv, iv 0, nv, nv]), zA 88, zA 176, zB 2, zA 128, zA 128, zA 128, zA 512, zA 512] = 1688 from rfl]; omega) ?_
  refine g_hp (show _ = g ++ [.inr (5, [rv (g.length + 1), rv (g.length + 2), rv (g.length + 3), rv (g.length + 4), rv (g.length + 5), iv 0, rv (g.length + 6), iv 0, rv (g.length + 7), rv (g.length + 8), nv, iv 0, nv, nv]), zA 88, zA 176, zB 2, zA 128, zA 128, zA 128, zA 512, zA 512, zA 512] by simp [zA]) ?_
  refine g_st (show _ = [rv (g.length + 9), rv g.length] by simp) ?_
  refine g_putF C FX5_35 hnm (fun q hq => by cases hq; rfl) dX5_init_79 (show (g ++ [.inr (5, [rv (g.length + 1), rv (g.length + 2), rv (g.length + 3), rv (g.length + 4), rv (g.length + 5), iv 0, rv (g.length + 6), iv 0, rv (g.length + 7), rv (g.length + 8), nv, iv 0, nv, nv]), zA 88, zA 176, zB 2, zA 128, zA 128, zA 128, zA 512, zA 512, zA 512])[g.length]? = some (.inr (5, [rv (g.length + 1), rv (g.length + 2), rv (g.length + 3), rv (g.length + 4), rv (g.length + 5), iv 0, rv (g.length + 6), iv 0, rv (g.length + 7), rv (g.length + 8), nv, iv 0, nv, nv])) by simp) rfl rfl (Nat.le_of_ble_eq_true rfl) ?_
  dsimp only [List.set]
  refine g_hp (show _ = g ++ [.inr (5, [rv (g.length + 1), rv (g.length + 2), rv (g.length + 3), rv (g.length + 4), rv (g.length + 5), iv 0, rv (g.length + 6), iv 0, rv (g.length + 7), rv (g.length + 8), rv (g.length + 9), iv 0, nv, nv]), zA 88, zA 176, zB 2, zA 128, zA 128, zA 128, zA 512, zA 512, zA 512] by simp) ?_
  refine g_aload_n C dX5_init_82 rfl ?_
  refine g_bipush C dX5_init_83 (by decide) ?_
  refine g_newi C dX5_init_85 AWi (n := 49) rfl (by decide) (by rw [List.length_append]; simp only [List.length_cons, List.length_nil]; omega) (by rw [sz_app, show ax_sz [.inr (5, [rv (g.length + 1), rv (g.length + 2), rv (g.length + 3), rv (g.length + 4), rv (g.length + 5), iv 0, rv (g.length + 6), iv 0, rv (g.length + 7), rv (g.length + 8), rv (g.length + 9), iv 0, nv, nv]), zA 88, zA 176, zB 2, zA 128, zA 128, zA 128, zA 512, zA 512, zA 512] = 2200 from rfl]; omega) ?_
  refine g_hp (show _ = g ++ [.inr (5, [rv (g.length + 1), rv (g.length + 2), rv (g.length + 3), rv (g.length + 4), rv (g.length + 5), iv 0, rv (g.length + 6), iv 0, rv (g.length + 7), rv (g.length + 8), rv (g.length + 9), iv 0, nv, nv]), zA 88, zA 176, zB 2, zA 128, zA 128, zA 128, zA 512, zA 512, zA 512, zA 49] by simp [zA]) ?_
  refine g_st (show _ = [rv (g.length + 10), rv g.length] by simp) ?_
  refine g_putF C FX5_38 hnm (fun q hq => by cases hq; rfl) dX5_init_87 (show (g ++ [.inr (5, [rv (g.length + 1), rv (g.length + 2), rv (g.length + 3), rv (g.length + 4), rv (g.length + 5), iv 0, rv (g.length + 6), iv 0, rv (g.length + 7), rv (g.length + 8), rv (g.length + 9), iv 0, nv, nv]), zA 88, zA 176, zB 2, zA 128, zA 128, zA 128, zA 512, zA 512, zA 512, zA 49])[g.length]? = some (.inr (5, [rv (g.length + 1), rv (g.length + 2), rv (g.length + 3), rv (g.length + 4), rv (g.length + 5), iv 0, rv (g.length + 6), iv 0, rv (g.length + 7), rv (g.length + 8), rv (g.length + 9), iv 0, nv, nv])) by simp) rfl rfl (Nat.le_of_ble_eq_true rfl) ?_
  dsimp only [List.set]
  refine g_hp (show _ = g ++ [.inr (5, [rv (g.length + 1), rv (g.length + 2), rv (g.length + 3), rv (g.length + 4), rv (g.length + 5), iv 0, rv (g.length + 6), iv 0, rv (g.length + 7), rv (g.length + 8), rv (g.length + 9), iv 0, rv (g.length + 10), nv]), zA 88, zA 176, zB 2, zA 128, zA 128, zA 128, zA 512, zA 512, zA 512, zA 49] by simp) ?_
  refine g_aload_n C dX5_init_90 rfl ?_
  refine g_bipush C dX5_init_91 (by decide) ?_
  refine g_newi C dX5_init_93 AWi (n := 49) rfl (by decide) (by rw [List.length_append]; simp only [List.length_cons, List.length_nil]; omega) (by rw [sz_app, show ax_sz [.inr (5, [rv (g.length + 1), rv (g.length + 2), rv (g.length + 3), rv (g.length + 4), rv (g.length + 5), iv 0, rv (g.length + 6), iv 0, rv (g.length + 7), rv (g.length + 8), rv (g.length + 9), iv 0, rv (g.length + 10), nv]), zA 88, zA 176, zB 2, zA 128, zA 128, zA 128, zA 512, zA 512, zA 512, zA 49] = 2249 from rfl]; omega) ?_
  refine g_hp (show _ = g ++ [.inr (5, [rv (g.length + 1), rv (g.length + 2), rv (g.length + 3), rv (g.length + 4), rv (g.length + 5), iv 0, rv (g.length + 6), iv 0, rv (g.length + 7), rv (g.length + 8), rv (g.length + 9), iv 0, rv (g.length + 10), nv]), zA 88, zA 176, zB 2, zA 128, zA 128, zA 128, zA 512, zA 512, zA 512, zA 49, zA 49] by simp [zA]) ?_
  refine g_st (show _ = [rv (g.length + 11), rv g.length] by simp) ?_
  refine g_putF C FX5_41 hnm (fun q hq => by cases hq; rfl) dX5_init_95 (show (g ++ [.inr (5, [rv (g.length + 1), rv (g.length + 2), rv (g.length + 3), rv (g.length + 4), rv (g.length + 5), iv 0, rv (g.length + 6), iv 0, rv (g.length + 7), rv (g.length + 8), rv (g.length + 9), iv 0, rv (g.length + 10), nv]), zA 88, zA 176, zB 2, zA 128, zA 128, zA 128, zA 512, zA 512, zA 512, zA 49, zA 49])[g.length]? = some (.inr (5, [rv (g.length + 1), rv (g.length + 2), rv (g.length + 3), rv (g.length + 4), rv (g.length + 5), iv 0, rv (g.length + 6), iv 0, rv (g.length + 7), rv (g.length + 8), rv (g.length + 9), iv 0, rv (g.length + 10), nv])) by simp) rfl rfl (Nat.le_of_ble_eq_true rfl) ?_
  dsimp only [List.set]
  refine g_hp (show _ = g ++ moC g.length by simp [moC]) ?_
  exact kr _ _ dX5_init_98
theorem n_Cell {g h : ax_H} : ax_Met MX1_init [rv g.length] h none h := by
  refine ax_mv (L0 := [some (rv g.length)]) rfl rfl (Nat.le_refl _) (Nat.le_refl _) (Nat.le_of_ble_eq_true rfl) rfl ?_
  intro p9 l9 e9 R9 s9 m9 args9 below9 meth9 c9 b9 D9 dA9 Q9 C hnm hcc hss kr
  refine g_aload_n C dX1_init_0 rfl ?_
  refine g_objInit C dX1_init_1 LX1_1 IObj KObj (by decide) (Nat.le_of_ble_eq_true rfl) ?_
  exact kr _ _ dX1_init_4
