/-! the constructor of MixedCells -/
def mxP (o : List ax_V) (f g : Nat → Option Nat) (T : ax_H) : ax_H := .inr (4, o) :: .inl (2, 4, .inr f) :: .inl (2, 8, .inr g) :: T
theorem mxP_len {o : List ax_V} {f g : Nat → Option Nat} {T : ax_H} : (mxP o f g T).length = T.length + 3 := rfl
theorem mxP_sz {o : List ax_V} {f g : Nat → Option Nat} {T : ax_H} (ho : o.length = 6) : ax_sz (mxP o f g T) = ax_sz T + 18 := by
  rw [show mxP o f g T = [.inr (4, o), .inl (2, 4, .inr f), .inl (2, 8, .inr g)] ++ T from rfl, sz_app, show ax_sz [.inr (4, o), .inl (2, 4, .inr f), .inl (2, 8, .inr g)] = o.length + (4 + (8 + 0)) from rfl, ho]
  omega
def muC : ax_H := .inl (4, 13, .inr (fun j => some (107 + 1 + j))) :: List.replicate 13 (zA 13)
def boL : Nat → ax_H
  | 0 => []
  | i + 1 => boL i ++ boC (121 + 4 * i)
def mxT : ax_H := rgC 3 ++ cuD 7 94 94
def mxU : ax_H := mxT ++ muC
theorem rgC_len {a : Nat} : (rgC a).length = 4 := rfl
theorem rgC_sz {a : Nat} : ax_sz (rgC a) = 517 := by simp [rgC, ax_sz, ax_z, zA]
theorem boC_len {a : Nat} : (boC a).length = 4 := rfl
theorem boC_sz {a : Nat} : ax_sz (boC a) = 25 := rfl
theorem muC_len : muC.length = 14 := rfl
theorem muC_sz : ax_sz muC = 182 := rfl
theorem mxT_len : mxT.length = 104 := by rw [mxT, List.length_append, rgC_len, cuD_len]
theorem mxT_sz : ax_sz mxT = 1350 := by rw [mxT, sz_app, rgC_sz, cuD_sz]
theorem mxU_len : mxU.length = 118 := by rw [mxU, List.length_append, mxT_len, muC_len]
theorem mxU_sz : ax_sz mxU = 1532 := by rw [mxU, sz_app, mxT_sz, muC_sz]
theorem boL_len : ∀ i, (boL i).length = 4 * i
  | 0 => rfl
  | i + 1 => by rw [boL, List.length_append, boL_len i, boC_len]; omega
theorem boL_sz : ∀ i, ax_sz (boL i) = 25 * i
  | 0 => rfl
  | i + 1 => by rw [boL, sz_app, boL_sz i, boC_sz]; omega
def ixF (c i k : Nat) : Option Nat := if k < i then some (c + 4 * k) else none
theorem ixF_0 (c : Nat) : ixF c 0 = fun _ => none := by
  funext k
  unfold ixF
  rw [if_neg (by omega)]
theorem ixF_up {c i x : Nat} (hx : x = c + 4 * i) : va_up (ixF c i) i (some x) = ixF c (i + 1) := by
  subst hx
  funext k
  unfold va_up ixF
  by_cases z : k = i
  · rw [if_pos z, if_pos (by omega), z]
  · rw [if_neg z]
    by_cases z2 : k < i
    · rw [if_pos z2, if_pos (by omega)]
    · rw [if_neg z2, if_neg (by omega)]
def mxO : List ax_V := [rv 1, rv 2, iv 0, rv 3, rv 7, rv 107]
def mxW (f g : Nat → Option Nat) (i : Nat) : ax_H := mxP mxO f g (mxU ++ boL i)
theorem mxW_len {f g : Nat → Option Nat} {i : Nat} : (mxW f g i).length = 121 + 4 * i := by
  rw [mxW, mxP_len, List.length_append, mxU_len, boL_len]; omega
theorem mxW_sz {f g : Nat → Option Nat} {i : Nat} : ax_sz (mxW f g i) = 1550 + 25 * i := by
  rw [mxW, mxP_sz rfl, sz_app, mxU_sz, boL_sz]; omega
def mxH : ax_H := mxW (ixF 121 4) (ixF 137 8) 12
theorem mxW_app {f g : Nat → Option Nat} {i : Nat} : mxW f g i ++ boC (mxW f g i).length = mxW f g (i + 1) := by
  rw [mxW_len]
  show mxP mxO f g ((mxU ++ boL i) ++ boC (121 + 4 * i)) = mxP mxO f g (mxU ++ (boL i ++ boC (121 + 4 * i)))
  rw [List.append_assoc]
theorem mxW_new {f g : Nat → Option Nat} {i : Nat} : (mxW f g (i + 1))[121 + 4 * i]? = some (.inr (0, [rv (121 + 4 * i + 1), rv (121 + 4 * i + 2), rv (121 + 4 * i + 3), iv 0])) := by
  rw [← mxW_app, mxW_len, List.getElem?_append_right (by rw [mxW_len]; omega), mxW_len, Nat.sub_self]
  rfl
theorem mxW_set1 {f g f2 : Nat → Option Nat} {i : Nat} : (mxW f g i).set 1 (.inl (2, 4, .inr f2)) = mxW f2 g i := rfl
theorem mxW_set2 {f g f2 : Nat → Option Nat} {i : Nat} : (mxW f g i).set 2 (.inl (2, 8, .inr f2)) = mxW f f2 i := rfl
theorem n_Mixed {h : ax_H} (e : h = [.inr (4, [nv, nv, iv 0, nv, nv, nv])]) : ax_Met MX4_init [rv 0] h none mxH := by
  have eL : h.length = 1 := by rw [e]; rfl
  have eZ : ax_sz h = 6 := by rw [e]; rfl
  have fL : mxH.length = 169 := mxW_len
  have fZ : ax_sz mxH = 1850 := mxW_sz
  refine ax_mv (L0 := [some (rv 0), none]) rfl rfl (by omega) (by omega) (Nat.le_of_ble_eq_true rfl) rfl ?_
  intro p9 l9 e9 R9 s9 m9 args9 below9 meth9 c9 b9 D9 dA9 Q9 C hnm hcc hss kr
  rw [fL, eL] at hcc
  rw [fZ, eZ] at hss
  have loop2 : ∀ (d i : Nat), i + d = 8 → ax_G p9 l9 e9 R9 s9 m9 args9 below9 meth9 c9 b9 D9 dA9 MX4_init.2.2.1 h.length (ax_sz h) Q9 (87) ([some (rv 0), some (iv (i : Int))]) ([]) (mxW (ixF 121 4) (ixF 137 i) (4 + i)) := by
    intro d
    induction d with
    | zero =>
      intro i hi
      have ei : i = 8 := by omega
      subst ei
      refine g_iload_n C dX4_init_87 rfl ?_
      refine g_aload_n C dX4_init_88 rfl ?_
      refine g_get C FX4_15 dX4_init_89 (show (mxW (ixF 121 4) (ixF 137 8) (4 + 8))[0]? = some (.inr (4, [rv 1, rv 2, iv 0, rv 3, rv 7, rv 107])) from rfl) rfl ?_
      refine g_alen C dX4_init_92 (show (mxW (ixF 121 4) (ixF 137 8) (4 + 8))[2]? = some (.inl (2, 8, .inr (ixF 137 8))) from rfl) rfl ?_
      refine g_icmp_ge C dX4_init_93 (tgt := 115) (by decide) (by omega) (by omega) (fun h93 => ?_) (fun h93 => ?_)
      · exact kr _ _ dX4_init_115
      · exfalso; omega
    | succ d ih =>
      intro i hi
      refine g_iload_n C dX4_init_87 rfl ?_
      refine g_aload_n C dX4_init_88 rfl ?_
      refine g_get C FX4_15 dX4_init_89 (show (mxW (ixF 121 4) (ixF 137 i) (4 + i))[0]? = some (.inr (4, [rv 1, rv 2, iv 0, rv 3, rv 7, rv 107])) from rfl) rfl ?_
      refine g_alen C dX4_init_92 (show (mxW (ixF 121 4) (ixF 137 i) (4 + i))[2]? = some (.inl (2, 8, .inr (ixF 137 i))) from rfl) rfl ?_
      refine g_icmp_ge C dX4_init_93 (tgt := 115) (by decide) (by omega) (by omega) (fun h93 => ?_) (fun h93 => ?_)
      · exfalso; omega
      · refine g_aload_n C dX4_init_96 rfl ?_
        refine g_get C FX4_15 dX4_init_97 (show (mxW (ixF 121 4) (ixF 137 i) (4 + i))[0]? = some (.inr (4, [rv 1, rv 2, iv 0, rv 3, rv 7, rv 107])) from rfl) rfl ?_
        refine g_iload_n C dX4_init_100 rfl ?_
        refine g_new C NX4_9 dX4_init_101 (by rw [mxW_len]; omega) (by rw [mxW_sz]; omega) ?_
        refine g_dup C dX4_init_104 ?_
        refine g_callIN C (n_Body (g := mxW (ixF 121 4) (ixF 137 i) (4 + i)) rfl) dX4_init_105 KX0_init rfl rfl LX4_37 IX0_init (by decide) rfl rfl (Nat.le_of_ble_eq_true rfl) (by rw [mxW_app, mxW_len]; omega) (by rw [mxW_app, mxW_sz]; omega) ?_
        refine g_hp mxW_app ?_
        refine g_st (show _ = [rv (121 + 4 * (4 + i)), iv (i : Int), rv 2] by rw [mxW_len]) ?_
        refine g_aast C dX4_init_108 (show (mxW (ixF 121 4) (ixF 137 i) (4 + i + 1))[2]? = some (.inl (2, 8, .inr (ixF 137 i))) from rfl) rfl mxW_new rfl rfl (by omega) (by decide) ?_
        refine g_hp (show _ = mxW (ixF 121 4) (ixF 137 (i + 1)) (4 + (i + 1)) by rw [mxW_set2, ixF_up (by omega)]; rfl) ?_
        refine g_iincT C dX4_init_109 (by decide) rfl (show _ = ((i + 1 : Nat) : Int) by omega) rfl ?_
        dsimp only [List.set]
        refine g_goto C dX4_init_112 (tgt := 87) (by decide) ?_
        exact ih (i + 1) (by omega)
  have loop1 : ∀ (d i : Nat), i + d = 4 → ax_G p9 l9 e9 R9 s9 m9 args9 below9 meth9 c9 b9 D9 dA9 MX4_init.2.2.1 h.length (ax_sz h) Q9 (57) ([some (rv 0), some (iv (i : Int))]) ([]) (mxW (ixF 121 i) (ixF 137 0) i) := by
    intro d
    induction d with
    | zero =>
      intro i hi
      have ei : i = 4 := by omega
      subst ei
      refine g_iload_n C dX4_init_57 rfl ?_
      refine g_aload_n C dX4_init_58 rfl ?_
      refine g_get C FX4_11 dX4_init_59 (show (mxW (ixF 121 4) (ixF 137 0) 4)[0]? = some (.inr (4, [rv 1, rv 2, iv 0, rv 3, rv 7, rv 107])) from rfl) rfl ?_
      refine g_alen C dX4_init_62 (show (mxW (ixF 121 4) (ixF 137 0) 4)[1]? = some (.inl (2, 4, .inr (ixF 121 4))) from rfl) rfl ?_
      refine g_icmp_ge C dX4_init_63 (tgt := 85) (by decide) (by omega) (by omega) (fun h63 => ?_) (fun h63 => ?_)
      · refine g_iconst C dX4_init_85 ?_
        refine g_istore_n C dX4_init_86 (by decide) rfl ?_
        dsimp only [List.set]
        exact loop2 8 0 (by omega)
      · exfalso; omega
    | succ d ih =>
      intro i hi
      refine g_iload_n C dX4_init_57 rfl ?_
      refine g_aload_n C dX4_init_58 rfl ?_
      refine g_get C FX4_11 dX4_init_59 (show (mxW (ixF 121 i) (ixF 137 0) i)[0]? = some (.inr (4, [rv 1, rv 2, iv 0, rv 3, rv 7, rv 107])) from rfl) rfl ?_
      refine g_alen C dX4_init_62 (show (mxW (ixF 121 i) (ixF 137 0) i)[1]? = some (.inl (2, 4, .inr (ixF 121 i))) from rfl) rfl ?_
      refine g_icmp_ge C dX4_init_63 (tgt := 85) (by decide) (by omega) (by omega) (fun h63 => ?_) (fun h63 => ?_)
      · exfalso; omega
      · refine g_aload_n C dX4_init_66 rfl ?_
        refine g_get C FX4_11 dX4_init_67 (show (mxW (ixF 121 i) (ixF 137 0) i)[0]? = some (.inr (4, [rv 1, rv 2, iv 0, rv 3, rv 7, rv 107])) from rfl) rfl ?_
        refine g_iload_n C dX4_init_70 rfl ?_
        refine g_new C NX4_9 dX4_init_71 (by rw [mxW_len]; omega) (by rw [mxW_sz]; omega) ?_
        refine g_dup C dX4_init_74 ?_
        refine g_callIN C (n_Body (g := mxW (ixF 121 i) (ixF 137 0) i) rfl) dX4_init_75 KX0_init rfl rfl LX4_37 IX0_init (by decide) rfl rfl (Nat.le_of_ble_eq_true rfl) (by rw [mxW_app, mxW_len]; omega) (by rw [mxW_app, mxW_sz]; omega) ?_
        refine g_hp mxW_app ?_
        refine g_st (show _ = [rv (121 + 4 * i), iv (i : Int), rv 1] by rw [mxW_len]) ?_
        refine g_aast C dX4_init_78 (show (mxW (ixF 121 i) (ixF 137 0) (i + 1))[1]? = some (.inl (2, 4, .inr (ixF 121 i))) from rfl) rfl mxW_new rfl rfl (by omega) (by decide) ?_
        refine g_hp (show _ = mxW (ixF 121 (i + 1)) (ixF 137 0) (i + 1) by rw [mxW_set1, ixF_up rfl]) ?_
        refine g_iincT C dX4_init_79 (by decide) rfl (show _ = ((i + 1 : Nat) : Int) by omega) rfl ?_
        dsimp only [List.set]
        refine g_goto C dX4_init_82 (tgt := 57) (by decide) ?_
        exact ih (i + 1) (by omega)
  have l7 : (mxP [rv 1, rv 2, iv 0, rv 3, nv, nv] (fun _ => none) (fun _ => none) (rgC 3)).length = 7 := rfl
  have l107 : (mxP [rv 1, rv 2, iv 0, rv 3, rv 7, nv] (fun _ => none) (fun _ => none) mxT).length = 107 := by rw [mxP_len, mxT_len]
  refine g_aload_n C dX4_init_0 rfl ?_
  refine g_objInit C dX4_init_1 LX4_3 IObj KObj (by decide) (Nat.le_of_ble_eq_true rfl) ?_
  refine g_aload_n C dX4_init_4 rfl ?_
  refine g_iconst C dX4_init_5 ?_
  refine g_newq C (t := 2) (n := 4) dX4_init_6 PX4_9 AOX0 rfl rfl (by decide) (by omega) (by omega) ?_
  refine g_hp (show _ = [.inr (4, [nv, nv, iv 0, nv, nv, nv]), .inl (2, 4, .inr (fun _ => none))] by rw [e]; rfl) ?_
  refine g_st (show _ = [rv 1, rv 0] by rw [eL]) ?_
  refine g_putF C FX4_11 hnm (fun q hq => by cases hq; rfl) dX4_init_9 (show ([.inr (4, [nv, nv, iv 0, nv, nv, nv]), .inl (2, 4, .inr (fun _ => none))] : ax_H)[0]? = some (.inr (4, [nv, nv, iv 0, nv, nv, nv])) from rfl) rfl rfl (Nat.le_of_ble_eq_true rfl) ?_
  dsimp only [List.set]
  refine g_aload_n C dX4_init_12 rfl ?_
  refine g_bipush C dX4_init_13 (by decide) ?_
  refine g_newq C (t := 2) (n := 8) dX4_init_15 PX4_9 AOX0 rfl rfl (by decide) (by show 2 + 1 ≤ _; omega) (by show 10 + 8 ≤ _; omega) ?_
  refine g_hp (show _ = mxP [rv 1, nv, iv 0, nv, nv, nv] (fun _ => none) (fun _ => none) [] from rfl) ?_
  refine g_st (show _ = [rv 2, rv 0] from rfl) ?_
  refine g_putF C FX4_15 hnm (fun q hq => by cases hq; rfl) dX4_init_18 (show (mxP [rv 1, nv, iv 0, nv, nv, nv] (fun _ => none) (fun _ => none) [])[0]? = some (.inr (4, [rv 1, nv, iv 0, nv, nv, nv])) from rfl) rfl rfl (Nat.le_of_ble_eq_true rfl) ?_
  dsimp only [List.set]
  refine g_hp (show _ = mxP [rv 1, rv 2, iv 0, nv, nv, nv] (fun _ => none) (fun _ => none) [] from rfl) ?_
  refine g_aload_n C dX4_init_21 rfl ?_
  refine g_new C NX4_18 dX4_init_22 (by show 3 + 1 ≤ _; omega) (by show 18 + 5 ≤ _; omega) ?_
  refine g_dup C dX4_init_25 ?_
  refine g_callIN C (n_Region (g := mxP [rv 1, rv 2, iv 0, nv, nv, nv] (fun _ => none) (fun _ => none) []) rfl) dX4_init_26 KX3_init rfl rfl LX4_20 IX3_init (by decide) rfl rfl (Nat.le_of_ble_eq_true rfl) (by show 7 ≤ _; omega) (by show 535 ≤ _; omega) ?_
  refine g_hp (show _ = mxP [rv 1, rv 2, iv 0, nv, nv, nv] (fun _ => none) (fun _ => none) (rgC 3) from rfl) ?_
  refine g_st (show _ = [rv 3, rv 0] from rfl) ?_
  refine g_putF C FX4_21 hnm (fun q hq => by cases hq; rfl) dX4_init_29 (show (mxP [rv 1, rv 2, iv 0, nv, nv, nv] (fun _ => none) (fun _ => none) (rgC 3))[0]? = some (.inr (4, [rv 1, rv 2, iv 0, nv, nv, nv])) from rfl) rfl rfl (Nat.le_of_ble_eq_true rfl) ?_
  dsimp only [List.set]
  refine g_hp (show _ = mxP [rv 1, rv 2, iv 0, rv 3, nv, nv] (fun _ => none) (fun _ => none) (rgC 3) from rfl) ?_
  refine g_aload_n C dX4_init_32 rfl ?_
  refine g_new C NX4_25 dX4_init_33 (by rw [l7]; omega) (by rw [mxP_sz rfl, rgC_sz]; omega) ?_
  refine g_dup C dX4_init_36 ?_
  refine g_callI C (n_Cutting (g := mxP [rv 1, rv 2, iv 0, rv 3, nv, nv] (fun _ => none) (fun _ => none) (rgC 3)) rfl) dX4_init_37 KX2_init rfl rfl LX4_27 IX2_init (by decide) rfl rfl (Nat.le_of_ble_eq_true rfl) (by rw [List.length_append, cuD_len, l7]; omega) (by rw [sz_app, cuD_sz, mxP_sz rfl, rgC_sz]; omega) ?_
  refine g_hp (show _ = mxP [rv 1, rv 2, iv 0, rv 3, nv, nv] (fun _ => none) (fun _ => none) mxT by rw [l7]; rfl) ?_
  refine g_st (show _ = [rv 7, rv 0] by rw [l7]) ?_
  refine g_putF C FX4_28 hnm (fun q hq => by cases hq; rfl) dX4_init_40 (show (mxP [rv 1, rv 2, iv 0, rv 3, nv, nv] (fun _ => none) (fun _ => none) mxT)[0]? = some (.inr (4, [rv 1, rv 2, iv 0, rv 3, nv, nv])) from rfl) rfl rfl (Nat.le_of_ble_eq_true rfl) ?_
  dsimp only [List.set]
  refine g_hp (show _ = mxP [rv 1, rv 2, iv 0, rv 3, rv 7, nv] (fun _ => none) (fun _ => none) mxT from rfl) ?_
  refine g_aload_n C dX4_init_43 rfl ?_
  refine g_bipush C dX4_init_44 (by decide) ?_
  refine g_bipush C dX4_init_46 (by decide) ?_
  refine g_multi C dX4_init_48 PX4_32 AOA AWi (n := 13) (k := 13) (by decide) (by decide) (by rw [l107]; omega) (by rw [mxP_sz rfl, mxT_sz]; omega) ?_
  refine g_hp (show _ = mxP [rv 1, rv 2, iv 0, rv 3, rv 7, nv] (fun _ => none) (fun _ => none) mxU by rw [l107]; rfl) ?_
  refine g_st (show _ = [rv 107, rv 0] by rw [l107]) ?_
  refine g_putF C FX4_34 hnm (fun q hq => by cases hq; rfl) dX4_init_52 (show (mxP [rv 1, rv 2, iv 0, rv 3, rv 7, nv] (fun _ => none) (fun _ => none) mxU)[0]? = some (.inr (4, [rv 1, rv 2, iv 0, rv 3, rv 7, nv])) from rfl) rfl rfl (Nat.le_of_ble_eq_true rfl) ?_
  dsimp only [List.set]
  refine g_hp (show _ = mxW (ixF 121 0) (ixF 137 0) 0 by rw [ixF_0, ixF_0, mxW, show mxU ++ boL 0 = mxU from List.append_nil _]; rfl) ?_
  refine g_iconst C dX4_init_55 ?_
  refine g_istore_n C dX4_init_56 (by decide) rfl ?_
  dsimp only [List.set]
  exact loop1 4 0 (by omega)
