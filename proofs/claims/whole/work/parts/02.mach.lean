/-! A machine of plain numbers over the machine: values are whole numbers or places of a list of cells; the list is the heap from the cell b on. -/
abbrev ax_V : Type := Int ⊕ Option Nat
abbrev ax_A : Type := (Nat → Int) ⊕ (Nat → Option Nat)
abbrev ax_E : Type := (Nat × Nat × ax_A) ⊕ (Nat × List ax_V)
abbrev ax_H : Type := List ax_E
abbrev iv (z : Int) : ax_V := .inl z
abbrev rv (a : Nat) : ax_V := .inr (some a)
abbrev nv : ax_V := .inr none
def ax_v (b : Nat) : ax_V → Value
  | .inl z => .int (Int32.ofInt z)
  | .inr none => .null
  | .inr (some a) => .ref (b + a)
theorem ax_cat (b : Nat) (v : ax_V) : (ax_v b v).category = 1 := by rcases v with z | (_ | a) <;> rfl
def ax_e (b : Nat) (dA : Nat → ClassId) : ax_E → va_E
  | .inl (t, n, .inl f) => .inl (dA t, n, .inl (fun k => Int32.ofInt (f k)))
  | .inl (t, n, .inr g) => .inl (dA t, n, .inr (.inr (.inr (.inr (fun k => (g k).map (fun a => b + a))))))
  | .inr (c, fs) => .inr (c, fs.map (ax_v b))
def ax_w (b : Nat) (dA : Nat → ClassId) (h : ax_H) : va_W := h.mapIdx (fun k e => (b + k, ax_e b dA e))
theorem ax_w_get (b : Nat) (dA : Nat → ClassId) (h : ax_H) (k : Nat) : (ax_w b dA h)[k]? = (h[k]?).map (fun e => (b + k, ax_e b dA e)) := by
  simp [ax_w]
theorem ax_w_at {b : Nat} {dA : Nat → ClassId} {h : ax_H} {k : Nat} {e : ax_E} (hk : h[k]? = some e) : (ax_w b dA h)[k]? = some (b + k, ax_e b dA e) := by
  rw [ax_w_get, hk]; rfl
theorem ax_w_set (b : Nat) (dA : Nat → ClassId) (h : ax_H) (k : Nat) (e : ax_E) : (ax_w b dA h).set k (b + k, ax_e b dA e) = ax_w b dA (h.set k e) := by
  apply List.ext_getElem?
  intro i
  rw [ax_w_get, List.getElem?_set, List.getElem?_set, ax_w_get]
  by_cases hi : k = i
  · subst hi
    by_cases hl : k < h.length
    · simp [ax_w, hl]
    · simp [ax_w, hl]
  · simp [hi]
theorem ax_w_push (b : Nat) (dA : Nat → ClassId) (h : ax_H) (e : ax_E) : ax_w b dA h ++ [(b + h.length, ax_e b dA e)] = ax_w b dA (h ++ [e]) := by
  simp [ax_w, List.mapIdx_append]
theorem ax_D (b : Nat) (dA : Nat → ClassId) (h : ax_H) : va_D (fun q => b ≤ q) (ax_w b dA h) := by
  have key : ∀ (k : Nat) (q : Nat × va_E), (ax_w b dA h)[k]? = some q → q.1 = b + k := by
    intro k q hq
    rw [ax_w_get] at hq
    cases hk : h[k]? with
    | none => rw [hk] at hq; cases hq
    | some e => rw [hk] at hq; cases hq; rfl
  refine ⟨fun i j p q hp hq e => ?_, fun k q hq => ?_⟩
  · have := key i p hp
    have := key j q hq
    omega
  · have := key k q hq
    omega
/-! sizes -/
def ax_z : ax_E → Nat
  | .inl (_, n, _) => n
  | .inr (_, fs) => fs.length
def ax_sz (h : ax_H) : Nat := (h.map ax_z).sum
theorem ax_sz_push (h : ax_H) (e : ax_E) : ax_sz (h ++ [e]) = ax_sz h + ax_z e := by simp [ax_sz]
theorem ax_sz_set : ∀ (h : ax_H) (k : Nat) (e e0 : ax_E), h[k]? = some e0 → ax_z e = ax_z e0 → ax_sz (h.set k e) = ax_sz h
  | [], k, e, e0, hk, _ => by simp at hk
  | x :: h, 0, e, e0, hk, hz => by
    simp at hk
    subst hk
    simp [ax_sz, hz]
  | x :: h, k + 1, e, e0, hk, hz => by
    simp at hk
    have := ax_sz_set h k e e0 hk hz
    simp [ax_sz] at this ⊢
    omega
def ax_tys (dA : Nat → ClassId) : List (ClassId × FieldType) := [(dA 0, .int), (dA 1, .boolean), (dA 2, .object RX0), (dA 3, .object RX1), (dA 4, .array .int)]
/-! the words of the tables stay as classes warm up -/
theorem ax_aoa {args a' : Array Value} {u U : State} (hvm : u.vm.Alike U.vm) (h : (Cond.arrayOver (.array .int)).before args u = true) : (Cond.arrayOver (.array .int)).before a' U = true := by
  simp only [Cond.before, Cond.holds, Cond.value, beq_iff_eq] at h ⊢
  rw [hvm.findClass, hvm.findClass]
  cases hc : u.vm.findClass (FieldType.array .int).toString with
  | none => simp [hc] at h
  | some comp =>
    simp only [hc, Option.bind_some, Option.bind_eq_some_iff, Option.map_eq_some_iff] at h ⊢
    obtain ⟨ci, hi, k, hk, hb⟩ := h
    obtain ⟨k', hk', he⟩ := hvm.2.2 _ _ hk
    have hkind : k'.kind = k.kind := by rw [he]
    refine ⟨ci, ?_, k', hk', ?_⟩
    · have e1 := va_idx_bare U.vm comp
      have e2 := va_idx_bare u.vm comp
      refine e1.symm.trans (Eq.trans ?_ (e2.trans hi))
      first | rw [hvm.bare_eq] | rw [← hvm.bare_eq]
    · rw [hkind]
      exact hb
def ax_good (w : Cond) : Bool := match w with
  | .methodLinkNest _ _ _ _ => true
  | .arrayOver (.object _) => true
  | .arrayOver (.array .int) => true
  | w => goodWord w
def ax_tb : List Cond := lw_tbl.filter ax_good
theorem ax_all : ax_tb.all ax_good = true := List.all_eq_true.mpr (fun w hw => (List.mem_filter.mp hw).2)
theorem ax_t (i : Nat) {w : Cond} (h : tables_1[i]? = some w) (hg : ax_good w = true) : w ∈ ax_tb := List.mem_filter.mpr ⟨List.mem_append_right _ (List.mem_of_getElem? h), hg⟩
theorem ax_p (i : Nat) {w : Cond} (h : (k2_sels lw_privs)[i]? = some w) (hg : ax_good w = true) : w ∈ ax_tb := List.mem_filter.mpr ⟨List.mem_append_left _ (List.mem_of_getElem? h), hg⟩
theorem inbX0 : ∀ w ∈ wsX00, w ∈ ax_tb := fun w h => List.mem_filter.mpr ⟨inX0 w h, List.all_eq_true.mp (by decide +kernel : wsX00.all ax_good = true) w h⟩
theorem inbX1 : ∀ w ∈ wsX10, w ∈ ax_tb := fun w h => List.mem_filter.mpr ⟨inX1 w h, List.all_eq_true.mp (by decide +kernel : wsX10.all ax_good = true) w h⟩
theorem inbX2 : ∀ w ∈ wsX20, w ∈ ax_tb := fun w h => List.mem_filter.mpr ⟨inX2 w h, List.all_eq_true.mp (by decide +kernel : wsX20.all ax_good = true) w h⟩
theorem inbX3 : ∀ w ∈ wsX30, w ∈ ax_tb := fun w h => List.mem_filter.mpr ⟨inX3 w h, List.all_eq_true.mp (by decide +kernel : wsX30.all ax_good = true) w h⟩
theorem inbX4 : ∀ w ∈ wsX40, w ∈ ax_tb := fun w h => List.mem_filter.mpr ⟨inX4 w h, List.all_eq_true.mp (by decide +kernel : wsX40.all ax_good = true) w h⟩
theorem inbX5 : ∀ w ∈ wsX50, w ∈ ax_tb := fun w h => List.mem_filter.mpr ⟨inX5 w h, List.all_eq_true.mp (by decide +kernel : wsX50.all ax_good = true) w h⟩
theorem ax_stable {w : Cond} (hw : ax_good w = true) {args a' : Array Value} {s U : State} (hW : s.WarmedH U.vm) (h : w.before args s = true) : w.before a' U = true := by
  unfold ax_good at hw
  split at hw
  · exact va_Nw.use rfl (va_Nw.warmM hW (va_Nw.of rfl h))
  · exact va_AO.use (va_AO.moved hW.alike (va_AO.of h))
  · exact ax_aoa hW.alike h
  · exact word_at hW (good_of_word hw) h
theorem ax_words {args : Array Value} {s : State} (hts : ∀ w ∈ ax_tb, w.before args s = true) : ∀ w ∈ ax_tb, ∀ (a' : Array Value) (U : State), s.WarmedH U.vm → w.before a' U = true := fun w hw a' U hW => ax_stable (List.all_eq_true.mp ax_all w hw) hW (hts w hw)
/-- what stays the same while a method runs -/
def ax_C (p : Program) (R : Room) (s : State) (m : MethodId) (args : Array Value) (meth : Method) (c : Code) (b : Nat) (D : va_G) (dA : Nat → ClassId) (nL n0 : Nat) (cc : ByteArray) (own : String) (ht : Nat) : Prop :=
  p.tables.exec = Jvm.exec ∧ c.code = cc ∧ c.maxLocals = nL ∧ s.vm.findClass own = some m.cls ∧ (∀ w ∈ ax_tb, w.before args s = true) ∧ va_K D vwCl (ax_tys dA) s ∧ R.frames = ht ∧ R.locals = 38 * ht ∧ s.heap.size = b + n0 ∧ meth.locks = false
/-- what holds between two instructions -/
def ax_I (R : Room) (s : State) (b : Nat) (D : va_G) (dA : Nat → ClassId) (nL n0 z0 : Nat) (L : List (Option ax_V)) (h : ax_H) (H : Heap) (ls : Array Slot) (locs : List Loc) (cells slots : Nat) : Prop :=
  H.size = b + h.length ∧ va_P D vwCl (ax_w b dA h) H ∧ (∀ q, q < b → H[q]? = s.heap[q]?) ∧ (∀ x ∈ locs, b ≤ x.base) ∧ (ls.size = nL ∧ lv_wf ls ∧ ∀ (i : Nat) (v : ax_V), L[i]? = some (some v) → ls[i]? = some (.val (ax_v b v))) ∧ cells + n0 = h.length ∧ slots + z0 = ax_sz h ∧ h.length ≤ n0 + R.cells ∧ ax_sz h ≤ z0 + R.slots
def ax_G (p : Program) (l : Launch) (e : Env) (R : Room) (s : State) (m : MethodId) (args : Array Value) (below : List Frame) (meth : Method) (c : Code) (b : Nat) (D : va_G) (dA : Nat → ClassId) (nL n0 z0 : Nat) (Q : State → Prop) (pc : Nat) (L : List (Option ax_V)) (st : List ax_V) (h : ax_H) : Prop :=
  ∀ (H : Heap) (ls : Array Slot) (locs : List Loc) (cells slots : Nat), ax_I R s b D dA nL n0 z0 L h H ls locs cells slots → W p l e R s m args below meth c H locs cells slots Q (F0 m pc ls (st.map (ax_v b)))

section AXR
variable {p : Program} {l : Launch} {e : Env} {R : Room} {s : State} {m : MethodId} {args : Array Value} {below : List Frame} {meth : Method} {c : Code} {b : Nat} {D : va_G} {dA : Nat → ClassId} {nL n0 z0 : Nat} {Q : State → Prop} {cc : ByteArray} {own : String} {ht : Nat} {pc : Nat} {L : List (Option ax_V)} {st : List ax_V} {h : ax_H}
theorem ax_top {H : Heap} {locs : List Loc} {cells slots : Nat} {ls : Array Slot} {rest : List Value} {z z' : Int32} (hz : z = z') (k : W p l e R s m args below meth c H locs cells slots Q (F0 m pc ls (.int z' :: rest))) : W p l e R s m args below meth c H locs cells slots Q (F0 m pc ls (.int z :: rest)) := hz ▸ k
theorem ax_I.loc {H : Heap} {ls : Array Slot} {locs : List Loc} {cells slots : Nat} (I : ax_I R s b D dA nL n0 z0 L h H ls locs cells slots) {i : Nat} {v : ax_V} (hi : L[i]? = some (some v)) : ls[i]? = some (.val (ax_v b v)) := I.2.2.2.2.1.2.2 i v hi
theorem ax_ti {z : Int} (hz : -2147483648 ≤ z ∧ z < 2147483648) : (Int32.ofInt z).toInt = z := Int32.toInt_ofInt_of_le (by omega) (by omega)
theorem ax_lt {x y : Int} (hx : -2147483648 ≤ x ∧ x < 2147483648) (hy : -2147483648 ≤ y ∧ y < 2147483648) : Int32.ofInt x < Int32.ofInt y ↔ x < y := by rw [Int32.lt_iff_toInt_lt, ax_ti hx, ax_ti hy]
theorem ax_le {x y : Int} (hx : -2147483648 ≤ x ∧ x < 2147483648) (hy : -2147483648 ≤ y ∧ y < 2147483648) : Int32.ofInt x ≤ Int32.ofInt y ↔ x ≤ y := by rw [Int32.le_iff_toInt_le, ax_ti hx, ax_ti hy]
theorem ax_eq {x y : Int} (hx : -2147483648 ≤ x ∧ x < 2147483648) (hy : -2147483648 ≤ y ∧ y < 2147483648) : Int32.ofInt x = Int32.ofInt y ↔ x = y := by rw [← Int32.toInt_inj, ax_ti hx, ax_ti hy]
theorem ax_0 : (0 : Int32) = Int32.ofInt 0 := rfl
theorem ax_ir0 : (-2147483648 : Int) ≤ 0 ∧ (0 : Int) < 2147483648 := by decide
theorem ax_in {i : Int} {n j : Nat} (hi : i = (j : Int)) (hj : j < n) (hn : n ≤ 1000000) : ¬ (Int32.ofInt i < 0 ∨ n ≤ (Int32.ofInt i).toNatClampNeg) ∧ (Int32.ofInt i).toNatClampNeg = j := by
  subst hi
  have h1 : (Int32.ofInt (j : Int)).toNatClampNeg = j := by
    rw [Int32.toNatClampNeg_ofInt_of_le (by omega) (by omega)]; omega
  refine ⟨fun q => ?_, h1⟩
  rw [h1] at q
  rcases q with q | q
  · rw [ax_0, ax_lt (by omega) (by omega)] at q
    omega
  · omega
/-! constants, locals -/
theorem g_iconst (C : ax_C p R s m args meth c b D dA nL n0 cc own ht) {z : Int} (hd : decode cc pc = .ok (.iconst z, 1)) (k : ax_G p l e R s m args below meth c b D dA nL n0 z0 Q (pc + 1) (L) (iv z :: st) (h)) : ax_G p l e R s m args below meth c b D dA nL n0 z0 Q (pc) (L) (st) (h) := fun H ls locs cells slots I => lv_iconst C.1 C.2.1 hd rfl (k H ls locs cells slots I)
theorem g_bipush (C : ax_C p R s m args meth c b D dA nL n0 cc own ht) {z : Int} (hd : decode cc pc = .ok (.bipush z, 2)) (hv : (Int8.ofInt z).toInt32 = Int32.ofInt z) (k : ax_G p l e R s m args below meth c b D dA nL n0 z0 Q (pc + 2) (L) (iv z :: st) (h)) : ax_G p l e R s m args below meth c b D dA nL n0 z0 Q (pc) (L) (st) (h) := fun H ls locs cells slots I => lv_bipush C.1 C.2.1 hd hv (k H ls locs cells slots I)
theorem g_sipush (C : ax_C p R s m args meth c b D dA nL n0 cc own ht) {z : Int} (hd : decode cc pc = .ok (.sipush z, 3)) (hv : (Int16.ofInt z).toInt32 = Int32.ofInt z) (k : ax_G p l e R s m args below meth c b D dA nL n0 z0 Q (pc + 3) (L) (iv z :: st) (h)) : ax_G p l e R s m args below meth c b D dA nL n0 z0 Q (pc) (L) (st) (h) := fun H ls locs cells slots I => lv_sipush C.1 C.2.1 hd hv (k H ls locs cells slots I)
theorem g_ldc (C : ax_C p R s m args meth c b D dA nL n0 cc own ht) {z : Int} {idx : Nat} {v : Int32} (hd : decode cc pc = .ok (.ldc idx, 2)) (hw : Cond.constant own idx v ∈ ax_tb) (hv : v = Int32.ofInt z) (k : ax_G p l e R s m args below meth c b D dA nL n0 z0 Q (pc + 2) (L) (iv z :: st) (h)) : ax_G p l e R s m args below meth c b D dA nL n0 z0 Q (pc) (L) (st) (h) := fun H ls locs cells slots I => lv_ldc C.1 C.2.1 C.2.2.2.1 (C.2.2.2.2.1 _ hw) hd (by subst hv; exact k H ls locs cells slots I)
theorem g_iload_n (C : ax_C p R s m args meth c b D dA nL n0 cc own ht) {i : Fin 4} {z : Int} (hd : decode cc pc = .ok (.iload_n i, 1)) (hi : L[(i : Nat)]? = some (some (.inl z))) (k : ax_G p l e R s m args below meth c b D dA nL n0 z0 Q (pc + 1) (L) (iv z :: st) (h)) : ax_G p l e R s m args below meth c b D dA nL n0 z0 Q (pc) (L) (st) (h) := fun H ls locs cells slots I => lv_iload_n C.1 C.2.1 hd rfl (I.loc hi) (k H ls locs cells slots I)
theorem g_iload (C : ax_C p R s m args meth c b D dA nL n0 cc own ht) {i : Nat} {z : Int} (hd : decode cc pc = .ok (.iload i, 2)) (hi : L[i]? = some (some (.inl z))) (k : ax_G p l e R s m args below meth c b D dA nL n0 z0 Q (pc + 2) (L) (iv z :: st) (h)) : ax_G p l e R s m args below meth c b D dA nL n0 z0 Q (pc) (L) (st) (h) := fun H ls locs cells slots I => lv_iload C.1 C.2.1 hd (I.loc hi) (k H ls locs cells slots I)
theorem g_aload_n (C : ax_C p R s m args meth c b D dA nL n0 cc own ht) {i : Fin 4} {o : Option Nat} (hd : decode cc pc = .ok (.aload_n i, 1)) (hi : L[(i : Nat)]? = some (some (.inr o))) (k : ax_G p l e R s m args below meth c b D dA nL n0 z0 Q (pc + 1) (L) (.inr o :: st) (h)) : ax_G p l e R s m args below meth c b D dA nL n0 z0 Q (pc) (L) (st) (h) := fun H ls locs cells slots I => by
  cases o with
  | none => exact lv_aload_nN C.1 C.2.1 hd rfl (I.loc hi) (k H ls locs cells slots I)
  | some a => exact lv_aload_n C.1 C.2.1 hd rfl (I.loc hi) (k H ls locs cells slots I)
theorem g_aload (C : ax_C p R s m args meth c b D dA nL n0 cc own ht) {i : Nat} {o : Option Nat} (hd : decode cc pc = .ok (.aload i, 2)) (hi : L[i]? = some (some (.inr o))) (k : ax_G p l e R s m args below meth c b D dA nL n0 z0 Q (pc + 2) (L) (.inr o :: st) (h)) : ax_G p l e R s m args below meth c b D dA nL n0 z0 Q (pc) (L) (st) (h) := fun H ls locs cells slots I => by
  cases o with
  | none => exact lv_aloadN C.1 C.2.1 hd (I.loc hi) (k H ls locs cells slots I)
  | some a => exact lv_aload C.1 C.2.1 hd (I.loc hi) (k H ls locs cells slots I)
theorem g_null (C : ax_C p R s m args meth c b D dA nL n0 cc own ht) (hd : decode cc pc = .ok (.aconst_null, 1)) (k : ax_G p l e R s m args below meth c b D dA nL n0 z0 Q (pc + 1) (L) (nv :: st) (h)) : ax_G p l e R s m args below meth c b D dA nL n0 z0 Q (pc) (L) (st) (h) := fun H ls locs cells slots I => lv_null C.1 C.2.1 hd (k H ls locs cells slots I)
/-- the locals as a list with places -/
def ax_l (b : Nat) (L : List (Option ax_V)) : List (Nat × Value) := (List.range L.length).filterMap (fun i => match L[i]? with | some (some v) => some (i, ax_v b v) | _ => none)
theorem ax_l_mem {q : Nat × Value} (hq : q ∈ ax_l b L) : ∃ v, L[q.1]? = some (some v) ∧ q.2 = ax_v b v := by
  obtain ⟨i, -, hi⟩ := List.mem_filterMap.mp hq
  cases hL : L[i]? with
  | none => simp [hL] at hi
  | some o =>
    cases o with
    | none => simp [hL] at hi
    | some v =>
      simp [hL] at hi
      subst hi
      exact ⟨v, hL, rfl⟩
theorem ax_l_of {i : Nat} {v : ax_V} (hi : L[i]? = some (some v)) : (i, ax_v b v) ∈ ax_l b L := by
  refine List.mem_filterMap.mpr ⟨i, List.mem_range.mpr (List.getElem?_eq_some_iff.mp hi).1, ?_⟩
  simp [hi]
theorem ax_I.has {H : Heap} {ls : Array Slot} {locs : List Loc} {cells slots : Nat} (I : ax_I R s b D dA nL n0 z0 L h H ls locs cells slots) : lv_has ls nL (ax_l b L) := ⟨I.2.2.2.2.1.1, I.2.2.2.2.1.2.1, fun q hq => by
  obtain ⟨v, h1, h2⟩ := ax_l_mem hq
  rw [h2]
  exact I.loc h1⟩
theorem ax_I.stored {H : Heap} {ls ls' : Array Slot} {locs : List Loc} {cells slots : Nat} (I : ax_I R s b D dA nL n0 z0 L h H ls locs cells slots) {i : Nat} {v : ax_V} {L' : List (Option ax_V)} (hL : L.set i (some v) = L') (hl : lv_has ls' nL ((i, ax_v b v) :: (ax_l b L).filter (fun q => !(q.1 == i) && !(q.1 + 1 == i && q.2.category == 2)))) : ax_I R s b D dA nL n0 z0 L' h H ls' locs cells slots := by
  obtain ⟨a1, a2, a3, a4, a5, a6, a7, a8, a9⟩ := I
  refine ⟨a1, a2, a3, a4, ⟨hl.1, hl.2.1, fun j w hj => ?_⟩, a6, a7, a8, a9⟩
  subst hL
  rw [List.getElem?_set] at hj
  by_cases hij : i = j
  · subst hij
    rw [if_pos rfl] at hj
    split at hj
    · cases hj
      exact hl.2.2 _ List.mem_cons_self
    · cases hj
  · rw [if_neg hij] at hj
    refine hl.2.2 (j, ax_v b w) (List.mem_cons_of_mem _ (List.mem_filter.mpr ⟨ax_l_of hj, ?_⟩))
    have := ax_cat b w
    simp [this, Ne.symm hij]
theorem g_istore_n (C : ax_C p R s m args meth c b D dA nL n0 cc own ht) {i : Fin 4} {z : Int} {L' : List (Option ax_V)} (hd : decode cc pc = .ok (.istore_n i, 1)) (hn : (i : Nat) < nL) (hL : L.set (i : Nat) (some (.inl z)) = L') (k : ax_G p l e R s m args below meth c b D dA nL n0 z0 Q (pc + 1) (L') (st) (h)) : ax_G p l e R s m args below meth c b D dA nL n0 z0 Q (pc) (L) (iv z :: st) (h) := fun H ls locs cells slots I => lv_istore_n C.1 C.2.1 hd rfl I.has hn rfl (fun ls' hl => k H ls' locs cells slots (I.stored hL hl))
theorem g_istore (C : ax_C p R s m args meth c b D dA nL n0 cc own ht) {i : Nat} {z : Int} {L' : List (Option ax_V)} (hd : decode cc pc = .ok (.istore i, 2)) (hn : i < nL) (hL : L.set i (some (.inl z)) = L') (k : ax_G p l e R s m args below meth c b D dA nL n0 z0 Q (pc + 2) (L') (st) (h)) : ax_G p l e R s m args below meth c b D dA nL n0 z0 Q (pc) (L) (iv z :: st) (h) := fun H ls locs cells slots I => lv_istore C.1 C.2.1 hd I.has hn rfl (fun ls' hl => k H ls' locs cells slots (I.stored hL hl))
theorem g_astore_n (C : ax_C p R s m args meth c b D dA nL n0 cc own ht) {i : Fin 4} {o : Option Nat} {L' : List (Option ax_V)} (hd : decode cc pc = .ok (.astore_n i, 1)) (hn : (i : Nat) < nL) (hL : L.set (i : Nat) (some (.inr o)) = L') (k : ax_G p l e R s m args below meth c b D dA nL n0 z0 Q (pc + 1) (L') (st) (h)) : ax_G p l e R s m args below meth c b D dA nL n0 z0 Q (pc) (L) (.inr o :: st) (h) := fun H ls locs cells slots I => by
  cases o with
  | none => exact lv_astore_nN C.1 C.2.1 hd rfl I.has hn rfl (fun ls' hl => k H ls' locs cells slots (I.stored hL hl))
  | some a => exact lv_astore_n C.1 C.2.1 hd rfl I.has hn rfl (fun ls' hl => k H ls' locs cells slots (I.stored hL hl))
theorem g_astore (C : ax_C p R s m args meth c b D dA nL n0 cc own ht) {i : Nat} {o : Option Nat} {L' : List (Option ax_V)} (hd : decode cc pc = .ok (.astore i, 2)) (hn : i < nL) (hL : L.set i (some (.inr o)) = L') (k : ax_G p l e R s m args below meth c b D dA nL n0 z0 Q (pc + 2) (L') (st) (h)) : ax_G p l e R s m args below meth c b D dA nL n0 z0 Q (pc) (L) (.inr o :: st) (h) := fun H ls locs cells slots I => by
  cases o with
  | none => exact lv_astoreN C.1 C.2.1 hd I.has hn rfl (fun ls' hl => k H ls' locs cells slots (I.stored hL hl))
  | some a => exact lv_astore C.1 C.2.1 hd I.has hn rfl (fun ls' hl => k H ls' locs cells slots (I.stored hL hl))
theorem g_iinc (C : ax_C p R s m args meth c b D dA nL n0 cc own ht) {i : Nat} {n z : Int} {L' : List (Option ax_V)} (hd : decode cc pc = .ok (.iinc i n, 3)) (hn : i < nL) (hi : L[i]? = some (some (.inl z))) (hL : L.set i (some (.inl (z + n))) = L') (k : ax_G p l e R s m args below meth c b D dA nL n0 z0 Q (pc + 3) (L') (st) (h)) : ax_G p l e R s m args below meth c b D dA nL n0 z0 Q (pc) (L) (st) (h) := fun H ls locs cells slots I => by
  obtain ⟨j, hj⟩ := List.getElem?_of_mem (ax_l_of (b := b) hi)
  exact lv_iinc C.1 C.2.1 hd I.has hj (Int32.ofInt_add z n).symm hn rfl (fun ls' hl => k H ls' locs cells slots (I.stored (v := .inl (z + n)) hL hl))
/-! arithmetic -/
theorem g_iadd (C : ax_C p R s m args meth c b D dA nL n0 cc own ht) {x y : Int} (hd : decode cc pc = .ok (.iadd, 1)) (k : ax_G p l e R s m args below meth c b D dA nL n0 z0 Q (pc + 1) (L) (iv (x + y) :: st) (h)) : ax_G p l e R s m args below meth c b D dA nL n0 z0 Q (pc) (L) (iv y :: iv x :: st) (h) := fun H ls locs cells slots I => lv_iadd C.1 C.2.1 hd (ax_top (Int32.ofInt_add x y).symm (k H ls locs cells slots I))
theorem g_isub (C : ax_C p R s m args meth c b D dA nL n0 cc own ht) {x y : Int} (hd : decode cc pc = .ok (.isub, 1)) (k : ax_G p l e R s m args below meth c b D dA nL n0 z0 Q (pc + 1) (L) (iv (x - y) :: st) (h)) : ax_G p l e R s m args below meth c b D dA nL n0 z0 Q (pc) (L) (iv y :: iv x :: st) (h) := fun H ls locs cells slots I => lv_isub C.1 C.2.1 hd (ax_top (Int32.ofInt_sub x y).symm (k H ls locs cells slots I))
theorem g_imul (C : ax_C p R s m args meth c b D dA nL n0 cc own ht) {x y : Int} (hd : decode cc pc = .ok (.imul, 1)) (k : ax_G p l e R s m args below meth c b D dA nL n0 z0 Q (pc + 1) (L) (iv (x * y) :: st) (h)) : ax_G p l e R s m args below meth c b D dA nL n0 z0 Q (pc) (L) (iv y :: iv x :: st) (h) := fun H ls locs cells slots I => lv_imul C.1 C.2.1 hd (ax_top (Int32.ofInt_mul x y).symm (k H ls locs cells slots I))
theorem g_ineg (C : ax_C p R s m args meth c b D dA nL n0 cc own ht) {x : Int} (hd : decode cc pc = .ok (.ineg, 1)) (k : ax_G p l e R s m args below meth c b D dA nL n0 z0 Q (pc + 1) (L) (iv (-x) :: st) (h)) : ax_G p l e R s m args below meth c b D dA nL n0 z0 Q (pc) (L) (iv x :: st) (h) := fun H ls locs cells slots I => lv_ineg C.1 C.2.1 hd (ax_top (Int32.ofInt_neg x).symm (k H ls locs cells slots I))
theorem ax_div {x y : Int} (hx : -2147483648 ≤ x ∧ x < 2147483648) (hy : -2147483648 ≤ y ∧ y < 2147483648) : Int32.ofInt x / Int32.ofInt y = Int32.ofInt (x.tdiv y) := by
  have e1 : Int32.minValue.toInt = -2147483648 := rfl
  have e2 : Int32.maxValue.toInt = 2147483647 := rfl
  exact (Int32.ofInt_tdiv (by omega) (by omega) (by omega) (by omega)).symm
theorem g_idiv (C : ax_C p R s m args meth c b D dA nL n0 cc own ht) {x y : Int} (hd : decode cc pc = .ok (.idiv, 1)) (hx : -2147483648 ≤ x ∧ x < 2147483648) (hy : -2147483648 ≤ y ∧ y < 2147483648) (h0 : y ≠ 0) (k : ax_G p l e R s m args below meth c b D dA nL n0 z0 Q (pc + 1) (L) (iv (x.tdiv y) :: st) (h)) : ax_G p l e R s m args below meth c b D dA nL n0 z0 Q (pc) (L) (iv y :: iv x :: st) (h) := fun H ls locs cells slots I => lv_idiv C.1 C.2.1 hd (fun q => h0 ((ax_eq hy ax_ir0).mp q)) (ax_top (ax_div hx hy) (k H ls locs cells slots I))
theorem ax_rem {x y : Int} (hx : -2147483648 ≤ x ∧ x < 2147483648) (hy : -2147483648 ≤ y ∧ y < 2147483648) : Int32.ofInt x - Int32.ofInt x / Int32.ofInt y * Int32.ofInt y = Int32.ofInt (x.tmod y) := by
  rw [ax_div hx hy, ← Int32.ofInt_mul, ← Int32.ofInt_sub]
  congr 1
  have := Int.mul_tdiv_add_tmod x y
  rw [Int.mul_comm] at this
  omega
theorem g_irem (C : ax_C p R s m args meth c b D dA nL n0 cc own ht) {x y : Int} (hd : decode cc pc = .ok (.irem, 1)) (hx : -2147483648 ≤ x ∧ x < 2147483648) (hy : -2147483648 ≤ y ∧ y < 2147483648) (h0 : y ≠ 0) (k : ax_G p l e R s m args below meth c b D dA nL n0 z0 Q (pc + 1) (L) (iv (x.tmod y) :: st) (h)) : ax_G p l e R s m args below meth c b D dA nL n0 z0 Q (pc) (L) (iv y :: iv x :: st) (h) := fun H ls locs cells slots I => lv_irem C.1 C.2.1 hd (fun q => h0 ((ax_eq hy ax_ir0).mp q)) (ax_top (ax_rem hx hy) (k H ls locs cells slots I))
theorem ax_s31 : ∀ n : Nat, n < 32 → ((Int32.ofInt (n : Int) &&& 31).toBitVec.smod 32).toNat = n := by decide +kernel
theorem ax_shl (x : Int) {n : Nat} (hn : n < 32) : Int32.ofInt x <<< (Int32.ofInt (n : Int) &&& 31) = Int32.ofInt (x * 2 ^ n) := by
  apply Int32.toBitVec_inj.mp
  apply BitVec.eq_of_toNat_eq
  rw [pk_shl _ _ n (ax_s31 n hn), Int32.toBitVec_ofInt, Int32.toBitVec_ofInt, BitVec.toNat_ofInt, BitVec.toNat_ofInt]
  have hp : (0 : Int) < ((2 ^ 32 : Nat) : Int) := by decide
  have h1 := Int.emod_nonneg x (Int.ne_of_gt hp)
  have h2 := Int.emod_nonneg (x * 2 ^ n) (Int.ne_of_gt hp)
  apply Int.ofNat_inj.mp
  rw [Int.toNat_of_nonneg h2, Int.natCast_emod, Int.natCast_mul, Int.toNat_of_nonneg h1, Int.natCast_pow, Int.natCast_pow, Int.mul_emod, Int.emod_emod, ← Int.mul_emod]
  rfl
theorem g_ishl (C : ax_C p R s m args meth c b D dA nL n0 cc own ht) {x : Int} {n : Nat} (hd : decode cc pc = .ok (.ishl, 1)) (hn : n < 32) (k : ax_G p l e R s m args below meth c b D dA nL n0 z0 Q (pc + 1) (L) (iv (x * 2 ^ n) :: st) (h)) : ax_G p l e R s m args below meth c b D dA nL n0 z0 Q (pc) (L) (iv (n : Int) :: iv x :: st) (h) := fun H ls locs cells slots I => lv_ishl C.1 C.2.1 hd (ax_top (ax_shl x hn) (k H ls locs cells slots I))
theorem ax_shr {x : Int} (hx : -2147483648 ≤ x ∧ x < 2147483648) {n : Nat} (hn : n < 32) : Int32.ofInt x >>> (Int32.ofInt (n : Int) &&& 31) = Int32.ofInt (x / 2 ^ n) := by
  apply Int32.toInt_inj.mp
  have hp : (0 : Int) < 2 ^ n := Int.pow_pos (by decide)
  have hle : x / 2 ^ n < 2147483648 := by
    rcases Int.le_total 0 x with h0 | h0
    · have := Int.ediv_le_self (2 ^ n) h0
      omega
    · have h9 : x / 2 ^ n ≤ 0 / 2 ^ n := Int.ediv_le_ediv hp h0
      rw [Int.zero_ediv] at h9
      omega
  have hge : -2147483648 ≤ x / 2 ^ n := by
    rw [Int.le_ediv_iff_mul_le hp]
    have : (1 : Int) ≤ 2 ^ n := hp
    omega
  rw [pk_shr _ _ n (ax_s31 n hn), ax_ti hx, ax_ti ⟨hge, hle⟩, Int.shiftRight_eq_div_pow]
  rfl
theorem g_ishr (C : ax_C p R s m args meth c b D dA nL n0 cc own ht) {x : Int} {n : Nat} (hd : decode cc pc = .ok (.ishr, 1)) (hx : -2147483648 ≤ x ∧ x < 2147483648) (hn : n < 32) (k : ax_G p l e R s m args below meth c b D dA nL n0 z0 Q (pc + 1) (L) (iv (x / 2 ^ n) :: st) (h)) : ax_G p l e R s m args below meth c b D dA nL n0 z0 Q (pc) (L) (iv (n : Int) :: iv x :: st) (h) := fun H ls locs cells slots I => lv_ishr C.1 C.2.1 hd (ax_top (ax_shr hx hn) (k H ls locs cells slots I))
theorem g_iand (C : ax_C p R s m args meth c b D dA nL n0 cc own ht) {x y z : Int} (hd : decode cc pc = .ok (.iand, 1)) (hz : Int32.ofInt x &&& Int32.ofInt y = Int32.ofInt z) (k : ax_G p l e R s m args below meth c b D dA nL n0 z0 Q (pc + 1) (L) (iv z :: st) (h)) : ax_G p l e R s m args below meth c b D dA nL n0 z0 Q (pc) (L) (iv y :: iv x :: st) (h) := fun H ls locs cells slots I => lv_iand C.1 C.2.1 hd (ax_top hz (k H ls locs cells slots I))
theorem g_ior (C : ax_C p R s m args meth c b D dA nL n0 cc own ht) {x y z : Int} (hd : decode cc pc = .ok (.ior, 1)) (hz : Int32.ofInt x ||| Int32.ofInt y = Int32.ofInt z) (k : ax_G p l e R s m args below meth c b D dA nL n0 z0 Q (pc + 1) (L) (iv z :: st) (h)) : ax_G p l e R s m args below meth c b D dA nL n0 z0 Q (pc) (L) (iv y :: iv x :: st) (h) := fun H ls locs cells slots I => lv_ior C.1 C.2.1 hd (ax_top hz (k H ls locs cells slots I))
theorem g_ixor (C : ax_C p R s m args meth c b D dA nL n0 cc own ht) {x y z : Int} (hd : decode cc pc = .ok (.ixor, 1)) (hz : Int32.ofInt x ^^^ Int32.ofInt y = Int32.ofInt z) (k : ax_G p l e R s m args below meth c b D dA nL n0 z0 Q (pc + 1) (L) (iv z :: st) (h)) : ax_G p l e R s m args below meth c b D dA nL n0 z0 Q (pc) (L) (iv y :: iv x :: st) (h) := fun H ls locs cells slots I => lv_ixor C.1 C.2.1 hd (ax_top hz (k H ls locs cells slots I))
theorem g_iushr (C : ax_C p R s m args meth c b D dA nL n0 cc own ht) {x y z : Int} (hd : decode cc pc = .ok (.iushr, 1)) (hz : ((Int32.ofInt x).toUInt32 >>> ((Int32.ofInt y).toUInt32 &&& Int32.toUInt32 31)).toInt32 = Int32.ofInt z) (k : ax_G p l e R s m args below meth c b D dA nL n0 z0 Q (pc + 1) (L) (iv z :: st) (h)) : ax_G p l e R s m args below meth c b D dA nL n0 z0 Q (pc) (L) (iv y :: iv x :: st) (h) := fun H ls locs cells slots I => lv_iushr C.1 C.2.1 hd hz (k H ls locs cells slots I)
/-! the stack -/
theorem g_dup (C : ax_C p R s m args meth c b D dA nL n0 cc own ht) {v : ax_V} (hd : decode cc pc = .ok (.dup, 1)) (k : ax_G p l e R s m args below meth c b D dA nL n0 z0 Q (pc + 1) (L) (v :: v :: st) (h)) : ax_G p l e R s m args below meth c b D dA nL n0 z0 Q (pc) (L) (v :: st) (h) := fun H ls locs cells slots I => lv_dup C.1 C.2.1 hd (ax_cat b v) (k H ls locs cells slots I)
theorem g_pop (C : ax_C p R s m args meth c b D dA nL n0 cc own ht) {v : ax_V} (hd : decode cc pc = .ok (.pop, 1)) (k : ax_G p l e R s m args below meth c b D dA nL n0 z0 Q (pc + 1) (L) (st) (h)) : ax_G p l e R s m args below meth c b D dA nL n0 z0 Q (pc) (L) (v :: st) (h) := fun H ls locs cells slots I => lv_pop C.1 C.2.1 hd (ax_cat b v) (k H ls locs cells slots I)
theorem g_dup2 (C : ax_C p R s m args meth c b D dA nL n0 cc own ht) {v w : ax_V} (hd : decode cc pc = .ok (.dup2, 1)) (k : ax_G p l e R s m args below meth c b D dA nL n0 z0 Q (pc + 1) (L) (v :: w :: v :: w :: st) (h)) : ax_G p l e R s m args below meth c b D dA nL n0 z0 Q (pc) (L) (v :: w :: st) (h) := fun H ls locs cells slots I => lv_dup2_11 C.1 C.2.1 hd (ax_cat b v) (ax_cat b w) (k H ls locs cells slots I)
/-! branches -/
theorem g_goto (C : ax_C p R s m args meth c b D dA nL n0 cc own ht) {off : Int} {tgt : Nat} (hd : decode cc pc = .ok (.goto off, 3)) (ht : (pc : Int) + off = (tgt : Int)) (k : ax_G p l e R s m args below meth c b D dA nL n0 z0 Q (tgt) (L) (st) (h)) : ax_G p l e R s m args below meth c b D dA nL n0 z0 Q (pc) (L) (st) (h) := fun H ls locs cells slots I => lv_goto C.1 C.2.1 hd ht (k H ls locs cells slots I)
theorem g_icmp_eq (C : ax_C p R s m args meth c b D dA nL n0 cc own ht) {x y off : Int} {tgt : Nat} (hd : decode cc pc = .ok (.if_icmp .eq off, 3)) (ht : (pc : Int) + off = (tgt : Int)) (hx : -2147483648 ≤ x ∧ x < 2147483648) (hy : -2147483648 ≤ y ∧ y < 2147483648) (kt : x = y → ax_G p l e R s m args below meth c b D dA nL n0 z0 Q (tgt) (L) (st) (h)) (kf : ¬ (x = y) → ax_G p l e R s m args below meth c b D dA nL n0 z0 Q (pc + 3) (L) (st) (h)) : ax_G p l e R s m args below meth c b D dA nL n0 z0 Q (pc) (L) (iv y :: iv x :: st) (h) := fun H ls locs cells slots I => lv_icmp_eq C.1 C.2.1 hd ht (fun q => kt ((ax_eq hx hy).mp q) H ls locs cells slots I) (fun q => kf (fun z => q ((ax_eq hx hy).mpr z)) H ls locs cells slots I)
theorem g_icmp_ne (C : ax_C p R s m args meth c b D dA nL n0 cc own ht) {x y off : Int} {tgt : Nat} (hd : decode cc pc = .ok (.if_icmp .ne off, 3)) (ht : (pc : Int) + off = (tgt : Int)) (hx : -2147483648 ≤ x ∧ x < 2147483648) (hy : -2147483648 ≤ y ∧ y < 2147483648) (kt : ¬ x = y → ax_G p l e R s m args below meth c b D dA nL n0 z0 Q (tgt) (L) (st) (h)) (kf : x = y → ax_G p l e R s m args below meth c b D dA nL n0 z0 Q (pc + 3) (L) (st) (h)) : ax_G p l e R s m args below meth c b D dA nL n0 z0 Q (pc) (L) (iv y :: iv x :: st) (h) := fun H ls locs cells slots I => lv_icmp_ne C.1 C.2.1 hd ht (fun q => kt (((not_congr (ax_eq hx hy))).mp q) H ls locs cells slots I) (fun q => kf ((ax_eq hx hy).mp q) H ls locs cells slots I)
theorem g_icmp_lt (C : ax_C p R s m args meth c b D dA nL n0 cc own ht) {x y off : Int} {tgt : Nat} (hd : decode cc pc = .ok (.if_icmp .lt off, 3)) (ht : (pc : Int) + off = (tgt : Int)) (hx : -2147483648 ≤ x ∧ x < 2147483648) (hy : -2147483648 ≤ y ∧ y < 2147483648) (kt : x < y → ax_G p l e R s m args below meth c b D dA nL n0 z0 Q (tgt) (L) (st) (h)) (kf : ¬ (x < y) → ax_G p l e R s m args below meth c b D dA nL n0 z0 Q (pc + 3) (L) (st) (h)) : ax_G p l e R s m args below meth c b D dA nL n0 z0 Q (pc) (L) (iv y :: iv x :: st) (h) := fun H ls locs cells slots I => lv_icmp_lt C.1 C.2.1 hd ht (fun q => kt ((ax_lt hx hy).mp q) H ls locs cells slots I) (fun q => kf (fun z => q ((ax_lt hx hy).mpr z)) H ls locs cells slots I)
theorem g_icmp_ge (C : ax_C p R s m args meth c b D dA nL n0 cc own ht) {x y off : Int} {tgt : Nat} (hd : decode cc pc = .ok (.if_icmp .ge off, 3)) (ht : (pc : Int) + off = (tgt : Int)) (hx : -2147483648 ≤ x ∧ x < 2147483648) (hy : -2147483648 ≤ y ∧ y < 2147483648) (kt : y ≤ x → ax_G p l e R s m args below meth c b D dA nL n0 z0 Q (tgt) (L) (st) (h)) (kf : ¬ (y ≤ x) → ax_G p l e R s m args below meth c b D dA nL n0 z0 Q (pc + 3) (L) (st) (h)) : ax_G p l e R s m args below meth c b D dA nL n0 z0 Q (pc) (L) (iv y :: iv x :: st) (h) := fun H ls locs cells slots I => lv_icmp_ge C.1 C.2.1 hd ht (fun q => kt ((ax_le hy hx).mp q) H ls locs cells slots I) (fun q => kf (fun z => q ((ax_le hy hx).mpr z)) H ls locs cells slots I)
theorem g_icmp_gt (C : ax_C p R s m args meth c b D dA nL n0 cc own ht) {x y off : Int} {tgt : Nat} (hd : decode cc pc = .ok (.if_icmp .gt off, 3)) (ht : (pc : Int) + off = (tgt : Int)) (hx : -2147483648 ≤ x ∧ x < 2147483648) (hy : -2147483648 ≤ y ∧ y < 2147483648) (kt : y < x → ax_G p l e R s m args below meth c b D dA nL n0 z0 Q (tgt) (L) (st) (h)) (kf : ¬ (y < x) → ax_G p l e R s m args below meth c b D dA nL n0 z0 Q (pc + 3) (L) (st) (h)) : ax_G p l e R s m args below meth c b D dA nL n0 z0 Q (pc) (L) (iv y :: iv x :: st) (h) := fun H ls locs cells slots I => lv_icmp_gt C.1 C.2.1 hd ht (fun q => kt ((ax_lt hy hx).mp q) H ls locs cells slots I) (fun q => kf (fun z => q ((ax_lt hy hx).mpr z)) H ls locs cells slots I)
theorem g_icmp_le (C : ax_C p R s m args meth c b D dA nL n0 cc own ht) {x y off : Int} {tgt : Nat} (hd : decode cc pc = .ok (.if_icmp .le off, 3)) (ht : (pc : Int) + off = (tgt : Int)) (hx : -2147483648 ≤ x ∧ x < 2147483648) (hy : -2147483648 ≤ y ∧ y < 2147483648) (kt : x ≤ y → ax_G p l e R s m args below meth c b D dA nL n0 z0 Q (tgt) (L) (st) (h)) (kf : ¬ (x ≤ y) → ax_G p l e R s m args below meth c b D dA nL n0 z0 Q (pc + 3) (L) (st) (h)) : ax_G p l e R s m args below meth c b D dA nL n0 z0 Q (pc) (L) (iv y :: iv x :: st) (h) := fun H ls locs cells slots I => lv_icmp_le C.1 C.2.1 hd ht (fun q => kt ((ax_le hx hy).mp q) H ls locs cells slots I) (fun q => kf (fun z => q ((ax_le hx hy).mpr z)) H ls locs cells slots I)
theorem g_if_eq (C : ax_C p R s m args meth c b D dA nL n0 cc own ht) {x off : Int} {tgt : Nat} (hd : decode cc pc = .ok (.ifCond .eq off, 3)) (ht : (pc : Int) + off = (tgt : Int)) (hx : -2147483648 ≤ x ∧ x < 2147483648) (kt : x = 0 → ax_G p l e R s m args below meth c b D dA nL n0 z0 Q (tgt) (L) (st) (h)) (kf : ¬ (x = 0) → ax_G p l e R s m args below meth c b D dA nL n0 z0 Q (pc + 3) (L) (st) (h)) : ax_G p l e R s m args below meth c b D dA nL n0 z0 Q (pc) (L) (iv x :: st) (h) := fun H ls locs cells slots I => lv_if_eq C.1 C.2.1 hd ht (fun q => kt ((ax_eq hx ax_ir0).mp q) H ls locs cells slots I) (fun q => kf (fun z => q ((ax_eq hx ax_ir0).mpr z)) H ls locs cells slots I)
theorem g_if_ne (C : ax_C p R s m args meth c b D dA nL n0 cc own ht) {x off : Int} {tgt : Nat} (hd : decode cc pc = .ok (.ifCond .ne off, 3)) (ht : (pc : Int) + off = (tgt : Int)) (hx : -2147483648 ≤ x ∧ x < 2147483648) (kt : ¬ x = 0 → ax_G p l e R s m args below meth c b D dA nL n0 z0 Q (tgt) (L) (st) (h)) (kf : x = 0 → ax_G p l e R s m args below meth c b D dA nL n0 z0 Q (pc + 3) (L) (st) (h)) : ax_G p l e R s m args below meth c b D dA nL n0 z0 Q (pc) (L) (iv x :: st) (h) := fun H ls locs cells slots I => lv_if_ne C.1 C.2.1 hd ht (fun q => kt (((not_congr (ax_eq hx ax_ir0))).mp q) H ls locs cells slots I) (fun q => kf ((ax_eq hx ax_ir0).mp q) H ls locs cells slots I)
theorem g_if_lt (C : ax_C p R s m args meth c b D dA nL n0 cc own ht) {x off : Int} {tgt : Nat} (hd : decode cc pc = .ok (.ifCond .lt off, 3)) (ht : (pc : Int) + off = (tgt : Int)) (hx : -2147483648 ≤ x ∧ x < 2147483648) (kt : x < 0 → ax_G p l e R s m args below meth c b D dA nL n0 z0 Q (tgt) (L) (st) (h)) (kf : ¬ (x < 0) → ax_G p l e R s m args below meth c b D dA nL n0 z0 Q (pc + 3) (L) (st) (h)) : ax_G p l e R s m args below meth c b D dA nL n0 z0 Q (pc) (L) (iv x :: st) (h) := fun H ls locs cells slots I => lv_if_lt C.1 C.2.1 hd ht (fun q => kt ((ax_lt hx ax_ir0).mp q) H ls locs cells slots I) (fun q => kf (fun z => q ((ax_lt hx ax_ir0).mpr z)) H ls locs cells slots I)
theorem g_if_ge (C : ax_C p R s m args meth c b D dA nL n0 cc own ht) {x off : Int} {tgt : Nat} (hd : decode cc pc = .ok (.ifCond .ge off, 3)) (ht : (pc : Int) + off = (tgt : Int)) (hx : -2147483648 ≤ x ∧ x < 2147483648) (kt : 0 ≤ x → ax_G p l e R s m args below meth c b D dA nL n0 z0 Q (tgt) (L) (st) (h)) (kf : ¬ (0 ≤ x) → ax_G p l e R s m args below meth c b D dA nL n0 z0 Q (pc + 3) (L) (st) (h)) : ax_G p l e R s m args below meth c b D dA nL n0 z0 Q (pc) (L) (iv x :: st) (h) := fun H ls locs cells slots I => lv_if_ge C.1 C.2.1 hd ht (fun q => kt ((ax_le ax_ir0 hx).mp q) H ls locs cells slots I) (fun q => kf (fun z => q ((ax_le ax_ir0 hx).mpr z)) H ls locs cells slots I)
theorem g_if_gt (C : ax_C p R s m args meth c b D dA nL n0 cc own ht) {x off : Int} {tgt : Nat} (hd : decode cc pc = .ok (.ifCond .gt off, 3)) (ht : (pc : Int) + off = (tgt : Int)) (hx : -2147483648 ≤ x ∧ x < 2147483648) (kt : 0 < x → ax_G p l e R s m args below meth c b D dA nL n0 z0 Q (tgt) (L) (st) (h)) (kf : ¬ (0 < x) → ax_G p l e R s m args below meth c b D dA nL n0 z0 Q (pc + 3) (L) (st) (h)) : ax_G p l e R s m args below meth c b D dA nL n0 z0 Q (pc) (L) (iv x :: st) (h) := fun H ls locs cells slots I => lv_if_gt C.1 C.2.1 hd ht (fun q => kt ((ax_lt ax_ir0 hx).mp q) H ls locs cells slots I) (fun q => kf (fun z => q ((ax_lt ax_ir0 hx).mpr z)) H ls locs cells slots I)
theorem g_if_le (C : ax_C p R s m args meth c b D dA nL n0 cc own ht) {x off : Int} {tgt : Nat} (hd : decode cc pc = .ok (.ifCond .le off, 3)) (ht : (pc : Int) + off = (tgt : Int)) (hx : -2147483648 ≤ x ∧ x < 2147483648) (kt : x ≤ 0 → ax_G p l e R s m args below meth c b D dA nL n0 z0 Q (tgt) (L) (st) (h)) (kf : ¬ (x ≤ 0) → ax_G p l e R s m args below meth c b D dA nL n0 z0 Q (pc + 3) (L) (st) (h)) : ax_G p l e R s m args below meth c b D dA nL n0 z0 Q (pc) (L) (iv x :: st) (h) := fun H ls locs cells slots I => lv_if_le C.1 C.2.1 hd ht (fun q => kt ((ax_le hx ax_ir0).mp q) H ls locs cells slots I) (fun q => kf (fun z => q ((ax_le hx ax_ir0).mpr z)) H ls locs cells slots I)
theorem g_ifnonnull (C : ax_C p R s m args meth c b D dA nL n0 cc own ht) {a : Nat} {off : Int} {tgt : Nat} (hd : decode cc pc = .ok (.ifnonnull off, 3)) (ht : (pc : Int) + off = (tgt : Int)) (k : ax_G p l e R s m args below meth c b D dA nL n0 z0 Q (tgt) (L) (st) (h)) : ax_G p l e R s m args below meth c b D dA nL n0 z0 Q (pc) (L) (rv a :: st) (h) := fun H ls locs cells slots I => lv_ifnonnull C.1 C.2.1 hd ht (k H ls locs cells slots I)
theorem g_ifnonnullN (C : ax_C p R s m args meth c b D dA nL n0 cc own ht) {off : Int} (hd : decode cc pc = .ok (.ifnonnull off, 3)) (k : ax_G p l e R s m args below meth c b D dA nL n0 z0 Q (pc + 3) (L) (st) (h)) : ax_G p l e R s m args below meth c b D dA nL n0 z0 Q (pc) (L) (nv :: st) (h) := fun H ls locs cells slots I => lv_ifnonnullN C.1 C.2.1 hd (k H ls locs cells slots I)
theorem g_ifnull (C : ax_C p R s m args meth c b D dA nL n0 cc own ht) {a : Nat} {off : Int} (hd : decode cc pc = .ok (.ifnull off, 3)) (k : ax_G p l e R s m args below meth c b D dA nL n0 z0 Q (pc + 3) (L) (st) (h)) : ax_G p l e R s m args below meth c b D dA nL n0 z0 Q (pc) (L) (rv a :: st) (h) := fun H ls locs cells slots I => lv_ifnull C.1 C.2.1 hd (k H ls locs cells slots I)
theorem g_ifnullN (C : ax_C p R s m args meth c b D dA nL n0 cc own ht) {off : Int} {tgt : Nat} (hd : decode cc pc = .ok (.ifnull off, 3)) (ht : (pc : Int) + off = (tgt : Int)) (k : ax_G p l e R s m args below meth c b D dA nL n0 z0 Q (tgt) (L) (st) (h)) : ax_G p l e R s m args below meth c b D dA nL n0 z0 Q (pc) (L) (nv :: st) (h) := fun H ls locs cells slots I => lv_ifnullN C.1 C.2.1 hd ht (k H ls locs cells slots I)
theorem g_lookup (C : ax_C p R s m args meth c b D dA nL n0 cc own ht) {x dflt off : Int} {ps : Array (Int × Int)} {len tgt : Nat} (hd : decode cc pc = .ok (.lookupswitch dflt ps, len)) (hx : -2147483648 ≤ x ∧ x < 2147483648) (hp : (ps.toList.zip (ps.toList.drop 1)).all (fun (a, next) => a.1 < next.1) = true) (ho : Op.lookupswitch.offset ps.toList dflt x = off) (ht : (pc : Int) + off = (tgt : Int)) (k : ax_G p l e R s m args below meth c b D dA nL n0 z0 Q (tgt) (L) (st) (h)) : ax_G p l e R s m args below meth c b D dA nL n0 z0 Q (pc) (L) (iv x :: st) (h) := fun H ls locs cells slots I => lv_lookup C.1 C.2.1 hd hp (by rw [ax_ti hx]; exact ho) ht (k H ls locs cells slots I)
theorem g_tableOut (C : ax_C p R s m args meth c b D dA nL n0 cc own ht) {x dflt lo hi : Int} {offs : Array Int} {len tgt : Nat} (hd : decode cc pc = .ok (.tableswitch dflt lo hi offs, len)) (hx : -2147483648 ≤ x ∧ x < 2147483648) (ho : x < lo ∨ hi < x) (ht : (pc : Int) + dflt = (tgt : Int)) (k : ax_G p l e R s m args below meth c b D dA nL n0 z0 Q (tgt) (L) (st) (h)) : ax_G p l e R s m args below meth c b D dA nL n0 z0 Q (pc) (L) (iv x :: st) (h) := fun H ls locs cells slots I => lv_tableOut C.1 C.2.1 hd (by rw [ax_ti hx]; exact ho) ht (k H ls locs cells slots I)
theorem g_tableIn (C : ax_C p R s m args meth c b D dA nL n0 cc own ht) {x dflt lo hi off : Int} {offs : Array Int} {len tgt : Nat} (hd : decode cc pc = .ok (.tableswitch dflt lo hi offs, len)) (hx : -2147483648 ≤ x ∧ x < 2147483648) (h1 : ¬ x < lo) (h2 : ¬ hi < x) (ho : offs[(x - lo).toNat]? = some off) (ht : (pc : Int) + off = (tgt : Int)) (k : ax_G p l e R s m args below meth c b D dA nL n0 z0 Q (tgt) (L) (st) (h)) : ax_G p l e R s m args below meth c b D dA nL n0 z0 Q (pc) (L) (iv x :: st) (h) := fun H ls locs cells slots I => lv_tableIn C.1 C.2.1 hd (by rw [ax_ti hx]; exact h1) (by rw [ax_ti hx]; exact h2) (by rw [ax_ti hx]; exact ho) ht (k H ls locs cells slots I)
end AXR
