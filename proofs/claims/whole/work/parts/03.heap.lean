section AXH
variable {p : Program} {l : Launch} {e : Env} {R : Room} {s : State} {m : MethodId} {args : Array Value} {below : List Frame} {meth : Method} {c : Code} {b : Nat} {D : va_G} {dA : Nat → ClassId} {nL n0 z0 : Nat} {Q : State → Prop} {cc : ByteArray} {own : String} {ht : Nat} {pc : Nat} {L : List (Option ax_V)} {st : List ax_V} {h : ax_H}
/-- a field as an instruction of the class own names it: field k of the objects of kind ci -/
def ax_fld (own : String) (idx ci k : Nat) (ty : FieldType) (fin : Bool) : Prop :=
  ∃ (Cn : String) (T : u_T) (N : Nat) (ty0 : Nat → FieldType), vwCl[ci]? = some (Cn, T, N) ∧ k < N ∧ (∀ w ∈ u_ws Cn T N, w ∈ ax_tb) ∧ (∀ k, k < N → parseFieldDescriptor (T k).2.2.1 = some (ty0 k)) ∧ (∀ a, a < N → ∀ b, b < N → a ≠ b → (T a).2.1 ≠ (T b).2.1) ∧ Cond.fieldLink own idx (T k).1 (T k).2.1 (T k).2.2.1 ∈ ax_tb ∧ (T k).2.2.2 = fin ∧ parseFieldDescriptor (T k).2.2.1 = some ty ∧ (T k).1 = Cn
theorem g_get (C : ax_C p R s m args meth c b D dA nL n0 cc own ht) {idx ci k a : Nat} {ty : FieldType} {fin : Bool} {fs : List ax_V} {v : ax_V} (F : ax_fld own idx ci k ty fin) (hd : decode cc pc = .ok (.getfield idx, 3)) (ha : h[a]? = some (.inr (ci, fs))) (hv : fs[k]? = some v) (kk : ax_G p l e R s m args below meth c b D dA nL n0 z0 Q (pc + 3) (L) (v :: st) (h)) : ax_G p l e R s m args below meth c b D dA nL n0 z0 Q (pc) (L) (rv a :: st) (h) := by
  obtain ⟨Cn, T, N, ty0, f1, f2, f3, f4, f5, f6, f7, f8, f9⟩ := F
  intro H ls locs cells slots I
  exact va_get (D := D) (ci := ci) (v := ax_v b v) (C := Cn) (T := T) (N := N) C.1 C.2.1 C.2.2.2.2.1 f3 C.2.2.2.1 C.2.2.2.2.2.1 I.2.1 a (ax_w_at ha) f1 k f2 (C.2.2.2.2.1 _ f6) (fun _ h9 => h9) (by simp [hv]) hd (kk H ls locs cells slots I)
theorem ax_I.wrote {H H' : Heap} {ls : Array Slot} {locs : List Loc} {cells slots : Nat} (I : ax_I R s b D dA nL n0 z0 L h H ls locs cells slots) {a : Nat} {e0 e1 : ax_E} (ha : h[a]? = some e0) (hz : ax_z e1 = ax_z e0) (he : va_at D vwCl (b + a, ax_e b dA e1) H') (h2 : H'.size = H.size) (h3 : ∀ q, q ≠ b + a → H'[q]? = H[q]?) (x : Loc) (hx : x.base = b + a) : ax_I R s b D dA nL n0 z0 L (h.set a e1) H' ls (locs ++ [x]) cells slots := by
  obtain ⟨a1, a2, a3, a4, a5, a6, a7, a8, a9⟩ := I
  have hsz := ax_sz_set h a e1 e0 ha hz
  refine ⟨by rw [h2, a1, List.length_set], ?_, fun q hq => ?_, fun y hy => ?_, a5, by rw [List.length_set]; exact a6, by rw [hsz]; exact a7, by rw [List.length_set]; exact a8, by rw [hsz]; exact a9⟩
  · have := a2.set (ax_D b dA h) (ax_w_at ha) he h3
    rw [ax_w_set] at this
    exact this
  · rw [h3 q (by omega)]
    exact a3 q hq
  · rcases List.mem_append.mp hy with q | q
    · exact a4 y q
    · rw [List.mem_singleton.mp q, hx]
      omega
theorem g_put (C : ax_C p R s m args meth c b D dA nL n0 cc own ht) {idx ci k a : Nat} {ty : FieldType} {fs : List ax_V} {v : ax_V} (F : ax_fld own idx ci k ty false) (hd : decode cc pc = .ok (.putfield idx, 3)) (ha : h[a]? = some (.inr (ci, fs))) (hn : narrow ty (ax_v b v) = ax_v b v) (hfit : fits ty (ax_v b v) = true) (hl : k < fs.length) (kk : ax_G p l e R s m args below meth c b D dA nL n0 z0 Q (pc + 3) (L) (st) (h.set a (.inr (ci, fs.set k v)))) : ax_G p l e R s m args below meth c b D dA nL n0 z0 Q (pc) (L) (v :: rv a :: st) (h) := by
  obtain ⟨Cn, T, N, ty0, f1, f2, f3, f4, f5, f6, f7, f8, f9⟩ := F
  intro H ls locs cells slots I
  have hts := C.2.2.2.2.1
  have hK := C.2.2.2.2.2.1
  have hap := va_apart (own := own) hts f3 ty0 f4 f5 hK f1
  obtain ⟨r, h1, cell, q1, q2, q3, q4⟩ := I.2.1 a _ (ax_w_at ha)
  have hr : r = (Cn, T, N) := Option.some.inj (h1.symm.trans f1)
  subst hr
  obtain ⟨hS, hfc, kC, hkC, hkind⟩ := hK.1 ci _ f1
  obtain ⟨cf, kf, fi, f, hi, hsl⟩ := hS k f2
  have hlay := hts _ (f3 _ (u_in_lay f2))
  unfold u_lay at hlay
  rw [if_neg (by rw [f7]; decide)] at hlay
  have hst := (u_facts hfc hkC (u_lays hts f3 f2) hi).1
  have h6 := u_store hfc hkC hkind hlay hi f8 hn hfit
  refine W.putK C.1 C.2.1 (f := f) ⟨C.2.2.2.1, hts _ f6, ⟨_, _, _, hi⟩, hst⟩ (by rw [q2]; exact h6) q1 q3 (by rw [hsl]; exact k2_hasslot (q4 k f2)) rfl rfl hd fun H' e1 e2 e3 => ?_
  rw [hsl] at e1 ⊢
  refine kk H' ls _ cells slots (I.wrote ha (by simp [ax_z]) ?_ e2 e3 _ rfl)
  have hE : ax_e b dA (.inr (ci, fs.set k v)) = .inr (ci, (fs.map (ax_v b)).set k (ax_v b v)) := by simp [ax_e, List.map_set]
  rw [hE]
  exact ⟨_, f1, t_OB.to (V := updV (vp_V (fs.map (ax_v b))) k (ax_v b v)) ⟨_, e1, q2, q3, t_set q4 hap f2 (ax_v b v)⟩ (fun j _ => vp_updV_set (by rw [List.length_map]; exact hl) (ax_v b v) j)⟩
theorem g_putF (C : ax_C p R s m args meth c b D dA nL n0 cc own ht) {idx ci k a : Nat} {ty : FieldType} {fs : List ax_V} {v : ax_V} (F : ax_fld own idx ci k ty true) (hin2 : meth.name = "<init>") (hcn : ∀ q : vw_C, vwCl[ci]? = some q → q.1 = own) (hd : decode cc pc = .ok (.putfield idx, 3)) (ha : h[a]? = some (.inr (ci, fs))) (hn : narrow ty (ax_v b v) = ax_v b v) (hfit : fits ty (ax_v b v) = true) (hl : k < fs.length) (kk : ax_G p l e R s m args below meth c b D dA nL n0 z0 Q (pc + 3) (L) (st) (h.set a (.inr (ci, fs.set k v)))) : ax_G p l e R s m args below meth c b D dA nL n0 z0 Q (pc) (L) (v :: rv a :: st) (h) := by
  obtain ⟨Cn, T, N, ty0, f1, f2, f3, f4, f5, f6, f7, f8, f9⟩ := F
  intro H ls locs cells slots I
  have hts := C.2.2.2.2.1
  have hK := C.2.2.2.2.2.1
  have hap := va_apart (own := own) hts f3 ty0 f4 f5 hK f1
  obtain ⟨r, h1, cell, q1, q2, q3, q4⟩ := I.2.1 a _ (ax_w_at ha)
  have hr : r = (Cn, T, N) := Option.some.inj (h1.symm.trans f1)
  subst hr
  obtain ⟨hS, hfc, kC, hkC, hkind⟩ := hK.1 ci _ f1
  obtain ⟨cf, kf, fi, f, hi, hsl⟩ := hS k f2
  have hlay := hts _ (f3 _ (u_in_lay f2))
  unfold u_lay at hlay
  rw [if_pos f7] at hlay
  have hst := (u_facts hfc hkC (u_lays hts f3 f2) hi).1
  have hcf : m.cls = cf := by
    obtain ⟨_, _, c', _, _, _, -, -, hf', -, -, -, hown2, -⟩ := Cond.laysFinal_spec hlay
    have e1 : c' = cf := by have := hi.symm.trans hf'; simp at this; exact this.1.symm
    have hcn' : Cn = own := hcn _ f1
    rw [f9, hcn'] at hown2
    rw [← e1]; exact Option.some.inj (C.2.2.2.1.symm.trans hown2)
  have h6 := u_fits hfc hkC hkind (Or.inr hlay) hi f8 hn hfit
  refine W.putFinK C.1 C.2.1 C.2.2.2.1 (hts _ f6) hi hst hcf hin2 (by rw [q2]; exact h6) q1 q3 (by rw [hsl]; exact k2_hasslot (q4 k f2)) rfl rfl hd fun H' e1 e2 e3 => ?_
  rw [hsl] at e1 ⊢
  refine kk H' ls _ cells slots (I.wrote ha (by simp [ax_z]) ?_ e2 e3 _ rfl)
  have hE : ax_e b dA (.inr (ci, fs.set k v)) = .inr (ci, (fs.map (ax_v b)).set k (ax_v b v)) := by simp [ax_e, List.map_set]
  rw [hE]
  exact ⟨_, f1, t_OB.to (V := updV (vp_V (fs.map (ax_v b))) k (ax_v b v)) ⟨_, e1, q2, q3, t_set q4 hap f2 (ax_v b v)⟩ (fun j _ => vp_updV_set (by rw [List.length_map]; exact hl) (ax_v b v) j)⟩
/-! rows of numbers -/
theorem g_iald (C : ax_C p R s m args meth c b D dA nL n0 cc own ht) {a n j : Nat} {i : Int} {f : Nat → Int} (hd : decode cc pc = .ok (.iaload, 1)) (ha : h[a]? = some (.inl (0, n, .inl f))) (hi : i = (j : Int)) (hj : j < n) (hn : n ≤ 1000000) (kk : ax_G p l e R s m args below meth c b D dA nL n0 z0 Q (pc + 1) (L) (iv (f j) :: st) (h)) : ax_G p l e R s m args below meth c b D dA nL n0 z0 Q (pc) (L) (iv i :: rv a :: st) (h) := fun H ls locs cells slots I => va_iald C.1 C.2.1 C.2.2.2.2.2.1 I.2.1 a 0 (ax_w_at ha) rfl (ax_in hi hj hn).1 hd (by rw [(ax_in hi hj hn).2]; exact kk H ls locs cells slots I)
theorem g_zald (C : ax_C p R s m args meth c b D dA nL n0 cc own ht) {a n j : Nat} {i : Int} {f : Nat → Int} (hd : decode cc pc = .ok (.baload, 1)) (ha : h[a]? = some (.inl (1, n, .inl f))) (hi : i = (j : Int)) (hj : j < n) (hn : n ≤ 1000000) (kk : ax_G p l e R s m args below meth c b D dA nL n0 z0 Q (pc + 1) (L) (iv (f j) :: st) (h)) : ax_G p l e R s m args below meth c b D dA nL n0 z0 Q (pc) (L) (iv i :: rv a :: st) (h) := fun H ls locs cells slots I => va_zald C.1 C.2.1 C.2.2.2.2.2.1 I.2.1 a 1 (ax_w_at ha) rfl (ax_in hi hj hn).1 hd (by rw [(ax_in hi hj hn).2]; exact kk H ls locs cells slots I)
theorem ax_updI (f : Nat → Int) (j : Nat) (x : Int) : updV (fun k => Value.int (Int32.ofInt (f k))) j (.int (Int32.ofInt x)) = fun k => Value.int (Int32.ofInt (va_up f j x k)) := by
  funext q
  by_cases hq : q = j
  · subst hq; simp [updV, va_up]
  · simp [updV, va_up, hq]
theorem g_iast (C : ax_C p R s m args meth c b D dA nL n0 cc own ht) {a n j : Nat} {i x : Int} {f : Nat → Int} (hd : decode cc pc = .ok (.iastore, 1)) (ha : h[a]? = some (.inl (0, n, .inl f))) (hi : i = (j : Int)) (hj : j < n) (hn : n ≤ 1000000) (kk : ax_G p l e R s m args below meth c b D dA nL n0 z0 Q (pc + 1) (L) (st) (h.set a (.inl (0, n, .inl (va_up f j x))))) : ax_G p l e R s m args below meth c b D dA nL n0 z0 Q (pc) (L) (iv x :: iv i :: rv a :: st) (h) := fun H ls locs cells slots I => by
  refine W.iast C.1 C.2.1 (I.2.1 a _ (ax_w_at ha)) ((C.2.2.2.2.2.1.2 0 _ rfl).1 n (fun k => .int (Int32.ofInt (f k)))) (fun q => by cases q) (by show ¬ (_ ∨ (arrV _ _ _).slots.size ≤ _); rw [arrV_size]; exact (ax_in hi hj hn).1) rfl rfl hd fun H1 e1 e2 e3 => ?_
  refine kk H1 ls _ cells slots (I.wrote (e1 := .inl (0, n, .inl (va_up f j x))) ha rfl ?_ e2 e3 _ rfl)
  show H1[b + a]? = some (vp_cell _ _)
  rw [e1, (ax_in hi hj hn).2]
  dsimp only
  rw [vp_cell_i, vp_cell_i, arrV_store, ax_updI]
theorem g_zast (C : ax_C p R s m args meth c b D dA nL n0 cc own ht) {a n j : Nat} {i x : Int} {f : Nat → Int} (hd : decode cc pc = .ok (.bastore, 1)) (ha : h[a]? = some (.inl (1, n, .inl f))) (hx : x = 0 ∨ x = 1) (hi : i = (j : Int)) (hj : j < n) (hn : n ≤ 1000000) (kk : ax_G p l e R s m args below meth c b D dA nL n0 z0 Q (pc + 1) (L) (st) (h.set a (.inl (1, n, .inl (va_up f j x))))) : ax_G p l e R s m args below meth c b D dA nL n0 z0 Q (pc) (L) (iv x :: iv i :: rv a :: st) (h) := fun H ls locs cells slots I => by
  have hnr : narrow .boolean (.int (Int32.ofInt x)) = .int (Int32.ofInt x) := by rcases hx with rfl | rfl <;> rfl
  refine W.zast C.1 C.2.1 (I.2.1 a _ (ax_w_at ha)) ((C.2.2.2.2.2.1.2 1 _ rfl).1 n (fun k => .int (Int32.ofInt (f k)))) (fun q => by cases q) (by show ¬ (_ ∨ (arrV _ _ _).slots.size ≤ _); rw [arrV_size]; exact (ax_in hi hj hn).1) rfl rfl hd fun H1 e1 e2 e3 => ?_
  refine kk H1 ls _ cells slots (I.wrote (e1 := .inl (1, n, .inl (va_up f j x))) ha rfl ?_ e2 e3 _ rfl)
  show H1[b + a]? = some (vp_cell _ _)
  rw [e1, (ax_in hi hj hn).2, hnr]
  dsimp only
  rw [vp_cell_i, vp_cell_i, arrV_store, ax_updI]
/-! rows of references -/
theorem ax_rf (b : Nat) (o : Option Nat) : va_rf (o.map (fun a => b + a)) = ax_v b (.inr o) := by cases o <;> rfl
theorem g_aald (C : ax_C p R s m args meth c b D dA nL n0 cc own ht) {a n j t : Nat} {i : Int} {f : Nat → Option Nat} {ty : FieldType} (hd : decode cc pc = .ok (.aaload, 1)) (ha : h[a]? = some (.inl (t, n, .inr f))) (ht : (ax_tys dA)[t]? = some (dA t, ty)) (hty : ty.isReference = true) (hi : i = (j : Int)) (hj : j < n) (hn : n ≤ 1000000) (kk : ax_G p l e R s m args below meth c b D dA nL n0 z0 Q (pc + 1) (L) (.inr (f j) :: st) (h)) : ax_G p l e R s m args below meth c b D dA nL n0 z0 Q (pc) (L) (iv i :: rv a :: st) (h) := fun H ls locs cells slots I => by
  refine W.aald (v := ax_v b (.inr (f j))) (ty := ty) C.1 C.2.1 (I.2.1 a _ (ax_w_at ha)) ((C.2.2.2.2.2.1.2 t _ ht).1 n (fun k => va_rf ((f k).map (fun a => b + a)))) hty (fun q => by cases q) (by show ¬ (_ ∨ (arrV _ _ _).slots.size ≤ _); rw [arrV_size]; exact (ax_in hi hj hn).1) ?_ rfl rfl hd (kk H ls locs cells slots I)
  rw [(ax_in hi hj hn).2]
  show (arrV _ _ _).slots[_]? = _
  rw [arrV_read _ _ hj, ax_rf]
theorem ax_updQ (b : Nat) (f : Nat → Option Nat) (j v : Nat) : updV (fun k => va_rf ((f k).map (fun a => b + a))) j (.ref (b + v)) = fun k => va_rf ((va_up f j (some v) k).map (fun a => b + a)) := by
  funext q
  by_cases hq : q = j
  · subst hq; simp [updV, va_up, va_rf]
  · simp [updV, va_up, hq]
theorem g_aast (C : ax_C p R s m args meth c b D dA nL n0 cc own ht) {a n j t v ci : Nat} {i : Int} {f : Nat → Option Nat} {vs : List ax_V} {r : vw_C} (hd : decode cc pc = .ok (.aastore, 1)) (ha : h[a]? = some (.inl (t, n, .inr f))) (ht : (ax_tys dA)[t]? = some (dA t, .object r.1)) (hv : h[v]? = some (.inr (ci, vs))) (hc : vwCl[ci]? = some r) (hi : i = (j : Int)) (hj : j < n) (hn : n ≤ 1000000) (kk : ax_G p l e R s m args below meth c b D dA nL n0 z0 Q (pc + 1) (L) (st) (h.set a (.inl (t, n, .inr (va_up f j (some v)))))) : ax_G p l e R s m args below meth c b D dA nL n0 z0 Q (pc) (L) (rv v :: iv i :: rv a :: st) (h) := fun H ls locs cells slots I => by
  have hK := C.2.2.2.2.2.1
  have hx := ax_in hi hj hn
  obtain ⟨r', hr', cellV, g1, g2, g3, -⟩ := I.2.1 v _ (ax_w_at hv)
  have hcls := (hK.1 ci r hc).2
  obtain ⟨kA, comp, k1, k2, k3, -⟩ := (hK.2 t _ ht).2
  have hcomp : comp = D.1 ci := Option.some.inj (k3.symm.trans hcls.1)
  subst hcomp
  obtain ⟨kC, hkC, -⟩ := hcls.2
  refine W.aast C.1 C.2.1 (I.2.1 a _ (ax_w_at ha)) (fun q h => by cases h) (fun h => by cases h) k1 k2 rfl hkC ⟨fun q => hx.1 (Or.inl q), by show _ < (arrV _ _ _).slots.size; rw [arrV_size, hx.2]; exact hj⟩ g1 (fun q h => by rw [g3] at h; cases h) (by rw [g2]; exact hkC) (by rw [g2]; exact va_assign hcls) rfl rfl hd fun H1 e1 e2 e3 => ?_
  refine kk H1 ls _ cells slots (I.wrote (e1 := .inl (t, n, .inr (va_up f j (some v)))) ha rfl ?_ e2 e3 _ rfl)
  show H1[b + a]? = some (vp_cell _ _)
  rw [e1, hx.2]
  dsimp only
  rw [vp_cell_q, vp_cell_q, arrV_store, ax_updQ]
theorem g_alen (C : ax_C p R s m args meth c b D dA nL n0 cc own ht) {a n t : Nat} {x : ax_A} {ty : FieldType} (hd : decode cc pc = .ok (.arraylength, 1)) (ha : h[a]? = some (.inl (t, n, x))) (ht : (ax_tys dA)[t]? = some (dA t, ty)) (kk : ax_G p l e R s m args below meth c b D dA nL n0 z0 Q (pc + 1) (L) (iv (n : Int) :: st) (h)) : ax_G p l e R s m args below meth c b D dA nL n0 z0 Q (pc) (L) (rv a :: st) (h) := fun H ls locs cells slots I => by
  rcases x with f | f
  · exact va_alen C.1 C.2.1 C.2.2.2.2.2.1 I.2.1 a t (ax_w_at ha) ht (Int32.ofInt_eq_ofNat (n := n)).symm hd (kk H ls locs cells slots I)
  · exact va_alen C.1 C.2.1 C.2.2.2.2.2.1 I.2.1 a t (ax_w_at ha) ht (Int32.ofInt_eq_ofNat (n := n)).symm hd (kk H ls locs cells slots I)
/-! new cells -/
theorem ax_I.made {H H' : Heap} {ls : Array Slot} {locs : List Loc} {cells slots : Nat} (I : ax_I R s b D dA nL n0 z0 L h H ls locs cells slots) {e1 : ax_E} {k : Nat} (hk : ax_z e1 = k) (hc : h.length + 1 ≤ n0 + R.cells) (hs : ax_sz h + k ≤ z0 + R.slots) (he : va_at D vwCl (b + h.length, ax_e b dA e1) H') (h2 : H'.size = H.size + 1) (h3 : ∀ q, q < H.size → H'[q]? = H[q]?) : ax_I R s b D dA nL n0 z0 L (h ++ [e1]) H' ls locs (cells + 1) (slots + k) := by
  obtain ⟨a1, a2, a3, a4, a5, a6, a7, a8, a9⟩ := I
  subst hk
  have hz := ax_sz_push h e1
  have hl : (h ++ [e1]).length = h.length + 1 := by simp
  refine ⟨by rw [h2, a1, hl]; omega, ?_, fun q hq => ?_, a4, a5, by rw [hl]; omega, by rw [hz]; omega, by rw [hl]; exact hc, by rw [hz]; exact hs⟩
  · rw [← ax_w_push]
    refine va_P.app (a2.kept fun k q hq => h3 _ (a2 k q hq).lt) ?_
    intro k q hq
    have h0 : k < 1 := (List.getElem?_eq_some_iff.mp hq).1
    have h00 : k = 0 := by omega
    subst h00
    cases hq
    exact he
  · rw [h3 q (by omega)]
    exact a3 q hq
def ax_nw (own : String) (idx ci N : Nat) (fs : List ax_V) : Prop :=
  ∃ (Cn : String) (T : u_T) (ty : Nat → FieldType), vwCl[ci]? = some (Cn, T, N) ∧ (∀ w ∈ u_ws Cn T N, w ∈ ax_tb) ∧ (∀ k, k < N → parseFieldDescriptor (T k).2.2.1 = some (ty k)) ∧ Cond.classLink own idx Cn ∈ ax_tb ∧ Cond.instantiable Cn N ∈ ax_tb ∧ Cond.initialized Cn ∈ ax_tb ∧ fs.length = N ∧ (∀ (b : Nat) (j : Nat), j < N → defaultValue (ty j) = vp_V (fs.map (ax_v b)) j)
theorem g_new (C : ax_C p R s m args meth c b D dA nL n0 cc own ht) {idx ci N : Nat} {fs : List ax_V} (F : ax_nw own idx ci N fs) (hd : decode cc pc = .ok (.new idx, 3)) (hc : h.length + 1 ≤ n0 + R.cells) (hs : ax_sz h + N ≤ z0 + R.slots) (kk : ax_G p l e R s m args below meth c b D dA nL n0 z0 Q (pc + 3) (L) (rv h.length :: st) (h ++ [.inr (ci, fs)])) : ax_G p l e R s m args below meth c b D dA nL n0 z0 Q (pc) (L) (st) (h) := by
  obtain ⟨Cn, T, ty, f1, f2, f3, f4, f5, f6, f7, f8⟩ := F
  intro H ls locs cells slots I
  have hts := C.2.2.2.2.1
  have hKn := C.2.2.2.2.2.1.1 ci _ f1
  have i6 := I.2.2.2.2.2.1
  have i7 := I.2.2.2.2.2.2.1
  refine W.newcK C.1 C.2.1 C.2.2.2.1 (hts _ f4) (hts _ f5) (hts _ f6) rfl hd (by omega) (by omega) hKn.2.1 rfl fun H1 kC hkC e1 z1 o1 => ?_
  rw [I.1] at e1
  have I2 := I.made (H' := H1) (e1 := .inr (ci, fs)) (k := N) f7 hc hs ⟨_, f1, (u_born ty hts f2 hKn hkC e1 f3).to (fun j hj => f8 b j hj)⟩ z1 o1
  have := kk H1 ls locs _ _ I2
  show W p l e R s m args below meth c H1 locs (cells + 1) (slots + N) Q (F0 m (pc + 3) ls (.ref H.size :: st.map (ax_v b)))
  rw [I.1]
  exact this
theorem g_newi (C : ax_C p R s m args meth c b D dA nL n0 cc own ht) {n : Nat} {i : Int} (hd : decode cc pc = .ok (.newarray .int, 2)) (hw : Cond.arrayClass .int ∈ ax_tb) (hi : i = (n : Int)) (hn : n < 1000000) (hc : h.length + 1 ≤ n0 + R.cells) (hs : ax_sz h + n ≤ z0 + R.slots) (kk : ax_G p l e R s m args below meth c b D dA nL n0 z0 Q (pc + 2) (L) (rv h.length :: st) (h ++ [.inl (0, n, .inl (fun _ => 0))])) : ax_G p l e R s m args below meth c b D dA nL n0 z0 Q (pc) (L) (iv i :: st) (h) := fun H ls locs cells slots I => by
  have hx := ax_in (n := n + 1) hi (Nat.lt_succ_self n) (by omega)
  have i6 := I.2.2.2.2.2.1
  have i7 := I.2.2.2.2.2.2.1
  have hb4 : componentBytes (newarray.typeOf .int) ≤ 4 := by decide
  refine va_newaK (atype := .int) C.1 C.2.1 (C.2.2.2.2.1 _ hw) rfl hd rfl (fun q => hx.1 (Or.inl q)) hx.2 (Nat.le_trans (Nat.mul_le_mul (Nat.le_of_lt hn) hb4) (by decide)) (by omega) (by omega) rfl fun H1 cA e1 z1 o1 hAr hNm => ?_
  have hcA : cA = dA 0 := Option.some.inj (hNm.symm.trans (C.2.2.2.2.2.1.2 0 _ rfl).2)
  subst hcA
  rw [I.1] at e1
  have I2 := I.made (H' := H1) (e1 := .inl (0, n, .inl (fun _ => 0))) (k := n) rfl hc hs e1 z1 o1
  show W p l e R s m args below meth c H1 locs (cells + 1) (slots + n) Q (F0 m (pc + 2) ls (.ref H.size :: st.map (ax_v b)))
  rw [I.1]
  exact kk H1 ls locs _ _ I2
theorem g_newz (C : ax_C p R s m args meth c b D dA nL n0 cc own ht) {n : Nat} {i : Int} (hd : decode cc pc = .ok (.newarray .boolean, 2)) (hw : Cond.arrayClass .boolean ∈ ax_tb) (hi : i = (n : Int)) (hn : n < 1000000) (hc : h.length + 1 ≤ n0 + R.cells) (hs : ax_sz h + n ≤ z0 + R.slots) (kk : ax_G p l e R s m args below meth c b D dA nL n0 z0 Q (pc + 2) (L) (rv h.length :: st) (h ++ [.inl (1, n, .inl (fun _ => 0))])) : ax_G p l e R s m args below meth c b D dA nL n0 z0 Q (pc) (L) (iv i :: st) (h) := fun H ls locs cells slots I => by
  have hx := ax_in (n := n + 1) hi (Nat.lt_succ_self n) (by omega)
  have i6 := I.2.2.2.2.2.1
  have i7 := I.2.2.2.2.2.2.1
  have hb4 : componentBytes (newarray.typeOf .boolean) ≤ 4 := by decide
  refine va_newaK (atype := .boolean) C.1 C.2.1 (C.2.2.2.2.1 _ hw) rfl hd rfl (fun q => hx.1 (Or.inl q)) hx.2 (Nat.le_trans (Nat.mul_le_mul (Nat.le_of_lt hn) hb4) (by decide)) (by omega) (by omega) rfl fun H1 cA e1 z1 o1 hAr hNm => ?_
  have hcA : cA = dA 1 := Option.some.inj (hNm.symm.trans (C.2.2.2.2.2.1.2 1 _ rfl).2)
  subst hcA
  rw [I.1] at e1
  have I2 := I.made (H' := H1) (e1 := .inl (1, n, .inl (fun _ => 0))) (k := n) rfl hc hs e1 z1 o1
  show W p l e R s m args below meth c H1 locs (cells + 1) (slots + n) Q (F0 m (pc + 2) ls (.ref H.size :: st.map (ax_v b)))
  rw [I.1]
  exact kk H1 ls locs _ _ I2
theorem g_newq (C : ax_C p R s m args meth c b D dA nL n0 cc own ht) {n t idx : Nat} {i : Int} {Cn : String} (hd : decode cc pc = .ok (.anewarray idx, 3)) (hw : Cond.classLink own idx Cn ∈ ax_tb) (ho : Cond.arrayOver (.object Cn) ∈ ax_tb) (ht : (ax_tys dA)[t]? = some (dA t, .object Cn)) (hi : i = (n : Int)) (hn : n < 1000000) (hc : h.length + 1 ≤ n0 + R.cells) (hs : ax_sz h + n ≤ z0 + R.slots) (kk : ax_G p l e R s m args below meth c b D dA nL n0 z0 Q (pc + 3) (L) (rv h.length :: st) (h ++ [.inl (t, n, .inr (fun _ => none))])) : ax_G p l e R s m args below meth c b D dA nL n0 z0 Q (pc) (L) (iv i :: st) (h) := fun H ls locs cells slots I => by
  have hx := ax_in (n := n + 1) hi (Nat.lt_succ_self n) (by omega)
  have i6 := I.2.2.2.2.2.1
  have i7 := I.2.2.2.2.2.2.1
  refine W.anew C.1 C.2.1 C.2.2.2.1 (C.2.2.2.2.1 _ hw) (C.2.2.2.2.1 _ ho) rfl hd rfl (fun q => hx.1 (Or.inl q)) (by rw [hx.2]; omega) (by omega) (by rw [hx.2]; omega) fun cA kA comp f1 f2 f3 f4 => ?_
  obtain ⟨kA', comp', k1, k2, k3, k4⟩ := (C.2.2.2.2.2.1.2 t _ ht).2
  have hcA : cA = dA t := Option.some.inj (f1.symm.trans k4)
  subst hcA
  rw [hx.2]
  generalize hH1 : H.push ({ cls := dA t, slots := Array.replicate n .null, vm := .none } : Cell) = H1
  have z1 : H1.size = H.size + 1 := by rw [← hH1, Array.size_push]
  have e1 : H1[b + h.length]? = some (arrV (dA t) n (fun _ => .null)) := by rw [← I.1, ← hH1, Array.getElem?_push_size, ← arrV_new]
  have o1 : ∀ q : Nat, q < H.size → H1[q]? = H[q]? := fun q hq => by rw [← hH1, Array.getElem?_push, if_neg (Nat.ne_of_lt hq)]
  have I2 := I.made (H' := H1) (e1 := .inl (t, n, .inr (fun _ => none))) (k := n) rfl hc hs e1 z1 o1
  show W p l e R s m args below meth c H1 locs (cells + 1) (slots + n) Q (F0 m (pc + 3) ls (.ref H.size :: st.map (ax_v b)))
  rw [I.1]
  exact kk H1 ls locs _ _ I2
end AXH
