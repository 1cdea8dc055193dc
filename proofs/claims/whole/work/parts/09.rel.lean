section AXN
variable {p : Program} {l : Launch} {e : Env} {R : Room} {s : State} {m : MethodId} {args : Array Value} {below : List Frame} {meth : Method} {c : Code} {b : Nat} {D : va_G} {dA : Nat → ClassId} {nL n0 z0 : Nat} {Q : State → Prop} {cc : ByteArray} {own : String} {ht : Nat} {pc : Nat} {L : List (Option ax_V)} {st : List ax_V} {h : ax_H}
/-- a method that makes no cells: it answers r and leaves h' with P r h' -/
def ax_Qr (b : Nat) (D : va_G) (dA : Nat → ClassId) (h : ax_H) (P : Option ax_V → ax_H → Prop) : Array Value → State → Outcome → State → Prop := fun a u o t => ∃ (r : Option ax_V) (h' : ax_H), P r h' ∧ (h'.length = h.length ∧ ax_sz h' = ax_sz h) ∧ ax_Qc b D dA r h' a u o t
def ax_Mt (y : ax_M) (av : List ax_V) (h : ax_H) (P : Option ax_V → ax_H → Prop) : Prop :=
  ∀ (l : Launch) (b : Nat) (D : va_G) (dA : Nat → ClassId), Met l y.1 (ax_ws y) (ax_rm y 0 0) (ax_Pc b D dA av h) (ax_Qr b D dA h P) 0 0 (fun q => b ≤ q)
theorem ax_mt0 {y : ax_M} {av : List ax_V} {L0 : List (Option ax_V)} {P : Option ax_V → ax_H → Prop} (hpl : plainName y.1.cls = true) (hn : av.length ≤ y.2.2.1) (hL : av.map some ++ List.replicate (y.2.2.1 - av.length) none = L0)
    (body : ∀ (p : Program) (l : Launch) (e : Env) (R : Room) (s : State) (m : MethodId) (args : Array Value) (below : List Frame) (meth : Method) (c : Code) (b : Nat) (D : va_G) (dA : Nat → ClassId), ax_C p R s m args meth c b D dA y.2.2.1 h.length y.2.1 y.1.cls y.2.2.2.2 → meth.sig.returnType = y.2.2.2.1 →
      ax_G p l e R s m args below meth c b D dA y.2.2.1 h.length (ax_sz h) (MQ below (ax_Qr b D dA h P) args s 0 0 (fun q => b ≤ q)) 0 L0 [] h) : ax_Mt y av h P := by
  intro l b D dA
  subst hL
  refine Met.ofW (cc := y.2.1) (maxL := y.2.2.1) (ret := y.2.2.2.1) hpl rfl ?_
  intro p e s m args below meth c s₁ B hml hv
  obtain ⟨rfl, hsz, hP, hK⟩ := hv
  have hts := atoms_spec (ws := ax_ws y) B.pre
  have hown : s.vm.findClass y.1.cls = some m.cls := findClass_of_methodNamed B.named
  have hcat : ∀ w ∈ av.map (ax_v b), w.category = 1 := fun w hw => by
    obtain ⟨v, -, rfl⟩ := List.mem_map.mp hw
    exact ax_cat b v
  have hlen := lg_sl1 (av.map (ax_v b)) hcat
  rw [List.length_map] at hlen
  have hle := lv_entry (av.map (ax_v b)) (n := y.2.2.1) (by rw [hlen]; exact hn)
  rw [lg_entry_eq]
  generalize (lg_sl (av.map (ax_v b)) ++ List.replicate (y.2.2.1 - (lg_sl (av.map (ax_v b))).length) Slot.unset).toArray = ls at hle ⊢
  refine body p l e _ s m _ below meth c b D dA ⟨B.exec, B.bytes, hml, hown, fun w hw => hts w (List.mem_cons_of_mem _ hw), hK, rfl, rfl, hsz, B.notSynchronized⟩ B.returns s.heap ls [] 0 0 ?_
  refine ⟨hsz, hP, fun _ _ => rfl, (fun _ h => by cases h), ⟨hle.1, hle.2.1, fun i v hi => ?_⟩, by omega, by omega, by omega, by omega⟩
  have hi2 : av[i]? = some v := by
    by_cases hq : i < (av.map some).length
    · rw [List.getElem?_append_left hq, List.getElem?_map] at hi
      cases hx : av[i]? with
      | none => rw [hx] at hi; cases hi
      | some w => rw [hx] at hi; cases hi; rfl
    · rw [List.getElem?_append_right (by omega)] at hi
      have := List.mem_of_getElem? hi
      have := List.eq_of_mem_replicate this
      cases this
  have := lv_args1 (av.map (ax_v b)) 0 i (ax_v b v) hcat (by rw [List.getElem?_map, hi2]; rfl)
  rw [Nat.zero_add] at this
  exact hle.2.2 _ this
theorem ax_qr {P : Option ax_V → ax_H → Prop} {hh : ax_H} {r : Option ax_V} {H : Heap} {ls : Array Slot} {locs : List Loc} {cells slots : Nat} (I : ax_I R s b D dA nL n0 z0 L hh H ls locs cells slots) {t : State} (ht : t.heap = H) {a : Array Value} {o : Outcome} (hP : P r hh) (hz : hh.length = h.length ∧ ax_sz hh = ax_sz h) (ho : o = .returned (r.map (ax_v b))) : ax_Qr b D dA h P a s o t := ⟨r, hh, hP, hz, ax_q I ht ho⟩
theorem ax_ri {y : ax_M} {av : List ax_V} {L0 : List (Option ax_V)} {P : Option ax_V → ax_H → Prop} (hpl : plainName y.1.cls = true) (hty : y.2.2.2.1 = some .int) (hn : av.length ≤ y.2.2.1) (hL : av.map some ++ List.replicate (y.2.2.1 - av.length) none = L0)
    (body : ∀ (p : Program) (l : Launch) (e : Env) (R : Room) (s : State) (m : MethodId) (args : Array Value) (below : List Frame) (meth : Method) (c : Code) (b : Nat) (D : va_G) (dA : Nat → ClassId) (Q : State → Prop), ax_C p R s m args meth c b D dA y.2.2.1 h.length y.2.1 y.1.cls y.2.2.2.2 →
      (∀ (pc : Nat) (L : List (Option ax_V)) (x : Int) (hh : ax_H), decode y.2.1 pc = .ok (.ireturn, 1) → P (some (iv x)) hh → (hh.length = h.length ∧ ax_sz hh = ax_sz h) → ax_G p l e R s m args below meth c b D dA y.2.2.1 h.length (ax_sz h) Q pc L [iv x] hh) →
      ax_G p l e R s m args below meth c b D dA y.2.2.1 h.length (ax_sz h) Q 0 L0 [] h) : ax_Mt y av h P :=
  ax_mt0 hpl hn hL (fun p l e R s m args below meth c b D dA C hr => body p l e R s m args below meth c b D dA _ C (fun pc L x hh hd hx hz H ls locs cells slots I => by
    have e1 : cells = 0 := by have := I.2.2.2.2.2.1; omega
    have e2 : slots = 0 := by have := I.2.2.2.2.2.2.1; omega
    subst e1; subst e2
    exact W.zret C.1 C.2.1 (hr.trans hty) rfl (fun t ht _ => ax_qr (r := some (iv x)) I ht hx hz rfl) I.2.2.2.1 hd C.2.2.2.2.2.2.2.2.2))
theorem ax_rz {y : ax_M} {av : List ax_V} {L0 : List (Option ax_V)} {P : Option ax_V → ax_H → Prop} (hpl : plainName y.1.cls = true) (hty : y.2.2.2.1 = some .boolean) (hn : av.length ≤ y.2.2.1) (hL : av.map some ++ List.replicate (y.2.2.1 - av.length) none = L0)
    (body : ∀ (p : Program) (l : Launch) (e : Env) (R : Room) (s : State) (m : MethodId) (args : Array Value) (below : List Frame) (meth : Method) (c : Code) (b : Nat) (D : va_G) (dA : Nat → ClassId) (Q : State → Prop), ax_C p R s m args meth c b D dA y.2.2.1 h.length y.2.1 y.1.cls y.2.2.2.2 →
      (∀ (pc : Nat) (L : List (Option ax_V)) (x : Int) (hh : ax_H), decode y.2.1 pc = .ok (.ireturn, 1) → (x = 0 ∨ x = 1) → P (some (iv x)) hh → (hh.length = h.length ∧ ax_sz hh = ax_sz h) → ax_G p l e R s m args below meth c b D dA y.2.2.1 h.length (ax_sz h) Q pc L [iv x] hh) →
      ax_G p l e R s m args below meth c b D dA y.2.2.1 h.length (ax_sz h) Q 0 L0 [] h) : ax_Mt y av h P :=
  ax_mt0 hpl hn hL (fun p l e R s m args below meth c b D dA C hr => body p l e R s m args below meth c b D dA _ C (fun pc L x hh hd h01 hx hz H ls locs cells slots I => by
    have e1 : cells = 0 := by have := I.2.2.2.2.2.1; omega
    have e2 : slots = 0 := by have := I.2.2.2.2.2.2.1; omega
    subst e1; subst e2
    exact W.zret C.1 C.2.1 (hr.trans hty) (by rcases h01 with rfl | rfl <;> rfl) (fun t ht _ => ax_qr (r := some (iv x)) I ht hx hz rfl) I.2.2.2.1 hd C.2.2.2.2.2.2.2.2.2))
theorem ax_rv {y : ax_M} {av : List ax_V} {L0 : List (Option ax_V)} {P : Option ax_V → ax_H → Prop} (hpl : plainName y.1.cls = true) (hty : y.2.2.2.1 = none) (hn : av.length ≤ y.2.2.1) (hL : av.map some ++ List.replicate (y.2.2.1 - av.length) none = L0)
    (body : ∀ (p : Program) (l : Launch) (e : Env) (R : Room) (s : State) (m : MethodId) (args : Array Value) (below : List Frame) (meth : Method) (c : Code) (b : Nat) (D : va_G) (dA : Nat → ClassId) (Q : State → Prop), ax_C p R s m args meth c b D dA y.2.2.1 h.length y.2.1 y.1.cls y.2.2.2.2 →
      (∀ (pc : Nat) (L : List (Option ax_V)) (hh : ax_H), decode y.2.1 pc = .ok (.return_, 1) → P none hh → (hh.length = h.length ∧ ax_sz hh = ax_sz h) → ax_G p l e R s m args below meth c b D dA y.2.2.1 h.length (ax_sz h) Q pc L [] hh) →
      ax_G p l e R s m args below meth c b D dA y.2.2.1 h.length (ax_sz h) Q 0 L0 [] h) : ax_Mt y av h P :=
  ax_mt0 hpl hn hL (fun p l e R s m args below meth c b D dA C hr => body p l e R s m args below meth c b D dA _ C (fun pc L hh hd hx hz H ls locs cells slots I => by
    have e1 : cells = 0 := by have := I.2.2.2.2.2.1; omega
    have e2 : slots = 0 := by have := I.2.2.2.2.2.2.1; omega
    subst e1; subst e2
    exact W.vret C.1 C.2.1 (hr.trans hty) (fun t ht _ => ax_qr (r := none) I ht hx hz rfl) I.2.2.2.1 hd C.2.2.2.2.2.2.2.2.2))
theorem ax_ra {y : ax_M} {av : List ax_V} {L0 : List (Option ax_V)} {P : Option ax_V → ax_H → Prop} {ty : FieldType} (hpl : plainName y.1.cls = true) (hty : y.2.2.2.1 = some ty) (hrt : (∃ n, ty = .object n) ∨ ∃ t, ty = .array t) (hn : av.length ≤ y.2.2.1) (hL : av.map some ++ List.replicate (y.2.2.1 - av.length) none = L0)
    (body : ∀ (p : Program) (l : Launch) (e : Env) (R : Room) (s : State) (m : MethodId) (args : Array Value) (below : List Frame) (meth : Method) (c : Code) (b : Nat) (D : va_G) (dA : Nat → ClassId) (Q : State → Prop), ax_C p R s m args meth c b D dA y.2.2.1 h.length y.2.1 y.1.cls y.2.2.2.2 →
      (∀ (pc : Nat) (L : List (Option ax_V)) (o : Option Nat) (hh : ax_H), decode y.2.1 pc = .ok (.areturn, 1) → P (some (.inr o)) hh → (hh.length = h.length ∧ ax_sz hh = ax_sz h) → ax_G p l e R s m args below meth c b D dA y.2.2.1 h.length (ax_sz h) Q pc L [.inr o] hh) →
      ax_G p l e R s m args below meth c b D dA y.2.2.1 h.length (ax_sz h) Q 0 L0 [] h) : ax_Mt y av h P :=
  ax_mt0 hpl hn hL (fun p l e R s m args below meth c b D dA C hr => body p l e R s m args below meth c b D dA _ C (fun pc L o hh hd hx hz H ls locs cells slots I => by
    have e1 : cells = 0 := by have := I.2.2.2.2.2.1; omega
    have e2 : slots = 0 := by have := I.2.2.2.2.2.2.1; omega
    subst e1; subst e2
    exact W.aret C.1 C.2.1 (hr.trans hty) hrt (by cases o with
      | none => exact Or.inl rfl
      | some a => exact Or.inr ⟨_, rfl⟩) (fun t ht _ => ax_qr (r := some (.inr o)) I ht hx hz rfl) I.2.2.2.1 hd C.2.2.2.2.2.2.2.2.2))
/-! calls -/
theorem ax_afterR (C : ax_C p R s m args meth c b D dA nL n0 cc own ht) {H : Heap} {ls : Array Slot} {locs : List Loc} {cells slots : Nat} (I : ax_I R s b D dA nL n0 z0 L h H ls locs cells slots) {stk : List Value} {rest : List ax_V} {P : Option ax_V → ax_H → Prop} {a : Array Value}
    (run : va_Run p l e R s m args below meth c H locs cells slots 0 0 (F0 m pc ls stk) (rest.map (ax_v b)) (ax_Qr b D dA h P a) (fun q => b ≤ q)) (k : ∀ (r : Option ax_V) (h1 : ax_H), P r h1 → (h1.length = h.length ∧ ax_sz h1 = ax_sz h) → ax_G p l e R s m args below meth c b D dA nL n0 z0 Q (pc + 3) (L) (r.toList ++ rest) (h1)) : W p l e R s m args below meth c H locs cells slots Q (F0 m pc ls stk) := by
  intro T hT X
  obtain ⟨v, st₀, t, T', Lc, e0, X', hL, e1, e2, ⟨r, h1, hP, hz, hv, hz1, hp1, hq1⟩, go⟩ := run T hT X
  obtain ⟨i1, i2, i3, i4, i5, i6, i7, i8, i9⟩ := I
  have I' : ax_I R s b D dA nL n0 z0 L h1 T'.heap ls (locs ++ Lc) (cells + 0) (slots + 0) := by
    refine ⟨by rw [e1]; exact hz1, by rw [e1]; exact hp1, fun q hq => ?_, fun x hx => ?_, i5, by omega, by omega, by omega, by omega⟩
    · rw [e1, hq1 q hq, e0]
      exact i3 q hq
    · rcases List.mem_append.mp hx with q | q
      · exact i4 x q
      · exact hL x q
  obtain ⟨t2, a1, b1⟩ := k r h1 hP hz T'.heap ls _ _ _ I' T' rfl X'
  refine ⟨t2, go t2 ?_, b1⟩
  have hv2 : v = r.map (ax_v b) := by cases hv; rfl
  have hstk : v.toList ++ rest.map (ax_v b) = (r.toList ++ rest).map (ax_v b) := by subst hv2; cases r <;> rfl
  rw [hstk]
  exact a1
theorem g_RV (C : ax_C p R s m args meth c b D dA nL n0 cc own ht) {y : ax_M} {n a ci idx : Nat} {av rest : List ax_V} {fs : List ax_V} {P : Option ax_V → ax_H → Prop} {q : vw_C} (M : ax_Mt y (rv a :: av) h P) (hd : decode cc pc = .ok (.invokevirtual idx, 3)) (cw : ax_cw y n) (hl : Cond.methodLink own idx y.1 ∈ ax_tb) (hi : Cond.instanceMethod y.1 ∈ ax_tb) (hse : Cond.selects y.1.cls y.1 y.1 ∈ ax_tb) (hh : y.2.2.2.2 + 1 ≤ ht) (hn : av.length = n) (ha : h[a]? = some (.inr (ci, fs))) (hq : vwCl[ci]? = some q) (hq1 : q.1 = y.1.cls) (hst : st = av.reverse ++ rv a :: rest) (hr : rest.length ≤ 8) (k : ∀ (r : Option ax_V) (h1 : ax_H), P r h1 → (h1.length = h.length ∧ ax_sz h1 = ax_sz h) → ax_G p l e R s m args below meth c b D dA nL n0 z0 Q (pc + 3) (L) (r.toList ++ rest) (h1)) : ax_G p l e R s m args below meth c b D dA nL n0 z0 Q (pc) (L) (st) (h) := fun H ls locs cells slots I => by
  obtain ⟨cell, g1, g2, g3⟩ := va_recv C.2.2.2.2.2.1 I.2.1 hq (ax_w_at ha)
  rw [hq1] at g3
  have hp := ax_pre C I (rv a :: av)
  have hR : cells + 0 ≤ R.cells ∧ slots + 0 ≤ R.slots := by obtain ⟨i1, i2, i3, i4, i5, i6, i7, i8, i9⟩ := I; omega
  exact ax_afterR C I (va_runV (As := av.map (ax_v b)) (rest := rest.map (ax_v b)) ⟨C.1, C.2.1, C.2.2.1, C.2.2.2.1, C.2.2.2.2.1⟩ (M l b D dA) ⟨ax_cb C cw hl hh, C.2.2.2.2.1 _ hi, C.2.2.2.2.1 _ hse⟩ ⟨hp.1, ⟨cell, g1, g2, g3⟩, hp.2⟩ rfl (by rw [List.length_map]; exact hn) I.2.2.2.2.1.1 (by rw [hst]; simp [ax_v]) (lv_room (by rw [ax_catsum]; exact hr)) hd hR) k
theorem g_RS (C : ax_C p R s m args meth c b D dA nL n0 cc own ht) {y : ax_M} {n idx : Nat} {av rest : List ax_V} {P : Option ax_V → ax_H → Prop} (M : ax_Mt y av h P) (hd : decode cc pc = .ok (.invokestatic idx, 3)) (cw : ax_cw y n) (hl : Cond.methodLink own idx y.1 ∈ ax_tb) (hi : Cond.static y.1 ∈ ax_tb) (hh : y.2.2.2.2 + 1 ≤ ht) (hn : av.length = n) (hst : st = av.reverse ++ rest) (hr : rest.length ≤ 8) (k : ∀ (r : Option ax_V) (h1 : ax_H), P r h1 → (h1.length = h.length ∧ ax_sz h1 = ax_sz h) → ax_G p l e R s m args below meth c b D dA nL n0 z0 Q (pc + 3) (L) (r.toList ++ rest) (h1)) : ax_G p l e R s m args below meth c b D dA nL n0 z0 Q (pc) (L) (st) (h) := fun H ls locs cells slots I => by
  have hR : cells + 0 ≤ R.cells ∧ slots + 0 ≤ R.slots := by obtain ⟨i1, i2, i3, i4, i5, i6, i7, i8, i9⟩ := I; omega
  exact ax_afterR C I (va_runS (As := av.map (ax_v b)) (rest := rest.map (ax_v b)) ⟨C.1, C.2.1, C.2.2.1, C.2.2.2.1, C.2.2.2.2.1⟩ (M l b D dA) ⟨ax_cb C cw hl hh, C.2.2.2.2.1 _ hi⟩ (ax_pre C I av) rfl (by rw [List.length_map]; exact hn) I.2.2.2.2.1.1 (by rw [hst]; simp) (lv_room (by rw [ax_catsum]; exact hr)) hd hR) k
end AXN
