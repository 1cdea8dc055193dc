section AXM
variable {p : Program} {l : Launch} {e : Env} {R : Room} {s : State} {m : MethodId} {args : Array Value} {below : List Frame} {meth : Method} {c : Code} {b : Nat} {D : va_G} {dA : Nat → ClassId} {nL n0 z0 : Nat} {Q : State → Prop} {cc : ByteArray} {own : String} {ht : Nat} {pc : Nat} {L : List (Option ax_V)} {st : List ax_V} {h : ax_H}
/-- a method: its name, its bytes, its locals, what it returns, how deep its calls go -/
abbrev ax_M : Type := MethodName × ByteArray × Nat × Option FieldType × Nat
def ax_ws (y : ax_M) : List Cond := Cond.code y.1 y.2.1 y.2.2.1 y.2.2.2.1 :: ax_tb
def ax_rm (y : ax_M) (mc ms : Nat) : Room := { frames := y.2.2.2.2, cells := mc, slots := ms, locals := 38 * y.2.2.2.2 }
def ax_Pc (b : Nat) (D : va_G) (dA : Nat → ClassId) (av : List ax_V) (h : ax_H) : Array Value → State → Prop := fun v U => v = (av.map (ax_v b)).toArray ∧ U.heap.size = b + h.length ∧ va_P D vwCl (ax_w b dA h) U.heap ∧ va_K D vwCl (ax_tys dA) U
def ax_Qc (b : Nat) (D : va_G) (dA : Nat → ClassId) (r : Option ax_V) (h' : ax_H) : Array Value → State → Outcome → State → Prop := fun _ u o t => o = .returned (r.map (ax_v b)) ∧ t.heap.size = b + h'.length ∧ va_P D vwCl (ax_w b dA h') t.heap ∧ ∀ q, q < b → t.heap[q]? = u.heap[q]?
/-- what a method does at these values in this heap: it answers r and leaves the heap h' -/
def ax_Met (y : ax_M) (av : List ax_V) (h : ax_H) (r : Option ax_V) (h' : ax_H) : Prop :=
  h.length ≤ h'.length ∧ ax_sz h ≤ ax_sz h' ∧ ∀ (l : Launch) (b : Nat) (D : va_G) (dA : Nat → ClassId), Met l y.1 (ax_ws y) (ax_rm y (h'.length - h.length) (ax_sz h' - ax_sz h)) (ax_Pc b D dA av h) (ax_Qc b D dA r h') (h'.length - h.length) (ax_sz h' - ax_sz h) (fun q => b ≤ q)
theorem lv_args1 : ∀ (vs : List Value) (i j : Nat) (v : Value), (∀ w ∈ vs, w.category = 1) → vs[j]? = some v → (i + j, v) ∈ lv_args i vs
  | [], i, j, v, _, hv => by simp at hv
  | w :: vs, i, 0, v, _, hv => by
    simp at hv
    subst hv
    simp [lv_args]
  | w :: vs, i, j + 1, v, hc, hv => by
    simp at hv
    have h1 : w.category = 1 := hc w List.mem_cons_self
    have := lv_args1 vs (i + 1) j v (fun x hx => hc x (List.mem_cons_of_mem _ hx)) hv
    simp only [lv_args, h1]
    refine List.mem_cons_of_mem _ ?_
    rw [show i + (j + 1) = i + 1 + j by omega]
    exact this
theorem lg_sl1 : ∀ (vs : List Value), (∀ w ∈ vs, w.category = 1) → (lg_sl vs).length = vs.length
  | [], _ => rfl
  | w :: vs, hc => by
    have h1 : w.category = 1 := hc w List.mem_cons_self
    have := lg_sl1 vs (fun x hx => hc x (List.mem_cons_of_mem _ hx))
    simp only [lg_sl] at this
    simp [lg_sl, h1, this]
theorem ax_met0 {y : ax_M} {av : List ax_V} {h' : ax_H} {r : Option ax_V} (hpl : plainName y.1.cls = true) (hl : h.length ≤ h'.length) (hs : ax_sz h ≤ ax_sz h') (hn : av.length ≤ y.2.2.1)
    (body : ∀ (p : Program) (l : Launch) (e : Env) (R : Room) (s : State) (m : MethodId) (args : Array Value) (below : List Frame) (meth : Method) (c : Code) (b : Nat) (D : va_G) (dA : Nat → ClassId), ax_C p R s m args meth c b D dA y.2.2.1 h.length y.2.1 y.1.cls y.2.2.2.2 → meth.name = y.1.name → meth.sig.returnType = y.2.2.2.1 → h'.length ≤ h.length + R.cells → ax_sz h' ≤ ax_sz h + R.slots →
      ax_G p l e R s m args below meth c b D dA y.2.2.1 h.length (ax_sz h) (MQ below (ax_Qc b D dA r h') args s (h'.length - h.length) (ax_sz h' - ax_sz h) (fun q => b ≤ q)) 0 (av.map some ++ List.replicate (y.2.2.1 - av.length) none) [] h) : ax_Met y av h r h' := by
  refine ⟨hl, hs, fun l b D dA => ?_⟩
  refine Met.ofW (cc := y.2.1) (maxL := y.2.2.1) (ret := y.2.2.2.1) hpl rfl ?_
  intro p e s m args below meth c s₁ B hml hv
  obtain ⟨rfl, hsz, hP, hK⟩ := hv
  have hts := atoms_spec (ws := ax_ws y) B.pre
  have hown : s.vm.findClass y.1.cls = some m.cls := findClass_of_methodNamed B.named
  have hcat : ∀ w ∈ av.map (ax_v b), w.category = 1 := fun w hw => by
    obtain ⟨v, -, rfl⟩ := List.mem_map.mp hw
    exact ax_cat b v
  have hlen := lg_sl1 (av.map (ax_v b)) hcat
  rw [List.length_map] at hlen
  have hle := lv_entry (av.map (ax_v b)) (n := y.2.2.1) (by rw [hlen]; exact hn)
  rw [lg_entry_eq]
  generalize (lg_sl (av.map (ax_v b)) ++ List.replicate (y.2.2.1 - (lg_sl (av.map (ax_v b))).length) Slot.unset).toArray = ls at hle ⊢
  refine body p l e _ s m _ below meth c b D dA ⟨B.exec, B.bytes, hml, hown, fun w hw => hts w (List.mem_cons_of_mem _ hw), hK, rfl, rfl, hsz, B.notSynchronized⟩ (name_of_methodNamed B.named B.method).1 B.returns (by show _ ≤ h.length + (h'.length - h.length); omega) (by show _ ≤ ax_sz h + (ax_sz h' - ax_sz h); omega) s.heap ls [] 0 0 ?_
  refine ⟨hsz, hP, fun _ _ => rfl, (fun _ h => by cases h), ⟨hle.1, hle.2.1, fun i v hi => ?_⟩, by omega, by omega, by omega, by omega⟩
  have hi2 : av[i]? = some v := by
    by_cases hq : i < (av.map some).length
    · rw [List.getElem?_append_left hq, List.getElem?_map] at hi
      cases hx : av[i]? with
      | none => rw [hx] at hi; cases hi
      | some w => rw [hx] at hi; cases hi; rfl
    · rw [List.getElem?_append_right (by omega)] at hi
      have := List.mem_of_getElem? hi
      have := List.eq_of_mem_replicate this
      cases this
  have := lv_args1 (av.map (ax_v b)) 0 i (ax_v b v) hcat (by rw [List.getElem?_map, hi2]; rfl)
  rw [Nat.zero_add] at this
  exact hle.2.2 _ this
theorem ax_q {h' : ax_H} {r : Option ax_V} {H : Heap} {ls : Array Slot} {locs : List Loc} {cells slots : Nat} (I : ax_I R s b D dA nL n0 z0 L h' H ls locs cells slots) {t : State} (ht : t.heap = H) {a : Array Value} {o : Outcome} (ho : o = .returned (r.map (ax_v b))) : ax_Qc b D dA r h' a s o t := by
  subst ht
  exact ⟨ho, I.1, I.2.1, I.2.2.1⟩
theorem g_iret0 {h' : ax_H} {r : Option ax_V} {x : Int} {mc ms : Nat} {ty : FieldType} (C : ax_C p R s m args meth c b D dA nL n0 cc own ht) (hd : decode cc pc = .ok (.ireturn, 1)) (hr : meth.sig.returnType = some ty) (hn : narrow ty (.int (Int32.ofInt x)) = .int (Int32.ofInt x)) (hc : mc + n0 = h'.length) (hs : ms + z0 = ax_sz h') (hx : r = some (iv x)) : ax_G p l e R s m args below meth c b D dA nL n0 z0 (MQ below (ax_Qc b D dA r h') args s mc ms (fun q => b ≤ q)) pc L [iv x] h' := fun H ls locs cells slots I => by
  subst hx
  have e1 : cells = mc := by have := I.2.2.2.2.2.1; omega
  have e2 : slots = ms := by have := I.2.2.2.2.2.2.1; omega
  subst e1; subst e2
  exact W.zret C.1 C.2.1 hr hn (fun t ht _ => ax_q I ht rfl) I.2.2.2.1 hd C.2.2.2.2.2.2.2.2.2
theorem g_vret0 {h' : ax_H} {r : Option ax_V} {mc ms : Nat} (C : ax_C p R s m args meth c b D dA nL n0 cc own ht) (hd : decode cc pc = .ok (.return_, 1)) (hr : meth.sig.returnType = none) (hc : mc + n0 = h'.length) (hs : ms + z0 = ax_sz h') (hx : r = none) : ax_G p l e R s m args below meth c b D dA nL n0 z0 (MQ below (ax_Qc b D dA r h') args s mc ms (fun q => b ≤ q)) pc L [] h' := fun H ls locs cells slots I => by
  subst hx
  have e1 : cells = mc := by have := I.2.2.2.2.2.1; omega
  have e2 : slots = ms := by have := I.2.2.2.2.2.2.1; omega
  subst e1; subst e2
  exact W.vret C.1 C.2.1 hr (fun t ht _ => ax_q I ht rfl) I.2.2.2.1 hd C.2.2.2.2.2.2.2.2.2
theorem g_aret0 {h' : ax_H} {r : Option ax_V} {o : Option Nat} {mc ms : Nat} {ty : FieldType} (C : ax_C p R s m args meth c b D dA nL n0 cc own ht) (hd : decode cc pc = .ok (.areturn, 1)) (hr : meth.sig.returnType = some ty) (hrt : (∃ n, ty = .object n) ∨ ∃ t, ty = .array t) (hc : mc + n0 = h'.length) (hs : ms + z0 = ax_sz h') (hx : r = some (.inr o)) : ax_G p l e R s m args below meth c b D dA nL n0 z0 (MQ below (ax_Qc b D dA r h') args s mc ms (fun q => b ≤ q)) pc L [.inr o] h' := fun H ls locs cells slots I => by
  subst hx
  have e1 : cells = mc := by have := I.2.2.2.2.2.1; omega
  have e2 : slots = ms := by have := I.2.2.2.2.2.2.1; omega
  subst e1; subst e2
  exact W.aret C.1 C.2.1 hr hrt (by cases o with
    | none => exact Or.inl rfl
    | some a => exact Or.inr ⟨_, rfl⟩) (fun t ht _ => ax_q I ht rfl) I.2.2.2.1 hd C.2.2.2.2.2.2.2.2.2
/-! a method's theorem out of a walk of its body, by what it returns: an int, a boolean, nothing, a reference -/
theorem ax_meti {y : ax_M} {av : List ax_V} {h' : ax_H} {r : Option ax_V} (hpl : plainName y.1.cls = true) (hty : y.2.2.2.1 = some .int) (hl : h.length ≤ h'.length) (hs : ax_sz h ≤ ax_sz h') (hn : av.length ≤ y.2.2.1)
    (body : ∀ (p : Program) (l : Launch) (e : Env) (R : Room) (s : State) (m : MethodId) (args : Array Value) (below : List Frame) (meth : Method) (c : Code) (b : Nat) (D : va_G) (dA : Nat → ClassId) (Q : State → Prop), ax_C p R s m args meth c b D dA y.2.2.1 h.length y.2.1 y.1.cls y.2.2.2.2 →
      (∀ (pc : Nat) (L : List (Option ax_V)) (x : Int), decode y.2.1 pc = .ok (.ireturn, 1) → r = some (iv x) → ax_G p l e R s m args below meth c b D dA y.2.2.1 h.length (ax_sz h) Q pc L [iv x] h') →
      ax_G p l e R s m args below meth c b D dA y.2.2.1 h.length (ax_sz h) Q 0 (av.map some ++ List.replicate (y.2.2.1 - av.length) none) [] h) : ax_Met y av h r h' :=
  ax_met0 hpl hl hs hn (fun p l e R s m args below meth c b D dA C _ hr _ _ => body p l e R s m args below meth c b D dA _ C (fun pc L x hd hx => g_iret0 C hd (hr.trans hty) rfl (by omega) (by omega) hx))
theorem ax_metz {y : ax_M} {av : List ax_V} {h' : ax_H} {r : Option ax_V} (hpl : plainName y.1.cls = true) (hty : y.2.2.2.1 = some .boolean) (hl : h.length ≤ h'.length) (hs : ax_sz h ≤ ax_sz h') (hn : av.length ≤ y.2.2.1)
    (body : ∀ (p : Program) (l : Launch) (e : Env) (R : Room) (s : State) (m : MethodId) (args : Array Value) (below : List Frame) (meth : Method) (c : Code) (b : Nat) (D : va_G) (dA : Nat → ClassId) (Q : State → Prop), ax_C p R s m args meth c b D dA y.2.2.1 h.length y.2.1 y.1.cls y.2.2.2.2 →
      (∀ (pc : Nat) (L : List (Option ax_V)) (x : Int), decode y.2.1 pc = .ok (.ireturn, 1) → (x = 0 ∨ x = 1) → r = some (iv x) → ax_G p l e R s m args below meth c b D dA y.2.2.1 h.length (ax_sz h) Q pc L [iv x] h') →
      ax_G p l e R s m args below meth c b D dA y.2.2.1 h.length (ax_sz h) Q 0 (av.map some ++ List.replicate (y.2.2.1 - av.length) none) [] h) : ax_Met y av h r h' :=
  ax_met0 hpl hl hs hn (fun p l e R s m args below meth c b D dA C _ hr _ _ => body p l e R s m args below meth c b D dA _ C (fun pc L x hd h01 hx => g_iret0 C hd (hr.trans hty) (by rcases h01 with rfl | rfl <;> rfl) (by omega) (by omega) hx))
theorem ax_metv {y : ax_M} {av : List ax_V} {h' : ax_H} (hpl : plainName y.1.cls = true) (hty : y.2.2.2.1 = none) (hl : h.length ≤ h'.length) (hs : ax_sz h ≤ ax_sz h') (hn : av.length ≤ y.2.2.1)
    (body : ∀ (p : Program) (l : Launch) (e : Env) (R : Room) (s : State) (m : MethodId) (args : Array Value) (below : List Frame) (meth : Method) (c : Code) (b : Nat) (D : va_G) (dA : Nat → ClassId) (Q : State → Prop), ax_C p R s m args meth c b D dA y.2.2.1 h.length y.2.1 y.1.cls y.2.2.2.2 → meth.name = y.1.name → h'.length ≤ h.length + R.cells → ax_sz h' ≤ ax_sz h + R.slots →
      (∀ (pc : Nat) (L : List (Option ax_V)), decode y.2.1 pc = .ok (.return_, 1) → ax_G p l e R s m args below meth c b D dA y.2.2.1 h.length (ax_sz h) Q pc L [] h') →
      ax_G p l e R s m args below meth c b D dA y.2.2.1 h.length (ax_sz h) Q 0 (av.map some ++ List.replicate (y.2.2.1 - av.length) none) [] h) : ax_Met y av h none h' :=
  ax_met0 hpl hl hs hn (fun p l e R s m args below meth c b D dA C hnm hr h1 h2 => body p l e R s m args below meth c b D dA _ C hnm h1 h2 (fun pc L hd => g_vret0 C hd (hr.trans hty) (by omega) (by omega) rfl))
theorem ax_meta {y : ax_M} {av : List ax_V} {h' : ax_H} {r : Option ax_V} {ty : FieldType} (hpl : plainName y.1.cls = true) (hty : y.2.2.2.1 = some ty) (hrt : (∃ n, ty = .object n) ∨ ∃ t, ty = .array t) (hl : h.length ≤ h'.length) (hs : ax_sz h ≤ ax_sz h') (hn : av.length ≤ y.2.2.1)
    (body : ∀ (p : Program) (l : Launch) (e : Env) (R : Room) (s : State) (m : MethodId) (args : Array Value) (below : List Frame) (meth : Method) (c : Code) (b : Nat) (D : va_G) (dA : Nat → ClassId) (Q : State → Prop), ax_C p R s m args meth c b D dA y.2.2.1 h.length y.2.1 y.1.cls y.2.2.2.2 →
      (∀ (pc : Nat) (L : List (Option ax_V)) (o : Option Nat), decode y.2.1 pc = .ok (.areturn, 1) → r = some (.inr o) → ax_G p l e R s m args below meth c b D dA y.2.2.1 h.length (ax_sz h) Q pc L [.inr o] h') →
      ax_G p l e R s m args below meth c b D dA y.2.2.1 h.length (ax_sz h) Q 0 (av.map some ++ List.replicate (y.2.2.1 - av.length) none) [] h) : ax_Met y av h r h' :=
  ax_met0 hpl hl hs hn (fun p l e R s m args below meth c b D dA C _ hr _ _ => body p l e R s m args below meth c b D dA _ C (fun pc L o hd hx => g_aret0 C hd (hr.trans hty) hrt (by omega) (by omega) hx))
/-! calls -/
theorem ax_catsum (b : Nat) : ∀ (rest : List ax_V), ((rest.map (ax_v b)).map fun v => v.category).sum = rest.length
  | [] => rfl
  | v :: rest => by
    have := ax_catsum b rest
    simp only [List.map_cons, List.sum_cons, ax_cat, List.length_cons, this]
    omega
/-- what a call of y needs of the tables, whatever the instruction -/
def ax_cw (y : ax_M) (n : Nat) : Prop := Cond.code y.1 y.2.1 y.2.2.1 y.2.2.2.1 ∈ ax_tb ∧ Cond.initialized y.1.cls ∈ ax_tb ∧ (y.1.cls ≠ "java/lang/invoke/MethodHandle" ∧ y.1.cls ≠ "java/lang/invoke/VarHandle") ∧ (parseMethodDescriptor y.1.desc).map (fun d => d.parameters.length) = some n ∧ y.2.2.1 ≤ 19
theorem ax_blind (b : Nat) (D : va_G) (dA : Nat → ClassId) (av : List ax_V) (h : ax_H) : FrameBlind (ax_Pc b D dA av h) := fun a U g mk q => ⟨q.1, q.2.1, q.2.2.1, va_K.moved (u := U) (U := U.calling g mk a) (Vm.Alike.refl U.vm) q.2.2.2⟩
theorem ax_pre (C : ax_C p R s m args meth c b D dA nL n0 cc own ht) {H : Heap} {ls : Array Slot} {locs : List Loc} {cells slots : Nat} (I : ax_I R s b D dA nL n0 z0 L h H ls locs cells slots) (av : List ax_V) : PreS s H (ax_Pc b D dA av h) (av.map (ax_v b)) := ⟨ax_blind b D dA av h, fun U hU hW => ⟨rfl, by rw [hU]; exact I.1, by rw [hU]; exact I.2.1, va_K.moved hW.alike C.2.2.2.2.2.1⟩⟩
theorem ax_wd (C : ax_C p R s m args meth c b D dA nL n0 cc own ht) {y : ax_M} {n : Nat} (cw : ax_cw y n) : ∀ w ∈ ax_ws y, ∀ (a' : Array Value) (U : State), s.WarmedH U.vm → w.before a' U = true := fun w hw => by
  rcases List.mem_cons.mp hw with rfl | hw
  · exact ax_words C.2.2.2.2.1 _ cw.1
  · exact ax_words C.2.2.2.2.1 _ hw
theorem ax_sg {y : ax_M} {n : Nat} (cw : ax_cw y n) : ∀ sig, parseMethodDescriptor y.1.desc = some sig → n = sig.parameters.length := fun sig hs => by
  have h2 := cw.2.2.2.1
  rw [hs] at h2
  exact (Option.some.inj h2).symm
theorem ax_rmf (C : ax_C p R s m args meth c b D dA nL n0 cc own ht) {y : ax_M} {n mc ms : Nat} (cw : ax_cw y n) (hh : y.2.2.2.2 + 1 ≤ ht) : (ax_rm y mc ms).frames + 1 ≤ R.frames ∧ 8 + (y.2.2.1 + 11) + (ax_rm y mc ms).locals ≤ R.locals := by
  have e1 := C.2.2.2.2.2.2.1
  have e2 := C.2.2.2.2.2.2.2.1
  have e3 := cw.2.2.2.2
  refine ⟨by rw [e1]; exact hh, ?_⟩
  show 8 + (y.2.2.1 + 11) + 38 * y.2.2.2.2 ≤ R.locals
  omega
theorem ax_cb (C : ax_C p R s m args meth c b D dA nL n0 cc own ht) {y : ax_M} {n mc ms idx : Nat} (cw : ax_cw y n) (hl : Cond.methodLink own idx y.1 ∈ ax_tb) (hh : y.2.2.2.2 + 1 ≤ ht) : CallB R s args own idx y.1 y.2.1 y.2.2.1 y.2.2.2.1 (ax_ws y) (ax_rm y mc ms) mc ms n :=
  ⟨rfl, rfl, (ax_rmf C cw hh).1, (ax_rmf C cw hh).2, ax_wd C cw, List.mem_cons_self, C.2.2.2.2.1 _ cw.1, C.2.2.2.2.1 _ cw.2.1, cw.2.2.1, ax_sg cw, C.2.2.2.2.1 _ hl⟩
theorem ax_cn (C : ax_C p R s m args meth c b D dA nL n0 cc own ht) {y : ax_M} {n mc ms idx : Nat} {host : String} (cw : ax_cw y n) (hl : Cond.methodLinkNest own idx y.1 host ∈ ax_tb) (hh : y.2.2.2.2 + 1 ≤ ht) : va_CN R s args own idx y.1 host y.2.1 y.2.2.1 y.2.2.2.1 (ax_ws y) (ax_rm y mc ms) mc ms n :=
  ⟨⟨rfl, rfl, (ax_rmf C cw hh).1, (ax_rmf C cw hh).2, ax_wd C cw, List.mem_cons_self⟩, C.2.2.2.2.1 _ cw.1, C.2.2.2.2.1 _ cw.2.1, cw.2.2.1, ax_sg cw, C.2.2.2.2.1 _ hl⟩
theorem ax_after (C : ax_C p R s m args meth c b D dA nL n0 cc own ht) {H : Heap} {ls : Array Slot} {locs : List Loc} {cells slots : Nat} (I : ax_I R s b D dA nL n0 z0 L h H ls locs cells slots) {stk : List Value} {rest : List ax_V} {r : Option ax_V} {h1 : ax_H} {a : Array Value} (hl : h.length ≤ h1.length) (hz : ax_sz h ≤ ax_sz h1)
    (run : va_Run p l e R s m args below meth c H locs cells slots (h1.length - h.length) (ax_sz h1 - ax_sz h) (F0 m pc ls stk) (rest.map (ax_v b)) (ax_Qc b D dA r h1 a) (fun q => b ≤ q)) (hc : h1.length ≤ n0 + R.cells) (hs : ax_sz h1 ≤ z0 + R.slots) (k : ax_G p l e R s m args below meth c b D dA nL n0 z0 Q (pc + 3) (L) (r.toList ++ rest) (h1)) : W p l e R s m args below meth c H locs cells slots Q (F0 m pc ls stk) := by
  intro T hT X
  obtain ⟨v, st₀, t, T', Lc, e0, X', hL, e1, e2, ⟨hv, hz1, hp1, hq1⟩, go⟩ := run T hT X
  obtain ⟨i1, i2, i3, i4, i5, i6, i7, i8, i9⟩ := I
  have I' : ax_I R s b D dA nL n0 z0 L h1 T'.heap ls (locs ++ Lc) (cells + (h1.length - h.length)) (slots + (ax_sz h1 - ax_sz h)) := by
    refine ⟨by rw [e1]; exact hz1, by rw [e1]; exact hp1, fun q hq => ?_, fun x hx => ?_, i5, by omega, by omega, hc, hs⟩
    · rw [e1, hq1 q hq, e0]
      exact i3 q hq
    · rcases List.mem_append.mp hx with q | q
      · exact i4 x q
      · exact hL x q
  obtain ⟨t2, a1, b1⟩ := k T'.heap ls _ _ _ I' T' rfl X'
  refine ⟨t2, go t2 ?_, b1⟩
  have hv2 : v = r.map (ax_v b) := by cases hv; rfl
  have hstk : v.toList ++ rest.map (ax_v b) = (r.toList ++ rest).map (ax_v b) := by subst hv2; cases r <;> rfl
  rw [hstk]
  exact a1
theorem g_callV (C : ax_C p R s m args meth c b D dA nL n0 cc own ht) {y : ax_M} {n a ci idx : Nat} {av rest : List ax_V} {fs : List ax_V} {r : Option ax_V} {h1 : ax_H} {q : vw_C} (M : ax_Met y (rv a :: av) h r h1) (hd : decode cc pc = .ok (.invokevirtual idx, 3)) (cw : ax_cw y n) (hl : Cond.methodLink own idx y.1 ∈ ax_tb) (hi : Cond.instanceMethod y.1 ∈ ax_tb) (hse : Cond.selects y.1.cls y.1 y.1 ∈ ax_tb) (hh : y.2.2.2.2 + 1 ≤ ht) (hn : av.length = n) (ha : h[a]? = some (.inr (ci, fs))) (hq : vwCl[ci]? = some q) (hq1 : q.1 = y.1.cls) (hst : st = av.reverse ++ rv a :: rest) (hr : rest.length ≤ 8) (hc : h1.length ≤ n0 + R.cells) (hs : ax_sz h1 ≤ z0 + R.slots) (k : ax_G p l e R s m args below meth c b D dA nL n0 z0 Q (pc + 3) (L) (r.toList ++ rest) (h1)) : ax_G p l e R s m args below meth c b D dA nL n0 z0 Q (pc) (L) (st) (h) := fun H ls locs cells slots I => by
  obtain ⟨m1, m2, m3⟩ := M
  obtain ⟨cell, g1, g2, g3⟩ := va_recv C.2.2.2.2.2.1 I.2.1 hq (ax_w_at ha)
  rw [hq1] at g3
  have hp := ax_pre C I (rv a :: av)
  have hR : cells + (h1.length - h.length) ≤ R.cells ∧ slots + (ax_sz h1 - ax_sz h) ≤ R.slots := by have := I.2.2.2.2.2.1; have := I.2.2.2.2.2.2.1; omega
  refine ax_after C I m1 m2 (va_runV (As := av.map (ax_v b)) (rest := rest.map (ax_v b)) ⟨C.1, C.2.1, C.2.2.1, C.2.2.2.1, C.2.2.2.2.1⟩ (m3 l b D dA) ⟨ax_cb C cw hl hh, C.2.2.2.2.1 _ hi, C.2.2.2.2.1 _ hse⟩ ⟨hp.1, ⟨cell, g1, g2, g3⟩, hp.2⟩ rfl (by rw [List.length_map]; exact hn) I.2.2.2.2.1.1 (by rw [hst]; simp [ax_v]) (lv_room (by rw [ax_catsum]; exact hr)) hd hR) hc hs k
theorem g_callS (C : ax_C p R s m args meth c b D dA nL n0 cc own ht) {y : ax_M} {n idx : Nat} {av rest : List ax_V} {r : Option ax_V} {h1 : ax_H} (M : ax_Met y av h r h1) (hd : decode cc pc = .ok (.invokestatic idx, 3)) (cw : ax_cw y n) (hl : Cond.methodLink own idx y.1 ∈ ax_tb) (hi : Cond.static y.1 ∈ ax_tb) (hh : y.2.2.2.2 + 1 ≤ ht) (hn : av.length = n) (hst : st = av.reverse ++ rest) (hr : rest.length ≤ 8) (hc : h1.length ≤ n0 + R.cells) (hs : ax_sz h1 ≤ z0 + R.slots) (k : ax_G p l e R s m args below meth c b D dA nL n0 z0 Q (pc + 3) (L) (r.toList ++ rest) (h1)) : ax_G p l e R s m args below meth c b D dA nL n0 z0 Q (pc) (L) (st) (h) := fun H ls locs cells slots I => by
  obtain ⟨m1, m2, m3⟩ := M
  have hR : cells + (h1.length - h.length) ≤ R.cells ∧ slots + (ax_sz h1 - ax_sz h) ≤ R.slots := by have := I.2.2.2.2.2.1; have := I.2.2.2.2.2.2.1; omega
  refine ax_after C I m1 m2 (va_runS (As := av.map (ax_v b)) (rest := rest.map (ax_v b)) ⟨C.1, C.2.1, C.2.2.1, C.2.2.2.1, C.2.2.2.2.1⟩ (m3 l b D dA) ⟨ax_cb C cw hl hh, C.2.2.2.2.1 _ hi⟩ (ax_pre C I av) rfl (by rw [List.length_map]; exact hn) I.2.2.2.2.1.1 (by rw [hst]; simp) (lv_room (by rw [ax_catsum]; exact hr)) hd hR) hc hs k
theorem g_callSN (C : ax_C p R s m args meth c b D dA nL n0 cc own ht) {y : ax_M} {n idx : Nat} {host : String} {av rest : List ax_V} {r : Option ax_V} {h1 : ax_H} (M : ax_Met y av h r h1) (hd : decode cc pc = .ok (.invokestatic idx, 3)) (cw : ax_cw y n) (hl : Cond.methodLinkNest own idx y.1 host ∈ ax_tb) (hi : Cond.static y.1 ∈ ax_tb) (hh : y.2.2.2.2 + 1 ≤ ht) (hn : av.length = n) (hst : st = av.reverse ++ rest) (hr : rest.length ≤ 8) (hc : h1.length ≤ n0 + R.cells) (hs : ax_sz h1 ≤ z0 + R.slots) (k : ax_G p l e R s m args below meth c b D dA nL n0 z0 Q (pc + 3) (L) (r.toList ++ rest) (h1)) : ax_G p l e R s m args below meth c b D dA nL n0 z0 Q (pc) (L) (st) (h) := fun H ls locs cells slots I => by
  obtain ⟨m1, m2, m3⟩ := M
  have hR : cells + (h1.length - h.length) ≤ R.cells ∧ slots + (ax_sz h1 - ax_sz h) ≤ R.slots := by have := I.2.2.2.2.2.1; have := I.2.2.2.2.2.2.1; omega
  refine ax_after C I m1 m2 (va_runSN (As := av.map (ax_v b)) (rest := rest.map (ax_v b)) ⟨C.1, C.2.1, C.2.2.1, C.2.2.2.1, C.2.2.2.2.1⟩ (m3 l b D dA) ⟨ax_cn C cw hl hh, C.2.2.2.2.1 _ hi, trivial⟩ (ax_pre C I av) rfl (by rw [List.length_map]; exact hn) I.2.2.2.2.1.1 (by rw [hst]; simp) (lv_room (by rw [ax_catsum]; exact hr)) hd hR) hc hs k
theorem g_callI (C : ax_C p R s m args meth c b D dA nL n0 cc own ht) {y : ax_M} {n a idx : Nat} {av rest : List ax_V} {h1 : ax_H} (M : ax_Met y (rv a :: av) h none h1) (hd : decode cc pc = .ok (.invokespecial idx, 3)) (cw : ax_cw y n) (hv : y.2.2.2.1 = none) (hnm : y.1.name = "<init>") (hl : Cond.methodLink own idx y.1 ∈ ax_tb) (hi : Cond.instanceMethod y.1 ∈ ax_tb) (hh : y.2.2.2.2 + 1 ≤ ht) (hn : av.length = n) (hst : st = av.reverse ++ rv a :: rest) (hr : rest.length ≤ 8) (hc : h1.length ≤ n0 + R.cells) (hs : ax_sz h1 ≤ z0 + R.slots) (k : ax_G p l e R s m args below meth c b D dA nL n0 z0 Q (pc + 3) (L) (rest) (h1)) : ax_G p l e R s m args below meth c b D dA nL n0 z0 Q (pc) (L) (st) (h) := fun H ls locs cells slots I => by
  obtain ⟨m1, m2, m3⟩ := M
  have hR : cells + (h1.length - h.length) ≤ R.cells ∧ slots + (ax_sz h1 - ax_sz h) ≤ R.slots := by have := I.2.2.2.2.2.1; have := I.2.2.2.2.2.2.1; omega
  have cb := ax_cb (mc := h1.length - h.length) (ms := ax_sz h1 - ax_sz h) C cw hl hh
  rw [hv] at cb
  exact ax_after (r := none) C I m1 m2 (va_runI (As := av.map (ax_v b)) (rest := rest.map (ax_v b)) ⟨C.1, C.2.1, C.2.2.1, C.2.2.2.1, C.2.2.2.2.1⟩ (m3 l b D dA) ⟨cb, hnm, C.2.2.2.2.1 _ hi⟩ (ax_pre C I (rv a :: av)) rfl (by rw [List.length_map]; exact hn) I.2.2.2.2.1.1 (by rw [hst]; simp [ax_v]) (lv_room (by rw [ax_catsum]; exact hr)) hd hR) hc hs k
theorem g_callIN (C : ax_C p R s m args meth c b D dA nL n0 cc own ht) {y : ax_M} {n a idx : Nat} {host : String} {av rest : List ax_V} {h1 : ax_H} (M : ax_Met y (rv a :: av) h none h1) (hd : decode cc pc = .ok (.invokespecial idx, 3)) (cw : ax_cw y n) (hv : y.2.2.2.1 = none) (hnm : y.1.name = "<init>") (hl : Cond.methodLinkNest own idx y.1 host ∈ ax_tb) (hi : Cond.instanceMethod y.1 ∈ ax_tb) (hh : y.2.2.2.2 + 1 ≤ ht) (hn : av.length = n) (hst : st = av.reverse ++ rv a :: rest) (hr : rest.length ≤ 8) (hc : h1.length ≤ n0 + R.cells) (hs : ax_sz h1 ≤ z0 + R.slots) (k : ax_G p l e R s m args below meth c b D dA nL n0 z0 Q (pc + 3) (L) (rest) (h1)) : ax_G p l e R s m args below meth c b D dA nL n0 z0 Q (pc) (L) (st) (h) := fun H ls locs cells slots I => by
  obtain ⟨m1, m2, m3⟩ := M
  have hR : cells + (h1.length - h.length) ≤ R.cells ∧ slots + (ax_sz h1 - ax_sz h) ≤ R.slots := by have := I.2.2.2.2.2.1; have := I.2.2.2.2.2.2.1; omega
  have cb := ax_cn (mc := h1.length - h.length) (ms := ax_sz h1 - ax_sz h) C cw hl hh
  rw [hv] at cb
  exact ax_after (r := none) C I m1 m2 (va_runIN (As := av.map (ax_v b)) (rest := rest.map (ax_v b)) ⟨C.1, C.2.1, C.2.2.1, C.2.2.2.1, C.2.2.2.2.1⟩ (m3 l b D dA) ⟨cb, hnm, C.2.2.2.2.1 _ hi⟩ (ax_pre C I (rv a :: av)) rfl (by rw [List.length_map]; exact hn) I.2.2.2.2.1.1 (by rw [hst]; simp [ax_v]) (lv_room (by rw [ax_catsum]; exact hr)) hd hR) hc hs k
theorem g_objInit (C : ax_C p R s m args meth c b D dA nL n0 cc own ht) {a idx : Nat} {rest : List ax_V} (hd : decode cc pc = .ok (.invokespecial idx, 3)) (hl : Cond.methodLink own idx objectInit ∈ ax_tb) (hi : Cond.instanceMethod objectInit ∈ ax_tb) (hcd : Cond.code objectInit ⟨#[0xb1]⟩ 1 none ∈ ax_tb) (hh : 1 ≤ ht) (hr : rest.length ≤ 8) (k : ax_G p l e R s m args below meth c b D dA nL n0 z0 Q (pc + 3) (L) (rest) (h)) : ax_G p l e R s m args below meth c b D dA nL n0 z0 Q (pc) (L) (rv a :: rest) (h) := fun H ls locs cells slots I => by
  have e1 := C.2.2.2.2.2.2.1
  have e2 := C.2.2.2.2.2.2.2.1
  refine W.objInit C.1 C.2.1 C.2.2.2.1 (C.2.2.2.2.1 _ hl) (C.2.2.2.2.1 _ hi) (C.2.2.2.2.1 _ hcd) rfl (by rw [C.2.2.1]; exact I.2.2.2.2.1.1) rfl hd (by omega) ?_ (k H ls locs cells slots I)
  have := lv_room (m := m) (pc := pc) (ls := ls) (rest := (rv a :: rest).map (ax_v b)) (st := rest.map (ax_v b)) (by rw [ax_catsum]; exact hr)
  have h8 : 8 + 12 ≤ R.locals := by omega
  exact Nat.le_trans (Nat.add_le_add_right this 12) h8
/-! Math -/
def ax_mw (own : String) (idx : Nat) (x : MethodName) (cd : ByteArray) (n : Nat) : Prop := Cond.methodLink own idx x ∈ ax_tb ∧ Cond.static x ∈ ax_tb ∧ Cond.initialized "java/lang/Math" ∈ ax_tb ∧ Cond.code x cd n (some .int) ∈ ax_tb
theorem g_mabs (C : ax_C p R s m args meth c b D dA nL n0 cc own ht) {idx : Nat} {x : Int} {rest : List ax_V} (hd : decode cc pc = .ok (.invokestatic idx, 3)) (w : ax_mw own idx Lib.Math.abs.name Lib.Math.abs.code 1) (hh : 1 ≤ ht) (hr : rest.length ≤ 8) (hx : -2147483647 ≤ x ∧ x < 2147483648) (k : ax_G p l e R s m args below meth c b D dA nL n0 z0 Q (pc + 3) (L) (iv (if 0 ≤ x then x else -x) :: rest) (h)) : ax_G p l e R s m args below meth c b D dA nL n0 z0 Q (pc) (L) (iv x :: rest) (h) := fun H ls locs cells slots I => by
  have e1 := C.2.2.2.2.2.2.1
  have e2 := C.2.2.2.2.2.2.2.1
  have i6 := I.2.2.2.2.2.1
  have i7 := I.2.2.2.2.2.2.1
  have i8 := I.2.2.2.2.2.2.2.1
  have i9 := I.2.2.2.2.2.2.2.2
  refine va_mabs C.1 C.2.1 (by rw [C.2.2.1, I.2.2.2.2.1.1]) C.2.2.2.1 (C.2.2.2.2.1 _ w.1) (C.2.2.2.2.1 _ w.2.1) (C.2.2.2.2.1 _ w.2.2.1) (C.2.2.2.2.1 _ w.2.2.2) (by omega) (by rw [ax_catsum]; omega) (by omega) (by omega) hd ?_
  have hz : (if 0 ≤ Int32.ofInt x then Int32.ofInt x else 0 - Int32.ofInt x) = Int32.ofInt (if 0 ≤ x then x else -x) := by
    have hle : (0 ≤ Int32.ofInt x) ↔ 0 ≤ x := by rw [ax_0]; exact ax_le ax_ir0 (by omega)
    by_cases h0 : 0 ≤ x
    · rw [if_pos (hle.mpr h0), if_pos h0]
    · rw [if_neg (fun q => h0 (hle.mp q)), if_neg h0, ax_0, ← Int32.ofInt_sub]
      congr 1
      omega
  exact ax_top hz (k H ls locs cells slots I)
theorem g_mmax (C : ax_C p R s m args meth c b D dA nL n0 cc own ht) {idx : Nat} {x y : Int} {rest : List ax_V} (hd : decode cc pc = .ok (.invokestatic idx, 3)) (w : ax_mw own idx Lib.Math.max.name Lib.Math.max.code 2) (hh : 1 ≤ ht) (hr : rest.length ≤ 8) (hx : -2147483648 ≤ x ∧ x < 2147483648) (hy : -2147483648 ≤ y ∧ y < 2147483648) (k : ax_G p l e R s m args below meth c b D dA nL n0 z0 Q (pc + 3) (L) (iv (if x < y then y else x) :: rest) (h)) : ax_G p l e R s m args below meth c b D dA nL n0 z0 Q (pc) (L) (iv y :: iv x :: rest) (h) := fun H ls locs cells slots I => by
  have e1 := C.2.2.2.2.2.2.1
  have e2 := C.2.2.2.2.2.2.2.1
  have i6 := I.2.2.2.2.2.1
  have i7 := I.2.2.2.2.2.2.1
  have i8 := I.2.2.2.2.2.2.2.1
  have i9 := I.2.2.2.2.2.2.2.2
  refine va_mmax C.1 C.2.1 (by rw [C.2.2.1, I.2.2.2.2.1.1]) C.2.2.2.1 (C.2.2.2.2.1 _ w.1) (C.2.2.2.2.1 _ w.2.1) (C.2.2.2.2.1 _ w.2.2.1) (C.2.2.2.2.1 _ w.2.2.2) (by omega) (by rw [ax_catsum]; omega) (by omega) (by omega) hd ?_
  have hz : (if Int32.ofInt x < Int32.ofInt y then Int32.ofInt y else Int32.ofInt x) = Int32.ofInt (if x < y then y else x) := by
    by_cases h0 : x < y
    · rw [if_pos ((ax_lt hx hy).mpr h0), if_pos h0]
    · rw [if_neg (fun q => h0 ((ax_lt hx hy).mp q)), if_neg h0]
  exact ax_top hz (k H ls locs cells slots I)
theorem g_mmin (C : ax_C p R s m args meth c b D dA nL n0 cc own ht) {idx : Nat} {x y : Int} {rest : List ax_V} (hd : decode cc pc = .ok (.invokestatic idx, 3)) (w : ax_mw own idx Lib.Math.min.name Lib.Math.min.code 2) (hh : 1 ≤ ht) (hr : rest.length ≤ 8) (hx : -2147483648 ≤ x ∧ x < 2147483648) (hy : -2147483648 ≤ y ∧ y < 2147483648) (k : ax_G p l e R s m args below meth c b D dA nL n0 z0 Q (pc + 3) (L) (iv (if y < x then y else x) :: rest) (h)) : ax_G p l e R s m args below meth c b D dA nL n0 z0 Q (pc) (L) (iv y :: iv x :: rest) (h) := fun H ls locs cells slots I => by
  have e1 := C.2.2.2.2.2.2.1
  have e2 := C.2.2.2.2.2.2.2.1
  have i6 := I.2.2.2.2.2.1
  have i7 := I.2.2.2.2.2.2.1
  have i8 := I.2.2.2.2.2.2.2.1
  have i9 := I.2.2.2.2.2.2.2.2
  refine va_mmin C.1 C.2.1 (by rw [C.2.2.1, I.2.2.2.2.1.1]) C.2.2.2.1 (C.2.2.2.2.1 _ w.1) (C.2.2.2.2.1 _ w.2.1) (C.2.2.2.2.1 _ w.2.2.1) (C.2.2.2.2.1 _ w.2.2.2) (by omega) (by rw [ax_catsum]; omega) (by omega) (by omega) hd ?_
  have hz : (if Int32.ofInt y < Int32.ofInt x then Int32.ofInt y else Int32.ofInt x) = Int32.ofInt (if y < x then y else x) := by
    by_cases h0 : y < x
    · rw [if_pos ((ax_lt hy hx).mpr h0), if_pos h0]
    · rw [if_neg (fun q => h0 ((ax_lt hy hx).mp q)), if_neg h0]
  exact ax_top hz (k H ls locs cells slots I)
end AXM
