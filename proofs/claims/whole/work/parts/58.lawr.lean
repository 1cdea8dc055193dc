/-! the law's own rows: as those of the lifted machine, with the script's cell, below all others, in the local 0 -/
def lw_J (p : Program) (l : Launch) (e : Env) (R : Room) (s : State) (m : MethodId) (args : Array Value) (below : List Frame) (meth : Method) (c : Code) (b : Nat) (D : va_G) (dA : Nat → ClassId) (nL n0 z0 : Nat) (Q : State → Prop) (bs pc : Nat) (L : List (Option ax_V)) (st : List ax_V) (h : ax_H) : Prop :=
  ∀ (H : Heap) (ls : Array Slot) (locs : List Loc) (cells slots : Nat), ax_I R s b D dA nL n0 z0 L h H ls locs cells slots → ls[0]? = some (.val (.ref bs)) → W p l e R s m args below meth c H locs cells slots Q (F0 m pc ls (st.map (ax_v b)))
section LAWR
variable {p : Program} {l : Launch} {e : Env} {R : Room} {s : State} {m : MethodId} {args : Array Value} {below : List Frame} {meth : Method} {c : Code} {b : Nat} {D : va_G} {dA : Nat → ClassId} {nL n0 z0 : Nat} {Q : State → Prop} {cc : ByteArray} {own : String} {ht : Nat} {pc : Nat} {L : List (Option ax_V)} {st : List ax_V} {h : ax_H} {bs : Nat}
theorem j_st {st2 : List ax_V} (hs : st = st2) (k : lw_J p l e R s m args below meth c b D dA nL n0 z0 Q bs (pc) (L) (st2) (h)) : lw_J p l e R s m args below meth c b D dA nL n0 z0 Q bs (pc) (L) (st) (h) := hs ▸ k
theorem j_hp {h2 : ax_H} (hs : h = h2) (k : lw_J p l e R s m args below meth c b D dA nL n0 z0 Q bs (pc) (L) (st) (h2)) : lw_J p l e R s m args below meth c b D dA nL n0 z0 Q bs (pc) (L) (st) (h) := hs ▸ k
theorem j_L {L2 : List (Option ax_V)} (hs : L = L2) (k : lw_J p l e R s m args below meth c b D dA nL n0 z0 Q bs (pc) (L2) (st) (h)) : lw_J p l e R s m args below meth c b D dA nL n0 z0 Q bs (pc) (L) (st) (h) := hs ▸ k
theorem j_iconst (C : ax_C p R s m args meth c b D dA nL n0 cc own ht) {z : Int} (hd : decode cc pc = .ok (.iconst z, 1)) (k : lw_J p l e R s m args below meth c b D dA nL n0 z0 Q bs (pc + 1) (L) (iv z :: st) (h)) : lw_J p l e R s m args below meth c b D dA nL n0 z0 Q bs (pc) (L) (st) (h) := fun H ls locs cells slots I q => lv_iconst C.1 C.2.1 hd rfl (k H ls locs cells slots I q)
theorem j_bipush (C : ax_C p R s m args meth c b D dA nL n0 cc own ht) {z : Int} (hd : decode cc pc = .ok (.bipush z, 2)) (hv : (Int8.ofInt z).toInt32 = Int32.ofInt z) (k : lw_J p l e R s m args below meth c b D dA nL n0 z0 Q bs (pc + 2) (L) (iv z :: st) (h)) : lw_J p l e R s m args below meth c b D dA nL n0 z0 Q bs (pc) (L) (st) (h) := fun H ls locs cells slots I q => lv_bipush C.1 C.2.1 hd hv (k H ls locs cells slots I q)
theorem j_iload_n (C : ax_C p R s m args meth c b D dA nL n0 cc own ht) {i : Fin 4} {z : Int} (hd : decode cc pc = .ok (.iload_n i, 1)) (hi : L[(i : Nat)]? = some (some (.inl z))) (k : lw_J p l e R s m args below meth c b D dA nL n0 z0 Q bs (pc + 1) (L) (iv z :: st) (h)) : lw_J p l e R s m args below meth c b D dA nL n0 z0 Q bs (pc) (L) (st) (h) := fun H ls locs cells slots I q => lv_iload_n C.1 C.2.1 hd rfl (I.loc hi) (k H ls locs cells slots I q)
theorem j_aload_n (C : ax_C p R s m args meth c b D dA nL n0 cc own ht) {i : Fin 4} {a : Nat} (hd : decode cc pc = .ok (.aload_n i, 1)) (hi : L[(i : Nat)]? = some (some (.inr (some a)))) (k : lw_J p l e R s m args below meth c b D dA nL n0 z0 Q bs (pc + 1) (L) (rv a :: st) (h)) : lw_J p l e R s m args below meth c b D dA nL n0 z0 Q bs (pc) (L) (st) (h) := fun H ls locs cells slots I q => lv_aload_n C.1 C.2.1 hd rfl (I.loc hi) (k H ls locs cells slots I q)
theorem j_isub (C : ax_C p R s m args meth c b D dA nL n0 cc own ht) {x y : Int} (hd : decode cc pc = .ok (.isub, 1)) (k : lw_J p l e R s m args below meth c b D dA nL n0 z0 Q bs (pc + 1) (L) (iv (x - y) :: st) (h)) : lw_J p l e R s m args below meth c b D dA nL n0 z0 Q bs (pc) (L) (iv y :: iv x :: st) (h) := fun H ls locs cells slots I q => lv_isub C.1 C.2.1 hd (ax_top (Int32.ofInt_sub x y).symm (k H ls locs cells slots I q))
theorem j_iand (C : ax_C p R s m args meth c b D dA nL n0 cc own ht) {x y z : Int} (hd : decode cc pc = .ok (.iand, 1)) (hz : Int32.ofInt x &&& Int32.ofInt y = Int32.ofInt z) (k : lw_J p l e R s m args below meth c b D dA nL n0 z0 Q bs (pc + 1) (L) (iv z :: st) (h)) : lw_J p l e R s m args below meth c b D dA nL n0 z0 Q bs (pc) (L) (iv y :: iv x :: st) (h) := fun H ls locs cells slots I q => lv_iand C.1 C.2.1 hd (ax_top hz (k H ls locs cells slots I q))
theorem j_dup (C : ax_C p R s m args meth c b D dA nL n0 cc own ht) {v : ax_V} (hd : decode cc pc = .ok (.dup, 1)) (k : lw_J p l e R s m args below meth c b D dA nL n0 z0 Q bs (pc + 1) (L) (v :: v :: st) (h)) : lw_J p l e R s m args below meth c b D dA nL n0 z0 Q bs (pc) (L) (v :: st) (h) := fun H ls locs cells slots I q => lv_dup C.1 C.2.1 hd (ax_cat b v) (k H ls locs cells slots I q)
theorem j_goto (C : ax_C p R s m args meth c b D dA nL n0 cc own ht) {off : Int} {tgt : Nat} (hd : decode cc pc = .ok (.goto off, 3)) (ht : (pc : Int) + off = (tgt : Int)) (k : lw_J p l e R s m args below meth c b D dA nL n0 z0 Q bs (tgt) (L) (st) (h)) : lw_J p l e R s m args below meth c b D dA nL n0 z0 Q bs (pc) (L) (st) (h) := fun H ls locs cells slots I q => lv_goto C.1 C.2.1 hd ht (k H ls locs cells slots I q)
theorem j_same (C : ax_C p R s m args meth c b D dA nL n0 cc own ht) {x off : Int} {tgt : Nat} (hd : decode cc pc = .ok (.if_icmp .eq off, 3)) (ht : (pc : Int) + off = (tgt : Int)) (k : lw_J p l e R s m args below meth c b D dA nL n0 z0 Q bs (tgt) (L) (st) (h)) : lw_J p l e R s m args below meth c b D dA nL n0 z0 Q bs (pc) (L) (iv x :: iv x :: st) (h) := fun H ls locs cells slots I q => lv_icmp_eq C.1 C.2.1 hd ht (fun _ => k H ls locs cells slots I q) (fun z => absurd rfl z)
theorem j_icmp_gt (C : ax_C p R s m args meth c b D dA nL n0 cc own ht) {x y off : Int} {tgt : Nat} (hd : decode cc pc = .ok (.if_icmp .gt off, 3)) (ht : (pc : Int) + off = (tgt : Int)) (hx : -2147483648 ≤ x ∧ x < 2147483648) (hy : -2147483648 ≤ y ∧ y < 2147483648) (kt : y < x → lw_J p l e R s m args below meth c b D dA nL n0 z0 Q bs (tgt) (L) (st) (h)) (kf : ¬ (y < x) → lw_J p l e R s m args below meth c b D dA nL n0 z0 Q bs (pc + 3) (L) (st) (h)) : lw_J p l e R s m args below meth c b D dA nL n0 z0 Q bs (pc) (L) (iv y :: iv x :: st) (h) := fun H ls locs cells slots I w => lv_icmp_gt C.1 C.2.1 hd ht (fun q => kt ((ax_lt hy hx).mp q) H ls locs cells slots I w) (fun q => kf (fun z => q ((ax_lt hy hx).mpr z)) H ls locs cells slots I w)
theorem j_tableOut (C : ax_C p R s m args meth c b D dA nL n0 cc own ht) {x dflt lo hi : Int} {offs : Array Int} {len tgt : Nat} (hd : decode cc pc = .ok (.tableswitch dflt lo hi offs, len)) (hx : -2147483648 ≤ x ∧ x < 2147483648) (ho : x < lo ∨ hi < x) (ht : (pc : Int) + dflt = (tgt : Int)) (k : lw_J p l e R s m args below meth c b D dA nL n0 z0 Q bs (tgt) (L) (st) (h)) : lw_J p l e R s m args below meth c b D dA nL n0 z0 Q bs (pc) (L) (iv x :: st) (h) := fun H ls locs cells slots I q => lv_tableOut C.1 C.2.1 hd (by rw [ax_ti hx]; exact ho) ht (k H ls locs cells slots I q)
theorem j_tableIn (C : ax_C p R s m args meth c b D dA nL n0 cc own ht) {x dflt lo hi off : Int} {offs : Array Int} {len tgt : Nat} (hd : decode cc pc = .ok (.tableswitch dflt lo hi offs, len)) (hx : -2147483648 ≤ x ∧ x < 2147483648) (h1 : ¬ x < lo) (h2 : ¬ hi < x) (ho : offs[(x - lo).toNat]? = some off) (ht : (pc : Int) + off = (tgt : Int)) (k : lw_J p l e R s m args below meth c b D dA nL n0 z0 Q bs (tgt) (L) (st) (h)) : lw_J p l e R s m args below meth c b D dA nL n0 z0 Q bs (pc) (L) (iv x :: st) (h) := fun H ls locs cells slots I q => lv_tableIn C.1 C.2.1 hd (by rw [ax_ti hx]; exact h1) (by rw [ax_ti hx]; exact h2) (by rw [ax_ti hx]; exact ho) ht (k H ls locs cells slots I q)
/-! locals: the script's stays -/
theorem ax_has0 {H : Heap} {ls : Array Slot} {locs : List Loc} {cells slots : Nat} (I : ax_I R s b D dA nL n0 z0 L h H ls locs cells slots) (q : ls[0]? = some (.val (.ref bs))) : lv_has ls nL ((0, .ref bs) :: ax_l b L) := ⟨I.has.1, I.has.2.1, fun x hx => by
  rcases List.mem_cons.mp hx with rfl | hx
  · exact q
  · exact I.has.2.2 x hx⟩
theorem ax_keep0 {ls' : Array Slot} {i : Nat} {v : Value} {l : List (Nat × Value)} (h0 : i ≠ 0) (hl : lv_has ls' nL ((i, v) :: ((0, .ref bs) :: l).filter (fun q => !(q.1 == i) && !(q.1 + 1 == i && q.2.category == 2)))) : lv_has ls' nL ((i, v) :: l.filter (fun q => !(q.1 == i) && !(q.1 + 1 == i && q.2.category == 2))) ∧ ls'[0]? = some (.val (.ref bs)) := by
  have hc : (Value.ref bs).category = 1 := rfl
  refine ⟨⟨hl.1, hl.2.1, fun x hx => hl.2.2 x ?_⟩, hl.2.2 (0, .ref bs) (List.mem_cons_of_mem _ (List.mem_filter.mpr ⟨List.mem_cons_self, by simp [hc, Ne.symm h0]⟩))⟩
  rcases List.mem_cons.mp hx with rfl | hx
  · exact List.mem_cons_self
  · have := List.mem_filter.mp hx
    exact List.mem_cons_of_mem _ (List.mem_filter.mpr ⟨List.mem_cons_of_mem _ this.1, this.2⟩)
theorem j_istore_n (C : ax_C p R s m args meth c b D dA nL n0 cc own ht) {i : Fin 4} {z : Int} {L' : List (Option ax_V)} (hd : decode cc pc = .ok (.istore_n i, 1)) (hn : (i : Nat) < nL) (h0 : (i : Nat) ≠ 0) (hL : L.set (i : Nat) (some (.inl z)) = L') (k : lw_J p l e R s m args below meth c b D dA nL n0 z0 Q bs (pc + 1) (L') (st) (h)) : lw_J p l e R s m args below meth c b D dA nL n0 z0 Q bs (pc) (L) (iv z :: st) (h) := fun H ls locs cells slots I q => lv_istore_n C.1 C.2.1 hd rfl (ax_has0 I q) hn rfl (fun ls' hl => k H ls' locs cells slots (I.stored hL (ax_keep0 h0 hl).1) (ax_keep0 h0 hl).2)
theorem j_astore_n (C : ax_C p R s m args meth c b D dA nL n0 cc own ht) {i : Fin 4} {a : Nat} {L' : List (Option ax_V)} (hd : decode cc pc = .ok (.astore_n i, 1)) (hn : (i : Nat) < nL) (h0 : (i : Nat) ≠ 0) (hL : L.set (i : Nat) (some (rv a)) = L') (k : lw_J p l e R s m args below meth c b D dA nL n0 z0 Q bs (pc + 1) (L') (st) (h)) : lw_J p l e R s m args below meth c b D dA nL n0 z0 Q bs (pc) (L) (rv a :: st) (h) := fun H ls locs cells slots I q => lv_astore_n C.1 C.2.1 hd rfl (ax_has0 I q) hn rfl (fun ls' hl => k H ls' locs cells slots (I.stored hL (ax_keep0 h0 hl).1) (ax_keep0 h0 hl).2)
theorem j_iinc (C : ax_C p R s m args meth c b D dA nL n0 cc own ht) {i : Nat} {n z y : Int} {L' : List (Option ax_V)} (hd : decode cc pc = .ok (.iinc i n, 3)) (hn : i < nL) (h0 : i ≠ 0) (hi : L[i]? = some (some (.inl z))) (hy : z + n = y) (hL : L.set i (some (.inl y)) = L') (k : lw_J p l e R s m args below meth c b D dA nL n0 z0 Q bs (pc + 3) (L') (st) (h)) : lw_J p l e R s m args below meth c b D dA nL n0 z0 Q bs (pc) (L) (st) (h) := fun H ls locs cells slots I q => by
  subst hy
  obtain ⟨j, hj⟩ := List.getElem?_of_mem (ax_l_of (b := b) hi)
  exact lv_iinc (k := j + 1) C.1 C.2.1 hd (ax_has0 I q) hj (Int32.ofInt_add z n).symm hn rfl (fun ls' hl => k H ls' locs cells slots (I.stored (v := .inl (z + n)) hL (ax_keep0 h0 hl).1) (ax_keep0 h0 hl).2)
/-! the script -/
theorem x32r (x : Int32) : -2147483648 ≤ x.toInt ∧ x.toInt < 2147483648 := ⟨Int32.le_toInt x, Int32.toInt_lt x⟩
theorem ax_Sv (hb : s.heap.size = b) {H : Heap} {ls : Array Slot} {locs : List Loc} {cells slots : Nat} (I : ax_I R s b D dA nL n0 z0 L h H ls locs cells slots) : va_S (fun q => b ≤ q) s.heap H locs := ⟨by rw [hb, I.1]; omega, fun q hq _ => I.2.2.1 q (by rw [hb] at hq; exact hq), I.2.2.2.1⟩
theorem j_slen (C : ax_C p R s m args meth c b D dA nL n0 cc own ht) {N : Nat} {xs : Nat → Int32} (X : va_X bs N xs s s.heap) (hb : s.heap.size = b) (hbs : bs < s.heap.size) (hd0 : decode cc pc = .ok (.aload_n 0, 1)) (hd1 : decode cc (pc + 1) = .ok (.arraylength, 1)) (k : lw_J p l e R s m args below meth c b D dA nL n0 z0 Q bs (pc + 1 + 1) (L) (iv (N : Int) :: st) (h)) : lw_J p l e R s m args below meth c b D dA nL n0 z0 Q bs (pc) (L) (st) (h) := fun H ls locs cells slots I q => by
  refine lv_aload_n C.1 C.2.1 hd0 rfl q ?_
  refine va_slen C.1 C.2.1 X hbs (A := fun q => b ≤ q) (by show ¬ b ≤ bs; omega) (ax_Sv hb I) hd1 ?_
  exact ax_top (Int32.ofInt_eq_ofNat (n := N)).symm (k H ls locs cells slots I q)
theorem j_sld0 (C : ax_C p R s m args meth c b D dA nL n0 cc own ht) {N i : Nat} {xs : Nat → Int32} (X : va_X bs N xs s s.heap) (hb : s.heap.size = b) (hbs : bs < s.heap.size) (hd0 : decode cc pc = .ok (.aload_n 0, 1)) (hd1 : decode cc (pc + 1) = .ok (.iload_n 3, 1)) (hd2 : decode cc (pc + 1 + 1) = .ok (.iaload, 1)) (hi : L[3]? = some (some (.inl (i : Int)))) (hn : i < N) (hN : N ≤ 1000000) (k : lw_J p l e R s m args below meth c b D dA nL n0 z0 Q bs (pc + 1 + 1 + 1) (L) (iv ((xs i).toInt) :: st) (h)) : lw_J p l e R s m args below meth c b D dA nL n0 z0 Q bs (pc) (L) (st) (h) := fun H ls locs cells slots I q => by
  have hx := ax_in (i := (i : Int)) (n := N) (j := i) rfl hn hN
  refine lv_aload_n C.1 C.2.1 hd0 rfl q ?_
  refine lv_iload_n C.1 C.2.1 hd1 rfl (I.loc hi) ?_
  refine va_sld C.1 C.2.1 X hbs (A := fun q => b ≤ q) (by show ¬ b ≤ bs; omega) (ax_Sv hb I) hx.1 hd2 ?_
  rw [hx.2]
  exact ax_top (Int32.ofInt_toInt (xs i)).symm (k H ls locs cells slots I q)
theorem j_sld (C : ax_C p R s m args meth c b D dA nL n0 cc own ht) {N i j : Nat} {n : Int} {xs : Nat → Int32} (X : va_X bs N xs s s.heap) (hb : s.heap.size = b) (hbs : bs < s.heap.size) (hd0 : decode cc pc = .ok (.aload_n 0, 1)) (hd1 : decode cc (pc + 1) = .ok (.iload_n 3, 1)) (hd2 : decode cc (pc + 1 + 1) = .ok (.iconst n, 1)) (hd3 : decode cc (pc + 1 + 1 + 1) = .ok (.iadd, 1)) (hd4 : decode cc (pc + 1 + 1 + 1 + 1) = .ok (.iaload, 1)) (hi : L[3]? = some (some (.inl (i : Int)))) (hj : (i : Int) + n = (j : Int)) (hn : j < N) (hN : N ≤ 1000000) (k : lw_J p l e R s m args below meth c b D dA nL n0 z0 Q bs (pc + 1 + 1 + 1 + 1 + 1) (L) (iv ((xs j).toInt) :: st) (h)) : lw_J p l e R s m args below meth c b D dA nL n0 z0 Q bs (pc) (L) (st) (h) := fun H ls locs cells slots I q => by
  have hx := ax_in (i := (i : Int) + n) (n := N) hj hn hN
  refine lv_aload_n C.1 C.2.1 hd0 rfl q ?_
  refine lv_iload_n C.1 C.2.1 hd1 rfl (I.loc hi) ?_
  refine lv_iconst C.1 C.2.1 hd2 rfl ?_
  refine lv_iadd C.1 C.2.1 hd3 ?_
  refine ax_top (Int32.ofInt_add (i : Int) n).symm ?_
  refine va_sld C.1 C.2.1 X hbs (A := fun q => b ≤ q) (by show ¬ b ≤ bs; omega) (ax_Sv hb I) hx.1 hd4 ?_
  rw [hx.2]
  exact ax_top (Int32.ofInt_toInt (xs j)).symm (k H ls locs cells slots I q)
/-! new objects and calls -/
theorem j_new (C : ax_C p R s m args meth c b D dA nL n0 cc own ht) {idx ci N : Nat} {fs : List ax_V} (F : ax_nw own idx ci N fs) (hd : decode cc pc = .ok (.new idx, 3)) (hc : h.length + 1 ≤ n0 + R.cells) (hs : ax_sz h + N ≤ z0 + R.slots) (kk : lw_J p l e R s m args below meth c b D dA nL n0 z0 Q bs (pc + 3) (L) (rv h.length :: st) (h ++ [.inr (ci, fs)])) : lw_J p l e R s m args below meth c b D dA nL n0 z0 Q bs (pc) (L) (st) (h) := by
  obtain ⟨Cn, T, ty, f1, f2, f3, f4, f5, f6, f7, f8⟩ := F
  intro H ls locs cells slots I q
  have hts := C.2.2.2.2.1
  have hKn := C.2.2.2.2.2.1.1 ci _ f1
  have i6 := I.2.2.2.2.2.1
  have i7 := I.2.2.2.2.2.2.1
  refine W.newcK C.1 C.2.1 C.2.2.2.1 (hts _ f4) (hts _ f5) (hts _ f6) rfl hd (by omega) (by omega) hKn.2.1 rfl fun H1 kC hkC e1 z1 o1 => ?_
  rw [I.1] at e1
  have I2 := I.made (H' := H1) (e1 := .inr (ci, fs)) (k := N) f7 hc hs ⟨_, f1, (u_born ty hts f2 hKn hkC e1 f3).to (fun j hj => f8 b j hj)⟩ z1 o1
  have := kk H1 ls locs _ _ I2 q
  show W p l e R s m args below meth c H1 locs (cells + 1) (slots + N) Q (F0 m (pc + 3) ls (.ref H.size :: st.map (ax_v b)))
  rw [I.1]
  exact this
theorem j_after (C : ax_C p R s m args meth c b D dA nL n0 cc own ht) {H : Heap} {ls : Array Slot} {locs : List Loc} {cells slots : Nat} (I : ax_I R s b D dA nL n0 z0 L h H ls locs cells slots) (q0 : ls[0]? = some (.val (.ref bs))) {stk : List Value} {rest : List ax_V} {r : Option ax_V} {h1 : ax_H} {a : Array Value} (hl : h.length ≤ h1.length) (hz : ax_sz h ≤ ax_sz h1)
    (run : va_Run p l e R s m args below meth c H locs cells slots (h1.length - h.length) (ax_sz h1 - ax_sz h) (F0 m pc ls stk) (rest.map (ax_v b)) (ax_Qc b D dA r h1 a) (fun q => b ≤ q)) (hc : h1.length ≤ n0 + R.cells) (hs : ax_sz h1 ≤ z0 + R.slots) (k : lw_J p l e R s m args below meth c b D dA nL n0 z0 Q bs (pc + 3) (L) (r.toList ++ rest) (h1)) : W p l e R s m args below meth c H locs cells slots Q (F0 m pc ls stk) := by
  intro T hT X
  obtain ⟨v, st₀, t, T', Lc, e0, X', hL, e1, e2, ⟨hv, hz1, hp1, hq1⟩, go⟩ := run T hT X
  obtain ⟨i1, i2, i3, i4, i5, i6, i7, i8, i9⟩ := I
  have I' : ax_I R s b D dA nL n0 z0 L h1 T'.heap ls (locs ++ Lc) (cells + (h1.length - h.length)) (slots + (ax_sz h1 - ax_sz h)) := by
    refine ⟨by rw [e1]; exact hz1, by rw [e1]; exact hp1, fun q hq => ?_, fun x hx => ?_, i5, by omega, by omega, hc, hs⟩
    · rw [e1, hq1 q hq, e0]
      exact i3 q hq
    · rcases List.mem_append.mp hx with q | q
      · exact i4 x q
      · exact hL x q
  obtain ⟨t2, a1, b1⟩ := k T'.heap ls _ _ _ I' q0 T' rfl X'
  refine ⟨t2, go t2 ?_, b1⟩
  have hv2 : v = r.map (ax_v b) := by cases hv; rfl
  have hstk : v.toList ++ rest.map (ax_v b) = (r.toList ++ rest).map (ax_v b) := by subst hv2; cases r <;> rfl
  rw [hstk]
  exact a1
theorem j_callI (C : ax_C p R s m args meth c b D dA nL n0 cc own ht) {y : ax_M} {n a idx : Nat} {av rest : List ax_V} {h1 : ax_H} (M : ax_Met y (rv a :: av) h none h1) (hd : decode cc pc = .ok (.invokespecial idx, 3)) (cw : ax_cw y n) (hv : y.2.2.2.1 = none) (hnm : y.1.name = "<init>") (hl : Cond.methodLink own idx y.1 ∈ ax_tb) (hi : Cond.instanceMethod y.1 ∈ ax_tb) (hh : y.2.2.2.2 + 1 ≤ ht) (hn : av.length = n) (hst : st = av.reverse ++ rv a :: rest) (hr : rest.length ≤ 8) (hc : h1.length ≤ n0 + R.cells) (hs : ax_sz h1 ≤ z0 + R.slots) (k : lw_J p l e R s m args below meth c b D dA nL n0 z0 Q bs (pc + 3) (L) (rest) (h1)) : lw_J p l e R s m args below meth c b D dA nL n0 z0 Q bs (pc) (L) (st) (h) := fun H ls locs cells slots I q => by
  obtain ⟨m1, m2, m3⟩ := M
  have hR : cells + (h1.length - h.length) ≤ R.cells ∧ slots + (ax_sz h1 - ax_sz h) ≤ R.slots := by have := I.2.2.2.2.2.1; have := I.2.2.2.2.2.2.1; omega
  have cb := ax_cb (mc := h1.length - h.length) (ms := ax_sz h1 - ax_sz h) C cw hl hh
  rw [hv] at cb
  exact j_after (r := none) C I q m1 m2 (va_runI (As := av.map (ax_v b)) (rest := rest.map (ax_v b)) ⟨C.1, C.2.1, C.2.2.1, C.2.2.2.1, C.2.2.2.2.1⟩ (m3 l b D dA) ⟨cb, hnm, C.2.2.2.2.1 _ hi⟩ (ax_pre C I (rv a :: av)) rfl (by rw [List.length_map]; exact hn) I.2.2.2.2.1.1 (by rw [hst]; simp [ax_v]) (lv_room (by rw [ax_catsum]; exact hr)) hd hR) hc hs k
theorem j_afterR (C : ax_C p R s m args meth c b D dA nL n0 cc own ht) {H : Heap} {ls : Array Slot} {locs : List Loc} {cells slots : Nat} (I : ax_I R s b D dA nL n0 z0 L h H ls locs cells slots) (q0 : ls[0]? = some (.val (.ref bs))) {stk : List Value} {rest : List ax_V} {P : Option ax_V → ax_H → Prop} {a : Array Value}
    (run : va_Run p l e R s m args below meth c H locs cells slots 0 0 (F0 m pc ls stk) (rest.map (ax_v b)) (ax_Qr b D dA h P a) (fun q => b ≤ q)) (k : ∀ (r : Option ax_V) (h1 : ax_H), P r h1 → (h1.length = h.length ∧ ax_sz h1 = ax_sz h) → lw_J p l e R s m args below meth c b D dA nL n0 z0 Q bs (pc + 3) (L) (r.toList ++ rest) (h1)) : W p l e R s m args below meth c H locs cells slots Q (F0 m pc ls stk) := by
  intro T hT X
  obtain ⟨v, st₀, t, T', Lc, e0, X', hL, e1, e2, ⟨r, h1, hP, hz, hv, hz1, hp1, hq1⟩, go⟩ := run T hT X
  obtain ⟨i1, i2, i3, i4, i5, i6, i7, i8, i9⟩ := I
  have I' : ax_I R s b D dA nL n0 z0 L h1 T'.heap ls (locs ++ Lc) (cells + 0) (slots + 0) := by
    refine ⟨by rw [e1]; exact hz1, by rw [e1]; exact hp1, fun q hq => ?_, fun x hx => ?_, i5, by omega, by omega, by omega, by omega⟩
    · rw [e1, hq1 q hq, e0]
      exact i3 q hq
    · rcases List.mem_append.mp hx with q | q
      · exact i4 x q
      · exact hL x q
  obtain ⟨t2, a1, b1⟩ := k r h1 hP hz T'.heap ls _ _ _ I' q0 T' rfl X'
  refine ⟨t2, go t2 ?_, b1⟩
  have hv2 : v = r.map (ax_v b) := by cases hv; rfl
  have hstk : v.toList ++ rest.map (ax_v b) = (r.toList ++ rest).map (ax_v b) := by subst hv2; cases r <;> rfl
  rw [hstk]
  exact a1
theorem j_RV (C : ax_C p R s m args meth c b D dA nL n0 cc own ht) {y : ax_M} {n a ci idx : Nat} {av rest : List ax_V} {fs : List ax_V} {P : Option ax_V → ax_H → Prop} {q : vw_C} (M : ax_Mt y (rv a :: av) h P) (hd : decode cc pc = .ok (.invokevirtual idx, 3)) (cw : ax_cw y n) (hl : Cond.methodLink own idx y.1 ∈ ax_tb) (hi : Cond.instanceMethod y.1 ∈ ax_tb) (hse : Cond.selects y.1.cls y.1 y.1 ∈ ax_tb) (hh : y.2.2.2.2 + 1 ≤ ht) (hn : av.length = n) (ha : h[a]? = some (.inr (ci, fs))) (hq : vwCl[ci]? = some q) (hq1 : q.1 = y.1.cls) (hst : st = av.reverse ++ rv a :: rest) (hr : rest.length ≤ 8) (k : ∀ (r : Option ax_V) (h1 : ax_H), P r h1 → (h1.length = h.length ∧ ax_sz h1 = ax_sz h) → lw_J p l e R s m args below meth c b D dA nL n0 z0 Q bs (pc + 3) (L) (r.toList ++ rest) (h1)) : lw_J p l e R s m args below meth c b D dA nL n0 z0 Q bs (pc) (L) (st) (h) := fun H ls locs cells slots I q0 => by
  obtain ⟨cell, g1, g2, g3⟩ := va_recv C.2.2.2.2.2.1 I.2.1 hq (ax_w_at ha)
  rw [hq1] at g3
  have hp := ax_pre C I (rv a :: av)
  have hR : cells + 0 ≤ R.cells ∧ slots + 0 ≤ R.slots := by obtain ⟨i1, i2, i3, i4, i5, i6, i7, i8, i9⟩ := I; omega
  exact j_afterR C I q0 (va_runV (As := av.map (ax_v b)) (rest := rest.map (ax_v b)) ⟨C.1, C.2.1, C.2.2.1, C.2.2.2.1, C.2.2.2.2.1⟩ (M l b D dA) ⟨ax_cb C cw hl hh, C.2.2.2.2.1 _ hi, C.2.2.2.2.1 _ hse⟩ ⟨hp.1, ⟨cell, g1, g2, g3⟩, hp.2⟩ rfl (by rw [List.length_map]; exact hn) I.2.2.2.2.1.1 (by rw [hst]; simp [ax_v]) (lv_room (by rw [ax_catsum]; exact hr)) hd hR) k
end LAWR
/-! bits of the script's first int -/
theorem and31 (a : Int32) : 0 ≤ (a &&& Int32.ofInt 31).toInt ∧ (a &&& Int32.ofInt 31).toInt < 32 := by
  have h1 : (a &&& Int32.ofInt 31).toBitVec.toNat ≤ 31 := by
    rw [Int32.toBitVec_and, BitVec.toNat_and]
    exact Nat.le_trans Nat.and_le_right (by decide)
  have h2 : (a &&& Int32.ofInt 31).toInt = ((a &&& Int32.ofInt 31).toBitVec.toNat : Int) := by
    show (a &&& Int32.ofInt 31).toBitVec.toInt = _
    rw [BitVec.toInt_eq_toNat_of_lt (by omega)]
  omega
theorem and31z (x : Int) : ∃ z : Int, Int32.ofInt x &&& Int32.ofInt 31 = Int32.ofInt z ∧ 0 ≤ z ∧ z < 32 := ⟨_, (Int32.ofInt_toInt _).symm, and31 _⟩
/-! the classes and array classes, as the tables have them -/
theorem ax_kn1 {args : Array Value} {s : State} (hts : ∀ w ∈ ax_tb, w.before args s = true) {own : String} {idx ci N : Nat} {fs : List ax_V} (F : ax_nw own idx ci N fs) : ∃ (cC : ClassId) (iS : Nat → Nat), ∀ q : vw_C, vwCl[ci]? = some q → u_Kn s q.1 q.2.1 q.2.2 cC iS := by
  obtain ⟨Cn, T, ty, f1, f2, f3, f4, f5, -⟩ := F
  obtain ⟨cC, iS, K⟩ := u_known hts f2 (hts _ f5)
  exact ⟨cC, iS, fun q hq => by rw [f1] at hq; cases hq; exact K⟩
theorem ax_known {args : Array Value} {s : State} (hts : ∀ w ∈ ax_tb, w.before args s = true) : ∃ (D : va_G) (dA : Nat → ClassId), va_K D vwCl (ax_tys dA) s := by
  obtain ⟨c0, i0, k0⟩ := ax_kn1 hts NX4_9
  obtain ⟨c1, i1, k1⟩ := ax_kn1 hts NX2_11
  obtain ⟨c2, i2, k2⟩ := ax_kn1 hts NX4_25
  obtain ⟨c3, i3, k3⟩ := ax_kn1 hts NX4_18
  obtain ⟨c4, i4, k4⟩ := ax_kn1 hts NL_7
  obtain ⟨c5, i5, k5⟩ := ax_kn1 hts NL_10
  obtain ⟨a0, q0, r0, x0, y0, z0⟩ := Cond.arrayClass_spec (hts _ AWi)
  obtain ⟨a1, q1, r1, x1, y1, z1⟩ := Cond.arrayClass_spec (hts _ AWz)
  obtain ⟨r2, a2, q2, w2, -, y2, z2, x2⟩ := Cond.arrayOver_spec (hts _ AOX0)
  obtain ⟨r3, a3, q3, w3, -, y3, z3, x3⟩ := Cond.arrayOver_spec (hts _ AOX1)
  obtain ⟨r4, a4, q4, w4, y4, z4, x4⟩ := Cond.arrayOver_specA (hts _ AOA)
  refine ⟨(fun k => match k with | 0 => c0 | 1 => c1 | 2 => c2 | 3 => c3 | 4 => c4 | _ => c5, fun k => match k with | 0 => i0 | 1 => i1 | 2 => i2 | 3 => i3 | 4 => i4 | _ => i5), fun k => match k with | 0 => a0 | 1 => a1 | 2 => a2 | 3 => a3 | _ => a4, fun k q hq => ?_, fun k q hq => ?_⟩
  · match k, hq with
    | 0, hq => exact k0 q hq
    | 1, hq => exact k1 q hq
    | 2, hq => exact k2 q hq
    | 3, hq => exact k3 q hq
    | 4, hq => exact k4 q hq
    | 5, hq => exact k5 q hq
    | (k + 6), hq => exact absurd (List.getElem?_eq_some_iff.mp hq).1 (by simp)
  · match k, hq with
    | 0, hq => cases hq; exact ⟨fun n z => ⟨(fun k h => by cases h), q0, y0, r0, z0⟩, x0⟩
    | 1, hq => cases hq; exact ⟨fun n z => ⟨(fun k h => by cases h), q1, y1, r1, z1⟩, x1⟩
    | 2, hq => cases hq; exact ⟨fun n z => ⟨(fun k h => by cases h), q2, y2, r2, z2⟩, q2, r2, y2, z2, w2, x2⟩
    | 3, hq => cases hq; exact ⟨fun n z => ⟨(fun k h => by cases h), q3, y3, r3, z3⟩, q3, r3, y3, z3, w3, x3⟩
    | 4, hq => cases hq; exact ⟨fun n z => ⟨(fun k h => by cases h), q4, y4, r4, z4⟩, x4⟩
    | (k + 5), hq => exact absurd (List.getElem?_eq_some_iff.mp hq).1 (by simp [ax_tys])
