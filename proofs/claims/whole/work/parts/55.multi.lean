section AXQ
variable {p : Program} {l : Launch} {e : Env} {R : Room} {s : State} {m : MethodId} {args : Array Value} {below : List Frame} {meth : Method} {c : Code} {b : Nat} {D : va_G} {dA : Nat → ClassId} {nL n0 z0 : Nat} {Q : State → Prop} {cc : ByteArray} {own : String} {ht : Nat} {pc : Nat} {L : List (Option ax_V)} {st : List ax_V} {h : ax_H}
theorem ax_I.madeN {H H' : Heap} {ls : Array Slot} {locs : List Loc} {cells slots : Nat} (I : ax_I R s b D dA nL n0 z0 L h H ls locs cells slots) {k : ax_H} (hc : h.length + k.length ≤ n0 + R.cells) (hs : ax_sz h + ax_sz k ≤ z0 + R.slots) (he : ∀ j e1, k[j]? = some e1 → va_at D vwCl (b + (h.length + j), ax_e b dA e1) H') (h2 : H'.size = H.size + k.length) (h3 : ∀ q, q < H.size → H'[q]? = H[q]?) : ax_I R s b D dA nL n0 z0 L (h ++ k) H' ls locs (cells + k.length) (slots + ax_sz k) := by
  obtain ⟨a1, a2, a3, a4, a5, a6, a7, a8, a9⟩ := I
  have hz := sz_app h k
  have hl : (h ++ k).length = h.length + k.length := List.length_append
  refine ⟨by rw [h2, a1, hl]; omega, ?_, fun q hq => ?_, a4, a5, by rw [hl]; omega, by rw [hz]; omega, by rw [hl]; exact hc, by rw [hz]; exact hs⟩
  · intro i q hq
    rw [ax_w_get] at hq
    by_cases c : i < h.length
    · rw [List.getElem?_append_left c] at hq
      have old : va_P D vwCl (ax_w b dA h) H' := a2.kept fun k q hq => h3 _ (a2 k q hq).lt
      exact old i q (by rw [ax_w_get]; exact hq)
    · rw [List.getElem?_append_right (by omega)] at hq
      cases hx : k[i - h.length]? with
      | none => rw [hx] at hq; cases hq
      | some e1 =>
        rw [hx] at hq
        cases hq
        have := he (i - h.length) e1 hx
        rw [show h.length + (i - h.length) = i by omega] at this
        exact this
  · rw [h3 q (by omega)]
    exact a3 q hq
theorem arrV_cg {k : ClassId} {n : Nat} {f g : Nat → Value} (h : ∀ j, j < n → f j = g j) : arrV k n f = arrV k n g := by
  have e : (fun j : Fin n => f j.val) = fun j => g j.val := funext fun j => h _ j.isLt
  unfold arrV
  rw [e]
theorem ma_outer (k : ClassId) (n h0 : Nat) : ∀ i, Jvm.Free.Multi.outerC k n h0 i = arrV k n (fun j => if j < i then .ref (h0 + 1 + j) else .null)
  | 0 => by
    show ({ cls := k, slots := Array.replicate n .null, vm := .none } : Cell) = _
    rw [arrV_new]
    exact arrV_cg fun j _ => (if_neg (Nat.not_lt_zero j)).symm
  | i + 1 => by
    show (Jvm.Free.Multi.outerC k n h0 i).setSlot i (.ref (h0 + 1 + i)) = _
    rw [ma_outer k n h0 i, arrV_store]
    refine arrV_cg fun j _ => ?_
    by_cases q : j = i
    · subst q; simp [updV]
    · simp only [updV, if_neg q]
      by_cases q2 : j < i
      · rw [if_pos q2, if_pos (by omega)]
      · rw [if_neg q2, if_neg (by omega)]
theorem g_multi (C : ax_C p R s m args meth c b D dA nL n0 cc own ht) {n k idx : Nat} (hd : decode cc pc = .ok (.multianewarray idx 2, 4)) (hw : Cond.classLink own idx "[[I" ∈ ax_tb) (ho : Cond.arrayOver (.array .int) ∈ ax_tb) (ha : Cond.arrayClass .int ∈ ax_tb) (hn : n < 1000) (hk : k < 1000) (hc : h.length + (n + 1) ≤ n0 + R.cells) (hs : ax_sz h + (n + n * k) ≤ z0 + R.slots) (kk : ax_G p l e R s m args below meth c b D dA nL n0 z0 Q (pc + 4) (L) (rv h.length :: st) (h ++ (.inl (4, n, .inr (fun j => some (h.length + 1 + j))) :: List.replicate n (zA k)))) : ax_G p l e R s m args below meth c b D dA nL n0 z0 Q (pc) (L) (iv (k : Int) :: iv (n : Int) :: st) (h) := fun H ls locs cells slots I => by
  have i6 := I.2.2.2.2.2.1
  have i7 := I.2.2.2.2.2.2.1
  have xn := ax_in (n := n + 1) (rfl : (n : Int) = (n : Int)) (Nat.lt_succ_self n) (by omega)
  have xk := ax_in (n := k + 1) (rfl : (k : Int) = (k : Int)) (Nat.lt_succ_self k) (by omega)
  intro T hT X
  obtain ⟨vm₁, cA, comp, hW, hfA, hfC, hO, hI, X1, step⟩ := X.multianewarray2F (ty := .int) C.1 C.2.2.2.1 (C.2.2.2.2.1 _ hw) (C.2.2.2.2.1 _ ho) (C.2.2.2.2.1 _ ha) (g := F0 m pc ls (.int (Int32.ofInt (k : Int)) :: .int (Int32.ofInt (n : Int)) :: st.map (ax_v b))) rfl (by rw [C.2.1]; exact hd) rfl (fun q => xn.1 (Or.inl q)) (fun q => xk.1 (Or.inl q)) (by rw [xn.2]; omega) (by rw [xk.2, show componentBytes .int = 4 from rfl]; omega) (by rw [xk.2]; omega) rfl rfl (by rw [xn.2]; omega) (by rw [xn.2, xk.2]; omega)
  rw [xn.2, xk.2] at X1 step
  have hA : cA = dA 4 := Option.some.inj (hfA.symm.trans (C.2.2.2.2.2.1.2 4 _ rfl).2)
  have hB : comp = dA 0 := Option.some.inj (hfC.symm.trans (C.2.2.2.2.2.1.2 0 _ rfl).2)
  subst hA
  subst hB
  have F := Jvm.Free.Multi.fill_facts (T.setVm vm₁) (dA 4) (dA 0) n k (defaultValue .int) n
  have F2 := fun a (ha : a < T.heap.size) => Jvm.Free.Multi.fill_old (T.setVm vm₁) (dA 4) (dA 0) n k (defaultValue .int) (a := a) ha n
  have F3 := fun j (hj : j < n) => Jvm.Free.Multi.fill_inner (T.setVm vm₁) (dA 4) (dA 0) n k (defaultValue .int) n j hj
  generalize Jvm.Free.Multi.fill (T.setVm vm₁) (dA 4) (dA 0) n k (defaultValue .int) n = T2 at *
  have hTs : (T.setVm vm₁).heap.size = b + h.length := by show T.heap.size = _; rw [hT]; exact I.1
  have hTz : T.heap.size = b + h.length := hTs
  have hsz : ax_sz (.inl (4, n, .inr (fun j => some (h.length + 1 + j))) :: List.replicate n (zA k)) = n + n * k := by
    have z : ∀ n, ax_sz (List.replicate n (zA k)) = n * k := fun n => by
      induction n with
      | zero => simp [ax_sz]
      | succ n ih => rw [List.replicate_succ, show zA k :: List.replicate n (zA k) = [zA k] ++ List.replicate n (zA k) from rfl, sz_app, ih, show ax_sz [zA k] = k by simp [ax_sz, zA, ax_z], Nat.succ_mul]; omega
    rw [show (.inl (4, n, .inr (fun j => some (h.length + 1 + j))) :: List.replicate n (zA k) : ax_H) = [.inl (4, n, .inr (fun j => some (h.length + 1 + j)))] ++ List.replicate n (zA k) from rfl, sz_app, z]
    simp [ax_sz, ax_z]
  have hat : ∀ (j : Nat) (e1 : ax_E), (.inl (4, n, .inr (fun j => some (h.length + 1 + j))) :: List.replicate n (zA k) : ax_H)[j]? = some e1 → va_at D vwCl (b + (h.length + j), ax_e b dA e1) T2.heap := fun j e1 hj => by
    cases j with
    | zero =>
      cases hj
      show T2.heap[b + (h.length + 0)]? = some (arrV (dA 4) n (fun j => va_rf (some (b + (h.length + 1 + j)))))
      rw [Nat.add_zero, ← hTs, F.2.1, ma_outer]
      refine congrArg some (arrV_cg fun j hj => ?_)
      rw [if_pos hj, hTs]
      show Value.ref (b + h.length + 1 + j) = Value.ref (b + (h.length + 1 + j))
      rw [show b + h.length + 1 + j = b + (h.length + 1 + j) by omega]
    | succ j =>
      rw [List.getElem?_cons_succ, List.getElem?_replicate] at hj
      by_cases q : j < n
      · rw [if_pos q] at hj
        cases hj
        show T2.heap[b + (h.length + (j + 1))]? = some (arrV (dA 0) k (fun _ => .int (Int32.ofInt 0)))
        have := F3 j q
        rw [hTs, show b + h.length + 1 + j = b + (h.length + (j + 1)) by omega] at this
        rw [this]
        exact congrArg some (arrV_new _ _ _)
      · rw [if_neg q] at hj; cases hj
  have I2 := I.madeN (H' := T2.heap) (k := .inl (4, n, .inr (fun j => some (h.length + 1 + j))) :: List.replicate n (zA k)) (by simp; omega) (by rw [hsz]; omega) hat (by rw [F.1, hTs, I.1]; simp; omega) (fun q hq => by rw [F2 q (by rw [hT]; exact hq)]; show T.heap[q]? = _; rw [hT])
  obtain ⟨t, a1, b1⟩ := kk T2.heap ls locs _ _ I2 T2 rfl (by rw [hsz, List.length_cons, List.length_replicate, show cells + (n + 1) = cells + 1 + n by omega, ← Nat.add_assoc]; exact X1)
  exact ⟨t, step t (by rw [hTz]; exact a1), b1⟩
end AXQ
