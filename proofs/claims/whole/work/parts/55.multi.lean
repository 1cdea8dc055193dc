section AXQ
variable {p : Program} {l : Launch} {e : Env} {R : Room} {s : State} {m : MethodId} {args : Array Value} {below : List Frame} {meth : Method} {c : Code} {b : Nat} {D : va_G} {dA : Nat → ClassId} {nL n0 z0 : Nat} {Q : State → Prop} {cc : ByteArray} {own : String} {ht : Nat} {pc : Nat} {L : List (Option ax_V)} {st : List ax_V} {h : ax_H}
theorem ax_I.madeN {H H' : Heap} {ls : Array Slot} {locs : List Loc} {cells slots : Nat} (I : ax_I R s b D dA nL n0 z0 L h H ls locs cells slots) {k : ax_H} (hc : h.length + k.length ≤ n0 + R.cells) (hs : ax_sz h + ax_sz k ≤ z0 + R.slots) (he : ∀ j e1, k[j]? = some e1 → va_at D vwCl (b + (h.length + j), ax_e b dA e1) H') (h2 : H'.size = H.size + k.length) (h3 : ∀ q, q < H.size → H'[q]? = H[q]?) : ax_I R s b D dA nL n0 z0 L (h ++ k) H' ls locs (cells + k.length) (slots + ax_sz k) := by
  obtain ⟨a1, a2, a3, a4, a5, a6, a7, a8, a9⟩ := I
  have hz := sz_app h k
  have hl : (h ++ k).length = h.length + k.length := List.length_append
  refine ⟨by rw [h2, a1, hl]; omega, ?_, fun q hq => ?_, a4, a5, by rw [hl]; omega, by rw [hz]; omega, by rw [hl]; exact hc, by rw [hz]; exact hs⟩
  · intro i q hq
    rw [ax_w_get] at hq
    by_cases c : i < h.length
    · rw [List.getElem?_append_left c] at hq
      have old : va_P D vwCl (ax_w b dA h) H' := a2.kept fun k q hq => h3 _ (a2 k q hq).lt
      exact old i q (by rw [ax_w_get]; exact hq)
    · rw [List.getElem?_append_right (by omega)] at hq
      cases hx : k[i - h.length]? with
      | none => rw [hx] at hq; cases hq
      | some e1 =>
        rw [hx] at hq
        cases hq
        have := he (i - h.length) e1 hx
        rw [show h.length + (i - h.length) = i by omega] at this
        exact this
  · rw [h3 q (by omega)]
    exact a3 q hq
end AXQ
