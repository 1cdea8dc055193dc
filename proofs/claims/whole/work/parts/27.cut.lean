/-! which pairs of pairs tell a cell -/
theorem bt_E (I J fr k : Nat) : bt ((2 ^ I ||| 2 ^ J) * 2 ^ fr) k ↔ fr ≤ k ∧ (k - fr = I ∨ k - fr = J) := by
  rw [bt_tb, Nat.testBit_mul_two_pow]
  simp only [Bool.and_eq_true, decide_eq_true_eq, ← bt_tb, bt_or, bt_2]
theorem bt_127 (W k : Nat) : bt (W &&& 127) k ↔ bt W k ∧ k < 7 := by
  rw [bt_tb, bt_tb, Nat.testBit_and, show (127 : Nat) = 2 ^ 7 - 1 from rfl, Nat.testBit_two_pow_sub_one]
  simp only [Bool.and_eq_true, decide_eq_true_eq]
theorem bt_dv (W k : Nat) : bt (W / 2 ^ 7) k ↔ bt W (k + 7) := by
  rw [bt_tb, bt_tb, Nat.testBit_div_two_pow, Nat.add_comm]
section CUT
variable {X Y V : Nat → Int} {n : Nat} {X2 Y2 V2 : Nat → Int} {n2 : Nat} {dx dy dw en : Nat → Int} {pa pr : Nat} {I J : Nat → Nat}
abbrev Eq_ (I J : Nat → Nat) (pa t : Nat) : Nat := (2 ^ I t ||| 2 ^ J t) * 2 ^ (if t < pa then 0 else 7)
abbrev Tq (dx dy dw : Nat → Int) (i j : Nat) : Tr := pr3 (dx i) (dy i) (dw i) (dx j) (dy j) (dw j)
def okq (X Y V : Nat → Int) (n : Nat) (X2 Y2 V2 : Nat → Int) (n2 : Nat) (dx dy dw : Nat → Int) (pa : Nat) (I J : Nat → Nat) (i j : Nat) : Prop := dx i * dy j - dx j * dy i ≠ 0 ∧ (∀ k, bt ((Eq_ I J pa i ||| Eq_ I J pa j) &&& 127) k → bt (bo_low (th X Y V (Tq dx dy dw i j)) n).1 k) ∧ (∀ k, bt ((Eq_ I J pa i ||| Eq_ I J pa j) / 2 ^ 7) k → bt (bo_low (th X2 Y2 V2 (Tq dx dy dw i j)) n2).1 k)
def cand (pa : Nat) (I : Nat → Nat) (i j : Nat) : Prop := (i < pa ∧ pa ≤ j) ∨ ((i < pa ↔ j < pa) ∧ I i = I j)
def pq (X Y V : Nat → Int) (n : Nat) (X2 Y2 V2 : Nat → Int) (n2 : Nat) (dx dy dw en : Nat → Int) (pa pr : Nat) (I J : Nat → Nat) : Prop := pa ≤ pr ∧ prs dx dy dw en 0 pa X Y V n 0 I J ∧ prs dx dy dw en pa pr X2 Y2 V2 n2 7 I J
/-- the ends of a pair are low -/
def endl (X Y V : Nat → Int) (n : Nat) (X2 Y2 V2 : Nat → Int) (n2 : Nat) (pa : Nat) (I J : Nat → Nat) (t : Tr) (i : Nat) : Prop := if i < pa then lwm (th X Y V t) n (I i) ∧ lwm (th X Y V t) n (J i) else lwm (th X2 Y2 V2 t) n2 (I i) ∧ lwm (th X2 Y2 V2 t) n2 (J i)
theorem okq_iff (hn : n ≤ 7) (hn2 : n2 ≤ 7) (hq : pq X Y V n X2 Y2 V2 n2 dx dy dw en pa pr I J) {i j : Nat} (hi : i < pr) (hj : j < pr) : okq X Y V n X2 Y2 V2 n2 dx dy dw pa I J i j ↔ dx i * dy j - dx j * dy i ≠ 0 ∧ endl X Y V n X2 Y2 V2 n2 pa I J (Tq dx dy dw i j) i ∧ endl X Y V n X2 Y2 V2 n2 pa I J (Tq dx dy dw i j) j := by
  obtain ⟨q0, ⟨q1, -⟩, ⟨q2, -⟩⟩ := hq
  have b7 : ∀ t, t < pr → I t < 7 ∧ J t < 7 := fun t ht => by
    by_cases c : t < pa
    · have := q1 t (by omega) c; omega
    · have := q2 t (by omega) ht; omega
  have bi := b7 i hi
  have bj := b7 j hj
  unfold okq
  refine and_congr Iff.rfl ?_
  simp only [bt_127, bt_dv, bt_or, bt_E, bo_low_bt]
  unfold endl
  constructor
  · rintro ⟨h1, h2⟩
    constructor
    · by_cases c : i < pa
      · rw [if_pos c]
        simp only [if_pos c] at h1
        exact ⟨h1 (I i) ⟨Or.inl ⟨by omega, Or.inl rfl⟩, bi.1⟩, h1 (J i) ⟨Or.inl ⟨by omega, Or.inr rfl⟩, bi.2⟩⟩
      · rw [if_neg c]
        simp only [if_neg c] at h2
        exact ⟨h2 (I i) (Or.inl ⟨by omega, Or.inl (by omega)⟩), h2 (J i) (Or.inl ⟨by omega, Or.inr (by omega)⟩)⟩
    · by_cases c : j < pa
      · rw [if_pos c]
        simp only [if_pos c] at h1
        exact ⟨h1 (I j) ⟨Or.inr ⟨by omega, Or.inl rfl⟩, bj.1⟩, h1 (J j) ⟨Or.inr ⟨by omega, Or.inr rfl⟩, bj.2⟩⟩
      · rw [if_neg c]
        simp only [if_neg c] at h2
        exact ⟨h2 (I j) (Or.inr ⟨by omega, Or.inl (by omega)⟩), h2 (J j) (Or.inr ⟨by omega, Or.inr (by omega)⟩)⟩
  · rintro ⟨h1, h2⟩
    constructor
    · rintro k ⟨z | z, z2⟩
      · by_cases c : i < pa
        · rw [if_pos c] at z h1
          rcases z.2 with e | e
          · rw [show k = I i by omega]; exact h1.1
          · rw [show k = J i by omega]; exact h1.2
        · rw [if_neg c] at z; omega
      · by_cases c : j < pa
        · rw [if_pos c] at z h2
          rcases z.2 with e | e
          · rw [show k = I j by omega]; exact h2.1
          · rw [show k = J j by omega]; exact h2.2
        · rw [if_neg c] at z; omega
    · rintro k (z | z)
      · by_cases c : i < pa
        · rw [if_pos c] at z; omega
        · rw [if_neg c] at z h1
          rcases z.2 with e | e
          · rw [show k = I i by omega]; exact h1.1
          · rw [show k = J i by omega]; exact h1.2
      · by_cases c : j < pa
        · rw [if_pos c] at z; omega
        · rw [if_neg c] at z h2
          rcases z.2 with e | e
          · rw [show k = I j by omega]; exact h2.1
          · rw [show k = J j by omega]; exact h2.2
theorem okq_cs (hn : n ≤ 7) (hn2 : n2 ≤ 7) (h1 : 0 < n) (h2 : 0 < n2) (hq : pq X Y V n X2 Y2 V2 n2 dx dy dw en pa pr I J) {i j : Nat} (hi : i < pr) (hj : j < pr) (hc : cand pa I i j) (ho : okq X Y V n X2 Y2 V2 n2 dx dy dw pa I J i j) : CS X Y V n X2 Y2 V2 n2 (Tq dx dy dw i j) := by
  obtain ⟨o1, o2, o3⟩ := (okq_iff hn hn2 hq hi hj).mp ho
  have hp := pr3_pos (w1 := dw i) (w2 := dw j) o1
  obtain ⟨q0, ⟨q1, -⟩, ⟨q2, -⟩⟩ := hq
  unfold endl at o2 o3
  rcases hc with ⟨c1, c2⟩ | ⟨c1, c2⟩
  · rw [if_pos c1] at o2
    rw [if_neg (by omega)] at o3
    obtain ⟨-, -, e1, e2, -⟩ := q1 i (by omega) c1
    obtain ⟨-, -, e3, e4, -⟩ := q2 j c2 hj
    rw [e1, e2, e3, e4] at o1
    exact cs_AB hp o2.1 o2.2 o3.1 o3.2 o1
  · by_cases c3 : i < pa
    · have c4 := c1.mp c3
      rw [if_pos c3] at o2
      rw [if_pos c4] at o3
      obtain ⟨-, -, e1, e2, -⟩ := q1 i (by omega) c3
      obtain ⟨-, -, e3, e4, -⟩ := q1 j (by omega) c4
      rw [e1, e2, e3, e4, ← c2] at o1
      exact cs_AA hp h2 o2.1 o2.2 o3.2 o1
    · have c4 : ¬ j < pa := fun z => c3 (c1.mpr z)
      rw [if_neg c3] at o2
      rw [if_neg c4] at o3
      obtain ⟨-, -, e1, e2, -⟩ := q2 i (by omega) hi
      obtain ⟨-, -, e3, e4, -⟩ := q2 j (by omega) hj
      rw [e1, e2, e3, e4, ← c2] at o1
      exact cs_BB hp h1 o2.1 o2.2 o3.2 o1
/-- each cell's slope is told by some two pairs -/
theorem cut_all (hn : n ≤ 7) (hn2 : n2 ≤ 7) (hq : pq X Y V n X2 Y2 V2 n2 dx dy dw en pa pr I J) {τ : Nat → Tr} {m : Nat} (hs : tsr τ m) (hd : ∀ i j, i < j → j < pr → cand pa I i j → okq X Y V n X2 Y2 V2 n2 dx dy dw pa I J i j → ∃ k, k < m ∧ teq (Tq dx dy dw i j) (τ k)) {t : Tr} (ht : CS X Y V n X2 Y2 V2 n2 t) : ∃ k, k < m ∧ teq t (τ k) := by
  have hw := ht.1
  have key : ∀ i j, i < pr → j < pr → i ≠ j → (cand pa I i j ∨ cand pa I j i) → ((cand pa I i j → i < j ∨ cand pa I j i) ∧ (cand pa I j i → j < i ∨ cand pa I i j)) → dx i * dy j - dx j * dy i ≠ 0 → endl X Y V n X2 Y2 V2 n2 pa I J t i → endl X Y V n X2 Y2 V2 n2 pa I J t j → t.2.2 * dw i + t.1 * dx i + t.2.1 * dy i = 0 → t.2.2 * dw j + t.1 * dx j + t.2.1 * dy j = 0 → ∃ k, k < m ∧ teq t (τ k) := by
    intro i j hi hj hne hc hcc hnz e1 e2 z1 z2
    have fin : ∀ a b, a < b → b < pr → cand pa I a b → dx a * dy b - dx b * dy a ≠ 0 → endl X Y V n X2 Y2 V2 n2 pa I J t a → endl X Y V n X2 Y2 V2 n2 pa I J t b → t.2.2 * dw a + t.1 * dx a + t.2.1 * dy a = 0 → t.2.2 * dw b + t.1 * dx b + t.2.1 * dy b = 0 → ∃ k, k < m ∧ teq t (τ k) := by
      intro a b hab hb hcab hz f1 f2 y1 y2
      have hp := pr3_pos (w1 := dw a) (w2 := dw b) hz
      have te : teq t (Tq dx dy dw a b) := pr3_teq y1 y2
      have mv : ∀ s, endl X Y V n X2 Y2 V2 n2 pa I J t s → endl X Y V n X2 Y2 V2 n2 pa I J (Tq dx dy dw a b) s := fun s q => by
        unfold endl at q ⊢
        split
        · rename_i c; rw [if_pos c] at q; exact ⟨lwm_teq hw hp te q.1, lwm_teq hw hp te q.2⟩
        · rename_i c; rw [if_neg c] at q; exact ⟨lwm_teq hw hp te q.1, lwm_teq hw hp te q.2⟩
      obtain ⟨k, k1, k2⟩ := hd a b hab hb hcab ((okq_iff hn hn2 hq (by omega) hb).mpr ⟨hz, mv a f1, mv b f2⟩)
      exact ⟨k, k1, te.tr hw hp (hs.1 k k1) k2⟩
    by_cases c : i < j
    · have : cand pa I i j := by
        rcases hc with q | q
        · exact q
        · rcases hcc.2 q with z | z
          · omega
          · exact z
      exact fin i j c hj this hnz e1 e2 z1 z2
    · have : cand pa I j i := by
        rcases hc with q | q
        · rcases hcc.1 q with z | z
          · omega
          · exact z
        · exact q
      exact fin j i (by omega) hi this (by omega) e2 e1 z2 z1
  obtain ⟨q0, ⟨q1, q3⟩, ⟨q2, q4⟩⟩ := hq
  rcases cs_find ht with ⟨i, j, k, h1, h2, l1, l2, l3, hz⟩ | ⟨i, j, k, h1, h2, l1, l2, l3, hz⟩ | ⟨i, j, k, l, h1, h2, l1, l2, l3, l4, hz⟩
  · obtain ⟨s, s1, s2, s3, s4⟩ := q3 i j h1 l2.1
    obtain ⟨r, r1, r2, r3, r4⟩ := q3 i k (by omega) l3.1
    obtain ⟨-, -, e1, e2, e3, -⟩ := q1 s s1 s2
    obtain ⟨-, -, f1, f2, f3, -⟩ := q1 r r1 r2
    have cc : cand pa I s r := Or.inr ⟨⟨fun _ => r2, fun _ => s2⟩, by rw [s3, r3]⟩
    have cd : cand pa I r s := Or.inr ⟨⟨fun _ => s2, fun _ => r2⟩, by rw [s3, r3]⟩
    refine key s r (by omega) (by omega) (fun e => by rw [e] at s4; omega) (Or.inl cc) ⟨fun _ => Or.inr cd, fun _ => Or.inr cc⟩ ?_ ?_ ?_ ?_ ?_
    · rw [e1, e2, f1, f2, s3, s4, r3, r4]; exact hz
    · unfold endl; rw [if_pos s2, s3, s4]; exact ⟨l1, l2⟩
    · unfold endl; rw [if_pos r2, r3, r4]; exact ⟨l1, l3⟩
    · rw [e1, e2, e3, s3, s4]; exact lwm_dif l1 l2
    · rw [f1, f2, f3, r3, r4]; exact lwm_dif l1 l3
  · obtain ⟨s, s1, s2, s3, s4⟩ := q4 i j h1 l2.1
    obtain ⟨r, r1, r2, r3, r4⟩ := q4 i k (by omega) l3.1
    obtain ⟨-, -, e1, e2, e3, -⟩ := q2 s s1 s2
    obtain ⟨-, -, f1, f2, f3, -⟩ := q2 r r1 r2
    have cc : cand pa I s r := Or.inr ⟨⟨fun z => by omega, fun z => by omega⟩, by rw [s3, r3]⟩
    have cd : cand pa I r s := Or.inr ⟨⟨fun z => by omega, fun z => by omega⟩, by rw [s3, r3]⟩
    refine key s r (by omega) (by omega) (fun e => by rw [e] at s4; omega) (Or.inl cc) ⟨fun _ => Or.inr cd, fun _ => Or.inr cc⟩ ?_ ?_ ?_ ?_ ?_
    · rw [e1, e2, f1, f2, s3, s4, r3, r4]; exact hz
    · unfold endl; rw [if_neg (by omega), s3, s4]; exact ⟨l1, l2⟩
    · unfold endl; rw [if_neg (by omega), r3, r4]; exact ⟨l1, l3⟩
    · rw [e1, e2, e3, s3, s4]; exact lwm_dif l1 l2
    · rw [f1, f2, f3, r3, r4]; exact lwm_dif l1 l3
  · obtain ⟨s, s1, s2, s3, s4⟩ := q3 i j h1 l2.1
    obtain ⟨r, r1, r2, r3, r4⟩ := q4 k l h2 l4.1
    obtain ⟨-, -, e1, e2, e3, -⟩ := q1 s s1 s2
    obtain ⟨-, -, f1, f2, f3, -⟩ := q2 r r1 r2
    have cc : cand pa I s r := Or.inl ⟨s2, r1⟩
    refine key s r (by omega) (by omega) (fun e => by omega) (Or.inl cc) ⟨fun _ => Or.inl (by omega), fun _ => Or.inr cc⟩ ?_ ?_ ?_ ?_ ?_
    · rw [e1, e2, f1, f2, s3, s4, r3, r4]; exact hz
    · unfold endl; rw [if_pos s2, s3, s4]; exact ⟨l1, l2⟩
    · unfold endl; rw [if_neg (by omega), r3, r4]; exact ⟨l3, l4⟩
    · rw [e1, e2, e3, s3, s4]; exact lwm_dif l1 l2
    · rw [f1, f2, f3, r3, r4]; exact lwm_dif l3 l4
end CUT
