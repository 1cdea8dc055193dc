/-! lattice points beside an edge -/
theorem gsm_cg {f g : Nat → Int} : ∀ n, (∀ k, k < n → f k = g k) → gsm f n = gsm g n
  | 0, _ => rfl
  | n + 1, h => by rw [gsm, gsm, gsm_cg n (fun k hk => h k (by omega)), h n (by omega)]
theorem gsm_add (f g : Nat → Int) : ∀ n, gsm (fun k => f k + g k) n = gsm f n + gsm g n
  | 0 => rfl
  | n + 1 => by rw [gsm, gsm, gsm, gsm_add f g n]; omega
theorem gsm_zero : ∀ n, gsm (fun _ => 0) n = 0
  | 0 => rfl
  | n + 1 => by rw [gsm, gsm_zero n]; rfl
theorem gsm_neg (f : Nat → Int) : ∀ n, gsm (fun k => -f k) n = -gsm f n
  | 0 => rfl
  | n + 1 => by rw [gsm, gsm, gsm_neg f n]; omega
theorem gsm_swap (f : Nat → Nat → Int) (m : Nat) : ∀ n, gsm (fun x => gsm (fun y => f x y) m) n = gsm (fun y => gsm (fun x => f x y) n) m
  | 0 => (gsm_zero m).symm
  | n + 1 => by
    rw [gsm, gsm_swap f m n, ← gsm_add]
    rfl
theorem gsm_one {f : Nat → Int} {i : Nat} : ∀ n, (∀ k, k < n → k ≠ i → f k = 0) → gsm f n = if i < n then f i else 0
  | 0, _ => rfl
  | n + 1, h => by
    rw [gsm, gsm_one n (fun k hk => h k (by omega))]
    by_cases c : n = i
    · subst c; rw [if_neg (by omega), if_pos (by omega)]; omega
    · rw [h n (by omega) c]
      by_cases q : i < n
      · rw [if_pos q, if_pos (by omega)]; omega
      · rw [if_neg q, if_neg (by omega)]; rfl
theorem gsm_cnt (lo hi : Int) : ∀ n : Nat, gsm (fun x => if lo ≤ (x : Int) ∧ (x : Int) ≤ hi then 1 else 0) n = max 0 (min hi ((n : Int) - 1) - max lo 0 + 1)
  | 0 => by show (0 : Int) = _; omega
  | n + 1 => by
    rw [gsm, gsm_cnt lo hi n]
    split <;> omega
theorem gsm_win (F : Nat → Int) (y1 n : Nat) : ∀ j : Nat, gsm (fun y => if y1 < y ∧ y < y1 + n then F (y - y1) else 0) (y1 + 1 + j) = gsm (fun k => F (k + 1)) (min j (n - 1))
  | 0 => by
    rw [Nat.zero_min]
    show _ = (0 : Int)
    exact (gsm_cg _ (fun k hk => if_neg (by omega))).trans (gsm_zero _)
  | j + 1 => by
    rw [show y1 + 1 + (j + 1) = (y1 + 1 + j) + 1 by omega, gsm, gsm_win F y1 n j]
    by_cases c : j + 1 ≤ n - 1
    · rw [if_pos (by omega), show min j (n - 1) = j by omega, show min (j + 1) (n - 1) = j + 1 by omega, gsm, show y1 + 1 + j - y1 = j + 1 by omega]
    · rw [if_neg (by omega), show min (j + 1) (n - 1) = min j (n - 1) by omega]; omega
/-- what an edge gives to a point's count -/
def wt (x1 y1 x2 y2 x y : Int) : Int := if ky x1 y1 < ky x2 y2 then (if ky x1 y1 ≤ ky x y ∧ ky x y < ky x2 y2 ∧ 0 ≤ tu x1 y1 x2 y2 x y then 1 else 0) else (if ky x2 y2 ≤ ky x y ∧ ky x y < ky x1 y1 ∧ tu x1 y1 x2 y2 x y < 0 then -1 else 0)
/-- the points of an edge without its end -/
def sg (x1 y1 x2 y2 x y : Int) : Int := if tu x1 y1 x2 y2 x y = 0 ∧ ((ky x1 y1 ≤ ky x y ∧ ky x y < ky x2 y2) ∨ (ky x2 y2 < ky x y ∧ ky x y ≤ ky x1 y1)) then 1 else 0
def suU (x1 x2 n : Nat) : Nat → Nat
  | 0 => 0
  | k + 1 => suU x1 x2 n k + ((x1 * (n - (k + 1)) + x2 * (k + 1)) / n + 1)
def suD (x1 x2 n : Nat) : Nat → Nat
  | 0 => 0
  | k + 1 => suD x1 x2 n k + (x1 * (n - (k + 1)) + x2 * (k + 1) + (n - 1)) / n
def suS (x1 x2 n : Nat) : Nat → Nat
  | 0 => 0
  | k + 1 => suS x1 x2 n k + (if (x1 * (n - (k + 1)) + x2 * (k + 1)) % n = 0 then 1 else 0)
theorem fsU : ∀ x1, x1 < 13 → ∀ x2, x2 < 13 → ∀ n, n < 13 → 0 < n → 2 * suU x1 x2 n (n - 1) + 2 + x2 + x1 = n * (x1 + x2) + n + Nat.gcd ((x2 - x1) + (x1 - x2)) n := by decide +kernel
theorem fsD : ∀ x1, x1 < 13 → ∀ x2, x2 < 13 → ∀ n, n < 13 → 0 < n → 2 * suD x1 x2 n (n - 1) + x1 + x2 + Nat.gcd ((x2 - x1) + (x1 - x2)) n = n * (x1 + x2) + n := by decide +kernel
theorem fsS : ∀ x1, x1 < 13 → ∀ x2, x2 < 13 → ∀ n, n < 13 → 0 < n → suS x1 x2 n (n - 1) + 1 = Nat.gcd ((x2 - x1) + (x1 - x2)) n := by decide +kernel

def zU (x1 x2 n k : Nat) : Nat := x1 * (n - k) + x2 * k
theorem zU_le {x1 x2 n k : Nat} (h1 : x1 < 13) (h2 : x2 < 13) (hk : k ≤ n) (hn : 0 < n) : zU x1 x2 n k / n ≤ 12 := by
  have a1 : x1 * (n - k) ≤ 12 * (n - k) := Nat.mul_le_mul_right _ (by omega)
  have a2 : x2 * k ≤ 12 * k := Nat.mul_le_mul_right _ (by omega)
  have : zU x1 x2 n k / n < 13 := by
    rw [Nat.div_lt_iff_lt_mul hn]
    unfold zU; omega
  omega
theorem tuU {x1 y1 x2 n k x : Nat} (hk : k ≤ n) : tu x1 y1 x2 ((y1 + n : Nat) : Int) x ((y1 + k : Nat) : Int) = ((zU x1 x2 n k : Nat) : Int) - ((x * n : Nat) : Int) := by
  obtain ⟨j, rfl⟩ : ∃ j, n = k + j := ⟨n - k, by omega⟩
  unfold tu zU
  rw [show k + j - k = j by omega]
  push_cast
  grind
theorem tuD {x1 y2 x2 n k x : Nat} (hk : k ≤ n) : tu x1 ((y2 + n : Nat) : Int) x2 y2 x ((y2 + k : Nat) : Int) = ((x * n : Nat) : Int) - ((zU x2 x1 n k : Nat) : Int) := by
  obtain ⟨j, rfl⟩ : ∃ j, n = k + j := ⟨n - k, by omega⟩
  unfold tu zU
  rw [show k + j - k = j by omega]
  push_cast
  grind
theorem rowU {x1 y1 x2 n : Nat} (h1 : x1 < 13) (h2 : x2 < 13) (hn : 0 < n) (y : Nat) : gsm (fun x => wt x1 y1 x2 ((y1 + n : Nat) : Int) x y) 13 = (if y = y1 then 1 else 0) + ((if y = y1 + n then (x2 : Int) else 0) + (if y1 < y ∧ y < y1 + n then (fun k => ((zU x1 x2 n k / n + 1 : Nat) : Int)) (y - y1) else 0)) := by
  have hup : ky x1 y1 < ky x2 ((y1 + n : Nat) : Int) := by unfold ky; omega
  by_cases c : y1 ≤ y ∧ y ≤ y1 + n
  · obtain ⟨k, rfl⟩ : ∃ k, y = y1 + k := ⟨y - y1, by omega⟩
    have hk : k ≤ n := by omega
    have hz := zU_le h1 h2 hk hn
    have e : ∀ x : Nat, x < 13 → wt x1 y1 x2 ((y1 + n : Nat) : Int) x ((y1 + k : Nat) : Int) = if (if k = 0 then (x1 : Int) else 0) ≤ (x : Int) ∧ (x : Int) ≤ (if k = n then min ((zU x1 x2 n k / n : Nat) : Int) ((x2 : Int) - 1) else ((zU x1 x2 n k / n : Nat) : Int)) then 1 else 0 := fun x hx => by
      unfold wt
      rw [if_pos hup, tuU hk]
      have d := Nat.le_div_iff_mul_le (x := x) (y := zU x1 x2 n k) hn
      have : (ky x1 y1 ≤ ky x ((y1 + k : Nat) : Int) ∧ ky x ((y1 + k : Nat) : Int) < ky x2 ((y1 + n : Nat) : Int) ∧ 0 ≤ ((zU x1 x2 n k : Nat) : Int) - ((x * n : Nat) : Int)) ↔ ((if k = 0 then (x1 : Int) else 0) ≤ (x : Int) ∧ (x : Int) ≤ (if k = n then min ((zU x1 x2 n k / n : Nat) : Int) ((x2 : Int) - 1) else ((zU x1 x2 n k / n : Nat) : Int))) := by
        unfold ky
        generalize zU x1 x2 n k / n = Q at *
        generalize zU x1 x2 n k = Z at *
        generalize x * n = P at *
        split <;> split <;> omega
      by_cases q : ky x1 y1 ≤ ky x ((y1 + k : Nat) : Int) ∧ ky x ((y1 + k : Nat) : Int) < ky x2 ((y1 + n : Nat) : Int) ∧ 0 ≤ ((zU x1 x2 n k : Nat) : Int) - ((x * n : Nat) : Int)
      · rw [if_pos q, if_pos (this.mp q)]
      · rw [if_neg q, if_neg (fun z => q (this.mpr z))]
    rw [gsm_cg 13 e, gsm_cnt]
    have z0 : k = 0 → zU x1 x2 n k / n = x1 := fun q => by subst q; unfold zU; rw [Nat.sub_zero, Nat.mul_zero, Nat.add_zero, Nat.mul_div_cancel _ hn]
    have zn : k = n → zU x1 x2 n k / n = x2 := fun q => by subst q; unfold zU; rw [Nat.sub_self, Nat.mul_zero, Nat.zero_add, Nat.mul_div_cancel _ hn]
    rw [show y1 + k - y1 = k by omega]
    dsimp only
    generalize zU x1 x2 n k / n = Q at *
    by_cases k0 : k = 0
    · have := z0 k0
      rw [if_pos k0, if_neg (by omega), if_pos (by omega), if_neg (by omega), if_neg (by omega)]; omega
    · by_cases kn : k = n
      · have := zn kn
        rw [if_neg k0, if_pos kn, if_neg (by omega), if_pos (by omega), if_neg (by omega)]; omega
      · rw [if_neg k0, if_neg kn, if_neg (by omega), if_neg (by omega), if_pos (by omega)]; omega
  · rw [if_neg (by omega), if_neg (by omega), if_neg (by omega)]
    refine (gsm_cg 13 (fun x hx => ?_)).trans (gsm_zero 13)
    unfold wt
    rw [if_pos hup, if_neg (fun q => by unfold ky at q; omega)]
theorem wtU {x1 y1 x2 n : Nat} (h1 : x1 < 13) (h2 : x2 < 13) (hy : y1 + n < 13) (hn : 0 < n) : 2 * gg (fun x y => wt x1 y1 x2 ((y1 + n : Nat) : Int) x y) = (n : Int) * ((x1 : Int) + x2) + ((x2 : Int) - x1) + n + (Nat.gcd ((x2 - x1) + (x1 - x2)) n : Int) := by
  have e : gg (fun x y => wt x1 y1 x2 ((y1 + n : Nat) : Int) x y) = 1 + (x2 + ((suU x1 x2 n (n - 1) : Nat) : Int)) := by
    unfold gg
    rw [gsm_swap, gsm_cg 13 (fun y _ => rowU h1 h2 hn y), gsm_add, gsm_add]
    rw [gsm_one (i := y1) 13 (fun k _ hk => if_neg hk), if_pos (by omega), if_pos rfl, gsm_one (i := y1 + n) 13 (fun k _ hk => if_neg hk), if_pos (by omega), if_pos rfl]
    have w := gsm_win (fun k => ((zU x1 x2 n k / n + 1 : Nat) : Int)) y1 n (12 - y1)
    rw [show y1 + 1 + (12 - y1) = 13 by omega, show min (12 - y1) (n - 1) = n - 1 by omega] at w
    rw [w]
    have su : ∀ j, gsm (fun k => ((zU x1 x2 n (k + 1) / n + 1 : Nat) : Int)) j = ((suU x1 x2 n j : Nat) : Int) := fun j => by
      induction j with
      | zero => rfl
      | succ j ih => rw [gsm, ih, suU]; unfold zU; omega
    rw [su]
  have f := fsU x1 h1 x2 h2 n (by omega) hn
  rw [e]
  have f2 : ((2 * suU x1 x2 n (n - 1) + 2 + x2 + x1 : Nat) : Int) = ((n * (x1 + x2) + n + Nat.gcd ((x2 - x1) + (x1 - x2)) n : Nat) : Int) := by rw [f]
  push_cast at f2
  omega
