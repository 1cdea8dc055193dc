/-! lattice points beside an edge -/
theorem gsm_cg {f g : Nat → Int} : ∀ n, (∀ k, k < n → f k = g k) → gsm f n = gsm g n
  | 0, _ => rfl
  | n + 1, h => by rw [gsm, gsm, gsm_cg n (fun k hk => h k (by omega)), h n (by omega)]
theorem gsm_add (f g : Nat → Int) : ∀ n, gsm (fun k => f k + g k) n = gsm f n + gsm g n
  | 0 => rfl
  | n + 1 => by rw [gsm, gsm, gsm, gsm_add f g n]; omega
theorem gsm_zero : ∀ n, gsm (fun _ => 0) n = 0
  | 0 => rfl
  | n + 1 => by rw [gsm, gsm_zero n]; rfl
theorem gsm_neg (f : Nat → Int) : ∀ n, gsm (fun k => -f k) n = -gsm f n
  | 0 => rfl
  | n + 1 => by rw [gsm, gsm, gsm_neg f n]; omega
theorem gsm_swap (f : Nat → Nat → Int) (m : Nat) : ∀ n, gsm (fun x => gsm (fun y => f x y) m) n = gsm (fun y => gsm (fun x => f x y) n) m
  | 0 => (gsm_zero m).symm
  | n + 1 => by
    rw [gsm, gsm_swap f m n, ← gsm_add]
    rfl
theorem gsm_one {f : Nat → Int} {i : Nat} : ∀ n, (∀ k, k < n → k ≠ i → f k = 0) → gsm f n = if i < n then f i else 0
  | 0, _ => rfl
  | n + 1, h => by
    rw [gsm, gsm_one n (fun k hk => h k (by omega))]
    by_cases c : n = i
    · subst c; rw [if_neg (by omega), if_pos (by omega)]; omega
    · rw [h n (by omega) c]
      by_cases q : i < n
      · rw [if_pos q, if_pos (by omega)]; omega
      · rw [if_neg q, if_neg (by omega)]; rfl
theorem gsm_cnt (lo hi : Int) : ∀ n : Nat, gsm (fun x => if lo ≤ (x : Int) ∧ (x : Int) ≤ hi then 1 else 0) n = max 0 (min hi ((n : Int) - 1) - max lo 0 + 1)
  | 0 => by show (0 : Int) = _; omega
  | n + 1 => by
    rw [gsm, gsm_cnt lo hi n]
    split <;> omega
theorem gsm_win (F : Nat → Int) (y1 n : Nat) : ∀ j : Nat, gsm (fun y => if y1 < y ∧ y < y1 + n then F (y - y1) else 0) (y1 + 1 + j) = gsm (fun k => F (k + 1)) (min j (n - 1))
  | 0 => by
    rw [Nat.zero_min]
    show _ = (0 : Int)
    exact (gsm_cg _ (fun k hk => if_neg (by omega))).trans (gsm_zero _)
  | j + 1 => by
    rw [show y1 + 1 + (j + 1) = (y1 + 1 + j) + 1 by omega, gsm, gsm_win F y1 n j]
    by_cases c : j + 1 ≤ n - 1
    · rw [if_pos (by omega), show min j (n - 1) = j by omega, show min (j + 1) (n - 1) = j + 1 by omega, gsm, show y1 + 1 + j - y1 = j + 1 by omega]
    · rw [if_neg (by omega), show min (j + 1) (n - 1) = min j (n - 1) by omega]; omega
theorem gsm_rev (f : Nat → Int) : gsm (fun y => f y) 13 = gsm (fun y => f (12 - y)) 13 := by
  show 0 + f 0 + f 1 + f 2 + f 3 + f 4 + f 5 + f 6 + f 7 + f 8 + f 9 + f 10 + f 11 + f 12 = 0 + f 12 + f 11 + f 10 + f 9 + f 8 + f 7 + f 6 + f 5 + f 4 + f 3 + f 2 + f 1 + f 0
  omega
/-- what an edge gives to a point's count -/
def wt (x1 y1 x2 y2 x y : Int) : Int := if ky x1 y1 < ky x2 y2 then (if ky x1 y1 ≤ ky x y ∧ ky x y < ky x2 y2 ∧ 0 ≤ tu x1 y1 x2 y2 x y then 1 else 0) else (if ky x2 y2 ≤ ky x y ∧ ky x y < ky x1 y1 ∧ tu x1 y1 x2 y2 x y < 0 then -1 else 0)
/-- the points of an edge without its end -/
def sg (x1 y1 x2 y2 x y : Int) : Int := if tu x1 y1 x2 y2 x y = 0 ∧ ((ky x1 y1 ≤ ky x y ∧ ky x y < ky x2 y2) ∨ (ky x2 y2 < ky x y ∧ ky x y ≤ ky x1 y1)) then 1 else 0
def suU (x1 x2 n : Nat) : Nat → Nat
  | 0 => 0
  | k + 1 => suU x1 x2 n k + ((x1 * (n - (k + 1)) + x2 * (k + 1)) / n + 1)
def suD (x1 x2 n : Nat) : Nat → Nat
  | 0 => 0
  | k + 1 => suD x1 x2 n k + (x1 * (n - (k + 1)) + x2 * (k + 1) + (n - 1)) / n
def suS (x1 x2 n : Nat) : Nat → Nat
  | 0 => 0
  | k + 1 => suS x1 x2 n k + (if (x1 * (n - (k + 1)) + x2 * (k + 1)) % n = 0 then 1 else 0)
theorem fsU : ∀ x1, x1 < 13 → ∀ x2, x2 < 13 → ∀ n, n < 13 → 0 < n → 2 * suU x1 x2 n (n - 1) + 2 + x2 + x1 = n * (x1 + x2) + n + Nat.gcd ((x2 - x1) + (x1 - x2)) n := by decide +kernel
theorem fsD : ∀ x1, x1 < 13 → ∀ x2, x2 < 13 → ∀ n, n < 13 → 0 < n → 2 * suD x1 x2 n (n - 1) + x1 + x2 + Nat.gcd ((x2 - x1) + (x1 - x2)) n = n * (x1 + x2) + n := by decide +kernel
theorem fsS : ∀ x1, x1 < 13 → ∀ x2, x2 < 13 → ∀ n, n < 13 → 0 < n → suS x1 x2 n (n - 1) + 1 = Nat.gcd ((x2 - x1) + (x1 - x2)) n := by decide +kernel

def zU (x1 x2 n k : Nat) : Nat := x1 * (n - k) + x2 * k
theorem zU_le {x1 x2 n k : Nat} (h1 : x1 < 13) (h2 : x2 < 13) (hk : k ≤ n) (hn : 0 < n) : zU x1 x2 n k / n ≤ 12 := by
  have a1 : x1 * (n - k) ≤ 12 * (n - k) := Nat.mul_le_mul_right _ (by omega)
  have a2 : x2 * k ≤ 12 * k := Nat.mul_le_mul_right _ (by omega)
  have : zU x1 x2 n k / n < 13 := by
    rw [Nat.div_lt_iff_lt_mul hn]
    unfold zU; omega
  omega
theorem tuU {x1 y1 x2 n k x : Nat} (hk : k ≤ n) : tu x1 y1 x2 ((y1 + n : Nat) : Int) x ((y1 + k : Nat) : Int) = ((zU x1 x2 n k : Nat) : Int) - ((x * n : Nat) : Int) := by
  obtain ⟨j, rfl⟩ : ∃ j, n = k + j := ⟨n - k, by omega⟩
  unfold tu zU
  rw [show k + j - k = j by omega]
  push_cast
  grind
theorem tuD {x1 y2 x2 n k x : Nat} (hk : k ≤ n) : tu x1 ((y2 + n : Nat) : Int) x2 y2 x ((y2 + k : Nat) : Int) = ((x * n : Nat) : Int) - ((zU x2 x1 n k : Nat) : Int) := by
  obtain ⟨j, rfl⟩ : ∃ j, n = k + j := ⟨n - k, by omega⟩
  unfold tu zU
  rw [show k + j - k = j by omega]
  push_cast
  grind
theorem rowU {x1 y1 x2 n : Nat} (h1 : x1 < 13) (h2 : x2 < 13) (hn : 0 < n) (y : Nat) : gsm (fun x => wt x1 y1 x2 ((y1 + n : Nat) : Int) x y) 13 = (if y = y1 then 1 else 0) + ((if y = y1 + n then (x2 : Int) else 0) + (if y1 < y ∧ y < y1 + n then (fun k => ((zU x1 x2 n k / n + 1 : Nat) : Int)) (y - y1) else 0)) := by
  have hup : ky x1 y1 < ky x2 ((y1 + n : Nat) : Int) := by unfold ky; omega
  by_cases c : y1 ≤ y ∧ y ≤ y1 + n
  · obtain ⟨k, rfl⟩ : ∃ k, y = y1 + k := ⟨y - y1, by omega⟩
    have hk : k ≤ n := by omega
    have hz := zU_le h1 h2 hk hn
    have e : ∀ x : Nat, x < 13 → wt x1 y1 x2 ((y1 + n : Nat) : Int) x ((y1 + k : Nat) : Int) = if (if k = 0 then (x1 : Int) else 0) ≤ (x : Int) ∧ (x : Int) ≤ (if k = n then min ((zU x1 x2 n k / n : Nat) : Int) ((x2 : Int) - 1) else ((zU x1 x2 n k / n : Nat) : Int)) then 1 else 0 := fun x hx => by
      unfold wt
      rw [if_pos hup, tuU hk]
      have d := Nat.le_div_iff_mul_le (x := x) (y := zU x1 x2 n k) hn
      have : (ky x1 y1 ≤ ky x ((y1 + k : Nat) : Int) ∧ ky x ((y1 + k : Nat) : Int) < ky x2 ((y1 + n : Nat) : Int) ∧ 0 ≤ ((zU x1 x2 n k : Nat) : Int) - ((x * n : Nat) : Int)) ↔ ((if k = 0 then (x1 : Int) else 0) ≤ (x : Int) ∧ (x : Int) ≤ (if k = n then min ((zU x1 x2 n k / n : Nat) : Int) ((x2 : Int) - 1) else ((zU x1 x2 n k / n : Nat) : Int))) := by
        unfold ky
        generalize zU x1 x2 n k / n = Q at *
        generalize zU x1 x2 n k = Z at *
        generalize x * n = P at *
        split <;> split <;> omega
      by_cases q : ky x1 y1 ≤ ky x ((y1 + k : Nat) : Int) ∧ ky x ((y1 + k : Nat) : Int) < ky x2 ((y1 + n : Nat) : Int) ∧ 0 ≤ ((zU x1 x2 n k : Nat) : Int) - ((x * n : Nat) : Int)
      · rw [if_pos q, if_pos (this.mp q)]
      · rw [if_neg q, if_neg (fun z => q (this.mpr z))]
    rw [gsm_cg 13 e, gsm_cnt]
    have z0 : k = 0 → zU x1 x2 n k / n = x1 := fun q => by subst q; unfold zU; rw [Nat.sub_zero, Nat.mul_zero, Nat.add_zero, Nat.mul_div_cancel _ hn]
    have zn : k = n → zU x1 x2 n k / n = x2 := fun q => by subst q; unfold zU; rw [Nat.sub_self, Nat.mul_zero, Nat.zero_add, Nat.mul_div_cancel _ hn]
    rw [show y1 + k - y1 = k by omega]
    dsimp only
    generalize zU x1 x2 n k / n = Q at *
    by_cases k0 : k = 0
    · have := z0 k0
      rw [if_pos k0, if_neg (by omega), if_pos (by omega), if_neg (by omega), if_neg (by omega)]; omega
    · by_cases kn : k = n
      · have := zn kn
        rw [if_neg k0, if_pos kn, if_neg (by omega), if_pos (by omega), if_neg (by omega)]; omega
      · rw [if_neg k0, if_neg kn, if_neg (by omega), if_neg (by omega), if_pos (by omega)]; omega
  · rw [if_neg (by omega), if_neg (by omega), if_neg (by omega)]
    refine (gsm_cg 13 (fun x hx => ?_)).trans (gsm_zero 13)
    unfold wt
    rw [if_pos hup, if_neg (fun q => by unfold ky at q; omega)]
theorem wtU {x1 y1 x2 n : Nat} (h1 : x1 < 13) (h2 : x2 < 13) (hy : y1 + n < 13) (hn : 0 < n) : 2 * gg (fun x y => wt x1 y1 x2 ((y1 + n : Nat) : Int) x y) = (n : Int) * ((x1 : Int) + x2) + ((x2 : Int) - x1) + n + (Nat.gcd ((x2 - x1) + (x1 - x2)) n : Int) := by
  have e : gg (fun x y => wt x1 y1 x2 ((y1 + n : Nat) : Int) x y) = 1 + (x2 + ((suU x1 x2 n (n - 1) : Nat) : Int)) := by
    unfold gg
    rw [gsm_swap, gsm_cg 13 (fun y _ => rowU h1 h2 hn y), gsm_add, gsm_add]
    rw [gsm_one (i := y1) 13 (fun k _ hk => if_neg hk), if_pos (by omega), if_pos rfl, gsm_one (i := y1 + n) 13 (fun k _ hk => if_neg hk), if_pos (by omega), if_pos rfl]
    have w := gsm_win (fun k => ((zU x1 x2 n k / n + 1 : Nat) : Int)) y1 n (12 - y1)
    rw [show y1 + 1 + (12 - y1) = 13 by omega, show min (12 - y1) (n - 1) = n - 1 by omega] at w
    rw [w]
    have su : ∀ j, gsm (fun k => ((zU x1 x2 n (k + 1) / n + 1 : Nat) : Int)) j = ((suU x1 x2 n j : Nat) : Int) := fun j => by
      induction j with
      | zero => rfl
      | succ j ih => rw [gsm, ih, suU]; unfold zU; omega
    rw [su]
  have f := fsU x1 h1 x2 h2 n (by omega) hn
  rw [e]
  have f2 : ((2 * suU x1 x2 n (n - 1) + 2 + x2 + x1 : Nat) : Int) = ((n * (x1 + x2) + n + Nat.gcd ((x2 - x1) + (x1 - x2)) n : Nat) : Int) := by rw [f]
  push_cast at f2
  omega
theorem rowD {x1 y2 x2 n : Nat} (h1 : x1 < 13) (h2 : x2 < 13) (hn : 0 < n) (y : Nat) : gsm (fun x => wt x1 ((y2 + n : Nat) : Int) x2 y2 x y) 13 = -((if y = y2 + n then (x1 : Int) else 0) + (if y2 < y ∧ y < y2 + n then (fun k => (((zU x2 x1 n k + (n - 1)) / n : Nat) : Int)) (y - y2) else 0)) := by
  have hdn : ¬ ky x1 ((y2 + n : Nat) : Int) < ky x2 y2 := by unfold ky; omega
  by_cases c : y2 ≤ y ∧ y ≤ y2 + n
  · obtain ⟨k, rfl⟩ : ∃ k, y = y2 + k := ⟨y - y2, by omega⟩
    have hk : k ≤ n := by omega
    have hz : (zU x2 x1 n k + (n - 1)) / n ≤ 12 := by
      have a1 : x2 * (n - k) ≤ 12 * (n - k) := Nat.mul_le_mul_right _ (by omega)
      have a2 : x1 * k ≤ 12 * k := Nat.mul_le_mul_right _ (by omega)
      have : (zU x2 x1 n k + (n - 1)) / n < 13 := by
        rw [Nat.div_lt_iff_lt_mul hn]
        unfold zU; omega
      omega
    have e : ∀ x : Nat, x < 13 → wt x1 ((y2 + n : Nat) : Int) x2 y2 x ((y2 + k : Nat) : Int) = -(if (if k = 0 then (x2 : Int) else 0) ≤ (x : Int) ∧ (x : Int) ≤ (if k = n then min ((((zU x2 x1 n k + (n - 1)) / n : Nat) : Int) - 1) ((x1 : Int) - 1) else (((zU x2 x1 n k + (n - 1)) / n : Nat) : Int) - 1) then 1 else 0) := fun x hx => by
      unfold wt
      rw [if_neg hdn, tuD hk]
      have d := Nat.le_div_iff_mul_le (x := x + 1) (y := zU x2 x1 n k + (n - 1)) hn
      rw [Nat.add_mul, Nat.one_mul] at d
      have : (ky x2 y2 ≤ ky x ((y2 + k : Nat) : Int) ∧ ky x ((y2 + k : Nat) : Int) < ky x1 ((y2 + n : Nat) : Int) ∧ ((x * n : Nat) : Int) - ((zU x2 x1 n k : Nat) : Int) < 0) ↔ ((if k = 0 then (x2 : Int) else 0) ≤ (x : Int) ∧ (x : Int) ≤ (if k = n then min ((((zU x2 x1 n k + (n - 1)) / n : Nat) : Int) - 1) ((x1 : Int) - 1) else (((zU x2 x1 n k + (n - 1)) / n : Nat) : Int) - 1)) := by
        unfold ky
        generalize (zU x2 x1 n k + (n - 1)) / n = Q at *
        generalize zU x2 x1 n k = Z at *
        generalize x * n = P at *
        split <;> split <;> omega
      by_cases q : ky x2 y2 ≤ ky x ((y2 + k : Nat) : Int) ∧ ky x ((y2 + k : Nat) : Int) < ky x1 ((y2 + n : Nat) : Int) ∧ ((x * n : Nat) : Int) - ((zU x2 x1 n k : Nat) : Int) < 0
      · rw [if_pos q, if_pos (this.mp q)]
      · rw [if_neg q, if_neg (fun z => q (this.mpr z))]; rfl
    rw [gsm_cg 13 e, gsm_neg, gsm_cnt]
    have z0 : k = 0 → (zU x2 x1 n k + (n - 1)) / n = x2 := fun q => by
      subst q; unfold zU
      rw [Nat.sub_zero, Nat.mul_zero, Nat.add_zero, Nat.add_comm, Nat.add_mul_div_right _ _ hn, Nat.div_eq_of_lt (by omega), Nat.zero_add]
    have zn : k = n → (zU x2 x1 n k + (n - 1)) / n = x1 := fun q => by
      subst q; unfold zU
      rw [Nat.sub_self, Nat.mul_zero, Nat.zero_add, Nat.add_comm, Nat.add_mul_div_right _ _ hn, Nat.div_eq_of_lt (by omega), Nat.zero_add]
    rw [show y2 + k - y2 = k by omega]
    dsimp only
    generalize (zU x2 x1 n k + (n - 1)) / n = Q at *
    by_cases k0 : k = 0
    · have := z0 k0
      rw [if_pos k0, if_neg (by omega), if_neg (by omega), if_neg (by omega)]; omega
    · by_cases kn : k = n
      · have := zn kn
        rw [if_neg k0, if_pos kn, if_pos (by omega), if_neg (by omega)]; omega
      · rw [if_neg k0, if_neg kn, if_neg (by omega), if_pos (by omega)]; omega
  · rw [if_neg (by omega), if_neg (by omega)]
    refine (gsm_cg 13 (fun x hx => ?_)).trans (gsm_zero 13)
    unfold wt
    rw [if_neg hdn, if_neg (fun q => by unfold ky at q; omega)]
theorem wtD {x1 y2 x2 n : Nat} (h1 : x1 < 13) (h2 : x2 < 13) (hy : y2 + n < 13) (hn : 0 < n) : 2 * gg (fun x y => wt x1 ((y2 + n : Nat) : Int) x2 y2 x y) = -((n : Int) * ((x1 : Int) + x2)) + ((x2 : Int) - x1) - n + (Nat.gcd ((x2 - x1) + (x1 - x2)) n : Int) := by
  have e : gg (fun x y => wt x1 ((y2 + n : Nat) : Int) x2 y2 x y) = -(x1 + ((suD x2 x1 n (n - 1) : Nat) : Int)) := by
    unfold gg
    rw [gsm_swap, gsm_cg 13 (fun y _ => rowD h1 h2 hn y), gsm_neg, gsm_add]
    rw [gsm_one (i := y2 + n) 13 (fun k _ hk => if_neg hk), if_pos (by omega), if_pos rfl]
    have w := gsm_win (fun k => (((zU x2 x1 n k + (n - 1)) / n : Nat) : Int)) y2 n (12 - y2)
    rw [show y2 + 1 + (12 - y2) = 13 by omega, show min (12 - y2) (n - 1) = n - 1 by omega] at w
    rw [w]
    have su : ∀ j, gsm (fun k => (((zU x2 x1 n (k + 1) + (n - 1)) / n : Nat) : Int)) j = ((suD x2 x1 n j : Nat) : Int) := fun j => by
      induction j with
      | zero => rfl
      | succ j ih => rw [gsm, ih, suD]; unfold zU; omega
    rw [su]
  have f := fsD x2 h2 x1 h1 n (by omega) hn
  rw [e]
  have f2 : ((2 * suD x2 x1 n (n - 1) + x2 + x1 + Nat.gcd ((x1 - x2) + (x2 - x1)) n : Nat) : Int) = ((n * (x2 + x1) + n : Nat) : Int) := by rw [f]
  rw [show (x1 - x2) + (x2 - x1) = (x2 - x1) + (x1 - x2) by omega, show x2 + x1 = x1 + x2 by omega] at f2
  push_cast at f2
  omega
theorem wtH {x1 y1 x2 : Nat} (h1 : x1 < 13) (h2 : x2 < 13) (hy : y1 < 13) (hne : x1 ≠ x2) : 2 * gg (fun x y => wt x1 y1 x2 y1 x y) = ((x2 : Int) - x1) + (Nat.gcd ((x2 - x1) + (x1 - x2)) 0 : Int) := by
  have row : ∀ y : Nat, gsm (fun x => wt x1 y1 x2 y1 x y) 13 = if y = y1 then max 0 ((x2 : Int) - x1) else 0 := fun y => by
    by_cases c : y = y1
    · subst c
      rw [if_pos rfl]
      have e : ∀ x : Nat, x < 13 → wt x1 y x2 y x y = if (x1 : Int) ≤ (x : Int) ∧ (x : Int) ≤ (x2 : Int) - 1 then 1 else 0 := fun x hx => by
        have t0 : tu x1 y x2 y x y = 0 := by unfold tu; grind
        unfold wt
        rw [t0]
        unfold ky
        split
        · split <;> split <;> first | rfl | (exfalso; omega)
        · rw [if_neg (by omega), if_neg (by omega)]
      rw [gsm_cg 13 e, gsm_cnt]
      omega
    · rw [if_neg c]
      refine (gsm_cg 13 (fun x hx => ?_)).trans (gsm_zero 13)
      unfold wt ky
      split
      · rw [if_neg (by omega)]
      · rw [if_neg (by omega)]
  unfold gg
  rw [gsm_swap, gsm_cg 13 (fun y _ => row y), gsm_one (i := y1) 13 (fun k _ hk => if_neg hk), if_pos hy, if_pos rfl, Nat.gcd_zero_right]
  omega
theorem gc_abs {x1 x2 : Nat} : ((x2 : Int) - x1).natAbs = (x2 - x1) + (x1 - x2) := by omega
/-- an edge's part of the count -/
theorem wt_edge {x1 y1 x2 y2 : Int} (h1 : (0 ≤ x1 ∧ x1 ≤ 12) ∧ (0 ≤ y1 ∧ y1 ≤ 12)) (h2 : (0 ≤ x2 ∧ x2 ≤ 12) ∧ (0 ≤ y2 ∧ y2 ≤ 12)) (hne : ¬ (x1 = x2 ∧ y1 = y2)) : 2 * gg (fun x y => wt x1 y1 x2 y2 x y) = (y2 - y1) * (x1 + x2) + (x2 - x1) + (y2 - y1) + (Nat.gcd (x2 - x1).natAbs (y2 - y1).natAbs : Int) := by
  obtain ⟨a1, rfl⟩ : ∃ n : Nat, x1 = (n : Int) := ⟨x1.toNat, by omega⟩
  obtain ⟨b1, rfl⟩ : ∃ n : Nat, y1 = (n : Int) := ⟨y1.toNat, by omega⟩
  obtain ⟨a2, rfl⟩ : ∃ n : Nat, x2 = (n : Int) := ⟨x2.toNat, by omega⟩
  obtain ⟨b2, rfl⟩ : ∃ n : Nat, y2 = (n : Int) := ⟨y2.toNat, by omega⟩
  rw [gc_abs]
  rcases Nat.lt_trichotomy b1 b2 with q | q | q
  · obtain ⟨n, rfl⟩ : ∃ n, b2 = b1 + n := ⟨b2 - b1, by omega⟩
    rw [wtU (by omega) (by omega) (by omega) (by omega), show (((b1 + n : Nat) : Int) - (b1 : Int)) = (n : Int) by omega, show ((n : Nat) : Int).natAbs = n from rfl]
  · subst q
    rw [wtH (by omega) (by omega) (by omega) (by omega), Int.sub_self, Int.zero_mul, show (0 : Int).natAbs = 0 from rfl]; omega
  · obtain ⟨n, rfl⟩ : ∃ n, b1 = b2 + n := ⟨b1 - b2, by omega⟩
    rw [wtD (by omega) (by omega) (by omega) (by omega), show ((b2 : Int) - ((b2 + n : Nat) : Int)) = -(n : Int) by omega, show (-((n : Nat) : Int)).natAbs = n by omega, Int.neg_mul]; omega
/-! the points on an edge -/
theorem rowS {x1 x2 n k : Nat} (h1 : x1 < 13) (h2 : x2 < 13) (hk : k ≤ n) (hn : 0 < n) : gsm (fun x => if ((zU x1 x2 n k : Nat) : Int) - ((x * n : Nat) : Int) = 0 then 1 else 0) 13 = if zU x1 x2 n k % n = 0 then 1 else 0 := by
  have hz := zU_le h1 h2 hk hn
  have dm := Nat.div_add_mod (zU x1 x2 n k) n
  by_cases c : zU x1 x2 n k % n = 0
  · rw [if_pos c]
    have e : ∀ x : Nat, x < 13 → (if ((zU x1 x2 n k : Nat) : Int) - ((x * n : Nat) : Int) = 0 then (1 : Int) else 0) = if ((zU x1 x2 n k / n : Nat) : Int) ≤ (x : Int) ∧ (x : Int) ≤ ((zU x1 x2 n k / n : Nat) : Int) then 1 else 0 := fun x hx => by
      have : (((zU x1 x2 n k : Nat) : Int) - ((x * n : Nat) : Int) = 0) ↔ (((zU x1 x2 n k / n : Nat) : Int) ≤ (x : Int) ∧ (x : Int) ≤ ((zU x1 x2 n k / n : Nat) : Int)) := by
        constructor
        · intro q
          have q : zU x1 x2 n k = x * n := by omega
          rw [q, Nat.mul_div_cancel _ hn]; omega
        · intro q
          have q : zU x1 x2 n k / n = x := by omega
          rw [c, Nat.add_zero, q, Nat.mul_comm] at dm
          omega
      by_cases q : ((zU x1 x2 n k : Nat) : Int) - ((x * n : Nat) : Int) = 0
      · rw [if_pos q, if_pos (this.mp q)]
      · rw [if_neg q, if_neg (fun z => q (this.mpr z))]
    rw [gsm_cg 13 e, gsm_cnt]
    generalize zU x1 x2 n k / n = Q at *
    omega
  · rw [if_neg c]
    refine (gsm_cg 13 (fun x hx => ?_)).trans (gsm_zero 13)
    rw [if_neg (fun q => c ?_)]
    have q : zU x1 x2 n k = x * n := by omega
    rw [q, Nat.mul_mod_left]
theorem sgV {x1 y1 x2 n : Nat} (h1 : x1 < 13) (h2 : x2 < 13) (hn : 0 < n) (f : Nat → Nat → Int) (hf : ∀ x k : Nat, x < 13 → k ≤ n → f x (y1 + k) = if ((zU x1 x2 n k : Nat) : Int) - ((x * n : Nat) : Int) = 0 ∧ k < n then 1 else 0) (hf2 : ∀ x y, x < 13 → y < 13 → ¬ (y1 ≤ y ∧ y ≤ y1 + n) → f x y = 0) (hy : y1 + n < 13) : gsm (fun x => gsm (fun y => f x y) 13) 13 = (Nat.gcd ((x2 - x1) + (x1 - x2)) n : Int) := by
  have row : ∀ y : Nat, y < 13 → gsm (fun x => f x y) 13 = (if y = y1 then 1 else 0) + (if y1 < y ∧ y < y1 + n then (fun k => if zU x1 x2 n k % n = 0 then (1 : Int) else 0) (y - y1) else 0)   := fun y hy13 => by
    by_cases c : y1 ≤ y ∧ y ≤ y1 + n
    · obtain ⟨k, rfl⟩ : ∃ k, y = y1 + k := ⟨y - y1, by omega⟩
      rw [gsm_cg 13 (fun x hx => hf x k hx (by omega)), show y1 + k - y1 = k by omega]
      by_cases kn : k < n
      · have := rowS h1 h2 (show k ≤ n by omega) hn
        rw [gsm_cg 13 (fun x hx => show (if ((zU x1 x2 n k : Nat) : Int) - ((x * n : Nat) : Int) = 0 ∧ k < n then (1 : Int) else 0) = if ((zU x1 x2 n k : Nat) : Int) - ((x * n : Nat) : Int) = 0 then 1 else 0 by split <;> split <;> first | rfl | (exfalso; omega)), this]
        by_cases k0 : k = 0
        · subst k0
          rw [if_pos (show zU x1 x2 n 0 % n = 0 by unfold zU; rw [Nat.sub_zero, Nat.mul_zero, Nat.add_zero, Nat.mul_mod_left]), if_pos (show y1 + 0 = y1 from rfl), if_neg (by omega)]; rfl
        · rw [if_neg (show ¬ y1 + k = y1 by omega), if_pos (show y1 < y1 + k ∧ y1 + k < y1 + n by omega)]; exact (Int.zero_add _).symm
      · rw [if_neg (by omega), if_neg (by omega)]
        exact (gsm_cg 13 (fun x hx => if_neg (fun q => kn q.2))).trans (gsm_zero 13)
    · rw [if_neg (by omega), if_neg (by omega)]
      exact (gsm_cg 13 (fun x hx => hf2 x y hx hy13 c)).trans (gsm_zero 13)
  rw [gsm_swap, gsm_cg 13 (fun y hy => row y hy), gsm_add, gsm_one (i := y1) 13 (fun k _ hk => if_neg hk), if_pos (by omega), if_pos rfl]
  have w := gsm_win (fun k => if zU x1 x2 n k % n = 0 then (1 : Int) else 0) y1 n (12 - y1)
  rw [show y1 + 1 + (12 - y1) = 13 by omega, show min (12 - y1) (n - 1) = n - 1 by omega] at w
  rw [w]
  have su : ∀ j, gsm (fun k => if zU x1 x2 n (k + 1) % n = 0 then (1 : Int) else 0) j = ((suS x1 x2 n j : Nat) : Int) := fun j => by
    induction j with
    | zero => rfl
    | succ j ih => rw [gsm, ih, suS]; unfold zU; split <;> omega
  rw [su]
  have f := fsS x1 h1 x2 h2 n (by omega) hn
  omega

theorem sg_edge {x1 y1 x2 y2 : Int} (h1 : (0 ≤ x1 ∧ x1 ≤ 12) ∧ (0 ≤ y1 ∧ y1 ≤ 12)) (h2 : (0 ≤ x2 ∧ x2 ≤ 12) ∧ (0 ≤ y2 ∧ y2 ≤ 12)) (hne : ¬ (x1 = x2 ∧ y1 = y2)) : gg (fun x y => sg x1 y1 x2 y2 x y) = (Nat.gcd (x2 - x1).natAbs (y2 - y1).natAbs : Int) := by
  obtain ⟨a1, rfl⟩ : ∃ n : Nat, x1 = (n : Int) := ⟨x1.toNat, by omega⟩
  obtain ⟨b1, rfl⟩ : ∃ n : Nat, y1 = (n : Int) := ⟨y1.toNat, by omega⟩
  obtain ⟨a2, rfl⟩ : ∃ n : Nat, x2 = (n : Int) := ⟨x2.toNat, by omega⟩
  obtain ⟨b2, rfl⟩ : ∃ n : Nat, y2 = (n : Int) := ⟨y2.toNat, by omega⟩
  rw [gc_abs]
  rcases Nat.lt_trichotomy b1 b2 with q | q | q
  · obtain ⟨n, rfl⟩ : ∃ n, b2 = b1 + n := ⟨b2 - b1, by omega⟩
    rw [show (((b1 + n : Nat) : Int) - (b1 : Int)) = (n : Int) by omega, show ((n : Nat) : Int).natAbs = n from rfl]
    refine sgV (x1 := a1) (y1 := b1) (x2 := a2) (n := n) (by omega) (by omega) (by omega) (fun x y => sg a1 b1 a2 ((b1 + n : Nat) : Int) x y) (fun x k hx hk => ?_) (fun x y hx hy hc => ?_) (by omega)
    · unfold sg
      rw [tuU hk]
      have d0 : k = n → ((zU a1 a2 n k : Nat) : Int) - ((x * n : Nat) : Int) = 0 → x = a2 := fun z1 z2 => by
        subst z1
        have z3 : zU a1 a2 k k = a2 * k := by unfold zU; rw [Nat.sub_self, Nat.mul_zero, Nat.zero_add]
        exact Nat.eq_of_mul_eq_mul_right (show 0 < k by omega) (by omega)
      have d1 : k = 0 → ((zU a1 a2 n k : Nat) : Int) - ((x * n : Nat) : Int) = 0 → x = a1 := fun z1 z2 => by
        subst z1
        have z3 : zU a1 a2 n 0 = a1 * n := by unfold zU; rw [Nat.sub_zero, Nat.mul_zero, Nat.add_zero]
        exact Nat.eq_of_mul_eq_mul_right (show 0 < n by omega) (by omega)
      unfold ky
      generalize ((zU a1 a2 n k : Nat) : Int) - ((x * n : Nat) : Int) = t at *
      split <;> split <;> first | rfl | (exfalso; omega)
    · unfold sg ky
      rw [if_neg (by omega)]
  · subst q
    have row : ∀ y : Nat, gsm (fun x => sg a1 b1 a2 b1 x y) 13 = if y = b1 then (((a2 - a1) + (a1 - a2) : Nat) : Int) else 0 := fun y => by
      by_cases c : y = b1
      · subst c
        rw [if_pos rfl]
        by_cases lr : a1 < a2
        · have e : ∀ x : Nat, x < 13 → sg a1 y a2 y x y = if (a1 : Int) ≤ (x : Int) ∧ (x : Int) ≤ (a2 : Int) - 1 then 1 else 0 := fun x hx => by
            have t0 : tu a1 y a2 y x y = 0 := by unfold tu; grind
            unfold sg ky
            rw [t0]
            split <;> split <;> first | rfl | (exfalso; omega)
          rw [gsm_cg 13 e, gsm_cnt]; omega
        · have e : ∀ x : Nat, x < 13 → sg a1 y a2 y x y = if (a2 : Int) + 1 ≤ (x : Int) ∧ (x : Int) ≤ (a1 : Int) then 1 else 0 := fun x hx => by
            have t0 : tu a1 y a2 y x y = 0 := by unfold tu; grind
            unfold sg ky
            rw [t0]
            split <;> split <;> first | rfl | (exfalso; omega)
          rw [gsm_cg 13 e, gsm_cnt]; omega
      · rw [if_neg c]
        refine (gsm_cg 13 (fun x hx => ?_)).trans (gsm_zero 13)
        unfold sg ky
        rw [if_neg (by omega)]
    unfold gg
    rw [gsm_swap, gsm_cg 13 (fun y _ => row y), gsm_one (i := b1) 13 (fun k _ hk => if_neg hk), if_pos (by omega), if_pos rfl, Int.sub_self, show (0 : Int).natAbs = 0 from rfl, Nat.gcd_zero_right]
  · obtain ⟨n, rfl⟩ : ∃ n, b1 = b2 + n := ⟨b1 - b2, by omega⟩
    rw [show ((b2 : Int) - ((b2 + n : Nat) : Int)) = -(n : Int) by omega, show (-((n : Nat) : Int)).natAbs = n by omega, show (a2 - a1) + (a1 - a2) = (a1 - a2) + (a2 - a1) by omega]
    have tot : ∀ g : Nat → Nat → Int, gsm (fun x => gsm (fun y => g x y) 13) 13 = gsm (fun x => gsm (fun y => g x (12 - y)) 13) 13 := fun g => gsm_cg 13 (fun x _ => gsm_rev (fun y => g x y))
    unfold gg
    rw [tot]
    refine sgV (x1 := a1) (y1 := 12 - (b2 + n)) (x2 := a2) (n := n) (by omega) (by omega) (by omega) (fun x y => sg a1 ((b2 + n : Nat) : Int) a2 b2 x ((12 - y : Nat) : Int)) (fun x k hx hk => ?_) (fun x y hx hy hc => ?_) (by omega) |>.trans ?_
    · rw [show 12 - (12 - (b2 + n) + k) = b2 + (n - k) by omega]
      unfold sg
      rw [tuD (show n - k ≤ n by omega), show zU a2 a1 n (n - k) = zU a1 a2 n k by unfold zU; rw [show n - (n - k) = k by omega]; omega]
      have d0 : k = n → ((zU a1 a2 n k : Nat) : Int) - ((x * n : Nat) : Int) = 0 → x = a2 := fun z1 z2 => by
        subst z1
        have z3 : zU a1 a2 k k = a2 * k := by unfold zU; rw [Nat.sub_self, Nat.mul_zero, Nat.zero_add]
        exact Nat.eq_of_mul_eq_mul_right (show 0 < k by omega) (by omega)
      have d1 : k = 0 → ((zU a1 a2 n k : Nat) : Int) - ((x * n : Nat) : Int) = 0 → x = a1 := fun z1 z2 => by
        subst z1
        have z3 : zU a1 a2 n 0 = a1 * n := by unfold zU; rw [Nat.sub_zero, Nat.mul_zero, Nat.add_zero]
        exact Nat.eq_of_mul_eq_mul_right (show 0 < n by omega) (by omega)
      unfold ky
      generalize ((zU a1 a2 n k : Nat) : Int) = Z at *
      generalize ((x * n : Nat) : Int) = P at *
      split <;> split <;> first | rfl | (exfalso; omega)
    · unfold sg ky
      rw [if_neg (by omega)]
    · rw [show (a2 - a1) + (a1 - a2) = (a1 - a2) + (a2 - a1) by omega]
