/-! Points in the plane: turns, chains, hulls -/
def tn (px py : Nat → Int) (i j k : Nat) : Int := (px j - px i) * (py k - py i) - (py j - py i) * (px k - px i)
def kp (px py : Nat → Int) (A B : Int) (i : Nat) : Int := A * px i + B * py i
theorem ps_r {a t : Int} (h : 0 < a) (h2 : 0 ≤ a * t) : 0 ≤ t := by
  rcases Int.lt_or_ge t 0 with q | q
  · have := Int.mul_neg_of_pos_of_neg h q
    omega
  · exact q
theorem ps_a {a b c d : Int} (h1 : 0 ≤ a) (h2 : 0 ≤ b) (h3 : 0 ≤ c) (h4 : 0 ≤ d) : 0 ≤ a * b + c * d := by
  have := Int.mul_nonneg h1 h2
  have := Int.mul_nonneg h3 h4
  omega
section TN
variable (px py : Nat → Int) (A B : Int)
theorem tn_sw (i j k : Nat) : tn px py i j k = -tn px py i k j := by unfold tn; grind
theorem tn_ro (i j k : Nat) : tn px py i j k = tn px py j k i := by unfold tn; grind
theorem tn_ii (i j : Nat) : tn px py i j j = 0 := by unfold tn; grind
theorem tn_ij (i j : Nat) : tn px py i j i = 0 := by unfold tn; grind
theorem tn_1 (s t i j : Nat) : (kp px py A B i - kp px py A B t) * tn px py s i j = (kp px py A B i - kp px py A B j) * tn px py s i t + (kp px py A B i - kp px py A B s) * tn px py t i j := by unfold tn kp; grind
theorem tn_2 (s t i j : Nat) : (kp px py A B t - kp px py A B s) * tn px py s i j = (kp px py A B i - kp px py A B s) * tn px py s t j + (kp px py A B j - kp px py A B s) * tn px py s i t := by unfold tn kp; grind
theorem tn_3 (q s t i : Nat) : (kp px py A B t - kp px py A B s) * tn px py q s i = (kp px py A B i - kp px py A B s) * tn px py q s t + (kp px py A B s - kp px py A B q) * tn px py s t i := by unfold tn kp; grind
theorem tn_4 (s t i j : Nat) : (kp px py A B t - kp px py A B s) * tn px py t i j = (kp px py A B i - kp px py A B t) * tn px py s t j + (kp px py A B t - kp px py A B j) * tn px py s t i := by unfold tn kp; grind
end TN
