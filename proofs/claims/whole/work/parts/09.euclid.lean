theorem emod_bd (x : Int) {y : Int} (h : 0 < y) : 0 ≤ x % y ∧ x % y < y := ⟨Int.emod_nonneg x (by omega), Int.emod_lt_of_pos x h⟩
/-! Euclid -/
theorem euc_half {g l : Int} {e : Nat} (h0 : 0 < l) (h1 : l ≤ g) (h : g * l < 2 ^ (e + 1)) : l * (g % l) < 2 ^ e := by
  have a1 := Int.emod_nonneg g (show l ≠ 0 by omega)
  have a2 := Int.emod_lt_of_pos g h0
  have a3 := Int.mul_ediv_add_emod g l
  have a4 : 1 ≤ g / l := by
    have := Int.le_ediv_of_mul_le h0 (show 1 * l ≤ g by omega)
    exact this
  have a5 : l * 1 ≤ l * (g / l) := Int.mul_le_mul_of_nonneg_left a4 (by omega)
  have a6 : 2 * (g % l) ≤ g := by omega
  have a7 : l * (2 * (g % l)) ≤ l * g := Int.mul_le_mul_of_nonneg_left a6 (by omega)
  have e1 : l * (2 * (g % l)) = 2 * (l * (g % l)) := by rw [← Int.mul_assoc, Int.mul_comm l 2, Int.mul_assoc]
  have e2 : l * g = g * l := Int.mul_comm _ _
  have e3 : (2 : Int) ^ (e + 1) = 2 * 2 ^ e := by rw [Int.pow_succ, Int.mul_comm]
  rw [e1, e2] at a7
  rw [e3] at h
  omega
theorem euc_keep {g l B : Int} (h0 : 0 < l) (hg : 0 ≤ g) (h : g * l < B) : l * (g % l) < B := by
  have a1 : g % l ≤ g := by
    have a3 := Int.mul_ediv_add_emod g l
    have a4 : 0 ≤ g / l := Int.ediv_nonneg hg (by omega)
    have a5 : 0 ≤ l * (g / l) := Int.mul_nonneg (by omega) a4
    omega
  have a7 : l * (g % l) ≤ l * g := Int.mul_le_mul_of_nonneg_left a1 (by omega)
  have e2 : l * g = g * l := Int.mul_comm _ _
  omega
theorem euc_end {g l : Int} {e : Nat} (h0 : 0 < l) (h1 : l ≤ g) (h : g * l < 2 ^ e) : 1 ≤ e := by
  cases e with
  | zero =>
    have : l * l ≤ g * l := Int.mul_le_mul_of_nonneg_right h1 (by omega)
    have h2 : 1 * 1 ≤ l * l := Int.mul_le_mul (by omega) (by omega) (by omega) (by omega)
    simp at h
    omega
  | succ e => omega
theorem gcd_step (g l : Int) : Int.gcd l (g % l) = Int.gcd g l := by
  rw [Int.emod_def, Int.gcd_sub_mul_left_right, Int.gcd_comm]
theorem prod_lt {a b A B C : Int} (h1 : 0 ≤ a) (h2 : a ≤ A) (h3 : 0 ≤ b) (h4 : b ≤ B) (e : A * B < C) : a * b < C := by
  have := Int.mul_le_mul h2 h4 h3 (by omega)
  omega
/-- the rest by m that makes 1 together with a -/
def IsInv (a m x : Int) : Prop := 0 ≤ x ∧ x < m ∧ (a * x) % m = 1
theorem IsInv.one {a m x y : Int} (hx : IsInv a m x) (hy : IsInv a m y) : x = y := by
  obtain ⟨x0, x1, x2⟩ := hx
  obtain ⟨y0, y1, y2⟩ := hy
  have e1 : (x * (a * y)) % m = x := by
    rw [Int.mul_emod, y2, Int.mul_one, Int.emod_emod_of_dvd _ (Int.dvd_refl m), Int.emod_eq_of_lt x0 x1]
  have e2 : (y * (a * x)) % m = y := by
    rw [Int.mul_emod, x2, Int.mul_one, Int.emod_emod_of_dvd _ (Int.dvd_refl m), Int.emod_eq_of_lt y0 y1]
  have e3 : x * (a * y) = y * (a * x) := by
    rw [← Int.mul_assoc, ← Int.mul_assoc, Int.mul_comm x a, Int.mul_comm y a, Int.mul_assoc, Int.mul_assoc, Int.mul_comm x y]
  rw [← e1, e3, e2]
theorem IsInv.of {a m t d : Int} (hm : 2 ≤ m) (hd : d = 1) (h : (a * t) % m = d % m) : IsInv a m (t % m) := by
  refine ⟨Int.emod_nonneg t (by omega), Int.emod_lt_of_pos t (by omega), ?_⟩
  rw [Int.mul_emod, Int.emod_emod_of_dvd _ (Int.dvd_refl m), ← Int.mul_emod, h, hd]
  exact Int.emod_eq_of_lt (by omega) (by omega)
theorem emod_sub_mul {a t1 t2 q x y m : Int} (h1 : (a * t1) % m = x % m) (h2 : (a * t2) % m = y % m) : (a * (t1 - q * t2)) % m = (x - q * y) % m := by
  have e : a * (t1 - q * t2) = a * t1 - q * (a * t2) := by
    rw [Int.mul_sub, ← Int.mul_assoc, ← Int.mul_assoc, Int.mul_comm a q]
  rw [e, Int.sub_emod, h1, Int.mul_emod q, h2, ← Int.mul_emod, ← Int.sub_emod]
/-- primes up to 97, as both sides look for them -/
def Prm (p : Int) : Prop := 2 ≤ p ∧ p ≤ 97 ∧ ∀ d : Int, 2 ≤ d → d * d ≤ p → p % d ≠ 0
theorem inv_sg (sg u v q : Int) : -(sg * u) - q * (sg * v) = -sg * (u + q * v) := by
  rw [Int.neg_mul, Int.mul_add, ← Int.mul_assoc q, Int.mul_comm q sg, Int.mul_assoc]; omega
theorem inv_sum {g l u v m : Int} (h : g * v + l * u = m) : l * (u + g / l * v) + g % l * v = m := by
  have a3 := Int.mul_ediv_add_emod g l
  rw [Int.mul_add, ← Int.mul_assoc, ← h]
  have e : g * v = (l * (g / l) + g % l) * v := by rw [a3]
  rw [e, Int.add_mul]; omega
