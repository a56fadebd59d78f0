/-! what is MADE of rows: the laws and the starts, as functions -/
theorem sm_tail {g : Nat → Int} {a : Nat} : ∀ {b : Nat}, a ≤ b → (∀ j, a ≤ j → j < b → g j = 0) → sm g b = sm g a
  | 0, h, _ => by have : a = 0 := by omega
                  rw [this]
  | b + 1, h, hz => by
    by_cases z : a = b + 1
    · rw [z]
    · rw [sm_s, hz b (by omega) (by omega), Int.add_zero]
      exact sm_tail (by omega) (fun j h1 h2 => hz j h1 (by omega))
theorem sm_nil {g : Nat → Int} {b : Nat} (h : ∀ j, j < b → g j = 0) : sm g b = 0 := sm_tail (Nat.zero_le b) (fun j _ h2 => h j h2)
/-- the polynomials' product, with the law's signs -/
def mulg (c d : Nat → Int) (k l n : Nat) : Nat → Int := fun i => if i ≤ k ∧ n ≤ i + l then c i * d (n - i) else 0
def mulc (c d : Nat → Int) (k l n : Nat) : Int := -(sm (mulg c d k l n) (n + 1))
/-- sums of powers of the roots -/
def pwv (c : Nat → Int) (k : Nat) (f : Nat → Int) (j : Nat) : Int := (if j ≤ k then (j : Int) * c j else 0) + sm (fun i => c (i + 1) * f (j - (i + 1))) (min k (j - 1))
def pwt (c : Nat → Int) (k : Nat) : Nat → Nat → Int
  | 0 => fun _ => 0
  | j + 1 => uA (pwt c k j) (j + 1) (pwv c k (pwt c k j) (j + 1))
def pw (c : Nat → Int) (k j : Nat) : Int := pwt c k j j
theorem pwt_eq {c : Nat → Int} {k i : Nat} : ∀ {j : Nat}, i ≤ j → pwt c k j i = pw c k i
  | 0, h => by have : i = 0 := by omega
               subst this; rfl
  | j + 1, h => by
    by_cases z : i = j + 1
    · rw [z]; rfl
    · show uA (pwt c k j) (j + 1) _ i = _
      rw [uA_n z]; exact pwt_eq (by omega)
theorem pwv_cong {c f g : Nat → Int} {k j : Nat} (h : ∀ i, 1 ≤ i → i < j → f i = g i) : pwv c k f j = pwv c k g j := by
  unfold pwv
  congr 1
  exact sm_cong (fun i hi => by rw [h (j - (i + 1)) (by omega) (by omega)])
theorem pw_s {c : Nat → Int} {k j : Nat} (h : 1 ≤ j) : pw c k j = pwv c k (pw c k) j := by
  obtain ⟨i, e⟩ : ∃ i, j = i + 1 := ⟨j - 1, by omega⟩
  subst e
  show uA (pwt c k i) (i + 1) (pwv c k (pwt c k i) (i + 1)) (i + 1) = _
  rw [uA_e]
  exact pwv_cong (fun t h1 h2 => pwt_eq (by omega))
theorem pw_cong {c c2 : Nat → Int} {k : Nat} (hc : ∀ j, 1 ≤ j → j ≤ k → c j = c2 j) : ∀ j, 1 ≤ j → pw c k j = pw c2 k j := by
  intro j
  induction j using Nat.strongRecOn with
  | _ j ih =>
    intro h
    rw [pw_s h, pw_s h]
    unfold pwv
    congr 1
    · by_cases z : j ≤ k
      · rw [if_pos z, if_pos z, hc j h z]
      · rw [if_neg z, if_neg z]
    · exact sm_cong (fun i hi => by rw [hc (i + 1) (by omega) (by omega), ih _ (by omega) (by omega)])
/-- the law by the sums of powers -/
def lbv (P f : Nat → Int) (j : Nat) : Int := (P j - sm (fun i => f (i + 1) * P (j - (i + 1))) (j - 1)).tdiv (j : Int)
def lbt (P : Nat → Int) : Nat → Nat → Int
  | 0 => fun _ => 0
  | j + 1 => uA (lbt P j) (j + 1) (lbv P (lbt P j) (j + 1))
def lb (P : Nat → Int) (j : Nat) : Int := lbt P j j
theorem lbt_eq {P : Nat → Int} {i : Nat} : ∀ {j : Nat}, i ≤ j → lbt P j i = lb P i
  | 0, h => by have : i = 0 := by omega
               subst this; rfl
  | j + 1, h => by
    by_cases z : i = j + 1
    · rw [z]; rfl
    · show uA (lbt P j) (j + 1) _ i = _
      rw [uA_n z]; exact lbt_eq (by omega)
theorem lbv_cong {P P2 f g : Nat → Int} {j : Nat} (h : ∀ i, 1 ≤ i → i < j → f i = g i) (hP : ∀ i, 1 ≤ i → i ≤ j → P i = P2 i) (h1 : 1 ≤ j) : lbv P f j = lbv P2 g j := by
  unfold lbv
  rw [hP j h1 (Nat.le_refl j)]
  congr 2
  exact sm_cong (fun i hi => by rw [h (i + 1) (by omega) (by omega), hP (j - (i + 1)) (by omega) (by omega)])
theorem lb_s {P : Nat → Int} {j : Nat} (h : 1 ≤ j) : lb P j = lbv P (lb P) j := by
  obtain ⟨i, e⟩ : ∃ i, j = i + 1 := ⟨j - 1, by omega⟩
  subst e
  show uA (lbt P i) (i + 1) (lbv P (lbt P i) (i + 1)) (i + 1) = _
  rw [uA_e]
  exact lbv_cong (fun t h1 h2 => lbt_eq (by omega)) (fun _ _ _ => rfl) h
theorem lb_cong {P P2 : Nat → Int} {K : Nat} (hP : ∀ i, 1 ≤ i → i ≤ K → P i = P2 i) : ∀ j, 1 ≤ j → j ≤ K → lb P j = lb P2 j := by
  intro j
  induction j using Nat.strongRecOn with
  | _ j ih =>
    intro h h2
    rw [lb_s h, lb_s h]
    exact lbv_cong (fun i a b => ih i b a (by omega)) (fun i a b => hP i a (by omega)) h
theorem tdiv_ab (x y : Int) : (x.tdiv y).natAbs ≤ x.natAbs := by
  rw [Int.natAbs_tdiv]; exact Nat.div_le_self _ _
def lawB (K : Nat) (f : Nat → Int) : Prop := ∀ j, 1 ≤ j → j ≤ K → -100000 ≤ f j ∧ f j ≤ 100000
def powB (K : Nat) (f : Nat → Int) : Prop := ∀ j, 1 ≤ j → j ≤ K → -1000000000 ≤ f j ∧ f j ≤ 1000000000
def one1 : Nat → Int := fun i => if i = 0 then -1 else 1
/-- a product of two numbers, or one above all -/
def PRD (a b z : Int) : Prop := (-1000000000000000000 ≤ a * b ∧ a * b ≤ 1000000000000000000 ∧ z = a * b) ∨ (¬ (-1000000000000000000 ≤ a * b ∧ a * b ≤ 1000000000000000000) ∧ z = 1000000000000000001)
theorem prd_gt {a b : Int} (ha : a ≠ 0) (h : 1000000000000000000 / (a.natAbs : Int) < (b.natAbs : Int)) : ¬ (-1000000000000000000 ≤ a * b ∧ a * b ≤ 1000000000000000000) := by
  intro w
  have h1 : (a * b).natAbs ≤ 1000000000000000000 := by omega
  rw [Int.natAbs_mul] at h1
  have h2 : b.natAbs ≤ 1000000000000000000 / a.natAbs := (Nat.le_div_iff_mul_le (by omega)).mpr (by rw [Nat.mul_comm]; exact h1)
  have h3 : (b.natAbs : Int) ≤ ((1000000000000000000 / a.natAbs : Nat) : Int) := by exact_mod_cast h2
  have h4 : ((1000000000000000000 : Nat) : Int) = 1000000000000000000 := rfl
  rw [Int.natCast_ediv, h4] at h3
  omega
theorem prd_le {a b : Int} (h : a = 0 ∨ (b.natAbs : Int) ≤ 1000000000000000000 / (a.natAbs : Int)) : -1000000000000000000 ≤ a * b ∧ a * b ≤ 1000000000000000000 := by
  by_cases z : a = 0
  · rw [z, Int.zero_mul]; decide
  · have h2 : (b.natAbs : Int) ≤ 1000000000000000000 / (a.natAbs : Int) := by omega
    have h4 : ((1000000000000000000 : Nat) : Int) = 1000000000000000000 := rfl
    rw [← h4, ← Int.natCast_ediv] at h2
    have h3 : b.natAbs ≤ 1000000000000000000 / a.natAbs := by exact_mod_cast h2
    have h5 := (Nat.le_div_iff_mul_le (by omega)).mp h3
    rw [Nat.mul_comm, ← Int.natAbs_mul] at h5
    omega
def FoldOk (x y : Nat → Int) (n : Nat) : Prop := ∀ i, i ≤ n → (-1000000000000000000 ≤ x i * y (n - i) ∧ x i * y (n - i) ≤ 1000000000000000000) ∧ (-1000000000000000000 ≤ sm (fun t => x t * y (n - t)) (i + 1) ∧ sm (fun t => x t * y (n - t)) (i + 1) ≤ 1000000000000000000)
