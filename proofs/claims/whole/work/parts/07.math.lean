/-! plain facts -/
theorem nlt {a b : Nat} (h : Nat.ble (a + 1) b = true) : a < b := Nat.le_of_ble_eq_true h
theorem nle {a b : Nat} (h : Nat.ble a b = true) : a ≤ b := Nat.le_of_ble_eq_true h
theorem mulb {a b A B C : Int} (h1 : -A ≤ a) (h2 : a ≤ A) (h3 : -B ≤ b) (h4 : b ≤ B) (e : A * B = C) : -C ≤ a * b ∧ a * b ≤ C := by
  have ha : a.natAbs ≤ A.natAbs := by omega
  have hb : b.natAbs ≤ B.natAbs := by omega
  have hm := Nat.mul_le_mul ha hb
  rw [← Int.natAbs_mul, ← Int.natAbs_mul, e] at hm
  have hc : 0 ≤ C := by rw [← e]; exact Int.mul_nonneg (by omega) (by omega)
  omega
theorem tdivp {x y : Int} (h : 0 ≤ x) : x.tdiv y = x / y := Int.tdiv_eq_ediv_of_nonneg h
theorem tmodp {x y : Int} (h : 0 ≤ x) : x.tmod y = x % y := Int.tmod_eq_emod_of_nonneg h
def msk : List Bool → List (Option Value) → List (Option Value)
  | _, [] => []
  | [], L => L
  | true :: m, x :: L => x :: msk m L
  | false :: m, _ :: L => none :: msk m L
theorem lle_rf : ∀ L : List (Option Value), lle L L
  | [] => trivial
  | none :: L => lle_rf L
  | some _ :: L => ⟨rfl, lle_rf L⟩
theorem msk_lle : ∀ (m : List Bool) (L : List (Option Value)), lle (msk m L) L
  | [], [] => trivial
  | _ :: _, [] => trivial
  | [], x :: L => lle_rf (x :: L)
  | true :: m, none :: L => msk_lle m L
  | true :: m, some _ :: L => ⟨rfl, msk_lle m L⟩
  | false :: m, _ :: L => msk_lle m L
section RWP
variable {X : Ctx} {own : String} {cc : ByteArray} {R : Room} {N k n pc : Nat} {L : List (Option Value)} {S : List Value} {h : Hp}
theorem r_idivp {x y : Int} (d : decode cc pc = .ok (.idiv, 1)) (hx1 : rI x) (hy1 : rI y) (h0 : 0 ≤ x) (hy : 0 < y) (K : G X own cc R N k n (pc + 1) L (.int (iZ (x / y)) :: S) h) : G X own cc R N k n pc L (.int (iZ y) :: .int (iZ x) :: S) h := r_idiv d hx1 hy1 (by omega) (by omega) (by rw [tdivp h0]; exact K)
theorem r_iremp {x y : Int} (d : decode cc pc = .ok (.irem, 1)) (hx1 : rI x) (hy1 : rI y) (h0 : 0 ≤ x) (hy : 0 < y) (K : G X own cc R N k n (pc + 1) L (.int (iZ (x % y)) :: S) h) : G X own cc R N k n pc L (.int (iZ y) :: .int (iZ x) :: S) h := r_irem d hx1 hy1 (by omega) (by omega) (by rw [tmodp h0]; exact K)
theorem r_ldivp {x y : Int} (d : decode cc pc = .ok (.ldiv, 1)) (hx1 : rL x) (hy1 : rL y) (h0 : 0 ≤ x) (hy : 0 < y) (K : G X own cc R N k n (pc + 1) L (.long (lZ (x / y)) :: S) h) : G X own cc R N k n pc L (.long (lZ y) :: .long (lZ x) :: S) h := r_ldiv d hx1 hy1 (by omega) (by omega) (by rw [tdivp h0]; exact K)
theorem r_lremp {x y : Int} (d : decode cc pc = .ok (.lrem, 1)) (hx1 : rL x) (hy1 : rL y) (h0 : 0 ≤ x) (hy : 0 < y) (K : G X own cc R N k n (pc + 1) L (.long (lZ (x % y)) :: S) h) : G X own cc R N k n pc L (.long (lZ y) :: .long (lZ x) :: S) h := r_lrem d hx1 hy1 (by omega) (by omega) (by rw [tmodp h0]; exact K)
theorem r_mask (m : List Bool) {L2 : List (Option Value)} (e : msk m L = L2) (K : G X own cc R N k n pc L2 S h) : G X own cc R N k n pc L S h := r_drop (e ▸ msk_lle m L) K
end RWP
/-- the sum of the first n -/
def sm (g : Nat → Int) : Nat → Int
  | 0 => 0
  | n + 1 => sm g n + g n
theorem sm_s (g : Nat → Int) (n : Nat) : sm g (n + 1) = sm g n + g n := rfl
theorem sm_cong {f g : Nat → Int} : ∀ {n : Nat}, (∀ j, j < n → f j = g j) → sm f n = sm g n
  | 0, _ => rfl
  | n + 1, h => by rw [sm_s, sm_s, sm_cong (fun j hj => h j (by omega)), h n (by omega)]
theorem sm_bd {g : Nat → Int} {B : Int} (hB : 0 ≤ B) : ∀ {n : Nat}, (∀ j, j < n → -B ≤ g j ∧ g j ≤ B) → -(n * B) ≤ sm g n ∧ sm g n ≤ n * B
  | 0, _ => by simp [sm]
  | n + 1, h => by
    have ih := sm_bd hB (n := n) (fun j hj => h j (by omega))
    have h1 := h n (by omega)
    rw [sm_s]
    have e : ((n + 1 : Nat) : Int) * B = n * B + B := by rw [Int.natCast_add, Int.add_mul]; simp
    rw [e]
    omega
theorem sm_add (f g : Nat → Int) : ∀ n, sm (fun j => f j + g j) n = sm f n + sm g n
  | 0 => rfl
  | n + 1 => by rw [sm_s, sm_s, sm_s, sm_add f g n]; omega
theorem sm_mul (c : Int) (g : Nat → Int) : ∀ n, sm (fun j => c * g j) n = c * sm g n
  | 0 => by simp [sm]
  | n + 1 => by rw [sm_s, sm_s, sm_mul c g n, Int.mul_add]
/-! rows of class Row: an object at r, its law at r + 1, its starts at r + 2 -/
def MOST : Int := 100000000000000000
def RowAt (h : Hp) (r k : Nat) (c s : Nat → Int) : Prop := h r = ob 7 [.int (iZ (k : Int)), .ref (r + 1), .ref (r + 2)] ∧ h (r + 1) = aL 7 c ∧ h (r + 2) = aL 6 s
/-- what a law carries on from the k numbers ahead of place n -/
def carry (c f : Nat → Int) (k n : Nat) : Int := sm (fun j => c (j + 1) * f (n - 1 - j)) k
theorem carry_split (c f : Nat → Int) (k n : Nat) : carry c f k n = sm (fun j => c (j + 1) * (f (n - 1 - j)).tdiv 1000000000) k * 1000000000 + sm (fun j => c (j + 1) * (f (n - 1 - j)).tmod 1000000000) k := by
  unfold carry
  rw [Int.mul_comm, ← sm_mul, ← sm_add]
  refine sm_cong (fun j _ => ?_)
  have := Int.tmod_add_mul_tdiv (f (n - 1 - j)) 1000000000
  calc c (j + 1) * f (n - 1 - j) = c (j + 1) * ((f (n - 1 - j)).tmod 1000000000 + 1000000000 * (f (n - 1 - j)).tdiv 1000000000) := by rw [this]
    _ = _ := by rw [Int.mul_add, Int.add_comm]; congr 1; rw [← Int.mul_assoc, Int.mul_comm (c (j + 1)), Int.mul_assoc]
theorem tdiv9 {x B : Int} (h1 : -(B * 1000000000) ≤ x) (h2 : x ≤ B * 1000000000) : -B ≤ x.tdiv 1000000000 ∧ x.tdiv 1000000000 ≤ B := by
  rcases Int.le_total 0 x with h | h
  · rw [tdivp h]; omega
  · have e : x.tdiv 1000000000 = -((-x) / 1000000000) := by rw [← tdivp (show (0 : Int) ≤ -x by omega), Int.neg_tdiv, Int.neg_neg]
    rw [e]; omega
theorem tmod9 (x : Int) : -1000000000 < x.tmod 1000000000 ∧ x.tmod 1000000000 < 1000000000 ∧ x.tdiv 1000000000 * 1000000000 + x.tmod 1000000000 = x := by
  have := Int.tmod_add_mul_tdiv x 1000000000
  have h2 := tmod_bounds (a := x) (M := 1000000000) (by decide)
  omega
