/-! polynomials: numbers by place, an order that may be -1 -/
def Z13 (f : Nat → Int) : Prop := ∀ i : Nat, 12 < i → f i = 0
def POK (p : Int) (f : Nat → Int) (dg : Int) : Prop := -1 ≤ dg ∧ dg ≤ 12 ∧ (∀ i : Nat, dg < (i : Int) → f i = 0) ∧ (∀ i : Nat, 0 ≤ f i ∧ f i < p) ∧ (0 ≤ dg → f dg.toNat ≠ 0)
theorem POK.z {p : Int} {f : Nat → Int} {dg : Int} (h : POK p f dg) : Z13 f := fun i hi => h.2.2.1 i (by have := h.2.1; omega)
def conv (a b : Nat → Int) (n : Nat) : Int := sm (fun t => a t * b (n - t)) (n + 1)
def cvp (a b : Nat → Int) (i n : Nat) : Int := sm (fun t => if t ≤ n then a t * b (n - t) else 0) i
theorem cvp_conv {a b : Nat → Int} {i n : Nat} (ha : ∀ t, i ≤ t → a t = 0) : cvp a b i n = conv a b n := by
  unfold cvp conv
  by_cases h : i ≤ n + 1
  · rw [sm_tail (g := fun t => a t * b (n - t)) h (fun j h1 _ => by rw [ha j h1, Int.zero_mul])]
    exact sm_cong (fun j hj => if_pos (by omega))
  · rw [sm_tail (g := fun t => if t ≤ n then a t * b (n - t) else 0) (a := n + 1) (b := i) (by omega) (fun j h1 _ => if_neg (by omega))]
    exact sm_cong (fun j hj => if_pos (by omega))
theorem sm_sub1 {f g : Nat → Int} {x : Int} {i : Nat} : ∀ {n : Nat}, (∀ t, t ≠ i → f t = g t) → f i = g i + x → sm f n = sm g n + (if i < n then x else 0)
  | 0, _, _ => by rw [if_neg (Nat.not_lt_zero i)]; rfl
  | n + 1, h, e => by
    rw [sm_s, sm_s, sm_sub1 (n := n) h e]
    by_cases z : n = i
    · rw [z, if_neg (by omega), if_pos (by omega), e]; omega
    · rw [h n z]
      by_cases w : i < n
      · rw [if_pos w, if_pos (by omega)]; omega
      · rw [if_neg w, if_neg (by omega)]; omega
theorem conv_uA {q v : Nat → Int} {s : Nat} {x : Int} (h0 : q s = 0) (n : Nat) : conv (uA q s x) v n = conv q v n + (if s ≤ n then x * v (n - s) else 0) := by
  unfold conv
  rw [sm_sub1 (f := fun t => uA q s x t * v (n - t)) (g := fun t => q t * v (n - t)) (x := x * v (n - s)) (i := s) (fun t ht => by show uA q s x t * _ = _; rw [uA_n ht]) (by show uA q s x s * _ = _; rw [uA_e, h0, Int.zero_mul, Int.zero_add])]
  by_cases z : s ≤ n
  · rw [if_pos z, if_pos (by omega)]
  · rw [if_neg z, if_neg (by omega)]
/-- what a division leaves: f is q times v, and r -/
def DIV (p : Int) (f v q r : Nat → Int) : Prop := ∀ n, cg p (f n) (conv q v n + r n)
/-- the law's polynomial by p -/
def plaw (p : Int) (k : Nat) (c : Nat → Int) : Nat → Int := fun j => if j ≤ k then (-(c (k - j))) % p else 0
def pone : Nat → Int := fun j => if j = 0 then 1 else 0
def pz : Nat → Int := fun j => if j = 1 then 1 else 0
