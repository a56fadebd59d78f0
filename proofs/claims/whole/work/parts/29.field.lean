/-! polynomials by a prime, as a ring -/
theorem prm_invx {q : Nat} (hq : PrmN q) : ∀ a : Nat, 0 < a → a < q → ∃ x : Int, cg q ((a : Int) * x) 1 := by
  intro a
  induction a using Nat.strongRecOn with
  | _ a ih =>
    intro h0 h1
    by_cases ha : a = 1
    · exact ⟨1, cg.of (by rw [ha]; rfl)⟩
    · have h2 : q % a ≠ 0 := fun e => by
        rcases hq.2 a (Nat.dvd_of_mod_eq_zero e) with w | w <;> omega
      obtain ⟨y, hy⟩ := ih (q % a) (Nat.mod_lt _ h0) (by omega) (by have := Nat.mod_lt q h0; omega)
      refine ⟨-((q / a : Nat) : Int) * y, ?_⟩
      have h3 := Nat.mod_add_div q a
      have h4 : ((q % a : Nat) : Int) = (q : Int) - (a : Int) * ((q / a : Nat) : Int) := by
        have : ((q % a + a * (q / a) : Nat) : Int) = (q : Int) := by rw [h3]
        rw [Int.natCast_add, Int.natCast_mul] at this
        omega
      rw [h4] at hy
      refine cg.tr ?_ hy
      show (q : Int) ∣ _
      exact ⟨-y, by grind⟩
theorem conv_comm (a b : Nat → Int) (n : Nat) : conv a b n = conv b a n := by
  have rev : ∀ (n : Nat) (g : Nat → Int), sm g (n + 1) = sm (fun t => g (n - t)) (n + 1) := by
    intro n
    induction n with
    | zero => intro g; rfl
    | succ n ih =>
      intro g
      rw [sm_s g (n + 1), ih g, sm_head (fun t => g (n + 1 - t)) (n + 1), Int.add_comm]
      show g (n + 1) + _ = g (n + 1) + sm (fun j => g (n + 1 - (j + 1))) (n + 1)
      congr 1
      exact sm_cong (fun j hj => by rw [show n + 1 - (j + 1) = n - j by omega])
  unfold conv
  rw [rev]
  exact sm_cong (fun t ht => by rw [show n - (n - t) = t by omega, Int.mul_comm])
theorem conv_assoc (a b c : Nat → Int) (n : Nat) : conv (conv a b) c n = conv a (conv b c) n := by
  have h1 : conv (conv a b) c n = sm (fun t => sm (fun s => if s ≤ t then a s * b (t - s) * c (n - t) else 0) (n + 1)) (n + 1) := by
    show sm (fun t => conv a b t * c (n - t)) (n + 1) = _
    refine sm_cong (fun t ht => ?_)
    rw [sm_tail (g := fun s => if s ≤ t then a s * b (t - s) * c (n - t) else 0) (a := t + 1) (b := n + 1) (by omega) (fun j h1 h2 => if_neg (by omega))]
    show sm (fun s => a s * b (t - s)) (t + 1) * c (n - t) = _
    rw [Int.mul_comm, ← sm_mul]
    exact sm_cong (fun s hs => by rw [if_pos (by omega), Int.mul_comm])
  rw [h1, sm_swap]
  show _ = sm (fun s => a s * conv b c (n - s)) (n + 1)
  refine sm_cong (fun s hs => ?_)
  show sm (fun t => if s ≤ t then a s * b (t - s) * c (n - t) else 0) (n + 1) = _
  have e : sm (fun t => if s ≤ t then a s * b (t - s) * c (n - t) else 0) (n + 1) = sm (fun t => if s ≤ t then a s * b (t - s) * c (n - t) else 0) (s + (n - s + 1)) := by rw [show s + (n - s + 1) = n + 1 by omega]
  rw [e, sm_split, sm_nil (fun j hj => if_neg (by omega)), Int.zero_add]
  show _ = a s * sm (fun t => b t * c (n - s - t)) (n - s + 1)
  rw [← sm_mul]
  exact sm_cong (fun j hj => by rw [if_pos (by omega), show s + j - s = j by omega, show n - (s + j) = n - s - j by omega, Int.mul_assoc])
theorem conv_cg {m : Int} {a b c d : Nat → Int} (h1 : ∀ i, cg m (a i) (c i)) (h2 : ∀ i, cg m (b i) (d i)) (n : Nat) : cg m (conv a b n) (conv c d n) := cg.sm (fun j _ => (h1 j).mul (h2 _))
theorem conv_add (a b c : Nat → Int) (n : Nat) : conv a (fun i => b i + c i) n = conv a b n + conv a c n := by
  unfold conv
  rw [← sm_add]
  exact sm_cong (fun j _ => Int.mul_add ..)
theorem conv_mon (b : Nat → Int) (x : Int) (s n : Nat) : conv (fun i => if i = s then x else 0) b n = if s ≤ n then x * b (n - s) else 0 := by
  unfold conv
  by_cases h : s ≤ n
  · rw [if_pos h]
    have e : sm (fun t => (if t = s then x else 0) * b (n - t)) (n + 1) = sm (fun t => (if t = s then x else 0) * b (n - t)) (s + 1) := sm_tail (by omega) (fun j h1 h2 => by rw [if_neg (by omega), Int.zero_mul])
    rw [e, sm_s, sm_nil (fun j hj => by rw [if_neg (by omega), Int.zero_mul]), if_pos rfl, Int.zero_add]
  · rw [if_neg h]
    exact sm_nil (fun j hj => by show (if j = s then x else 0) * b (n - j) = 0; rw [if_neg (by omega), Int.zero_mul])
theorem conv_one (b : Nat → Int) (x : Int) (n : Nat) : conv (fun i => if i = 0 then x else 0) b n = x * b n := by
  rw [conv_mon, if_pos (Nat.zero_le n), Nat.sub_zero]
def PZ (p : Int) : Type := {f : Nat → Int // (∀ i, 0 ≤ f i ∧ f i < p) ∧ ∃ n : Nat, ∀ i, n ≤ i → f i = 0}
def pzM {p : Int} (hp : 0 < p) (f : Nat → Int) (hf : ∃ n : Nat, ∀ i, n ≤ i → f i = 0) : PZ p := ⟨fun i => f i % p, fun i => emod_bd _ hp, by
  obtain ⟨n, h⟩ := hf
  exact ⟨n, fun i hi => by show f i % p = 0; rw [h i hi]; exact Int.zero_emod p⟩⟩
theorem pzM_cg {p : Int} {hp : 0 < p} {f : Nat → Int} {hf : ∃ n : Nat, ∀ i, n ≤ i → f i = 0} (i : Nat) : cg p ((pzM hp f hf).1 i) (f i) := cg.md
theorem pz_ext {p : Int} {a b : PZ p} (h : ∀ i, cg p (a.1 i) (b.1 i)) : a = b := Subtype.ext (funext fun i => by
  have := (h i).emod
  rw [Int.emod_eq_of_lt (a.2.1 i).1 (a.2.1 i).2, Int.emod_eq_of_lt (b.2.1 i).1 (b.2.1 i).2] at this
  exact this)
theorem fs_add {f g : Nat → Int} (hf : ∃ n : Nat, ∀ i, n ≤ i → f i = 0) (hg : ∃ n : Nat, ∀ i, n ≤ i → g i = 0) : ∃ n : Nat, ∀ i, n ≤ i → f i + g i = 0 := by
  obtain ⟨n, h⟩ := hf
  obtain ⟨m, h2⟩ := hg
  exact ⟨n + m, fun i hi => by rw [h i (by omega), h2 i (by omega)]; rfl⟩
theorem conv_fs {f g : Nat → Int} {n m : Nat} (h : ∀ i, n ≤ i → f i = 0) (h2 : ∀ i, m ≤ i → g i = 0) : ∀ i, n + m ≤ i + 1 → conv f g i = 0 := fun i hi => sm_nil (fun t _ => by
  by_cases z : n ≤ t
  · rw [h t z, Int.zero_mul]
  · rw [h2 (i - t) (by omega), Int.mul_zero])
theorem fs_mul {f g : Nat → Int} (hf : ∃ n : Nat, ∀ i, n ≤ i → f i = 0) (hg : ∃ n : Nat, ∀ i, n ≤ i → g i = 0) : ∃ n : Nat, ∀ i, n ≤ i → conv f g i = 0 := by
  obtain ⟨n, h⟩ := hf
  obtain ⟨m, h2⟩ := hg
  exact ⟨n + m, fun i hi => conv_fs h h2 i (by omega)⟩
def pzAdd {p : Int} (hp : 0 < p) (a b : PZ p) : PZ p := pzM hp (fun i => a.1 i + b.1 i) (fs_add a.2.2 b.2.2)
def pzNeg {p : Int} (hp : 0 < p) (a : PZ p) : PZ p := pzM hp (fun i => -a.1 i) (by
  obtain ⟨n, h⟩ := a.2.2
  exact ⟨n, fun i hi => by rw [h i hi]; rfl⟩)
def pzMul {p : Int} (hp : 0 < p) (a b : PZ p) : PZ p := pzM hp (conv a.1 b.1) (fs_mul a.2.2 b.2.2)
def pzX {p : Int} (hp : 0 < p) (x : Int) (s : Nat) : PZ p := pzM hp (fun i => if i = s then x else 0) ⟨s + 1, fun i hi => if_neg (by omega)⟩
def pzPow {p : Int} (hp : 0 < p) (a : PZ p) : Nat → PZ p
  | 0 => pzX hp 1 0
  | n + 1 => pzMul hp (pzPow hp a n) a
section PZR
variable {p : Int} (hp : 0 < p)
theorem pzAdd_cg {a b : PZ p} (i : Nat) : cg p ((pzAdd hp a b).1 i) (a.1 i + b.1 i) := cg.md
theorem pzNeg_cg {a : PZ p} (i : Nat) : cg p ((pzNeg hp a).1 i) (-a.1 i) := cg.md
theorem pzMul_cg {a b : PZ p} (i : Nat) : cg p ((pzMul hp a b).1 i) (conv a.1 b.1 i) := cg.md
theorem pzX_cg {x : Int} {s : Nat} (i : Nat) : cg p ((pzX hp x s).1 i) (if i = s then x else 0) := cg.md
theorem pzMul_comm (a b : PZ p) : pzMul hp a b = pzMul hp b a := pz_ext (fun i => (pzMul_cg hp i).tr ((cg.of (conv_comm _ _ _)).tr (pzMul_cg hp i).sy))
theorem pzMul_assoc (a b c : PZ p) : pzMul hp (pzMul hp a b) c = pzMul hp a (pzMul hp b c) := pz_ext (fun i => (pzMul_cg hp i).tr ((conv_cg (fun i => pzMul_cg hp i) (fun i => cg.rf) i).tr ((cg.of (conv_assoc _ _ _ _)).tr ((conv_cg (fun i => cg.rf) (fun i => pzMul_cg hp i) i).sy.tr (pzMul_cg hp i).sy))))
theorem pzMul_one (a : PZ p) : pzMul hp (pzX hp 1 0) a = a := pz_ext (fun i => (pzMul_cg hp i).tr ((conv_cg (fun i => pzX_cg hp i) (fun i => cg.rf) i).tr (cg.of (by rw [conv_one, Int.one_mul]))))
theorem pzMul_zero (a : PZ p) : pzMul hp (pzX hp 0 0) a = pzX hp 0 0 := pz_ext (fun i => (pzMul_cg hp i).tr ((conv_cg (fun i => pzX_cg hp i) (fun i => cg.rf) i).tr ((cg.of (by rw [conv_one, Int.zero_mul]; split <;> rfl)).tr (pzX_cg hp i).sy)))
theorem pzMul_add (a b c : PZ p) : pzMul hp a (pzAdd hp b c) = pzAdd hp (pzMul hp a b) (pzMul hp a c) := pz_ext (fun i => (pzMul_cg hp i).tr ((conv_cg (fun i => cg.rf) (fun i => pzAdd_cg hp i) i).tr ((cg.of (conv_add _ _ _ _)).tr (((pzMul_cg hp i).add (pzMul_cg hp i)).sy.tr (pzAdd_cg hp i).sy))))
theorem pzAdd_comm (a b : PZ p) : pzAdd hp a b = pzAdd hp b a := pz_ext (fun i => (pzAdd_cg hp i).tr ((cg.of (Int.add_comm _ _)).tr (pzAdd_cg hp i).sy))
theorem pzAdd_assoc (a b c : PZ p) : pzAdd hp (pzAdd hp a b) c = pzAdd hp a (pzAdd hp b c) := pz_ext (fun i => (pzAdd_cg hp i).tr (((pzAdd_cg hp i).add cg.rf).tr ((cg.of (Int.add_assoc _ _ _)).tr ((cg.rf.add (pzAdd_cg hp i)).sy.tr (pzAdd_cg hp i).sy))))
theorem pzAdd_zero (a : PZ p) : pzAdd hp a (pzX hp 0 0) = a := pz_ext (fun i => (pzAdd_cg hp i).tr ((cg.rf.add (pzX_cg hp i)).tr (cg.of (by split <;> omega))))
theorem pzNeg_add (a : PZ p) : pzAdd hp (pzNeg hp a) a = pzX hp 0 0 := pz_ext (fun i => (pzAdd_cg hp i).tr (((pzNeg_cg hp i).add cg.rf).tr ((cg.of (by split <;> omega)).tr (pzX_cg hp i).sy)))
theorem pzX_add (x y : Int) (s : Nat) : pzX hp (x + y) s = pzAdd hp (pzX hp x s) (pzX hp y s) := pz_ext (fun i => (pzX_cg hp i).tr ((cg.of (by split <;> omega)).tr (((pzX_cg hp i).add (pzX_cg hp i)).sy.tr (pzAdd_cg hp i).sy)))
theorem pzX_neg (x : Int) (s : Nat) : pzX hp (-x) s = pzNeg hp (pzX hp x s) := pz_ext (fun i => (pzX_cg hp i).tr ((cg.of (by split <;> omega : (if i = s then -x else 0) = 0 - (if i = s then x else 0))).tr ((cg.rf.sub (pzX_cg hp i)).sy.tr ((cg.of (Int.zero_sub _)).tr (pzNeg_cg hp i).sy))))
theorem pzMul_neg (a b : PZ p) : pzMul hp (pzNeg hp a) b = pzNeg hp (pzMul hp a b) := by
  have h1 : pzAdd hp (pzMul hp b (pzNeg hp a)) (pzMul hp b a) = pzX hp 0 0 := by rw [← pzMul_add, pzNeg_add, pzMul_comm, pzMul_zero]
  rw [pzMul_comm hp (pzNeg hp a) b, pzMul_comm hp a b]
  refine pz_ext (fun i => ?_)
  have h2 : cg p ((pzMul hp b (pzNeg hp a)).1 i + (pzMul hp b a).1 i) 0 := by
    refine (pzAdd_cg hp i).sy.tr ?_
    rw [h1]
    exact (pzX_cg hp i).tr (cg.of (by split <;> rfl))
  refine cg.tr ?_ (pzNeg_cg hp i).sy
  have h3 := h2.sub (cg.rf (m := p) (x := (pzMul hp b a).1 i))
  exact (cg.of (by omega)).tr (h3.tr (cg.of (by omega)))
def pzRing : Lean.Grind.CommRing (PZ p) where
  add := pzAdd hp
  mul := pzMul hp
  natCast := ⟨fun n => pzX hp (n : Int) 0⟩
  ofNat := fun n => ⟨pzX hp (n : Int) 0⟩
  nsmul := ⟨fun n a => pzMul hp (pzX hp (n : Int) 0) a⟩
  npow := ⟨fun a n => pzPow hp a n⟩
  neg := pzNeg hp
  sub := fun a b => pzAdd hp a (pzNeg hp b)
  intCast := ⟨fun z => pzX hp z 0⟩
  zsmul := ⟨fun z a => pzMul hp (pzX hp z 0) a⟩
  add_zero := fun a => pzAdd_zero hp a
  add_comm := fun a b => pzAdd_comm hp a b
  add_assoc := fun a b c => pzAdd_assoc hp a b c
  mul_assoc := fun a b c => pzMul_assoc hp a b c
  mul_one := fun a => (pzMul_comm hp a _).trans (pzMul_one hp a)
  one_mul := fun a => pzMul_one hp a
  left_distrib := fun a b c => pzMul_add hp a b c
  right_distrib := fun a b c => (pzMul_comm hp _ c).trans ((pzMul_add hp c a b).trans (by rw [pzMul_comm hp c a, pzMul_comm hp c b]; rfl))
  zero_mul := fun a => pzMul_zero hp a
  mul_zero := fun a => (pzMul_comm hp a _).trans (pzMul_zero hp a)
  pow_zero := fun a => rfl
  pow_succ := fun a n => rfl
  ofNat_succ := fun n => (congrArg (fun x => pzX hp x 0) (Int.natCast_add n 1)).trans (pzX_add hp (n : Int) 1 0)
  neg_add_cancel := fun a => pzNeg_add hp a
  sub_eq_add_neg := fun a b => rfl
  neg_zsmul := fun z a => (congrArg (fun x => pzMul hp x a) (pzX_neg hp z 0)).trans (pzMul_neg hp _ _)
  intCast_neg := fun z => pzX_neg hp z 0
  mul_comm := fun a b => pzMul_comm hp a b
end PZR
