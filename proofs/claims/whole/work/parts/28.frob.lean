/-! sums, the binomial theorem, powers by the characteristic -/
def nR {R : Type} [Lean.Grind.CommRing R] : Nat → R
  | 0 => 0
  | n + 1 => nR n + 1
theorem nR_add {R : Type} [Lean.Grind.CommRing R] (a : Nat) : ∀ b : Nat, (nR (a + b) : R) = nR a + nR b
  | 0 => by show (nR a : R) = nR a + 0; grind
  | b + 1 => by
    have ih := nR_add (R := R) a b
    show (nR (a + b) : R) + 1 = nR a + (nR b + 1)
    grind
theorem nR_mul {R : Type} [Lean.Grind.CommRing R] (a : Nat) : ∀ b : Nat, (nR (a * b) : R) = nR a * nR b
  | 0 => by show (0 : R) = nR a * 0; grind
  | b + 1 => by
    have ih := nR_mul (R := R) a b
    rw [Nat.mul_succ, nR_add, ih]
    show (nR a * nR b + nR a : R) = nR a * (nR b + 1)
    grind
def sR {R : Type} [Lean.Grind.CommRing R] (g : Nat → R) : Nat → R
  | 0 => 0
  | n + 1 => sR g n + g n
theorem sR_head {R : Type} [Lean.Grind.CommRing R] (g : Nat → R) : ∀ n, sR g (n + 1) = g 0 + sR (fun i => g (i + 1)) n
  | 0 => by show (0 : R) + g 0 = g 0 + 0; grind
  | n + 1 => by
    have ih := sR_head g n
    show sR g (n + 1) + g (n + 1) = g 0 + (sR (fun i => g (i + 1)) n + g (n + 1))
    rw [ih]; grind
theorem sR_cong {R : Type} [Lean.Grind.CommRing R] {f g : Nat → R} : ∀ {n : Nat}, (∀ i, i < n → f i = g i) → sR f n = sR g n
  | 0, _ => rfl
  | n + 1, h => by
    show sR f n + f n = sR g n + g n
    rw [sR_cong (fun i hi => h i (by omega)), h n (by omega)]
theorem sR_add {R : Type} [Lean.Grind.CommRing R] (f g : Nat → R) : ∀ n, sR (fun i => f i + g i) n = sR f n + sR g n
  | 0 => by show (0 : R) = 0 + 0; grind
  | n + 1 => by
    have ih := sR_add f g n
    show sR (fun i => f i + g i) n + (f n + g n) = sR f n + f n + (sR g n + g n)
    rw [ih]; grind
theorem sR_mul {R : Type} [Lean.Grind.CommRing R] (c : R) (g : Nat → R) : ∀ n, sR (fun i => c * g i) n = c * sR g n
  | 0 => by show (0 : R) = c * 0; grind
  | n + 1 => by
    have ih := sR_mul c g n
    show sR (fun i => c * g i) n + c * g n = c * (sR g n + g n)
    rw [ih]; grind
theorem sR_zero {R : Type} [Lean.Grind.CommRing R] {g : Nat → R} : ∀ {n : Nat}, (∀ i, i < n → g i = 0) → sR g n = 0
  | 0, _ => rfl
  | n + 1, h => by
    show sR g n + g n = 0
    rw [sR_zero (fun i hi => h i (by omega)), h n (by omega)]; grind
theorem pw_s1 {R : Type} [Lean.Grind.CommRing R] (a : R) (n : Nat) : a ^ (n + 1) = a ^ n * a := Lean.Grind.Semiring.pow_succ a n
theorem pw_z1 {R : Type} [Lean.Grind.CommRing R] (a : R) : a ^ 0 = 1 := Lean.Grind.Semiring.pow_zero a
theorem pw_add {R : Type} [Lean.Grind.CommRing R] (a : R) (m : Nat) : ∀ n, a ^ (m + n) = a ^ m * a ^ n
  | 0 => by rw [Nat.add_zero, pw_z1]; grind
  | n + 1 => by
    have ih := pw_add a m n
    rw [← Nat.add_assoc, pw_s1, ih, pw_s1]; grind
theorem pw_mul {R : Type} [Lean.Grind.CommRing R] (a : R) (m : Nat) : ∀ n, a ^ (m * n) = (a ^ m) ^ n
  | 0 => by rw [Nat.mul_zero, pw_z1, pw_z1]
  | n + 1 => by rw [Nat.mul_succ, pw_add, pw_mul a m n, pw_s1]
theorem mul_pw {R : Type} [Lean.Grind.CommRing R] (a b : R) : ∀ n : Nat, (a * b) ^ n = a ^ n * b ^ n
  | 0 => by rw [pw_z1, pw_z1, pw_z1]; grind
  | n + 1 => by rw [pw_s1, pw_s1, pw_s1, mul_pw a b n]; grind
theorem zero_pw {R : Type} [Lean.Grind.CommRing R] {n : Nat} (h : 1 ≤ n) : (0 : R) ^ n = 0 := by
  obtain ⟨m, rfl⟩ : ∃ m, n = m + 1 := ⟨n - 1, by omega⟩
  rw [pw_s1]; grind
theorem one_pw {R : Type} [Lean.Grind.CommRing R] : ∀ n : Nat, (1 : R) ^ n = 1
  | 0 => pw_z1 _
  | n + 1 => by rw [pw_s1, one_pw n]; grind
def bnN : Nat → Nat → Nat
  | _, 0 => 1
  | 0, _ + 1 => 0
  | n + 1, k + 1 => bnN n k + bnN n (k + 1)
theorem bnN_0 (n : Nat) : bnN n 0 = 1 := by cases n <;> rfl
theorem bnN_s (n k : Nat) : bnN (n + 1) (k + 1) = bnN n k + bnN n (k + 1) := rfl
theorem bnN_gt : ∀ (n k : Nat), n < k → bnN n k = 0
  | n, 0, h => by omega
  | 0, k + 1, _ => rfl
  | n + 1, k + 1, h => by rw [bnN_s, bnN_gt n k (by omega), bnN_gt n (k + 1) (by omega)]
theorem bnN_nn : ∀ n : Nat, bnN n n = 1
  | 0 => rfl
  | n + 1 => by rw [bnN_s, bnN_nn n, bnN_gt n (n + 1) (by omega)]
theorem bnN_mul : ∀ (n k : Nat), (k + 1) * bnN (n + 1) (k + 1) = (n + 1) * bnN n k
  | 0, 0 => rfl
  | 0, k + 1 => by
    rw [bnN_s, bnN_gt 0 (k + 1) (by omega), bnN_gt 0 (k + 1 + 1) (by omega), Nat.mul_zero, Nat.mul_zero]
  | n + 1, 0 => by
    have ih := bnN_mul n 0
    rw [bnN_s, Nat.mul_add, ih, bnN_0, bnN_0]
    omega
  | n + 1, k + 1 => by
    have h1 := bnN_mul n k
    have h2 := bnN_mul n (k + 1)
    have e : (k + 1 + 1) * bnN (n + 1) (k + 1) = (k + 1) * bnN (n + 1) (k + 1) + bnN (n + 1) (k + 1) := Nat.succ_mul ..
    have e2 : (n + 1 + 1) * bnN (n + 1) (k + 1) = (n + 1) * bnN (n + 1) (k + 1) + bnN (n + 1) (k + 1) := Nat.succ_mul ..
    have e3 : (n + 1) * bnN (n + 1) (k + 1) = (n + 1) * bnN n k + (n + 1) * bnN n (k + 1) := by rw [bnN_s n k, Nat.mul_add]
    rw [bnN_s (n + 1) (k + 1), Nat.mul_add, h2, e2, e3, e, h1]
    omega
theorem bnN_dv {p k : Nat} (hp : PrmN p) (h0 : 0 < k) (h1 : k < p) : ∃ c, bnN p k = p * c := by
  obtain ⟨j, rfl⟩ : ∃ j, k = j + 1 := ⟨k - 1, by omega⟩
  obtain ⟨m, rfl⟩ : ∃ m, p = m + 1 := ⟨p - 1, by omega⟩
  have h2 := bnN_mul m j
  have h3 : ((m + 1 : Nat) : Int) ∣ ((j + 1 : Nat) : Int) * (bnN (m + 1) (j + 1) : Int) := ⟨(bnN m j : Int), by rw [← Int.natCast_mul, h2, Int.natCast_mul]⟩
  rcases prm_mul hp h3 with q | q
  · have := Nat.le_of_dvd (by omega) (Int.natCast_dvd_natCast.mp q)
    omega
  · exact Int.natCast_dvd_natCast.mp q
theorem binR {R : Type} [Lean.Grind.CommRing R] (a b : R) : ∀ n, (a + b) ^ n = sR (fun i => nR (bnN n i) * (a ^ i * b ^ (n - i))) (n + 1)
  | 0 => by
    show (a + b) ^ 0 = 0 + (0 + 1) * (a ^ 0 * b ^ 0)
    rw [pw_z1, pw_z1, pw_z1]; grind
  | n + 1 => by
    have ih := binR a b n
    rw [pw_s1, ih, sR_head (fun i => nR (bnN (n + 1) i) * (a ^ i * b ^ (n + 1 - i))) (n + 1)]
    have e1 : sR (fun i => nR (bnN (n + 1) (i + 1)) * (a ^ (i + 1) * b ^ (n + 1 - (i + 1)))) (n + 1) = a * sR (fun i => nR (bnN n i) * (a ^ i * b ^ (n - i))) (n + 1) + sR (fun i => nR (bnN n (i + 1)) * (a ^ (i + 1) * b ^ (n - i))) (n + 1) := by
      rw [← sR_mul, ← sR_add]
      refine sR_cong (fun i _ => ?_)
      rw [bnN_s, nR_add, pw_s1, show n + 1 - (i + 1) = n - i by omega]
      grind
    have e2 : sR (fun i => nR (bnN n (i + 1)) * (a ^ (i + 1) * b ^ (n - i))) (n + 1) = b * sR (fun i => nR (bnN n (i + 1)) * (a ^ (i + 1) * b ^ (n - (i + 1)))) n := by
      rw [← sR_mul]
      show sR _ n + nR (bnN n (n + 1)) * (a ^ (n + 1) * b ^ (n - n)) = _
      rw [bnN_gt n (n + 1) (by omega)]
      have e3 : sR (fun i => nR (bnN n (i + 1)) * (a ^ (i + 1) * b ^ (n - i))) n = sR (fun i => b * (nR (bnN n (i + 1)) * (a ^ (i + 1) * b ^ (n - (i + 1))))) n := sR_cong (fun i hi => by
        rw [show n - i = (n - (i + 1)) + 1 by omega, pw_s1]; grind)
      rw [e3]
      show _ + (0 : R) * _ = _
      grind
    have e4 := sR_head (fun i => nR (bnN n i) * (a ^ i * b ^ (n - i))) n
    rw [e1, e2]
    have e5 : (nR (bnN (n + 1) 0) : R) * (a ^ 0 * b ^ (n + 1 - 0)) = b * (nR (bnN n 0) * (a ^ 0 * b ^ (n - 0))) := by
      rw [bnN_0, bnN_0, Nat.sub_zero, Nat.sub_zero, pw_s1]; grind
    rw [e5]
    have e4' : sR (fun i => nR (bnN n i) * (a ^ i * b ^ (n - i))) (n + 1) = nR (bnN n 0) * (a ^ 0 * b ^ (n - 0)) + sR (fun i => nR (bnN n (i + 1)) * (a ^ (i + 1) * b ^ (n - (i + 1)))) n := e4
    generalize sR (fun i => nR (bnN n i) * (a ^ i * b ^ (n - i))) (n + 1) = S at e4' ⊢
    generalize sR (fun i => nR (bnN n (i + 1)) * (a ^ (i + 1) * b ^ (n - (i + 1)))) n = S2 at e4' ⊢
    generalize (nR (bnN n 0) * (a ^ 0 * b ^ (n - 0)) : R) = S3 at e4' ⊢
    grind
theorem frob {R : Type} [Lean.Grind.CommRing R] {p : Nat} (hp : PrmN p) (hc : (nR p : R) = 0) (a b : R) : (a + b) ^ p = a ^ p + b ^ p := by
  have h2 := hp.1
  obtain ⟨q, hq⟩ : ∃ q, p = q + 1 := ⟨p - 1, by omega⟩
  rw [binR]
  show sR _ p + nR (bnN p p) * (a ^ p * b ^ (p - p)) = _
  have e1 : sR (fun i => nR (bnN p i) * (a ^ i * b ^ (p - i))) p = (nR (bnN p 0) * (a ^ 0 * b ^ (p - 0)) : R) := by
    have e2 : sR (fun i => nR (bnN p i) * (a ^ i * b ^ (p - i))) (q + 1) = (nR (bnN p 0) * (a ^ 0 * b ^ (p - 0)) : R) := by
      rw [sR_head, sR_zero (fun i hi => ?_)]
      · grind
      · obtain ⟨c, h3⟩ := bnN_dv (k := i + 1) hp (by omega) (by omega)
        rw [h3, nR_mul, hc]; grind
    rw [← hq] at e2
    exact e2
  rw [e1, bnN_nn, bnN_0, Nat.sub_self, Nat.sub_zero, pw_z1, pw_z1]
  show (0 + 1) * (1 * b ^ p) + (0 + 1) * (a ^ p * 1) = _
  grind
theorem frobd {R : Type} [Lean.Grind.CommRing R] {p : Nat} (hp : PrmN p) (hc : (nR p : R) = 0) (a b : R) : ∀ d, (a + b) ^ (p ^ d) = a ^ (p ^ d) + b ^ (p ^ d)
  | 0 => by rw [Nat.pow_zero, show (1 : Nat) = 0 + 1 from rfl, pw_s1, pw_s1, pw_s1, pw_z1, pw_z1, pw_z1]; grind
  | d + 1 => by rw [Nat.pow_succ, pw_mul, frobd hp hc a b d, frob hp hc, ← pw_mul, ← pw_mul]
/-! roots of what leads with 1 -/
def evR {R : Type} [Lean.Grind.CommRing R] : List R → R → R
  | [], _ => 1
  | c :: cs, x => c + x * evR cs x
theorem ev_am {R : Type} [Lean.Grind.CommRing R] (a : R) : ∀ (ds cs : List R), cs.length = ds.length + 1 → ∃ es : List R, es.length = cs.length ∧ ∀ x, evR es x = evR cs x + a * evR ds x
  | [], cs, h => by
    match cs, h with
    | [c], _ => exact ⟨[c + a], rfl, fun x => by show c + a + x * 1 = c + x * 1 + a * 1; grind⟩
  | d :: ds, cs, h => by
    match cs, h with
    | c :: cs, h =>
      obtain ⟨es, h1, h2⟩ := ev_am a ds cs (by simpa using h)
      exact ⟨(c + a * d) :: es, by simp [h1], fun x => by
        show c + a * d + x * evR es x = c + x * evR cs x + a * (d + x * evR ds x)
        rw [h2]; grind⟩
theorem ev_sy {R : Type} [Lean.Grind.CommRing R] (a : R) : ∀ (cs : List R), cs ≠ [] → ∃ ds : List R, ds.length + 1 = cs.length ∧ ∀ x, evR cs x - evR cs a = (x - a) * evR ds x
  | [], h => absurd rfl h
  | [c], _ => ⟨[], rfl, fun x => by show c + x * 1 - (c + a * 1) = (x - a) * 1; grind⟩
  | c :: c2 :: cs, _ => by
    obtain ⟨ds, h1, h2⟩ := ev_sy a (c2 :: cs) (by simp)
    obtain ⟨es, h3, h4⟩ := ev_am a ds (c2 :: cs) h1.symm
    refine ⟨es, by simp at h3 ⊢; omega, fun x => ?_⟩
    have h5 := h2 x
    have h6 := h4 x
    show c + x * evR (c2 :: cs) x - (c + a * evR (c2 :: cs) a) = (x - a) * evR es x
    rw [h6]
    generalize evR (c2 :: cs) x = S1 at h5 ⊢
    generalize evR (c2 :: cs) a = S2 at h5 ⊢
    generalize evR ds x = S3 at h5 ⊢
    have e1 : x * S1 - a * S2 = (x - a) * S1 + a * (S1 - S2) := by grind
    have e2 : c + x * S1 - (c + a * S2) = x * S1 - a * S2 := by grind
    rw [e2, e1, h5]; grind
theorem ev_rt {R : Type} [Lean.Grind.CommRing R] {f : R} (hf : ¬ unR f) (hp : ∀ a b, dvR f (a * b) → dvR f a ∨ dvR f b) : ∀ (n : Nat) (cs L : List R), cs.length = n → L.length = n + 1 → (∀ a ∈ L, dvR f (evR cs a)) → L.Pairwise (fun a b => ¬ dvR f (b - a)) → False := by
  intro n
  induction n with
  | zero =>
    intro cs L h1 h2 h3 _
    match cs, L, h1, h2 with
    | [], [a], _, _ => exact hf ((h3 a (List.mem_cons_self ..)).un unR.one)
  | succ n ih =>
    intro cs L h1 h2 h3 h4
    match L, h2 with
    | a :: L, h2 =>
      obtain ⟨ds, h5, h6⟩ := ev_sy a cs (fun e => by rw [e] at h1; simp at h1)
      rw [List.pairwise_cons] at h4
      refine ih ds L (by omega) (by simpa using h2) (fun b hb => ?_) h4.2
      have h7 : dvR f ((b - a) * evR ds b) := by
        rw [← h6]
        exact (h3 b (List.mem_cons_of_mem _ hb)).sub (h3 a (List.mem_cons_self ..))
      rcases hp _ _ h7 with q | q
      · exact absurd q (h4.1 b hb)
      · exact q
theorem ev_rep {R : Type} [Lean.Grind.CommRing R] (x : R) : ∀ n, evR (List.replicate n 0) x = x ^ n
  | 0 => (pw_z1 x).symm
  | n + 1 => by
    rw [List.replicate_succ]
    show 0 + x * evR (List.replicate n 0) x = _
    rw [ev_rep x n, pw_s1]; grind
/-! numbers by a prime, one more carried along -/
def fpR (R : Type) [Lean.Grind.CommRing R] (sz : R → Nat) (mon : R → Prop) (z : R) (p : Nat) : Prop := euR R sz ∧ mnR mon ∧ PrmN p ∧ (nR p : R) = 0 ∧ (∀ P : R → Prop, P 0 → P 1 → P z → (∀ a b, P a → P b → P (a + b)) → (∀ a b, P a → P b → P (a * b)) → ∀ x, P x) ∧ ∀ e, ∃ L : List R, L.Nodup ∧ (∀ x, x ∈ L ↔ sz x ≤ e) ∧ L.length = p ^ e
theorem fpR.pos {p : Nat} (hp : PrmN p) (d : Nat) (hd : 1 ≤ d) : 2 ≤ p ^ d := by
  obtain ⟨e, rfl⟩ : ∃ e, d = e + 1 := ⟨d - 1, by omega⟩
  rw [Nat.pow_succ]
  have h1 := hp.1
  have h2 : 1 ≤ p ^ e := Nat.le_trans Nat.one_le_two_pow (Nat.pow_le_pow_left h1 e)
  exact Nat.le_trans h1 (Nat.le_mul_of_pos_left p h2)
theorem fpR.all {R : Type} [Lean.Grind.CommRing R] {sz : R → Nat} {mon : R → Prop} {z : R} {p : Nat} (F : fpR R sz mon z p) {d : Nat} (hd : 1 ≤ d) {h : R} (H : dvR h (z ^ (p ^ d) - z)) (x : R) : dvR h (x ^ (p ^ d) - x) := by
  have hN := fpR.pos F.2.2.1 d hd
  refine F.2.2.2.2.1 (fun x => dvR h (x ^ (p ^ d) - x)) ?_ ?_ H (fun a b ha hb => ?_) (fun a b ha hb => ?_) x
  · show dvR h ((0 : R) ^ (p ^ d) - 0)
    rw [zero_pw (by omega), show (0 : R) - 0 = 0 by grind]; exact dvR.zero
  · show dvR h ((1 : R) ^ (p ^ d) - 1)
    rw [one_pw, show (1 : R) - 1 = 0 by grind]; exact dvR.zero
  · show dvR h ((a + b) ^ (p ^ d) - (a + b))
    rw [frobd F.2.2.1 F.2.2.2.1, show a ^ (p ^ d) + b ^ (p ^ d) - (a + b) = (a ^ (p ^ d) - a) + (b ^ (p ^ d) - b) by grind]
    exact ha.add hb
  · show dvR h ((a * b) ^ (p ^ d) - a * b)
    rw [mul_pw, show a ^ (p ^ d) * b ^ (p ^ d) - a * b = a ^ (p ^ d) * (b ^ (p ^ d) - b) + b * (a ^ (p ^ d) - a) by grind]
    exact (hb.ml _).add (ha.ml _)
/-- no square goes in -/
theorem fpR.sqf {R : Type} [Lean.Grind.CommRing R] {sz : R → Nat} {mon : R → Prop} {z : R} {p : Nat} (F : fpR R sz mon z p) {d : Nat} (hd : 1 ≤ d) {g : R} (hg : g ≠ 0) (H : dvR (g * g) (z ^ (p ^ d) - z)) : unR g := by
  have hN := fpR.pos F.2.2.1 d hd
  obtain ⟨c, hc⟩ := F.all hd H g
  obtain ⟨m, hm⟩ : ∃ m, p ^ d = m + 1 + 1 := ⟨p ^ d - 2, by omega⟩
  rw [hm, pw_s1, pw_s1] at hc
  have h1 : g * (1 - g * (g ^ m - c)) = 0 := by grind
  rcases F.1.dom h1 with q | q
  · exact absurd q hg
  · exact ⟨g ^ m - c, by grind⟩
theorem fpR.small {R : Type} [Lean.Grind.CommRing R] {sz : R → Nat} {mon : R → Prop} {z : R} {p : Nat} (F : fpR R sz mon z p) {f x : R} (hx : sz x < sz f) (h : dvR f x) : x = 0 := by
  refine Classical.byContradiction fun q => ?_
  have := F.1.dvsz h q
  omega
/-- what is greater doesn't go in -/
theorem fpR.great {R : Type} [Lean.Grind.CommRing R] {sz : R → Nat} {mon : R → Prop} {z : R} {p : Nat} (F : fpR R sz mon z p) {d : Nat} (hd : 1 ≤ d) {f : R} (hf : irR f) (H : dvR f (z ^ (p ^ d) - z)) : sz f ≤ d + 1 := by
  refine Classical.byContradiction fun q => ?_
  have hN := fpR.pos F.2.2.1 d hd
  obtain ⟨L, h1, h2, h3⟩ := F.2.2.2.2.2 (d + 1)
  obtain ⟨m, hm⟩ : ∃ m, p ^ d = m + 1 + 1 := ⟨p ^ d - 2, by omega⟩
  have h4 : p ^ d + 1 ≤ p ^ (d + 1) := by
    rw [Nat.pow_succ]
    have h9 := F.2.2.1.1
    have : p ^ d * 2 ≤ p ^ d * p := Nat.mul_le_mul_left _ h9
    omega
  refine ev_rt hf.2.1 (fun a b => F.1.prime hf) (p ^ d) (0 :: (-1) :: List.replicate m 0) (L.take (p ^ d + 1)) (by simp [hm]) (by rw [List.length_take, h3]; omega) (fun a _ => ?_) ?_
  · have e : evR (0 :: (-1) :: List.replicate m 0) a = a ^ (p ^ d) - a := by
      show 0 + a * (-1 + a * evR (List.replicate m 0) a) = _
      rw [ev_rep, hm, pw_s1, pw_s1]; grind
    rw [e]
    exact F.all hd H a
  · have hn : (L.take (p ^ d + 1)).Nodup := h1.sublist (List.take_sublist _ _)
    refine List.Pairwise.imp_of_mem (fun {a b} ha hb hab hdv => ?_) hn
    have ha := (h2 a).mp (List.mem_of_mem_take ha)
    have hb := (h2 b).mp (List.mem_of_mem_take hb)
    have h5 := F.1.2.2.2.2 b a
    have h6 := F.small (x := b - a) (by omega) hdv
    exact hab (by grind)
/-- what is as great goes in -/
theorem fpR.fermat {R : Type} [Lean.Grind.CommRing R] {sz : R → Nat} {mon : R → Prop} {z : R} {p : Nat} (F : fpR R sz mon z p) {d : Nat} {f : R} (hf : irR f) (hs : sz f = d + 1) : dvR f (z ^ (p ^ d) - z) := by
  by_cases hz : dvR f z
  · have h1 := hf.2.1
    have hN : 1 ≤ p ^ d := Nat.le_trans Nat.one_le_two_pow (Nat.pow_le_pow_left F.2.2.1.1 d)
    obtain ⟨m, hm⟩ : ∃ m, p ^ d = m + 1 := ⟨p ^ d - 1, by omega⟩
    rw [hm, pw_s1]
    exact (hz.ml _).sub hz
  · obtain ⟨L, h1, h2, h3⟩ := F.2.2.2.2.2 d
    have h0 : (0 : R) ∈ L := (h2 0).mpr (by rw [(F.1.1 0).mpr rfl]; omega)
    obtain ⟨s, t, hst⟩ := List.append_of_mem h0
    have hp9 : L.Perm (0 :: (s ++ t)) := by rw [hst]; exact List.perm_middle
    have hn9 := hp9.nodup h1
    rw [List.nodup_cons] at hn9
    generalize hA : s ++ t = A at hp9 hn9
    have hmA : ∀ x, x ∈ A ↔ x ≠ 0 ∧ sz x ≤ d := fun x => by
      have h4 := hp9.mem_iff (a := x)
      rw [h2, List.mem_cons] at h4
      constructor
      · intro hx
        exact ⟨fun e => hn9.1 (e ▸ hx), h4.mpr (Or.inr hx)⟩
      · rintro ⟨hx, hd⟩
        rcases h4.mp hd with q | q
        · exact absurd q hx
        · exact q
    have hlA : A.length + 1 = p ^ d := by rw [← h3, hp9.length_eq]; simp
    have hρ : ∀ x : R, ∃ r, sz r ≤ d ∧ dvR f (x - r) := fun x => by
      obtain ⟨q, r, e1, e2⟩ := F.1.2.2.1 x f hf.1
      exact ⟨r, by omega, ⟨q, by grind⟩⟩
    obtain ⟨ρ, hρ⟩ := Classical.axiomOfChoice hρ
    have hnz : ∀ x ∈ A, ¬ dvR f x := fun x hx q => by
      have h5 := (hmA x).mp hx
      exact h5.1 (F.small (by omega) q)
    have hpm : (A.map (fun x => ρ (z * x))).Perm A := by
      refine nd_perm ?_ ?_ (by simp)
      · refine (List.pairwise_map).mpr (List.Pairwise.imp_of_mem (fun {a b} ha hb hab e => ?_) hn9.2)
        have h5 := (hρ (z * a)).2
        have h6 := (hρ (z * b)).2
        have e : ρ (z * a) = ρ (z * b) := e
        rw [e] at h5
        have h7 : dvR f (z * (a - b)) := by
          have := h5.sub h6
          rw [show z * a - ρ (z * b) - (z * b - ρ (z * b)) = z * (a - b) by grind] at this
          exact this
        rcases F.1.prime hf h7 with q | q
        · exact hz q
        · have h8 := (hmA a).mp ha
          have h9 := (hmA b).mp hb
          have h10 := F.1.2.2.2.2 a b
          have h11 := F.small (x := a - b) (by omega) q
          exact hab (by grind)
      · intro x hx
        obtain ⟨a, ha, rfl⟩ := List.mem_map.mp hx
        refine (hmA _).mpr ⟨fun e => ?_, (hρ _).1⟩
        have h5 := (hρ (z * a)).2
        have e : ρ (z * a) = 0 := e
        rw [e, show z * a - 0 = z * a by grind] at h5
        rcases F.1.prime hf h5 with q | q
        · exact hz q
        · exact hnz a ha q
    have hprod : ∀ B : List R, dvR f (z ^ B.length * prL B - prL (B.map (fun x => ρ (z * x)))) := fun B => by
      induction B with
      | nil => 
        show dvR f (z ^ 0 * 1 - 1)
        rw [pw_z1, show (1 : R) * 1 - 1 = 0 by grind]; exact dvR.zero
      | cons b B ih =>
        show dvR f (z ^ (B.length + 1) * (b * prL B) - ρ (z * b) * prL (B.map (fun x => ρ (z * x))))
        have h5 := (hρ (z * b)).2
        rw [pw_s1]
        generalize prL (B.map (fun x => ρ (z * x))) = T at ih ⊢
        generalize ρ (z * b) = T2 at h5 ⊢
        have h6 := (ih.ml (z * b)).add (h5.mr T)
        rw [show z * b * (z ^ B.length * prL B - T) + (z * b - T2) * T = z ^ B.length * z * (b * prL B) - T2 * T by grind] at h6
        exact h6
    have h6 := hprod A
    rw [prL_perm hpm, show z ^ A.length * prL A - prL A = (z ^ A.length - 1) * prL A by grind] at h6
    have h7 : ∀ B : List R, (∀ x ∈ B, ¬ dvR f x) → ¬ dvR f (prL B) := fun B => by
      induction B with
      | nil => intro _ q; exact hf.2.1 (q.un unR.one)
      | cons b B ih =>
        intro hB q
        rcases F.1.prime hf (show dvR f (b * prL B) from q) with w | w
        · exact hB b (List.mem_cons_self ..) w
        · exact ih (fun x hx => hB x (List.mem_cons_of_mem _ hx)) w
    rcases F.1.prime hf h6 with q | q
    · have := q.mr z
      rw [← hlA, pw_s1]
      rw [show (z ^ A.length - 1) * z = z ^ A.length * z - z by grind] at this
      exact this
    · exact absurd q (h7 A hnz)
/-- the greatest common part of what is left and of z to the (p to the d) less z -/
theorem fpR.share {R : Type} [Lean.Grind.CommRing R] {sz : R → Nat} {mon : R → Prop} {z : R} {p : Nat} (F : fpR R sz mon z p) {d : Nat} (hd : 1 ≤ d) {B D : List R} {S l : R} (hB : ∀ f ∈ B, irR f ∧ mon f ∧ d + 1 ≤ sz f) (hl : ∃ u, unR u ∧ l = u * prL B) (hS1 : dvR S l) (hS2 : dvR S (z ^ (p ^ d) - z)) (hS3 : ∀ c, dvR c l → dvR c (z ^ (p ^ d) - z) → dvR c S) (hD : D.Nodup) (hDB : ∀ x, x ∈ D ↔ x ∈ B ∧ sz x = d + 1) : ∃ w, unR w ∧ S = prL D * w := by
  obtain ⟨u, hu, hl⟩ := hl
  have hBm : ∀ g ∈ B, irR g ∧ mon g := fun g hg => ⟨(hB g hg).1, (hB g hg).2.1⟩
  have hDm : ∀ g ∈ D, irR g ∧ mon g := fun g hg => hBm g ((hDB g).mp hg).1
  have h1 : dvR (prL D) l := F.1.copr F.2.1 hD hDm (fun g hg => by rw [hl]; exact (prL_mem ((hDB g).mp hg).1).ml u)
  have h2 : dvR (prL D) (z ^ (p ^ d) - z) := F.1.copr F.2.1 hD hDm (fun g hg => F.fermat (hDm g hg).1 ((hDB g).mp hg).2)
  obtain ⟨T, hT⟩ := hS3 _ h1 h2
  refine ⟨T, Classical.byContradiction fun q => ?_, hT⟩
  have hB0 : ∀ B : List R, (∀ f ∈ B, irR f) → prL B ≠ 0 := fun B => by
    induction B with
    | nil => intro _; exact F.1.one0
    | cons b B ih =>
      intro hB e
      rcases F.1.dom (show b * prL B = 0 from e) with w | w
      · exact (hB b (List.mem_cons_self ..)).1 w
      · exact ih (fun x hx => hB x (List.mem_cons_of_mem _ hx)) w
  have hT0 : T ≠ 0 := fun e => by
    rw [e] at hT
    have hS0 : S = 0 := by rw [hT]; grind
    obtain ⟨c, hc⟩ := hS1
    rw [hS0, hl] at hc
    obtain ⟨v, hv⟩ := hu
    refine hB0 B (fun f hf => (hB f hf).1) ?_
    have e1 : prL B = u * prL B * v := by grind
    rw [e1, hc]; grind
  obtain ⟨f, hf, hfT⟩ := F.1.fac1 _ T (Nat.le_refl _) hT0 q
  obtain ⟨v, hv, hm⟩ := F.2.1.1 f hf.1
  obtain ⟨v2, hv2, -⟩ := hv.inv
  have hg := hf.mu hv
  have hgT : dvR (f * v) T := by
    obtain ⟨c, hc⟩ := hfT
    exact ⟨v2 * c, by rw [hc]; grind⟩
  have hgS : dvR (f * v) S := by rw [hT]; exact hgT.ml _
  have hgB : f * v ∈ B := F.1.memL F.2.1 hg hm hBm (by
    have := hgS.tr hS1
    rw [hl] at this
    exact this.cu hu)
  have h3 := F.great hd hg (hgS.tr hS2)
  have h4 := (hB _ hgB).2.2
  have hgD : f * v ∈ D := (hDB _).mpr ⟨hgB, by omega⟩
  have h5 : dvR (f * v * (f * v)) S := by rw [hT]; exact (prL_mem hgD).mm hgT
  exact hg.2.1 (F.sqf hd hg.1 (h5.tr hS2))
