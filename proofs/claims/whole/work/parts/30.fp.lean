/-! the polynomials by a prime have a size, and what leads with 1 -/
theorem hp0 {q : Nat} (hq : PrmN q) : (0 : Int) < (q : Int) := by have := hq.1; omega
noncomputable def pzS {p : Int} (x : PZ p) : Nat := Classical.epsilon (fun n : Nat => (∀ i, n ≤ i → x.1 i = 0) ∧ (n = 0 ∨ x.1 (n - 1) ≠ 0))
theorem pzS_spec {p : Int} (x : PZ p) : (∀ i, pzS x ≤ i → x.1 i = 0) ∧ (pzS x = 0 ∨ x.1 (pzS x - 1) ≠ 0) := by
  refine Classical.epsilon_spec (p := fun n : Nat => (∀ i, n ≤ i → x.1 i = 0) ∧ (n = 0 ∨ x.1 (n - 1) ≠ 0)) ?_
  obtain ⟨n, hn⟩ := x.2.2
  obtain ⟨l, -, h1, h2⟩ := least_ex (fun n => ∀ i, n ≤ i → x.1 i = 0) hn
  refine ⟨l, h1, ?_⟩
  by_cases h0 : l = 0
  · exact Or.inl h0
  · refine Or.inr (fun e => h2 (l - 1) (by omega) (fun i hi => ?_))
    by_cases z : i = l - 1
    · rw [z]; exact e
    · exact h1 i (by omega)
theorem pzS_one {p : Int} {x : PZ p} {n : Nat} (h1 : ∀ i, n ≤ i → x.1 i = 0) (h2 : n = 0 ∨ x.1 (n - 1) ≠ 0) : pzS x = n := by
  have h3 := pzS_spec x
  by_cases z : pzS x < n
  · rcases h2 with e | e
    · omega
    · exact absurd (h3.1 (n - 1) (by omega)) e
  · by_cases w : n < pzS x
    · rcases h3.2 with e | e
      · omega
      · exact absurd (h1 (pzS x - 1) (by omega)) e
    · omega
theorem pzS_le {p : Int} {x : PZ p} {n : Nat} (h1 : ∀ i, n ≤ i → x.1 i = 0) : pzS x ≤ n := by
  refine Nat.not_lt.mp fun w => ?_
  rcases (pzS_spec x).2 with e | e
  · omega
  · exact absurd (h1 (pzS x - 1) (by omega)) e
theorem pz_cg0 {p : Int} {x : PZ p} {i : Nat} (h : cg p (x.1 i) 0) : x.1 i = 0 := by
  have := h.emod
  rw [Int.emod_eq_of_lt (x.2.1 i).1 (x.2.1 i).2, Int.zero_emod] at this
  exact this
theorem pzS_zero {p : Int} (hp : 0 < p) (x : PZ p) : pzS x = 0 ↔ x = pzX hp 0 0 := by
  constructor
  · intro h
    exact pz_ext (fun i => by rw [(pzS_spec x).1 i (by omega)]; exact (cg.of (by split <;> rfl)).tr (pzX_cg hp i).sy)
  · intro h
    refine pzS_one (fun i _ => ?_) (Or.inl rfl)
    rw [h]
    exact pz_cg0 ((pzX_cg hp i).tr (cg.of (by split <;> rfl)))
theorem pz_ne {q : Nat} (hq : PrmN q) {x : Int} (h0 : 0 ≤ x) (h1 : x < q) (h2 : x ≠ 0) : ¬ (q : Int) ∣ x := fun h => by
  have := Int.le_of_dvd (by omega) h
  omega
theorem pzS_mul {q : Nat} (hq : PrmN q) {x y : PZ q} (hx : pzS x ≠ 0) (hy : pzS y ≠ 0) : pzS (pzMul (hp0 hq) x y) + 1 = pzS x + pzS y := by
  have h1 := pzS_spec x
  have h2 := pzS_spec y
  obtain ⟨m, hm⟩ : ∃ m, pzS x = m + 1 := ⟨pzS x - 1, by omega⟩
  obtain ⟨k, hk⟩ : ∃ k, pzS y = k + 1 := ⟨pzS y - 1, by omega⟩
  have e : pzS (pzMul (hp0 hq) x y) = m + k + 1 := by
    refine pzS_one (fun i hi => pz_cg0 ((pzMul_cg (hp0 hq) i).tr (cg.of (conv_fs h1.1 h2.1 i (by omega))))) (Or.inr ?_)
    have e1 : conv x.1 y.1 (m + k) = x.1 m * y.1 k := by
      unfold conv
      rw [sm_tail (g := fun t => x.1 t * y.1 (m + k - t)) (a := m + 1) (by omega) (fun j h3 h4 => by rw [h1.1 j (by omega), Int.zero_mul]), sm_s, sm_nil (fun j hj => by rw [h2.1 (m + k - j) (by omega), Int.mul_zero]), Int.zero_add, show m + k - m = k by omega]
    intro z
    have z : (pzMul (hp0 hq) x y).1 (m + k) = 0 := z
    have h5 : cg q (x.1 m * y.1 k) 0 := by
      have := pzMul_cg (hp0 hq) (a := x) (b := y) (m + k)
      rw [z, e1] at this
      exact this.sy
    have h6 : (q : Int) ∣ x.1 m * y.1 k := by
      have h7 : (q : Int) ∣ (x.1 m * y.1 k - 0) := h5
      rw [Int.sub_zero] at h7; exact h7
    rcases prm_mul hq h6 with w | w
    · rcases h1.2 with v | v
      · omega
      · rw [hm] at v; exact pz_ne hq (x.2.1 m).1 (x.2.1 m).2 v w
    · rcases h2.2 with v | v
      · omega
      · rw [hk] at v; exact pz_ne hq (y.2.1 k).1 (y.2.1 k).2 v w
  omega
theorem pz_inv {q : Nat} (hq : PrmN q) {t : Int} (h0 : 0 ≤ t) (h1 : t < q) (h2 : t ≠ 0) : ∃ u : Int, cg q (t * u) 1 := by
  obtain ⟨x, hx⟩ := prm_invx hq t.toNat (by omega) (by omega)
  rw [Int.toNat_of_nonneg h0] at hx
  exact ⟨x, hx⟩
theorem pz_div {q : Nat} (hq : PrmN q) {y : PZ q} (hy : pzS y ≠ 0) : ∀ (n : Nat) (x : PZ q), pzS x ≤ n → ∃ g r, x = pzAdd (hp0 hq) (pzMul (hp0 hq) g y) r ∧ pzS r < pzS y := by
  have hp := hp0 hq
  have triv : ∀ x : PZ q, pzS x < pzS y → ∃ g r, x = pzAdd (hp0 hq) (pzMul (hp0 hq) g y) r ∧ pzS r < pzS y := fun x h => ⟨pzX (hp0 hq) 0 0, x, by rw [pzMul_zero, pzAdd_comm, pzAdd_zero], h⟩
  intro n
  induction n with
  | zero => intro x h; exact triv x (by omega)
  | succ n ih =>
    intro x h
    by_cases h1 : pzS x < pzS y
    · exact triv x h1
    · by_cases h2 : pzS x ≤ n
      · exact ih x h2
      · have hx := pzS_spec x
        have hys := pzS_spec y
        obtain ⟨k, hk⟩ : ∃ k, pzS y = k + 1 := ⟨pzS y - 1, by omega⟩
        have hyt : y.1 k ≠ 0 := by
          rcases hys.2 with v | v
          · omega
          · rw [hk] at v; exact v
        obtain ⟨u, hu⟩ := pz_inv hq (y.2.1 k).1 (y.2.1 k).2 hyt
        let M : PZ q := pzX (hp0 hq) (x.1 n * u) (n - k)
        have h3 : pzS (pzAdd (hp0 hq) x (pzNeg (hp0 hq) (pzMul (hp0 hq) M y))) ≤ n := by
          refine pzS_le (fun i hi => pz_cg0 ?_)
          have e1 : cg q ((pzMul (hp0 hq) M y).1 i) (if n - k ≤ i then x.1 n * u * y.1 (i - (n - k)) else 0) := (pzMul_cg (hp0 hq) i).tr ((conv_cg (fun i => pzX_cg (hp0 hq) i) (fun i => cg.rf) i).tr (cg.of (conv_mon _ _ _ _)))
          refine (pzAdd_cg (hp0 hq) i).tr ((cg.rf.add (pzNeg_cg (hp0 hq) i)).tr ?_)
          rw [if_pos (by omega)] at e1
          by_cases z : i = n
          · rw [z] at e1 ⊢
            rw [show n - (n - k) = k by omega] at e1
            have e2 := (cg.rf (m := q) (x := x.1 n)).sub e1
            refine (cg.of (Int.sub_eq_add_neg).symm).tr (e2.tr ?_)
            have e3 : cg q (x.1 n * (y.1 k * u)) (x.1 n * 1) := cg.rf.mul hu
            have e4 := (cg.rf (m := q) (x := x.1 n)).sub e3
            refine (cg.of ?_).tr (e4.tr (cg.of (by omega)))
            rw [Int.mul_assoc, Int.mul_comm u (y.1 k)]
          · rw [hys.1 (i - (n - k)) (by omega), Int.mul_zero] at e1
            have e2 := (cg.rf (m := q) (x := x.1 i)).sub e1
            rw [hx.1 i (by omega)] at e2 ⊢
            exact (cg.of (Int.sub_eq_add_neg).symm).tr (e2.tr (cg.of (by omega)))
        obtain ⟨g, r, h4, h5⟩ := ih _ h3
        refine ⟨pzAdd (hp0 hq) g M, r, ?_, h5⟩
        letI := pzRing (hp0 hq)
        have h6 : x + -(M * y) = g * y + r := h4
        show x = (g + M) * y + r
        grind
theorem pz_sub {p : Int} (hp : 0 < p) (x y : PZ p) : pzS (pzAdd hp x (pzNeg hp y)) ≤ max (pzS x) (pzS y) := pzS_le (fun i hi => pz_cg0 ((pzAdd_cg hp i).tr ((cg.rf.add (pzNeg_cg hp i)).tr (cg.of (by rw [(pzS_spec x).1 i (by omega), (pzS_spec y).1 i (by omega)]; rfl)))))
theorem pz_eu {q : Nat} (hq : PrmN q) : @euR (PZ q) (pzRing (hp0 hq)) pzS := by
  have h0 : ∀ x : PZ q, x ≠ pzX (hp0 hq) 0 0 → pzS x ≠ 0 := fun x h e => h ((pzS_zero (hp0 hq) x).mp e)
  refine ⟨fun x => pzS_zero (hp0 hq) x, fun x y hx hy => pzS_mul hq (h0 x hx) (h0 y hy), fun x y hy => pz_div hq (h0 y hy) _ x (Nat.le_refl _), ?_, fun x y => pz_sub (hp0 hq) x y⟩
  show pzS (pzX (hp0 hq) 1 0) = 1
  refine pzS_one (fun i hi => pz_cg0 ((pzX_cg (hp0 hq) i).tr (cg.of (if_neg (by omega))))) (Or.inr ?_)
  show (1 : Int) % q ≠ 0
  have := hq.1
  rw [Int.emod_eq_of_lt (by omega) (by omega)]
  omega
def pzMon {p : Int} (x : PZ p) : Prop := pzS x ≠ 0 ∧ x.1 (pzS x - 1) = 1
theorem pzc_cg {p : Int} (hp : 0 < p) (x : PZ p) (u : Int) (i : Nat) : cg p ((pzMul hp x (pzX hp u 0)).1 i) (x.1 i * u) := by
  rw [pzMul_comm]
  exact (pzMul_cg hp i).tr ((conv_cg (fun i => pzX_cg hp i) (fun i => cg.rf) i).tr (cg.of (by rw [conv_one, Int.mul_comm])))
theorem pz_1 {q : Nat} (hq : PrmN q) {x : Int} (h : cg q x 1) (h0 : 0 ≤ x) (h1 : x < q) : x = 1 := by
  have h2 := h.emod
  have := hq.1
  rw [Int.emod_eq_of_lt h0 h1, Int.emod_eq_of_lt (by omega) (by omega)] at h2
  exact h2
theorem pz_mn {q : Nat} (hq : PrmN q) : @mnR (PZ q) (pzRing (hp0 hq)) pzMon := by
  letI := pzRing (hp0 hq)
  have E := pz_eu hq
  refine ⟨fun x hx => ?_, fun x y hx hy ⟨u, hu, hyx⟩ => ?_⟩
  · have h0 : pzS x ≠ 0 := fun e => hx ((pzS_zero (hp0 hq) x).mp e)
    obtain ⟨k, hk⟩ : ∃ k, pzS x = k + 1 := ⟨pzS x - 1, by omega⟩
    have hyt : x.1 k ≠ 0 := by
      rcases (pzS_spec x).2 with v | v
      · omega
      · rw [hk] at v; exact v
    obtain ⟨u, hu⟩ := pz_inv hq (x.2.1 k).1 (x.2.1 k).2 hyt
    have hun : unR (pzX (hp0 hq) u 0) := ⟨pzX (hp0 hq) (x.1 k) 0, pz_ext (fun i => by
      refine (pzc_cg (hp0 hq) _ _ i).tr (((pzX_cg (hp0 hq) i).mul cg.rf).tr (cg.tr ?_ (pzX_cg (hp0 hq) i).sy))
      by_cases z : i = 0
      · rw [if_pos z]; show cg q (u * x.1 k) (if i = 0 then 1 else 0); rw [if_pos z, Int.mul_comm]; exact hu
      · rw [if_neg z]; show cg q (0 * x.1 k) (if i = 0 then 1 else 0); rw [if_neg z, Int.zero_mul]; exact cg.rf)⟩
    refine ⟨pzX (hp0 hq) u 0, hun, ?_⟩
    have e1 : pzS (x * pzX (hp0 hq) u 0) = pzS x := by
      have h5 := E.2.1 x (pzX (hp0 hq) u 0) hx (fun e => by rw [e] at hun; obtain ⟨c, hc⟩ := hun; exact E.one0 (by rw [← hc]; grind))
      have h6 := E.un1 hun
      omega
    refine ⟨by rw [e1]; exact h0, ?_⟩
    rw [e1, hk]
    refine pz_1 hq ((pzc_cg (hp0 hq) x u k).tr hu) ((x * pzX (hp0 hq) u 0).2.1 k).1 ((x * pzX (hp0 hq) u 0).2.1 k).2
  · have h1 := E.un1 hu
    have hu1 := pzS_spec u
    have e1 : u = pzX (hp0 hq) (u.1 0) 0 := pz_ext (fun i => cg.tr (by
      by_cases z : i = 0
      · rw [z]; exact cg.rf
      · rw [if_neg z, hu1.1 i (by omega)]; exact cg.rf) (pzX_cg (hp0 hq) i).sy)
    have e2 : pzS y = pzS x := by
      rw [hyx]
      have h5 := pzS_mul hq (x := x) (y := u) hx.1 (by omega)
      have h5 : pzS (x * u) + 1 = pzS x + pzS u := h5
      omega
    have e3 : cg q (y.1 (pzS x - 1)) (x.1 (pzS x - 1) * u.1 0) := by
      rw [hyx, e1]
      refine (pzc_cg (hp0 hq) x (u.1 0) _).tr (cg.of ?_)
      rw [← e1]
    rw [← e2, hy.2, e2, hx.2, Int.one_mul] at e3
    have e4 : u.1 0 = 1 := pz_1 hq e3.sy (u.2.1 0).1 (u.2.1 0).2
    rw [hyx, e1, e4]
    show x = x * 1
    grind
theorem nR_pz {q : Nat} (hq : PrmN q) : ∀ n : Nat, @nR (PZ q) (pzRing (hp0 hq)) n = pzX (hp0 hq) (n : Int) 0
  | 0 => rfl
  | n + 1 => by
    show pzAdd (hp0 hq) (@nR (PZ q) (pzRing (hp0 hq)) n) (pzX (hp0 hq) 1 0) = _
    rw [nR_pz hq n, ← pzX_add]
    rfl
theorem pz_gen {q : Nat} (hq : PrmN q) (P : PZ q → Prop) (h0 : P (pzX (hp0 hq) 0 0)) (h1 : P (pzX (hp0 hq) 1 0)) (hz : P (pzX (hp0 hq) 1 1)) (ha : ∀ a b, P a → P b → P (pzAdd (hp0 hq) a b)) (hm : ∀ a b, P a → P b → P (pzMul (hp0 hq) a b)) : ∀ x, P x := by
  have hc : ∀ n : Nat, P (pzX (hp0 hq) (n : Int) 0) := fun n => by
    induction n with
    | zero => exact h0
    | succ n ih => rw [Int.natCast_add, pzX_add]; exact ha _ _ ih h1
  have hx : ∀ (n : Nat) (x : PZ q), pzS x ≤ n → P x := fun n => by
    induction n with
    | zero => intro x h; rw [(pzS_zero (hp0 hq) x).mp (by omega)]; exact h0
    | succ n ih =>
      intro x h
      let y : PZ q := ⟨fun i => x.1 (i + 1), fun i => x.2.1 (i + 1), pzS x, fun i hi => (pzS_spec x).1 (i + 1) (by omega)⟩
      have hy : pzS y ≤ n := pzS_le (fun i hi => (pzS_spec x).1 (i + 1) (by omega))
      have e : x = pzAdd (hp0 hq) (pzX (hp0 hq) (((x.1 0).toNat : Nat) : Int) 0) (pzMul (hp0 hq) (pzX (hp0 hq) 1 1) y) := pz_ext (fun i => by
        have e1 : cg q ((pzMul (hp0 hq) (pzX (hp0 hq) 1 1) y).1 i) (if 1 ≤ i then 1 * y.1 (i - 1) else 0) := (pzMul_cg (hp0 hq) i).tr ((conv_cg (fun i => pzX_cg (hp0 hq) i) (fun i => cg.rf) i).tr (cg.of (conv_mon _ _ _ _)))
        refine cg.tr ?_ ((pzAdd_cg (hp0 hq) i).tr ((pzX_cg (hp0 hq) i).add e1)).sy
        rw [Int.toNat_of_nonneg (x.2.1 0).1]
        by_cases z : i = 0
        · rw [z]; exact cg.of (by simp)
        · rw [if_neg z, if_pos (by omega)]
          refine cg.of ?_
          show x.1 i = 0 + 1 * x.1 (i - 1 + 1)
          rw [show i - 1 + 1 = i by omega]; omega)
      rw [e]
      exact ha _ _ (hc _) (hm _ _ hz (ih y hy))
  exact fun x => hx _ x (Nat.le_refl _)
/-! figures by q -/
theorem dg_inj {q : Nat} (hq : 2 ≤ q) : ∀ (e a b : Nat), a < q ^ e → b < q ^ e → (∀ i, i < e → a / q ^ i % q = b / q ^ i % q) → a = b
  | 0, a, b, ha, hb, _ => by rw [Nat.pow_zero] at ha hb; omega
  | e + 1, a, b, ha, hb, h => by
    have h0 := h 0 (by omega)
    rw [Nat.pow_zero, Nat.div_one, Nat.div_one] at h0
    have h1 : a / q = b / q := dg_inj hq e (a / q) (b / q) (Nat.div_lt_of_lt_mul (by rw [Nat.mul_comm, ← Nat.pow_succ]; exact ha)) (Nat.div_lt_of_lt_mul (by rw [Nat.mul_comm, ← Nat.pow_succ]; exact hb)) (fun i hi => by
      have := h (i + 1) (by omega)
      rw [Nat.pow_succ, Nat.mul_comm, ← Nat.div_div_eq_div_mul, ← Nat.div_div_eq_div_mul] at this
      exact this)
    have h2 := Nat.mod_add_div a q
    have h3 := Nat.mod_add_div b q
    rw [h0, h1] at h2
    omega
theorem dg_ex {q : Nat} (hq : 2 ≤ q) : ∀ (e : Nat) (x : Nat → Int), (∀ i, 0 ≤ x i ∧ x i < q) → ∃ a, a < q ^ e ∧ ∀ i, i < e → ((a / q ^ i % q : Nat) : Int) = x i
  | 0, x, _ => ⟨0, by rw [Nat.pow_zero]; omega, fun i hi => by omega⟩
  | e + 1, x, hx => by
    obtain ⟨a, h1, h2⟩ := dg_ex hq e (fun i => x (i + 1)) (fun i => hx (i + 1))
    have hx0 := hx 0
    have hd : ((x 0).toNat + q * a) / q = a := by rw [Nat.add_mul_div_left _ _ (by omega), Nat.div_eq_of_lt (by omega), Nat.zero_add]
    refine ⟨(x 0).toNat + q * a, ?_, fun i hi => ?_⟩
    · have h3 : q * (a + 1) ≤ q * q ^ e := Nat.mul_le_mul_left q h1
      rw [Nat.pow_succ, Nat.mul_comm (q ^ e) q]
      rw [Nat.mul_succ] at h3
      omega
    · cases i with
      | zero => rw [Nat.pow_zero, Nat.div_one, Nat.add_mul_mod_self_left, Nat.mod_eq_of_lt (by omega), Int.toNat_of_nonneg hx0.1]
      | succ i => rw [Nat.pow_succ, Nat.mul_comm (q ^ i) q, ← Nat.div_div_eq_div_mul, hd]; exact h2 i (by omega)
def pzD {q : Nat} (hq : PrmN q) (e a : Nat) : PZ q := ⟨fun i => if i < e then ((a / q ^ i % q : Nat) : Int) else 0, fun i => by
  have := hq.1
  have := Nat.mod_lt (a / q ^ i) (y := q) (by omega)
  show 0 ≤ (if i < e then ((a / q ^ i % q : Nat) : Int) else 0) ∧ (if i < e then ((a / q ^ i % q : Nat) : Int) else 0) < q
  split <;> omega, e, fun i hi => if_neg (by omega)⟩
theorem pz_fin {q : Nat} (hq : PrmN q) (e : Nat) : ∃ L : List (PZ q), L.Nodup ∧ (∀ x, x ∈ L ↔ pzS x ≤ e) ∧ L.length = q ^ e := by
  refine ⟨(List.range (q ^ e)).map (pzD hq e), ?_, fun x => ?_, by simp⟩
  · refine (List.pairwise_map).mpr (List.Pairwise.imp_of_mem (fun {a b} ha hb hab h => hab ?_) (List.nodup_range (n := q ^ e)))
    refine dg_inj hq.1 e a b (List.mem_range.mp ha) (List.mem_range.mp hb) (fun i hi => ?_)
    have h1 := congrArg (fun x : PZ q => x.1 i) h
    have h1 : (if i < e then ((a / q ^ i % q : Nat) : Int) else 0) = (if i < e then ((b / q ^ i % q : Nat) : Int) else 0) := h1
    rw [if_pos hi, if_pos hi] at h1
    exact Int.ofNat.inj h1
  · rw [List.mem_map]
    constructor
    · rintro ⟨a, _, rfl⟩
      exact pzS_le (fun i hi => if_neg (by omega))
    · intro hx
      obtain ⟨a, h1, h2⟩ := dg_ex hq.1 e x.1 x.2.1
      refine ⟨a, List.mem_range.mpr h1, Subtype.ext (funext fun i => ?_)⟩
      show (if i < e then ((a / q ^ i % q : Nat) : Int) else 0) = x.1 i
      by_cases z : i < e
      · rw [if_pos z]; exact h2 i z
      · rw [if_neg z, (pzS_spec x).1 i (by omega)]
theorem pz_fp {q : Nat} (hq : PrmN q) : @fpR (PZ q) (pzRing (hp0 hq)) pzS pzMon (pzX (hp0 hq) 1 1) q := by
  refine ⟨pz_eu hq, pz_mn hq, hq, ?_, fun P a b c d e => pz_gen hq P a b c d e, pz_fin hq⟩
  rw [nR_pz hq]
  show pzX (hp0 hq) (q : Int) 0 = pzX (hp0 hq) 0 0
  exact pz_ext (fun i => (pzX_cg (hp0 hq) i).tr (cg.tr (by
    by_cases z : i = 0
    · rw [if_pos z, if_pos z]
      show (q : Int) ∣ (q : Int) - 0
      exact ⟨1, by omega⟩
    · rw [if_neg z, if_neg z]; exact cg.rf) (pzX_cg (hp0 hq) i).sy))
