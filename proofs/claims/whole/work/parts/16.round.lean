/-! states, codes, rounds -/
def rs (k : Nat) (c s : Nat → Int) (m : Int) (n : Nat) : Int := ex k c s n % m
theorem rs_in {k : Nat} {c s : Nat → Int} {m : Int} (hm : 0 < m) (n : Nat) : 0 ≤ rs k c s m n ∧ rs k c s m n < m := emod_bd _ hm
/-- the state of place n as one number -/
def cdf (m : Int) (g : Nat → Int) (n : Nat) : Nat → Int
  | 0 => 0
  | j + 1 => cdf m g n j * m + g (n + j)
theorem cdf_in {m : Int} {g : Nat → Int} (hm : 0 < m) (hg : ∀ n, 0 ≤ g n ∧ g n < m) (n : Nat) : ∀ j, 0 ≤ cdf m g n j ∧ cdf m g n j < m ^ j
  | 0 => by simp [cdf]
  | j + 1 => by
    obtain ⟨a, b⟩ := cdf_in hm hg n j
    have h1 := hg (n + j)
    have h2 := Int.mul_nonneg a (Int.le_of_lt hm)
    have h3 : (cdf m g n j + 1) * m ≤ m ^ j * m := Int.mul_le_mul_of_nonneg_right (by omega) (by omega)
    rw [Int.add_mul, Int.one_mul] at h3
    have e : m ^ (j + 1) = m ^ j * m := Int.pow_succ m j
    show 0 ≤ cdf m g n j * m + g (n + j) ∧ cdf m g n j * m + g (n + j) < m ^ (j + 1)
    rw [e]
    omega
theorem cdf_top (m : Int) (g : Nat → Int) (n : Nat) : ∀ j, cdf m g n (j + 1) = g n * m ^ j + cdf m g (n + 1) j
  | 0 => by simp [cdf]
  | j + 1 => by
    have e1 : cdf m g n (j + 1 + 1) = cdf m g n (j + 1) * m + g (n + (j + 1)) := rfl
    have e2 : cdf m g (n + 1) (j + 1) = cdf m g (n + 1) j * m + g (n + 1 + j) := rfl
    rw [e1, e2, cdf_top m g n j, Int.add_mul, Int.pow_succ, Int.mul_assoc]
    have e3 : n + (j + 1) = n + 1 + j := by omega
    rw [e3]; omega
theorem cdf_inj {m : Int} {g : Nat → Int} (hm : 0 < m) (hg : ∀ n, 0 ≤ g n ∧ g n < m) (n n2 : Nat) : ∀ k, cdf m g n k = cdf m g n2 k → ∀ j, j < k → g (n + j) = g (n2 + j)
  | 0, _, j, h => absurd h (Nat.not_lt_zero j)
  | k + 1, h, j, hj => by
    have e1 : cdf m g n (k + 1) = cdf m g n k * m + g (n + k) := rfl
    have e2 : cdf m g n2 (k + 1) = cdf m g n2 k * m + g (n2 + k) := rfl
    rw [e1, e2] at h
    have a := hg (n + k)
    have b := hg (n2 + k)
    have m1 : (cdf m g n k * m + g (n + k)) % m = g (n + k) := by
      rw [Int.add_comm, Int.add_mul_emod_self_right]; exact Int.emod_eq_of_lt a.1 a.2
    have m2 : (cdf m g n2 k * m + g (n2 + k)) % m = g (n2 + k) := by
      rw [Int.add_comm, Int.add_mul_emod_self_right]; exact Int.emod_eq_of_lt b.1 b.2
    have e : g (n + k) = g (n2 + k) := by rw [← m1, h, m2]
    by_cases z : j = k
    · subst z; exact e
    · have e5 : cdf m g n k * m = cdf m g n2 k * m := by omega
      exact cdf_inj hm hg n n2 k (Int.eq_of_mul_eq_mul_right (by omega) e5) j (by omega)
theorem cdf_cong {m : Int} {g : Nat → Int} (n n2 : Nat) : ∀ k, (∀ j, j < k → g (n + j) = g (n2 + j)) → cdf m g n k = cdf m g n2 k
  | 0, _ => rfl
  | k + 1, h => by
    show cdf m g n k * m + g (n + k) = cdf m g n2 k * m + g (n2 + k)
    rw [cdf_cong n n2 k (fun j hj => h j (by omega)), h k (by omega)]
theorem cdf_next {m : Int} {g : Nat → Int} {k n : Nat} (hk : 0 < k) (hm : 0 < m) (hg : ∀ n, 0 ≤ g n ∧ g n < m) : cdf m g n k % m ^ (k - 1) * m + g (n + k) = cdf m g (n + 1) k := by
  obtain ⟨k2, rfl⟩ : ∃ k2, k = k2 + 1 := ⟨k - 1, by omega⟩
  have e1 := cdf_top m g n k2
  have b := cdf_in hm hg (n + 1) k2
  have e2 : k2 + 1 - 1 = k2 := by omega
  rw [e2, e1, Int.add_comm (g n * m ^ k2), Int.add_mul_emod_self_right, Int.emod_eq_of_lt b.1 b.2]
  show _ = cdf m g (n + 1) k2 * m + g (n + 1 + k2)
  congr 2; omega
/-- the states of two places are alike -/
def eqS (k : Nat) (g : Nat → Int) (n n2 : Nat) : Prop := ∀ j, j < k → g (n + j) = g (n2 + j)
theorem eqS_code {k : Nat} {m : Int} {g : Nat → Int} (hm : 0 < m) (hg : ∀ n, 0 ≤ g n ∧ g n < m) {n n2 : Nat} : cdf m g n k = cdf m g n2 k ↔ eqS k g n n2 :=
  ⟨cdf_inj hm hg n n2 k, cdf_cong n n2 k⟩
theorem rs_rec {k : Nat} {c s : Nat → Int} {m : Int} (h0 : 0 < k) (n : Nat) : rs k c s m (n + k) = sm (fun j => c (j + 1) * rs k c s m (n + k - 1 - j)) k % m := by
  have h := (ex_rec (c := c) (s := s) (m := m) h0 (n + k) (by omega)).emod
  show ex k c s (n + k) % m = _
  rw [h]
  exact (cg.sm (fun j _ => cg.rf.mul cg.md.sy)).emod
theorem eqS_next {k : Nat} {c s : Nat → Int} {m : Int} (h0 : 0 < k) {n n2 : Nat} (h : eqS k (rs k c s m) n n2) : rs k c s m (n + k) = rs k c s m (n2 + k) := by
  rw [rs_rec h0, rs_rec h0]
  congr 1
  refine sm_cong (fun j hj => ?_)
  have e1 : n + k - 1 - j = n + (k - 1 - j) := by omega
  have e2 : n2 + k - 1 - j = n2 + (k - 1 - j) := by omega
  rw [e1, e2, h (k - 1 - j) (by omega)]
theorem eqS_shift {k : Nat} {c s : Nat → Int} {m : Int} (h0 : 0 < k) {n n2 : Nat} (h : eqS k (rs k c s m) n n2) : ∀ t, eqS k (rs k c s m) (n + t) (n2 + t)
  | 0 => h
  | t + 1 => by
    have ih := eqS_shift h0 h t
    intro j hj
    by_cases z : j + 1 < k
    · have := ih (j + 1) z
      have e1 : n + t + (j + 1) = n + (t + 1) + j := by omega
      have e2 : n2 + t + (j + 1) = n2 + (t + 1) + j := by omega
      rwa [e1, e2] at this
    · have := eqS_next h0 ih
      have e1 : n + t + k = n + (t + 1) + j := by omega
      have e2 : n2 + t + k = n2 + (t + 1) + j := by omega
      rwa [e1, e2] at this
theorem eqS_all {k : Nat} {c s : Nat → Int} {m : Int} (h0 : 0 < k) {n n2 : Nat} (h : eqS k (rs k c s m) n n2) (t : Nat) : rs k c s m (n + t) = rs k c s m (n2 + t) := by
  have := eqS_shift h0 h t 0 h0
  simpa using this
theorem eqS.sy {k : Nat} {g : Nat → Int} {n n2 : Nat} (h : eqS k g n n2) : eqS k g n2 n := fun j hj => (h j hj).symm
theorem eqS.tr {k : Nat} {g : Nat → Int} {a b c : Nat} (h : eqS k g a b) (h2 : eqS k g b c) : eqS k g a c := fun j hj => (h j hj).trans (h2 j hj)
theorem eqS.rf {k : Nat} {g : Nat → Int} {a : Nat} : eqS k g a a := fun _ _ => rfl
/-! primes -/
def PrmN (p : Nat) : Prop := 2 ≤ p ∧ ∀ d, d ∣ p → d = 1 ∨ d = p
theorem prm_ex : ∀ m : Nat, 2 ≤ m → ∃ p, PrmN p ∧ p ∣ m := by
  intro m
  induction m using Nat.strongRecOn with
  | _ m ih =>
    intro h2
    by_cases h : PrmN m
    · exact ⟨m, h, Nat.dvd_refl m⟩
    · have : ∃ d, d ∣ m ∧ d ≠ 1 ∧ d ≠ m := by
        apply Classical.byContradiction
        intro hn
        refine h ⟨h2, fun d hd => ?_⟩
        by_cases z : d = 1
        · exact Or.inl z
        · by_cases y : d = m
          · exact Or.inr y
          · exact absurd ⟨d, hd, z, y⟩ hn
      obtain ⟨d, hd, d1, dm⟩ := this
      have hdm := Nat.le_of_dvd (by omega) hd
      have d0 : d ≠ 0 := fun q => by subst q; have := Nat.zero_dvd.mp hd; omega
      obtain ⟨p, hp, hpd⟩ := ih d (by omega) (by omega)
      exact ⟨p, hp, Nat.dvd_trans hpd hd⟩
theorem prm_mul {p : Nat} (hp : PrmN p) {a b : Int} (h : (p : Int) ∣ a * b) : (p : Int) ∣ a ∨ (p : Int) ∣ b := by
  have h1 : p ∣ a.natAbs * b.natAbs := by
    have := Int.natAbs_dvd_natAbs.mpr h
    rwa [Int.natAbs_mul, Int.natAbs_natCast] at this
  rcases hp.2 (Nat.gcd p a.natAbs) (Nat.gcd_dvd_left _ _) with q | q
  · right
    have h2 : p ∣ b.natAbs := Nat.Coprime.dvd_of_dvd_mul_left q h1
    exact Int.ofNat_dvd_left.mpr h2
  · left
    have h2 : p ∣ a.natAbs := by rw [← q]; exact Nat.gcd_dvd_right _ _
    exact Int.ofNat_dvd_left.mpr h2
/-- by a prime, what comes to nought is nought from place k on -/
theorem tail_prm {p : Nat} (hp : PrmN p) {d c : Nat → Int} {k U : Nat} (hr : Rec p d c k) (hU : ∀ n, U ≤ n → (p : Int) ∣ d n) : ∀ n, k ≤ n → (p : Int) ∣ d n := by
  have sm0 : ∀ (f : Nat → Int) (n : Nat), (∀ j, j < n → (p : Int) ∣ f j) → (p : Int) ∣ sm f n := by
    intro f n
    induction n with
    | zero => intro _; exact Int.dvd_zero _
    | succ n ih => intro h; exact Int.dvd_add (ih (fun j hj => h j (by omega))) (h n (by omega))
  have last : ∀ K : Nat, (∀ j, j < K → (p : Int) ∣ c (j + 1)) ∨ ∃ J, J < K ∧ ¬ (p : Int) ∣ c (J + 1) ∧ ∀ j, J < j → j < K → (p : Int) ∣ c (j + 1) := by
    intro K
    induction K with
    | zero => exact Or.inl (fun j hj => absurd hj (Nat.not_lt_zero j))
    | succ K ih =>
      by_cases z : (p : Int) ∣ c (K + 1)
      · rcases ih with q | ⟨J, h1, h2, h3⟩
        · refine Or.inl (fun j hj => ?_)
          by_cases y : j = K
          · subst y; exact z
          · exact q j (by omega)
        · refine Or.inr ⟨J, by omega, h2, fun j hj hj2 => ?_⟩
          by_cases y : j = K
          · subst y; exact z
          · exact h3 j hj (by omega)
      · exact Or.inr ⟨K, by omega, z, fun j hj hj2 => by omega⟩
  have fromSum : ∀ n, k ≤ n → (p : Int) ∣ sm (fun j => c (j + 1) * d (n - 1 - j)) k → (p : Int) ∣ d n := by
    intro n hn h
    have := Int.dvd_add (hr n hn) h
    have e : ∀ x y : Int, x - y + y = x := by intros; omega
    rwa [e] at this
  have toSum : ∀ n, k ≤ n → (p : Int) ∣ d n → (p : Int) ∣ sm (fun j => c (j + 1) * d (n - 1 - j)) k := by
    intro n hn h
    have := Int.dvd_sub h (hr n hn)
    have e : ∀ x y : Int, x - (x - y) = y := by intros; omega
    rwa [e] at this
  rcases last k with hall | ⟨J, hJ, hnJ, hafter⟩
  · intro n hn
    exact fromSum n hn (sm0 _ _ (fun j hj => Int.dvd_mul_of_dvd_left (hall j hj)))
  · have main : ∀ e n, U ≤ n + e → k ≤ n → (p : Int) ∣ d n := by
      intro e
      induction e with
      | zero => intro n hn _; exact hU n hn
      | succ e ih =>
        intro n hn hk
        have hN := toSum (n + (J + 1)) (by omega) (ih (n + (J + 1)) (by omega) (by omega))
        have hterm : (p : Int) ∣ c (J + 1) * d (n + (J + 1) - 1 - J) := by
          have split : ∀ K, J < K → K ≤ k → (∀ j, j < K → j ≠ J → (p : Int) ∣ c (j + 1) * d (n + (J + 1) - 1 - j)) → (p : Int) ∣ sm (fun j => c (j + 1) * d (n + (J + 1) - 1 - j)) K → (p : Int) ∣ c (J + 1) * d (n + (J + 1) - 1 - J) := by
            intro K
            induction K with
            | zero => intro h; omega
            | succ K ih2 =>
              intro h1 h2 h3 h4
              rw [sm_s] at h4
              by_cases z : J = K
              · subst z
                have h6 : (p : Int) ∣ sm (fun j => c (j + 1) * d (n + (J + 1) - 1 - j)) J := sm0 _ _ (fun j hj => h3 j (by omega) (by omega))
                have := Int.dvd_sub h4 h6
                have e : ∀ x y : Int, x + y - x = y := by intros; omega
                rwa [e] at this
              · have := Int.dvd_sub h4 (h3 K (by omega) (Ne.symm z))
                have e : ∀ x y : Int, x + y - y = x := by intros; omega
                rw [e] at this
                exact ih2 (by omega) (by omega) (fun j hj => h3 j (by omega)) this
          refine split k hJ (Nat.le_refl k) (fun j hj hne => ?_) hN
          by_cases z : j < J
          · exact Int.dvd_mul_of_dvd_right (ih _ (by omega) (by omega))
          · exact Int.dvd_mul_of_dvd_left (hafter j (by omega) hj)
        have e1 : n + (J + 1) - 1 - J = n := by omega
        rw [e1] at hterm
        rcases prm_mul hp hterm with q | q
        · exact absurd q hnJ
        · exact q
    intro n hn
    exact main U n (by omega) hn
theorem Rec.dvd {m q : Int} {d c : Nat → Int} {k : Nat} (h : Rec m d c k) (hq : q ∣ m) : Rec q d c k := fun n hn => Int.dvd_trans hq (h n hn)
/-- no tail is longer than the order times the number of primes in m -/
theorem tail_all : ∀ (t : Nat) (m : Nat) (d c : Nat → Int) (k U : Nat), 0 < m → m < 2 ^ (t + 1) → Rec m d c k → (∀ n, U ≤ n → (m : Int) ∣ d n) → ∀ n, k * t ≤ n → (m : Int) ∣ d n
  | 0, m, d, c, k, U, h0, h1, hr, hU, n, hn => by
    have : m = 1 := by simp at h1; omega
    subst this
    exact Int.one_dvd _
  | t + 1, m, d, c, k, U, h0, h1, hr, hU, n, hn => by
    by_cases z : m = 1
    · subst z; exact Int.one_dvd _
    · obtain ⟨p, hp, m2, hm⟩ := prm_ex m (by omega)
      have hp2 := hp.1
      have m20 : 0 < m2 := by
        rcases Nat.eq_zero_or_pos m2 with q | q
        · subst q; simp at hm; omega
        · exact q
      have hm2 : m2 < 2 ^ (t + 1) := by
        have e : 2 ^ (t + 1 + 1) = 2 * 2 ^ (t + 1) := by rw [Nat.pow_succ, Nat.mul_comm]
        have h3 : 2 * m2 ≤ p * m2 := Nat.mul_le_mul_right m2 hp2
        omega
      have hmi : (m : Int) = (p : Int) * (m2 : Int) := by rw [hm, Int.natCast_mul]
      have hpm : (p : Int) ∣ (m : Int) := ⟨(m2 : Int), hmi⟩
      have hz := tail_prm hp (hr.dvd hpm) (fun n hn => Int.dvd_trans hpm (hU n hn))
      have p0 : (p : Int) ≠ 0 := by omega
      have he : ∀ n, d (n + k) = (p : Int) * (d (n + k) / (p : Int)) := fun n => (Int.mul_ediv_cancel' (hz (n + k) (by omega))).symm
      have hrec2 : Rec m2 (fun n => d (n + k) / (p : Int)) c k := by
        intro n hn
        have h5 := hr (n + k) (by omega)
        have e1 : d (n + k) - sm (fun j => c (j + 1) * d (n + k - 1 - j)) k = (p : Int) * (d (n + k) / (p : Int) - sm (fun j => c (j + 1) * (d (n - 1 - j + k) / (p : Int))) k) := by
          rw [Int.mul_sub, ← he n, ← sm_mul]
          congr 1
          refine sm_cong (fun j hj => ?_)
          have e2 : n + k - 1 - j = n - 1 - j + k := by omega
          rw [e2]
          calc c (j + 1) * d (n - 1 - j + k) = c (j + 1) * ((p : Int) * (d (n - 1 - j + k) / (p : Int))) := by rw [← he]
            _ = _ := by rw [← Int.mul_assoc, ← Int.mul_assoc, Int.mul_comm (c (j + 1))]
        unfold cg at h5
        rw [e1, hmi] at h5
        exact Int.dvd_of_mul_dvd_mul_left p0 h5
      have hU2 : ∀ n, U ≤ n → (m2 : Int) ∣ d (n + k) / (p : Int) := fun n hn => by
        have h6 := hU (n + k) (by omega)
        rw [he n, hmi] at h6
        exact Int.dvd_of_mul_dvd_mul_left p0 h6
      have ih := tail_all t m2 (fun n => d (n + k) / (p : Int)) c k U m20 hm2 hrec2 hU2 (n - k) (by have : k * (t + 1) = k * t + k := Nat.mul_succ k t; omega)
      have hkn : k ≤ n := by have : k * (t + 1) = k * t + k := Nat.mul_succ k t; omega
      have e3 : n - k + k = n := by omega
      have h7 := he (n - k)
      have ih2 : (m2 : Int) ∣ d (n - k + k) / (p : Int) := ih
      rw [e3] at h7 ih2
      rw [h7, hmi]
      exact Int.mul_dvd_mul_left _ ih2
/-- the least tail u and the least round l -/
def RND (k : Nat) (g : Nat → Int) (u l : Nat) : Prop := 0 < l ∧ eqS k g u (u + l) ∧ (∀ l2, 0 < l2 → l2 < l → ¬ eqS k g u (u + l2)) ∧ ∀ u2, u2 < u → ∀ l2, 0 < l2 → ¬ eqS k g u2 (u2 + l2)
theorem RND.one {k : Nat} {g : Nat → Int} {u l u2 l2 : Nat} (h1 : RND k g u l) (h2 : RND k g u2 l2) : u = u2 ∧ l = l2 := by
  have e : u = u2 := by
    rcases Nat.lt_trichotomy u u2 with q | q | q
    · exact absurd h1.2.1 (h2.2.2.2 u q l h1.1)
    · exact q
    · exact absurd h2.2.1 (h1.2.2.2 u2 q l2 h2.1)
  subst e
  refine ⟨rfl, ?_⟩
  rcases Nat.lt_trichotomy l l2 with q | q | q
  · exact absurd h1.2.1 (h2.2.2.1 l h1.1 q)
  · exact q
  · exact absurd h2.2.1 (h1.2.2.1 l2 h2.1 q)
theorem tail54 {k : Nat} {c s : Nat → Int} {m : Int} (h0 : 0 < k) (hk : k ≤ 6) (hm2 : 2 ≤ m) (hm : m ≤ 1000) {u l : Nat} (h : eqS k (rs k c s m) u (u + l)) : eqS k (rs k c s m) 54 (54 + l) := by
  obtain ⟨w, rfl⟩ : ∃ w : Nat, m = (w : Int) := ⟨m.toNat, by omega⟩
  have hr : Rec w (fun n => ex k c s n - ex k c s (n + l)) c k := by
    intro n hn
    have a := ex_rec (c := c) (s := s) (m := (w : Int)) h0 n hn
    have b := ex_rec (c := c) (s := s) (m := (w : Int)) h0 (n + l) (by omega)
    refine (a.sub b).tr (cg.of ?_)
    have e : ∀ x y : Int, x - y = x + (-1) * y := by intros; omega
    rw [e, ← sm_mul, ← sm_add]
    refine sm_cong (fun j hj => ?_)
    have e2 : n + l - 1 - j = n - 1 - j + l := by omega
    show c (j + 1) * ex k c s (n - 1 - j) + -1 * (c (j + 1) * ex k c s (n + l - 1 - j)) = c (j + 1) * (ex k c s (n - 1 - j) - ex k c s (n - 1 - j + l))
    rw [e2, Int.mul_sub]; omega
  have hz : ∀ n, u ≤ n → ((w : Nat) : Int) ∣ ex k c s n - ex k c s (n + l) := by
    intro n hn
    have := eqS_all h0 h (n - u)
    have e1 : u + (n - u) = n := by omega
    have e2 : u + l + (n - u) = n + l := by omega
    rw [e1, e2] at this
    exact cg.ofmod this
  have ht := tail_all 9 w _ c k u (by omega) (by omega) hr hz
  intro j hj
  have h9 : cg (w : Int) (ex k c s (54 + j)) (ex k c s (54 + j + l)) := ht (54 + j) (by have : k * 9 ≤ 6 * 9 := Nat.mul_le_mul_right 9 hk; omega)
  have := h9.emod
  have e2 : 54 + j + l = 54 + l + j := by omega
  rw [e2] at this
  exact this
