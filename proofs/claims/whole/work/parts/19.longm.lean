/-! laws whose rests go the longest way round -/
theorem ph_holes : ∀ (m n : Nat) (f : Nat → Nat), (∀ i, i < n → f i < m) → (∀ i j, i < j → j < n → f i ≠ f j) → n ≤ m
  | 0, n, f, h, _ => by
    cases n with
    | zero => exact Nat.le_refl 0
    | succ n => exact absurd (h 0 (by omega)) (Nat.not_lt_zero _)
  | m + 1, n, f, h, h2 => by
    by_cases z : ∃ a, a < n ∧ f a = m
    · obtain ⟨a, ha, ea⟩ := z
      obtain ⟨n2, rfl⟩ : ∃ n2, n = n2 + 1 := ⟨n - 1, by omega⟩
      have ih := ph_holes m n2 (fun i => if i < a then f i else f (i + 1)) (fun i hi => by
          show (if i < a then f i else f (i + 1)) < m
          by_cases y : i < a
          · rw [if_pos y]
            have h3 := h i (by omega)
            have h4 := h2 i a y ha
            omega
          · rw [if_neg y]
            have h3 := h (i + 1) (by omega)
            have h4 := h2 a (i + 1) (by omega) (by omega)
            omega) (fun i j hij hj => by
          show (if i < a then f i else f (i + 1)) ≠ (if j < a then f j else f (j + 1))
          by_cases y : i < a
          · by_cases x : j < a
            · rw [if_pos y, if_pos x]; exact h2 i j hij (by omega)
            · rw [if_pos y, if_neg x]; exact h2 i (j + 1) (by omega) (by omega)
          · rw [if_neg y, if_neg (by omega)]; exact h2 (i + 1) (j + 1) (by omega) (by omega))
      omega
    · have := ph_holes m n f (fun i hi => by
        have h3 := h i hi
        have h4 : f i ≠ m := fun q => z ⟨i, hi, q⟩
        omega) h2
      omega
theorem ph_twice {m n : Nat} {f : Nat → Nat} (h : ∀ i, i < n → f i < m) (hm : m < n) : ∃ i j, i < j ∧ j < n ∧ f i = f j := by
  apply Classical.byContradiction
  intro hn
  have := ph_holes m n f h (fun i j hij hj e => hn ⟨i, j, hij, hj, e⟩)
  omega
theorem sp_prm {p : Int} (hp : p = 2 ∨ p = 3 ∨ p = 5 ∨ p = 7) : ∃ q : Nat, p = (q : Int) ∧ PrmN q := by
  have key : ∀ q : Nat, (q = 2 ∨ q = 3 ∨ q = 5 ∨ q = 7) → PrmN q := by
    intro q hq
    refine ⟨by omega, fun d hd => ?_⟩
    have hle := Nat.le_of_dvd (by omega) hd
    have : ∀ q, q < 8 → (q = 2 ∨ q = 3 ∨ q = 5 ∨ q = 7) → ∀ d, d < 8 → d ∣ q → d = 1 ∨ d = q := by decide
    exact this q (by omega) hq d (by omega) hd
  exact ⟨p.toNat, by omega, key p.toNat (by omega)⟩
/-- where the last number of the law has no part with p, each state has one ahead of it alone -/
theorem eqS_back {k : Nat} {c s : Nat → Int} {q : Nat} (h0 : 0 < k) (hq : PrmN q) (hc : ¬ (q : Int) ∣ c k) {n n2 : Nat} (h : eqS k (rs k c s q) (n + 1) (n2 + 1)) : eqS k (rs k c s q) n n2 := by
  have e0 : rs k c s q n = rs k c s q n2 := by
    obtain ⟨k2, rfl⟩ : ∃ k2, k = k2 + 1 := ⟨k - 1, by omega⟩
    have a := ex_rec (c := c) (s := s) (m := (q : Int)) h0 (n + (k2 + 1)) (by omega)
    have b := ex_rec (c := c) (s := s) (m := (q : Int)) h0 (n2 + (k2 + 1)) (by omega)
    rw [sm_s] at a b
    have e1 : n + (k2 + 1) - 1 - k2 = n := by omega
    have e2 : n2 + (k2 + 1) - 1 - k2 = n2 := by omega
    rw [e1] at a
    rw [e2] at b
    have top : cg (q : Int) (ex (k2 + 1) c s (n + (k2 + 1))) (ex (k2 + 1) c s (n2 + (k2 + 1))) := by
      have := h k2 (by omega)
      have e3 : n + 1 + k2 = n + (k2 + 1) := by omega
      have e4 : n2 + 1 + k2 = n2 + (k2 + 1) := by omega
      rw [e3, e4] at this
      exact cg.ofmod this
    have mid : cg (q : Int) (sm (fun j => c (j + 1) * ex (k2 + 1) c s (n + (k2 + 1) - 1 - j)) k2) (sm (fun j => c (j + 1) * ex (k2 + 1) c s (n2 + (k2 + 1) - 1 - j)) k2) := by
      refine cg.sm (fun j hj => cg.rf.mul ?_)
      have := h (k2 - 1 - j) (by omega)
      have e3 : n + 1 + (k2 - 1 - j) = n + (k2 + 1) - 1 - j := by omega
      have e4 : n2 + 1 + (k2 - 1 - j) = n2 + (k2 + 1) - 1 - j := by omega
      rw [e3, e4] at this
      exact cg.ofmod this
    have d := ((a.sy.tr top).tr b).sub mid
    unfold cg at d
    have e5 : ∀ x y z w : Int, x + y - x - (z + w - z) = y - w := by intros; omega
    rw [e5, ← Int.mul_sub] at d
    rcases prm_mul hq d with z | z
    · exact absurd z hc
    · exact cg.emod z
  intro j hj
  cases j with
  | zero => exact e0
  | succ j =>
    have := h j (by omega)
    have e3 : n + 1 + j = n + (j + 1) := by omega
    have e4 : n2 + 1 + j = n2 + (j + 1) := by omega
    rwa [e3, e4] at this
theorem eqS_back0 {k : Nat} {c s : Nat → Int} {q : Nat} (h0 : 0 < k) (hq : PrmN q) (hc : ¬ (q : Int) ∣ c k) : ∀ (n l : Nat), eqS k (rs k c s q) n (n + l) → eqS k (rs k c s q) 0 (0 + l)
  | 0, l, h => h
  | n + 1, l, h => eqS_back0 h0 hq hc n l (eqS_back h0 hq hc (by
    have e : n + 1 + l = n + l + 1 := by omega
    rwa [e] at h))
theorem least_ex (P : Nat → Prop) {n : Nat} (h : P n) : ∃ l, l ≤ n ∧ P l ∧ ∀ l2, l2 < l → ¬ P l2 := by
  induction n using Nat.strongRecOn with
  | _ n ih =>
    by_cases z : ∃ l, l < n ∧ P l
    · obtain ⟨l, hl, hp⟩ := z
      obtain ⟨l2, h1, h2, h3⟩ := ih l hl hp
      exact ⟨l2, by omega, h2, h3⟩
    · exact ⟨n, Nat.le_refl n, h, fun l2 hl hp => z ⟨l2, hl, hp⟩⟩
/-- the round from place 0 on: at most as many places as there are states -/
theorem round0 {k : Nat} {c s : Nat → Int} {q : Nat} (h0 : 0 < k) (hq : PrmN q) (hc : ¬ (q : Int) ∣ c k) : ∃ l, l ≤ q ^ k ∧ RND k (rs k c s q) 0 l := by
  have q0 : (0 : Int) < q := by have := hq.1; omega
  have hin := rs_in (k := k) (c := c) (s := s) (m := (q : Int)) q0
  have hcd := fun n => cdf_in q0 hin n k
  have e9 : (q : Int) ^ k = ((q ^ k : Nat) : Int) := by rw [Int.natCast_pow]
  obtain ⟨i, j, hij, hj, e⟩ := ph_twice (m := q ^ k) (n := q ^ k + 1) (f := fun n => (cdf q (rs k c s q) n k).toNat) (fun i _ => by
    have := hcd i
    rw [e9] at this
    show (cdf q (rs k c s q) i k).toNat < q ^ k
    omega) (by omega)
  have e2 : cdf q (rs k c s q) i k = cdf q (rs k c s q) j k := by
    have a := hcd i
    have b := hcd j
    have e3 : (cdf q (rs k c s q) i k).toNat = (cdf q (rs k c s q) j k).toNat := e
    omega
  have h1 := (eqS_code q0 hin).mp e2
  have e4 : j = i + (j - i) := by omega
  rw [e4] at h1
  have h2 := eqS_back0 h0 hq hc i (j - i) h1
  obtain ⟨l, hl, hp, hmin⟩ := least_ex (fun l => 0 < l ∧ eqS k (rs k c s q) 0 (0 + l)) ⟨by omega, h2⟩
  exact ⟨l, by omega, hp.1, hp.2, fun l2 h8 h9 z => hmin l2 h9 ⟨h8, z⟩, fun u2 h8 => absurd h8 (Nat.not_lt_zero u2)⟩
/-- what is left of a code after j of its figures -/
def lft (p code : Int) : Nat → Int
  | 0 => code
  | j + 1 => lft p code j / p
theorem lft_in {p code : Int} (hp : 2 ≤ p) (h0 : 0 ≤ code) : ∀ j, 0 ≤ lft p code j ∧ lft p code j ≤ code
  | 0 => ⟨h0, Int.le_refl _⟩
  | j + 1 => by
    have ih := lft_in hp h0 j
    have a : 0 ≤ lft p code j / p := Int.ediv_nonneg ih.1 (by omega)
    have b := Int.ediv_le_self p ih.1
    exact ⟨a, Int.le_trans b ih.2⟩
def lwd (k : Nat) (p code : Int) : Nat → Int := fun i => lft p code (k - i) % p
def sto (k : Nat) : Nat → Int := fun i => if i + 1 = k then 1 else 0
/-- the round of the law that a code tells -/
noncomputable def Lf (k : Nat) (p code : Int) : Nat := Classical.epsilon (fun l : Nat => RND k (rs k (lwd k p code) (sto k) p) 0 l)
theorem Lf_spec {k : Nat} {p code : Int} (h0 : 0 < k) (hp : p = 2 ∨ p = 3 ∨ p = 5 ∨ p = 7) (hc : code % p ≠ 0) : RND k (rs k (lwd k p code) (sto k) p) 0 (Lf k p code) ∧ Lf k p code ≤ p.toNat ^ k := by
  obtain ⟨q, rfl, hq⟩ := sp_prm hp
  have hn : ¬ (q : Int) ∣ lwd k q code k := by
    intro h
    have e : lwd k q code k = code % q := by unfold lwd; rw [Nat.sub_self]; rfl
    rw [e] at h
    have := Int.emod_eq_zero_of_dvd h
    rw [Int.emod_emod_of_dvd _ (Int.dvd_refl _)] at this
    exact hc this
  obtain ⟨l, hl, hr⟩ := round0 (c := lwd k q code) (s := sto k) h0 hq hn
  have h1 : RND k (rs k (lwd k q code) (sto k) q) 0 (Lf k q code) := Classical.epsilon_spec (p := fun l : Nat => RND k (rs k (lwd k (q : Int) code) (sto k) q) 0 l) ⟨l, hr⟩
  have h2 := (h1.one hr).2
  exact ⟨h1, by rw [h2]; exact hl⟩
/-- the greatest round of the first n codes, how many have it, the first of them -/
noncomputable def fLg (k : Nat) (p : Int) : Nat → Int × Int × Int
  | 0 => (0, 0, 0)
  | n + 1 => if (n : Int) % p = 0 then fLg k p n else if (fLg k p n).1 < (Lf k p n : Int) then ((Lf k p n : Int), 1, (n : Int)) else if (Lf k p n : Int) = (fLg k p n).1 then ((fLg k p n).1, (fLg k p n).2.1 + 1, (fLg k p n).2.2) else fLg k p n
theorem fLg_in (k : Nat) (p : Int) : ∀ n, 0 ≤ (fLg k p n).1 ∧ 0 ≤ (fLg k p n).2.1 ∧ (fLg k p n).2.1 ≤ n ∧ 0 ≤ (fLg k p n).2.2 ∧ (fLg k p n).2.2 ≤ n
  | 0 => by simp [fLg]
  | n + 1 => by
    have ih := fLg_in k p n
    unfold fLg
    by_cases h1 : (n : Int) % p = 0
    · rw [if_pos h1]; omega
    · rw [if_neg h1]
      by_cases h2 : (fLg k p n).1 < (Lf k p n : Int)
      · rw [if_pos h2]; show 0 ≤ (Lf k p n : Int) ∧ (0 : Int) ≤ 1 ∧ (1 : Int) ≤ ((n + 1 : Nat) : Int) ∧ 0 ≤ (n : Int) ∧ (n : Int) ≤ ((n + 1 : Nat) : Int); omega
      · rw [if_neg h2]
        by_cases h3 : (Lf k p n : Int) = (fLg k p n).1
        · rw [if_pos h3]; show 0 ≤ (fLg k p n).1 ∧ 0 ≤ (fLg k p n).2.1 + 1 ∧ (fLg k p n).2.1 + 1 ≤ ((n + 1 : Nat) : Int) ∧ 0 ≤ (fLg k p n).2.2 ∧ (fLg k p n).2.2 ≤ ((n + 1 : Nat) : Int); omega
        · rw [if_neg h3]; omega
