/-! rests: congruences, sums, places however far by rests -/
def cg (m x y : Int) : Prop := m ∣ (x - y)
theorem cg.rf {m x : Int} : cg m x x := by unfold cg; rw [Int.sub_self]; exact Int.dvd_zero m
theorem cg.of {m x y : Int} (e : x = y) : cg m x y := e ▸ cg.rf
theorem cg.sy {m x y : Int} (h : cg m x y) : cg m y x := by
  unfold cg at *
  have := Int.dvd_neg.mpr h
  rwa [Int.neg_sub] at this
theorem cg.tr {m x y z : Int} (h1 : cg m x y) (h2 : cg m y z) : cg m x z := by
  unfold cg at *
  have := Int.dvd_add h1 h2
  have e : x - y + (y - z) = x - z := by omega
  rwa [e] at this
theorem cg.add {m x y z w : Int} (h1 : cg m x y) (h2 : cg m z w) : cg m (x + z) (y + w) := by
  unfold cg at *
  have := Int.dvd_add h1 h2
  have e : x - y + (z - w) = x + z - (y + w) := by omega
  rwa [e] at this
theorem cg.sub {m x y z w : Int} (h1 : cg m x y) (h2 : cg m z w) : cg m (x - z) (y - w) := by
  unfold cg at *
  have := Int.dvd_sub h1 h2
  have e : x - y - (z - w) = x - z - (y - w) := by omega
  rwa [e] at this
theorem cg.mul {m x y z w : Int} (h1 : cg m x y) (h2 : cg m z w) : cg m (x * z) (y * w) := by
  unfold cg at *
  have a : m ∣ (x - y) * z := Int.dvd_mul_of_dvd_left h1
  have b : m ∣ y * (z - w) := Int.dvd_mul_of_dvd_right h2
  have c := Int.dvd_add a b
  have e : (x - y) * z + y * (z - w) = x * z - y * w := by rw [Int.sub_mul, Int.mul_sub]; omega
  rwa [e] at c
theorem cg.md {m x : Int} : cg m (x % m) x := by
  unfold cg
  refine ⟨-(x / m), ?_⟩
  have := Int.mul_ediv_add_emod x m
  rw [Int.mul_neg]
  omega
theorem cg.emod {m x y : Int} (h : cg m x y) : x % m = y % m := by
  unfold cg at h
  exact Int.emod_emod_of_dvd x (Int.dvd_refl m) ▸ (Int.emod_emod_of_dvd y (Int.dvd_refl m) ▸ (by
    have := Int.emod_emod_of_dvd (x - y) (Int.dvd_refl m)
    have h2 := Int.emod_eq_zero_of_dvd h
    rw [Int.emod_emod_of_dvd x (Int.dvd_refl m), Int.emod_emod_of_dvd y (Int.dvd_refl m)]
    have e : x = x - y + y := by omega
    rw [e, Int.add_emod, h2, Int.zero_add, Int.emod_emod_of_dvd y (Int.dvd_refl m)]))
theorem cg.ofmod {m x y : Int} (h : x % m = y % m) : cg m x y := cg.md.sy.tr ((cg.of h).tr cg.md)
theorem cg.sm {m : Int} {f g : Nat → Int} : ∀ {n : Nat}, (∀ j, j < n → cg m (f j) (g j)) → cg m (sm f n) (sm g n)
  | 0, _ => cg.rf
  | n + 1, h => (cg.sm (fun j hj => h j (by omega))).add (h n (by omega))
theorem sm_zero {f : Nat → Int} {n : Nat} (h : ∀ j, j < n → f j = 0) : sm f n = 0 := by
  rw [sm_cong h]
  induction n with
  | zero => rfl
  | succ n ih => rw [sm_s, ih (fun j hj => h j (by omega))]; rfl
theorem sm_swap (f : Nat → Nat → Int) (n : Nat) : ∀ k, sm (fun i => sm (fun j => f i j) k) n = sm (fun j => sm (fun i => f i j) n) k
  | 0 => sm_zero (fun _ _ => rfl)
  | k + 1 => by
    rw [sm_s, ← sm_swap f n k, ← sm_add]
    rfl
theorem sm_split (g : Nat → Int) (a : Nat) : ∀ n, sm g (a + n) = sm g a + sm (fun j => g (a + j)) n
  | 0 => by simp [sm]
  | n + 1 => by
    have e : a + (n + 1) = (a + n) + 1 := by omega
    rw [e, sm_s, sm_s, sm_split g a n]; omega
theorem sm_head (g : Nat → Int) (n : Nat) : sm g (n + 1) = g 0 + sm (fun j => g (j + 1)) n := by
  have := sm_split g 1 n
  have e : 1 + n = n + 1 := by omega
  rw [e] at this
  rw [this]
  have e2 : sm g 1 = g 0 := by simp [sm]
  rw [e2]
  congr 1
  exact sm_cong (fun j _ => by rw [Nat.add_comm])
/-- one term of a sum more -/
theorem sm_uA {f : Nat → Int} {a : Nat → Int} {i n : Nat} {z : Int} (hi : i < n) : sm (fun j => uA f i z j * a j) n = sm (fun j => f j * a j) n + (z - f i) * a i := by
  induction n with
  | zero => omega
  | succ n ih =>
    rw [sm_s, sm_s]
    by_cases e : i = n
    · subst e
      rw [uA_e, sm_cong (g := fun j => f j * a j) (fun j hj => by rw [uA_n (by omega)]), Int.sub_mul]; omega
    · rw [ih (by omega), uA_n (Ne.symm e)]; omega
/-- P (K numbers) stands for z to the n: at all places -/
def Rp (m : Int) (a : Nat → Int) (K : Nat) (P : Nat → Int) (n : Nat) : Prop := ∀ t, cg m (a (n + t)) (sm (fun i => P i * a (i + t)) K)
/-- a row by the law c, from place k on -/
def Rec (m : Int) (a c : Nat → Int) (k : Nat) : Prop := ∀ n, k ≤ n → cg m (a n) (sm (fun j => c (j + 1) * a (n - 1 - j)) k)
theorem Rp.zero {m : Int} {a P : Nat → Int} {k : Nat} (hk : 0 < k) (h0 : P 0 = 1) (h1 : ∀ i, 1 ≤ i → i < k → P i = 0) : Rp m a k P 0 := fun t => by
  obtain ⟨k2, rfl⟩ : ∃ k2, k = k2 + 1 := ⟨k - 1, by omega⟩
  refine cg.of ?_
  rw [sm_head, h0, sm_zero (fun j hj => by rw [h1 (j + 1) (by omega) (by omega), Int.zero_mul])]
  simp
theorem Rp.one {m : Int} {a P : Nat → Int} {k : Nat} (hk : 1 < k) (h1 : P 1 = 1) (h0 : ∀ i, i ≠ 1 → i < k → P i = 0) : Rp m a k P 1 := fun t => by
  obtain ⟨k2, rfl⟩ : ∃ k2, k = k2 + 2 := ⟨k - 2, by omega⟩
  refine cg.of ?_
  rw [sm_head, sm_head, h0 0 (by omega) (by omega), h1, sm_zero (fun j hj => by rw [h0 (j + 1 + 1) (by omega) (by omega), Int.zero_mul])]
  simp
theorem Rp.one1 {m : Int} {a c P : Nat → Int} (hr : Rec m a c 1) (h : P 0 = c 1) : Rp m a 1 P 1 := fun t => by
  have := hr (1 + t) (by omega)
  simp only [sm, Int.zero_add] at this ⊢
  rw [h]
  have e : 1 + t - 1 - 0 = 0 + t := by omega
  rw [e] at this
  exact this
/-- the product of two, not yet brought down -/
theorem Rp.mul {m : Int} {a P R Q : Nat → Int} {k n1 n2 W : Nat} (h1 : Rp m a k P n1) (h2 : Rp m a k R n2) (hQ : ∀ b : Nat → Int, sm (fun u => Q u * b u) W = sm (fun i => sm (fun j => P i * R j * b (i + j)) k) k) : Rp m a W Q (n1 + n2) := fun t => by
  have e1 := h1 (n2 + t)
  have e2 : n1 + (n2 + t) = n1 + n2 + t := by omega
  rw [e2] at e1
  refine e1.tr ?_
  rw [hQ (fun u => a (u + t))]
  refine cg.sm (fun i _ => ?_)
  have e3 := h2 (i + t)
  have e4 : n2 + (i + t) = i + (n2 + t) := by omega
  rw [e4] at e3
  refine (cg.rf.mul e3).tr (cg.of ?_)
  rw [← sm_mul]
  refine sm_cong (fun j _ => ?_)
  rw [← Int.mul_assoc]
  congr 2; omega
/-- the topmost number is brought down by the law -/
theorem Rp.down {m : Int} {a c Q Q2 : Nat → Int} {k w n : Nat} {top : Int} (hr : Rec m a c k) (hk : k ≤ w) (h : Rp m a (w + 1) Q n) (ht : cg m top (Q w)) (h2 : ∀ b : Nat → Int, cg m (sm (fun u => Q2 u * b u) w) (sm (fun u => Q u * b u) w + sm (fun j => top * c (j + 1) * b (w - 1 - j)) k)) : Rp m a w Q2 n := fun t => by
  refine (h t).tr ?_
  rw [sm_s]
  refine cg.sy ((h2 (fun u => a (u + t))).tr (cg.rf.add ?_))
  refine cg.sy ((cg.mul ht.sy (hr (w + t) (by omega))).tr (cg.of ?_))
  rw [← sm_mul]
  refine sm_cong (fun j hj => ?_)
  rw [← Int.mul_assoc]
  congr 2; omega
theorem Rp.cong {m : Int} {a P P2 : Nat → Int} {k n : Nat} (h : Rp m a k P n) (e : ∀ i, i < k → cg m (P2 i) (P i)) : Rp m a k P2 n := fun t =>
  (h t).tr (cg.sm (fun i hi => (e i hi).sy.mul cg.rf))
/-- times z -/
theorem Rp.next {m : Int} {a c P P2 : Nat → Int} {k n : Nat} (hk : 0 < k) (hr : Rec m a c k) (h : Rp m a k P n) (e : ∀ i, i < k → cg m (P2 i) ((if i = 0 then 0 else P (i - 1)) + P (k - 1) * c (k - i))) : Rp m a k P2 (n + 1) := fun t => by
  have e1 := h (1 + t)
  have e2 : n + (1 + t) = n + 1 + t := by omega
  rw [e2] at e1
  refine e1.tr (cg.sy ?_)
  refine (cg.sm (fun i hi => (e i hi).mul cg.rf)).tr ?_
  obtain ⟨k2, rfl⟩ : ∃ k2, k = k2 + 1 := ⟨k - 1, by omega⟩
  have e3 : sm (fun i => ((if i = 0 then 0 else P (i - 1)) + P (k2 + 1 - 1) * c (k2 + 1 - i)) * a (i + t)) (k2 + 1) = sm (fun i => (if i = 0 then 0 else P (i - 1)) * a (i + t)) (k2 + 1) + sm (fun i => P (k2 + 1 - 1) * c (k2 + 1 - i) * a (i + t)) (k2 + 1) := by
    rw [← sm_add]; exact sm_cong (fun i _ => Int.add_mul _ _ _)
  rw [e3]
  have e4 : sm (fun i => (if i = 0 then 0 else P (i - 1)) * a (i + t)) (k2 + 1) = sm (fun i => P i * a (i + (1 + t))) k2 := by
    rw [sm_head, if_pos rfl, Int.zero_mul, Int.zero_add]
    refine sm_cong (fun j _ => ?_)
    rw [if_neg (by omega)]
    have z1 : j + 1 - 1 = j := by omega
    have z2 : j + 1 + t = j + (1 + t) := by omega
    rw [z1, z2]
  rw [e4, sm_s]
  refine cg.rf.add ?_
  have e5 := hr (k2 + (1 + t)) (by omega)
  refine cg.sy ((cg.mul (cg.rf (x := P k2)) e5).tr (cg.of ?_))
  rw [← sm_mul]
  have e6 : ∀ (g : Nat → Int) (n : Nat), sm g n = sm (fun i => g (n - 1 - i)) n := by
    intro g n
    induction n with
    | zero => rfl
    | succ n ih =>
      rw [sm_s, sm_head (fun i => g (n + 1 - 1 - i))]
      have z : sm (fun j => g (n + 1 - 1 - (j + 1))) n = sm (fun i => g (n - 1 - i)) n := sm_cong (fun j _ => by congr 1; omega)
      rw [z, ← ih]
      have z2 : n + 1 - 1 - 0 = n := by omega
      rw [z2]; omega
  rw [e6]
  refine sm_cong (fun i hi => ?_)
  rw [← Int.mul_assoc]
  have z1 : k2 + 1 - 1 - i + 1 = k2 + 1 - i := by omega
  have z2 : k2 + (1 + t) - 1 - (k2 + 1 - 1 - i) = i + t := by omega
  rw [z1, z2]
  congr 2
theorem ex_rec {k : Nat} {c s : Nat → Int} {m : Int} (h0 : 0 < k) : Rec m (ex k c s) c k := fun n hn => by
  rw [ex_ge h0 hn]; exact cg.rf
theorem ex_cg {k : Nat} {c c2 s s2 : Nat → Int} {m : Int} (hc : ∀ j, 1 ≤ j → j ≤ k → cg m (c j) (c2 j)) (hs : ∀ j, j < k → cg m (s j) (s2 j)) (h0 : 0 < k) : ∀ n, cg m (ex k c s n) (ex k c2 s2 n) := by
  intro n
  induction n using Nat.strongRecOn with
  | _ n ih =>
    by_cases h : n < k
    · rw [ex_lt h, ex_lt h]; exact hs n h
    · rw [ex_ge h0 (by omega), ex_ge h0 (by omega)]
      exact cg.sm (fun j hj => (hc (j + 1) (by omega) (by omega)).mul (ih _ (by omega)))
theorem Rp.fin {k : Nat} {c s P : Nat → Int} {m : Int} {n : Nat} (h : Rp m (ex k c s) k P n) : cg m (ex k c s n) (sm (fun i => P i * s i) k) := by
  have := h 0
  refine this.tr (cg.of (sm_cong (fun i hi => ?_)))
  rw [Nat.add_zero, ex_lt hi]
theorem shr_n {n b : Int} (h0 : 0 ≤ n) (h1 : n < 2147483648) (b0 : 0 ≤ b) (b1 : b ≤ 30) : iZ n >>> (iZ b &&& 31) = iZ (n / 2 ^ b.toNat) := by
  obtain ⟨w, rfl⟩ : ∃ w : Nat, n = (w : Int) := ⟨n.toNat, by omega⟩
  obtain ⟨v, rfl⟩ : ∃ v : Nat, b = (v : Int) := ⟨b.toNat, by omega⟩
  have hv : ∀ v : Nat, v < 31 → ((iZ (v : Int) &&& 31).toBitVec.smod 32).toNat = v := by decide
  have e := pk_shrN (n := w) (by omega) (iZ (v : Int) &&& 31) v (hv v (by omega))
  have e1 : nI w = iZ (w : Int) := (Int32.ofInt_eq_ofNat).symm
  rw [e1] at e
  rw [e]
  show Int32.ofNat _ = Int32.ofInt _
  rw [← Int32.ofInt_eq_ofNat]
  congr 1
theorem and_1 {n : Int} (h0 : 0 ≤ n) (h1 : n < 2147483648) : iZ n &&& iZ 1 = iZ (n % 2) := by
  obtain ⟨w, rfl⟩ : ∃ w : Nat, n = (w : Int) := ⟨n.toNat, by omega⟩
  have e1 : nI w = iZ (w : Int) := (Int32.ofInt_eq_ofNat).symm
  have e := pk_andN (n := w) (by omega) (m := iZ 1) 1 (by decide)
  rw [e1] at e
  rw [e]
  show Int32.ofNat _ = Int32.ofInt _
  rw [← Int32.ofInt_eq_ofNat]
  rfl
theorem pow_half {n : Nat} (b : Nat) : n / 2 ^ b = 2 * (n / 2 ^ (b + 1)) + n / 2 ^ b % 2 := by
  rw [Nat.pow_succ, ← Nat.div_div_eq_div_mul]
  omega
