/-! what is MADE of rows: the laws and the starts, as functions -/
theorem sm_tail {g : Nat → Int} {a : Nat} : ∀ {b : Nat}, a ≤ b → (∀ j, a ≤ j → j < b → g j = 0) → sm g b = sm g a
  | 0, h, _ => by have : a = 0 := by omega
                  rw [this]
  | b + 1, h, hz => by
    by_cases z : a = b + 1
    · rw [z]
    · rw [sm_s, hz b (by omega) (by omega), Int.add_zero]
      exact sm_tail (by omega) (fun j h1 h2 => hz j h1 (by omega))
theorem sm_nil {g : Nat → Int} {b : Nat} (h : ∀ j, j < b → g j = 0) : sm g b = 0 := sm_tail (Nat.zero_le b) (fun j _ h2 => h j h2)
/-- the polynomials' product, with the law's signs -/
def mulg (c d : Nat → Int) (k l n : Nat) : Nat → Int := fun i => if i ≤ k ∧ n ≤ i + l then c i * d (n - i) else 0
def mulc (c d : Nat → Int) (k l n : Nat) : Int := -(sm (mulg c d k l n) (n + 1))
/-- sums of powers of the roots -/
def pwv (c : Nat → Int) (k : Nat) (f : Nat → Int) (j : Nat) : Int := (if j ≤ k then (j : Int) * c j else 0) + sm (fun i => c (i + 1) * f (j - (i + 1))) (min k (j - 1))
def pwt (c : Nat → Int) (k : Nat) : Nat → Nat → Int
  | 0 => fun _ => 0
  | j + 1 => uA (pwt c k j) (j + 1) (pwv c k (pwt c k j) (j + 1))
def pw (c : Nat → Int) (k j : Nat) : Int := pwt c k j j
theorem pwt_eq {c : Nat → Int} {k i : Nat} : ∀ {j : Nat}, i ≤ j → pwt c k j i = pw c k i
  | 0, h => by have : i = 0 := by omega
               subst this; rfl
  | j + 1, h => by
    by_cases z : i = j + 1
    · rw [z]; rfl
    · show uA (pwt c k j) (j + 1) _ i = _
      rw [uA_n z]; exact pwt_eq (by omega)
theorem pwv_cong {c f g : Nat → Int} {k j : Nat} (h : ∀ i, 1 ≤ i → i < j → f i = g i) : pwv c k f j = pwv c k g j := by
  unfold pwv
  congr 1
  exact sm_cong (fun i hi => by rw [h (j - (i + 1)) (by omega) (by omega)])
theorem pw_s {c : Nat → Int} {k j : Nat} (h : 1 ≤ j) : pw c k j = pwv c k (pw c k) j := by
  obtain ⟨i, e⟩ : ∃ i, j = i + 1 := ⟨j - 1, by omega⟩
  subst e
  show uA (pwt c k i) (i + 1) (pwv c k (pwt c k i) (i + 1)) (i + 1) = _
  rw [uA_e]
  exact pwv_cong (fun t h1 h2 => pwt_eq (by omega))
theorem pw_cong {c c2 : Nat → Int} {k : Nat} (hc : ∀ j, 1 ≤ j → j ≤ k → c j = c2 j) : ∀ j, 1 ≤ j → pw c k j = pw c2 k j := by
  intro j
  induction j using Nat.strongRecOn with
  | _ j ih =>
    intro h
    rw [pw_s h, pw_s h]
    unfold pwv
    congr 1
    · by_cases z : j ≤ k
      · rw [if_pos z, if_pos z, hc j h z]
      · rw [if_neg z, if_neg z]
    · exact sm_cong (fun i hi => by rw [hc (i + 1) (by omega) (by omega), ih _ (by omega) (by omega)])
/-- the law by the sums of powers -/
def lbv (P f : Nat → Int) (j : Nat) : Int := (P j - sm (fun i => f (i + 1) * P (j - (i + 1))) (j - 1)).tdiv (j : Int)
def lbt (P : Nat → Int) : Nat → Nat → Int
  | 0 => fun _ => 0
  | j + 1 => uA (lbt P j) (j + 1) (lbv P (lbt P j) (j + 1))
def lb (P : Nat → Int) (j : Nat) : Int := lbt P j j
theorem lbt_eq {P : Nat → Int} {i : Nat} : ∀ {j : Nat}, i ≤ j → lbt P j i = lb P i
  | 0, h => by have : i = 0 := by omega
               subst this; rfl
  | j + 1, h => by
    by_cases z : i = j + 1
    · rw [z]; rfl
    · show uA (lbt P j) (j + 1) _ i = _
      rw [uA_n z]; exact lbt_eq (by omega)
theorem lbv_cong {P P2 f g : Nat → Int} {j : Nat} (h : ∀ i, 1 ≤ i → i < j → f i = g i) (hP : ∀ i, 1 ≤ i → i ≤ j → P i = P2 i) (h1 : 1 ≤ j) : lbv P f j = lbv P2 g j := by
  unfold lbv
  rw [hP j h1 (Nat.le_refl j)]
  congr 2
  exact sm_cong (fun i hi => by rw [h (i + 1) (by omega) (by omega), hP (j - (i + 1)) (by omega) (by omega)])
theorem lb_s {P : Nat → Int} {j : Nat} (h : 1 ≤ j) : lb P j = lbv P (lb P) j := by
  obtain ⟨i, e⟩ : ∃ i, j = i + 1 := ⟨j - 1, by omega⟩
  subst e
  show uA (lbt P i) (i + 1) (lbv P (lbt P i) (i + 1)) (i + 1) = _
  rw [uA_e]
  exact lbv_cong (fun t h1 h2 => lbt_eq (by omega)) (fun _ _ _ => rfl) h
theorem lb_cong {P P2 : Nat → Int} {K : Nat} (hP : ∀ i, 1 ≤ i → i ≤ K → P i = P2 i) : ∀ j, 1 ≤ j → j ≤ K → lb P j = lb P2 j := by
  intro j
  induction j using Nat.strongRecOn with
  | _ j ih =>
    intro h h2
    rw [lb_s h, lb_s h]
    exact lbv_cong (fun i a b => ih i b a (by omega)) (fun i a b => hP i a (by omega)) h
theorem tdiv_ab (x y : Int) : (x.tdiv y).natAbs ≤ x.natAbs := by
  rw [Int.natAbs_tdiv]; exact Nat.div_le_self _ _
def lawB (K : Nat) (f : Nat → Int) : Prop := ∀ j, 1 ≤ j → j ≤ K → -100000 ≤ f j ∧ f j ≤ 100000
def powB (K : Nat) (f : Nat → Int) : Prop := ∀ j, 1 ≤ j → j ≤ K → -1000000000 ≤ f j ∧ f j ≤ 1000000000
def one1 : Nat → Int := fun i => if i = 0 then -1 else 1
/-- a product of two numbers, or one above all -/
def PRD (a b z : Int) : Prop := (-1000000000000000000 ≤ a * b ∧ a * b ≤ 1000000000000000000 ∧ z = a * b) ∨ (¬ (-1000000000000000000 ≤ a * b ∧ a * b ≤ 1000000000000000000) ∧ z = 1000000000000000001)
theorem prd_gt {a b : Int} (ha : a ≠ 0) (h : 1000000000000000000 / (a.natAbs : Int) < (b.natAbs : Int)) : ¬ (-1000000000000000000 ≤ a * b ∧ a * b ≤ 1000000000000000000) := by
  intro w
  have h1 : (a * b).natAbs ≤ 1000000000000000000 := by omega
  rw [Int.natAbs_mul] at h1
  have h2 : b.natAbs ≤ 1000000000000000000 / a.natAbs := (Nat.le_div_iff_mul_le (by omega)).mpr (by rw [Nat.mul_comm]; exact h1)
  have h3 : (b.natAbs : Int) ≤ ((1000000000000000000 / a.natAbs : Nat) : Int) := by exact_mod_cast h2
  have h4 : ((1000000000000000000 : Nat) : Int) = 1000000000000000000 := rfl
  rw [Int.natCast_ediv, h4] at h3
  omega
theorem prd_le {a b : Int} (h : a = 0 ∨ (b.natAbs : Int) ≤ 1000000000000000000 / (a.natAbs : Int)) : -1000000000000000000 ≤ a * b ∧ a * b ≤ 1000000000000000000 := by
  by_cases z : a = 0
  · rw [z, Int.zero_mul]; decide
  · have h2 : (b.natAbs : Int) ≤ 1000000000000000000 / (a.natAbs : Int) := by omega
    have h4 : ((1000000000000000000 : Nat) : Int) = 1000000000000000000 := rfl
    rw [← h4, ← Int.natCast_ediv] at h2
    have h3 : b.natAbs ≤ 1000000000000000000 / a.natAbs := by exact_mod_cast h2
    have h5 := (Nat.le_div_iff_mul_le (by omega)).mp h3
    rw [Nat.mul_comm, ← Int.natAbs_mul] at h5
    omega
def FoldOk (x y : Nat → Int) (n : Nat) : Prop := ∀ i, i ≤ n → (-1000000000000000000 ≤ x i * y (n - i) ∧ x i * y (n - i) ≤ 1000000000000000000) ∧ (-1000000000000000000 ≤ sm (fun t => x t * y (n - t)) (i + 1) ∧ sm (fun t => x t * y (n - t)) (i + 1) ≤ 1000000000000000000)
def PKr (k l : Nat) (c d : Nat → Int) : Prop := k * l ≤ 6 ∧ powB (k * l) (pw c k) ∧ powB (k * l) (pw d l) ∧ powB (k * l) (fun j => pw c k j * pw d l j) ∧ lawB (k * l) (lb (fun j => pw c k j * pw d l j))
def PKe (k dd : Nat) (c : Nat → Int) : Prop := powB (dd * k) (pw c k) ∧ lawB k (lb (fun j => pw c k (dd * j)))
theorem lawB_cong {K : Nat} {f g : Nat → Int} (h : ∀ j, 1 ≤ j → j ≤ K → f j = g j) (H : lawB K f) : lawB K g := fun j a b => by rw [← h j a b]; exact H j a b
/-- the order, the law, and whether it may be -/
def mK (what : Int) (k l : Nat) : Nat := if what = 2 then k * l else if what = 4 then k else if what = 5 then k + 1 else if what = 6 ∨ what = 7 then k else k + l
def mLaw (what : Int) (k l dd : Nat) (c d : Nat → Int) : Nat → Int := if what = 2 then lb (fun j => pw c k j * pw d l j) else if what = 4 then lb (fun j => pw c k (dd * j)) else if what = 5 then mulc c one1 k 1 else if what = 6 ∨ what = 7 then c else mulc c d k l
def mOk (what : Int) (k l dd : Nat) (c d : Nat → Int) : Prop := if what = 2 then PKr k l c d else if what = 4 then PKe k dd c else if what = 5 then k + 1 ≤ 6 ∧ lawB (k + 1) (mulc c one1 k 1) else if what = 6 ∨ what = 7 then True else k + l ≤ 6 ∧ lawB (k + l) (mulc c d k l)
theorem mulc_cong {c d d2 : Nat → Int} {k l n : Nat} (h : ∀ j, j ≤ l → d j = d2 j) : mulc c d k l n = mulc c d2 k l n := by
  unfold mulc
  congr 1
  refine sm_cong (fun i hi => ?_)
  unfold mulg
  by_cases z : i ≤ k ∧ n ≤ i + l
  · rw [if_pos z, if_pos z, h (n - i) (by omega)]
  · rw [if_neg z, if_neg z]
def mLast (what : Int) (K dd : Nat) : Nat := if what = 4 then dd * (K - 1) else if what = 6 then dd + (K - 1) else K - 1
def mNum (what : Int) (x y : Nat → Int) (ddi : Int) (n : Nat) : Int := if what = 0 then x n + y n else if what = 1 then x n - y n else if what = 2 then x n * y n else if what = 3 then sm (fun t => x t * y (n - t)) (n + 1) else if what = 4 then x (ddi.toNat * n) else if what = 5 then sm x (n + 1) else if what = 6 then x (n + ddi.toNat) else ddi * x n
def sOk (what : Int) (K : Nat) (x y : Nat → Int) (ddi : Int) : Prop := (∀ j, j ≤ mLast what K ddi.toNat → inM (x j)) ∧ (what ≤ 3 → ∀ j, j < K → inM (y j)) ∧ (what = 3 → ∀ n, n < K → FoldOk x y n) ∧ ∀ n, n < K → -1000000 ≤ mNum what x y ddi n ∧ mNum what x y ddi n ≤ 1000000
/-- what is made for place n, by the program's own numbers -/
def FLD (x y : Nat → Int) (n : Nat) (z : Int) : Prop := (FoldOk x y n ∧ z = sm (fun t => x t * y (n - t)) (n + 1)) ∨ (¬ FoldOk x y n ∧ z = 1000000000000000001)
def NUM (what : Int) (x y ms : Nat → Int) (ddi : Int) (n : Nat) (z : Int) : Prop := (what = 0 → z = x n + y n) ∧ (what = 1 → z = x n - y n) ∧ (what = 2 → PRD (x n) (y n) z) ∧ (what = 3 → FLD x y n z) ∧ (what = 4 → z = x (ddi.toNat * n)) ∧ (what = 5 → z = if n = 0 then x 0 else ms (n - 1) + x n) ∧ (what = 6 → z = x (n + ddi.toNat)) ∧ (what = 7 → z = ddi * x n)
theorem FoldOk_cong {x y x2 y2 : Nat → Int} {n : Nat} (hx : ∀ j, j ≤ n → x j = x2 j) (hy : ∀ j, j ≤ n → y j = y2 j) (h : FoldOk x y n) : FoldOk x2 y2 n := by
  intro i hi
  have h1 := h i hi
  rw [hx i hi, hy (n - i) (by omega), sm_cong (g := fun t => x2 t * y2 (n - t)) (fun t ht => by rw [hx t (by omega), hy (n - t) (by omega)])] at h1
  exact h1
theorem NUM_fin {what : Int} {F G x y ms : Nat → Int} {ddi z : Int} {n K : Nat} (h0 : 0 ≤ what) (h7 : what ≤ 7) (hn : n < K) (hdd : (what = 4 ∨ what = 6) → 0 ≤ ddi) (hF : ∀ j, j ≤ mLast what K ddi.toNat → F j = x j) (hG : what ≤ 3 → ∀ j, j < K → G j = y j) (hms : ∀ u, u < n → ms u = mNum what x y ddi u) (hlast : what ≠ 4 → what ≠ 6 → mLast what K ddi.toNat = K - 1) (h : NUM what F G ms ddi n z) : (-1000000 ≤ z ∧ z ≤ 1000000 → z = mNum what x y ddi n ∧ (what = 3 → FoldOk x y n)) ∧ ((-1000000 ≤ mNum what x y ddi n ∧ mNum what x y ddi n ≤ 1000000) → (what = 3 → FoldOk x y n) → -1000000 ≤ z ∧ z ≤ 1000000) := by
  obtain ⟨h00, h1, h2, h3, h4, h5, h6, h77⟩ := h
  rcases (show what = 0 ∨ what = 1 ∨ what = 2 ∨ what = 3 ∨ what = 4 ∨ what = 5 ∨ what = 6 ∨ what = 7 by omega) with e | e | e | e | e | e | e | e <;> subst e
  · have hl := hlast (by decide) (by decide)
    have e1 := h00 rfl
    rw [hF n (by omega), hG (by decide) n hn] at e1
    have e2 : mNum 0 x y ddi n = x n + y n := rfl
    rw [e2, ← e1]
    exact ⟨fun _ => ⟨rfl, fun w => absurd w (by decide)⟩, fun w _ => w⟩
  · have hl := hlast (by decide) (by decide)
    have e1 := h1 rfl
    rw [hF n (by omega), hG (by decide) n hn] at e1
    have e2 : mNum 1 x y ddi n = x n - y n := rfl
    rw [e2, ← e1]
    exact ⟨fun _ => ⟨rfl, fun w => absurd w (by decide)⟩, fun w _ => w⟩
  · have hl := hlast (by decide) (by decide)
    have e1 := h2 rfl
    rw [hF n (by omega), hG (by decide) n hn] at e1
    have e2 : mNum 2 x y ddi n = x n * y n := rfl
    rw [e2]
    rcases e1 with ⟨a1, a2, a3⟩ | ⟨a1, a2⟩
    · rw [← a3]; exact ⟨fun _ => ⟨rfl, fun w => absurd w (by decide)⟩, fun w _ => w⟩
    · exact ⟨fun w => by exfalso; omega, fun w _ => by exfalso; exact a1 ⟨by omega, by omega⟩⟩
  · have hl := hlast (by decide) (by decide)
    have e1 := h3 rfl
    have e2 : mNum 3 x y ddi n = sm (fun t => x t * y (n - t)) (n + 1) := rfl
    have hx : ∀ j, j ≤ n → F j = x j := fun j hj => hF j (by omega)
    have hy : ∀ j, j ≤ n → G j = y j := fun j hj => hG (by decide) j (by omega)
    have e3 : sm (fun t => F t * G (n - t)) (n + 1) = sm (fun t => x t * y (n - t)) (n + 1) := sm_cong (fun t ht => by rw [hx t (by omega), hy (n - t) (by omega)])
    rw [e2]
    rcases e1 with ⟨a1, a2⟩ | ⟨a1, a2⟩
    · rw [a2, e3]; exact ⟨fun _ => ⟨rfl, fun _ => FoldOk_cong hx hy a1⟩, fun w _ => w⟩
    · exact ⟨fun w => by exfalso; omega, fun w w2 => absurd (FoldOk_cong (fun j hj => (hx j hj).symm) (fun j hj => (hy j hj).symm) (w2 rfl)) a1⟩
  · have e1 := h4 rfl
    have e2 : mNum 4 x y ddi n = x (ddi.toNat * n) := rfl
    have e3 : mLast 4 K ddi.toNat = ddi.toNat * (K - 1) := rfl
    rw [hF _ (by rw [e3]; exact Nat.mul_le_mul_left _ (by omega))] at e1
    rw [e2, ← e1]
    exact ⟨fun _ => ⟨rfl, fun w => absurd w (by decide)⟩, fun w _ => w⟩
  · have hl := hlast (by decide) (by decide)
    have e1 := h5 rfl
    have e2 : mNum 5 x y ddi n = sm x (n + 1) := rfl
    have e3 : z = sm x (n + 1) := by
      rw [e1]
      by_cases w : n = 0
      · rw [if_pos w, w, hF 0 (by omega)]; show _ = 0 + x 0; omega
      · rw [if_neg w, hms (n - 1) (by omega), hF n (by omega), sm_s]
        have e4 : mNum 5 x y ddi (n - 1) = sm x (n - 1 + 1) := rfl
        have e5 : n - 1 + 1 = n := by omega
        rw [e4, e5]
    rw [e2, ← e3]
    exact ⟨fun _ => ⟨rfl, fun w => absurd w (by decide)⟩, fun w _ => w⟩
  · have e1 := h6 rfl
    have e2 : mNum 6 x y ddi n = x (n + ddi.toNat) := rfl
    have e3 : mLast 6 K ddi.toNat = ddi.toNat + (K - 1) := rfl
    rw [hF _ (by rw [e3]; omega)] at e1
    rw [e2, ← e1]
    exact ⟨fun _ => ⟨rfl, fun w => absurd w (by decide)⟩, fun w _ => w⟩
  · have hl := hlast (by decide) (by decide)
    have e1 := h77 rfl
    have e2 : mNum 7 x y ddi n = ddi * x n := rfl
    rw [hF n (by omega)] at e1
    rw [e2, ← e1]
    exact ⟨fun _ => ⟨rfl, fun w => absurd w (by decide)⟩, fun w _ => w⟩
