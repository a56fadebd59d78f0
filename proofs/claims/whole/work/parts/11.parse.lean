/-! the text: numbers, the law, the starts -/
def Fig (len : Int) (b : Nat → Int) (a : Int) : Prop := a < len ∧ 48 ≤ b a.toNat ∧ b a.toNat ≤ 57
def Byt (len : Int) (b : Nat → Int) (a ch : Int) : Prop := a < len ∧ b a.toNat = ch
/-- the figures' number -/
def dv (b : Nat → Int) (a : Int) : Nat → Int
  | 0 => 0
  | n + 1 => 10 * dv b a n + b (a + n).toNat - 48
/-- n figures stand from a on, and no more -/
def Run (len : Int) (b : Nat → Int) (a : Int) (n : Nat) : Prop := 1 ≤ n ∧ (∀ j : Nat, j < n → Fig len b (a + j)) ∧ ¬ Fig len b (a + n)
def NumR (len : Int) (b : Nat → Int) (f most w v e : Int) : Prop := ∃ a : Int, ((Byt len b f 45 ∧ a = f + 1) ∨ (¬ Byt len b f 45 ∧ a = f)) ∧
  ((a = f ∧ Byt len b a 48 ∧ w = -4 ∧ v = 0 ∧ e = a + 1)
  ∨ ((¬ Fig len b a ∨ (a ≠ f ∧ Byt len b a 48)) ∧ w = a)
  ∨ (Fig len b a ∧ ¬ Byt len b a 48 ∧ ∃ n : Nat, Run len b a n ∧ ((dv b a n ≤ most ∧ w = -4 ∧ (a = f → v = dv b a n) ∧ (a ≠ f → v = -dv b a n) ∧ e = a + n) ∨ (most < dv b a n ∧ w = f))))
theorem Run.one {len : Int} {b : Nat → Int} {a : Int} {n m : Nat} (h1 : Run len b a n) (h2 : Run len b a m) : n = m := by
  rcases Nat.lt_trichotomy n m with q | q | q
  · exact absurd (h2.2.1 n q) h1.2.2
  · exact q
  · exact absurd (h1.2.1 m q) h2.2.2
theorem run_le {len : Int} {b : Nat → Int} {a : Int} {n : Nat} (h : ∀ j : Nat, j < n → Fig len b (a + j)) (h1 : 1 ≤ n) : a + n ≤ len := by
  have := (h (n - 1) (by omega)).1
  omega
theorem run_more {len : Int} {b : Nat → Int} {a : Int} : ∀ (d n : Nat), len - a - n ≤ d → 1 ≤ n → (∀ j : Nat, j < n → Fig len b (a + j)) → ∃ m, n ≤ m ∧ Run len b a m
  | 0, n, hd, h1, h => ⟨n, Nat.le_refl n, h1, h, fun q => by have := q.1; omega⟩
  | d + 1, n, hd, h1, h => by
    by_cases q : Fig len b (a + n)
    · obtain ⟨m, hm, hr⟩ := run_more (len := len) (b := b) (a := a) d (n + 1) (by omega) (by omega) (fun j hj => by
        by_cases z : j = n
        · subst z; exact q
        · exact h j (by omega))
      exact ⟨m, by omega, hr⟩
    · exact ⟨n, Nat.le_refl n, h1, h, q⟩
theorem run_ex {len : Int} {b : Nat → Int} {a : Int} {n : Nat} (h1 : 1 ≤ n) (h : ∀ j : Nat, j < n → Fig len b (a + j)) : ∃ m, n ≤ m ∧ Run len b a m :=
  run_more (len - a - n).toNat n (by omega) h1 h
theorem dv_mono {len : Int} {b : Nat → Int} {a : Int} : ∀ {n m : Nat}, n ≤ m → (∀ j : Nat, j < m → Fig len b (a + j)) → 0 ≤ dv b a n ∧ dv b a n ≤ dv b a m
  | n, 0, h, _ => by
    have : n = 0 := by omega
    subst this; simp [dv]
  | n, m + 1, h, hf => by
    have h1 := hf m (by omega)
    have e1 : dv b a (m + 1) = 10 * dv b a m + b (a + m).toNat - 48 := rfl
    by_cases q : n = m + 1
    · subst q
      have ih := dv_mono (Nat.le_refl m) (fun j hj => hf j (by omega))
      have := h1.2
      omega
    · have ih := dv_mono (n := n) (m := m) (by omega) (fun j hj => hf j (by omega))
      have := h1.2
      omega
theorem NumR.one {len : Int} {b : Nat → Int} {f most w v e w2 v2 e2 : Int} (h0 : 0 ≤ f) (h1 : NumR len b f most w v e) (h2 : NumR len b f most w2 v2 e2) : w = w2 ∧ (w = -4 → v = v2 ∧ e = e2) := by
  obtain ⟨a, ha, h1⟩ := h1
  obtain ⟨a2, ha2, h2⟩ := h2
  have ea : a = a2 := by
    rcases ha with ⟨p, q⟩ | ⟨p, q⟩ <;> rcases ha2 with ⟨p2, q2⟩ | ⟨p2, q2⟩
    · omega
    · exact absurd p p2
    · exact absurd p2 p
    · omega
  subst ea
  have hfig : Byt len b a 48 → Fig len b a := fun q => ⟨q.1, by rw [q.2]; decide, by rw [q.2]; decide⟩
  rcases h1 with ⟨p1, p2, p3, p4, p5⟩ | ⟨p1, p2⟩ | ⟨p1, p2, n, p3, p4⟩ <;> rcases h2 with ⟨q1, q2, q3, q4, q5⟩ | ⟨q1, q2⟩ | ⟨q1, q2, n2, q3, q4⟩
  · omega
  · rcases q1 with z | z
    · exact absurd (hfig p2) z
    · exact absurd p1 z.1
  · exact absurd p2 q2
  · rcases p1 with z | z
    · exact absurd (hfig q2) z
    · exact absurd q1 z.1
  · exact ⟨by omega, fun z => by rcases ha with ⟨_, x⟩ | ⟨_, x⟩ <;> omega⟩
  · rcases p1 with z | z
    · exact absurd q1 z
    · exact absurd z.2 q2
  · exact absurd q2 p2
  · rcases q1 with z | z
    · exact absurd p1 z
    · exact absurd z.2 p2
  · have en := p3.one q3
    subst en
    rcases p4 with ⟨x1, x2, x3, x4, x5⟩ | ⟨x1, x2⟩ <;> rcases q4 with ⟨y1, y2, y3, y4, y5⟩ | ⟨y1, y2⟩
    · refine ⟨by omega, fun _ => ⟨?_, by omega⟩⟩
      by_cases z : a = f
      · rw [x3 z, y3 z]
      · rw [x4 z, y4 z]
    · omega
    · omega
    · exact ⟨by omega, fun z => by omega⟩
theorem NumR.bd {len : Int} {b : Nat → Int} {f most w v e : Int} (h0 : 0 ≤ f) (hl : f ≤ len) (hm : 0 ≤ most) (h : NumR len b f most w v e) : (w = -4 ∧ f < e ∧ e ≤ len ∧ -most ≤ v ∧ v ≤ most) ∨ (0 ≤ w ∧ w ≤ len) := by
  obtain ⟨a, ha, h⟩ := h
  have hal : f ≤ a ∧ a ≤ len := by
    rcases ha with ⟨p, q⟩ | ⟨p, q⟩
    · have := p.1; omega
    · omega
  rcases h with ⟨p1, p2, p3, p4, p5⟩ | ⟨p1, p2⟩ | ⟨p1, p2, n, p3, p4⟩
  · have := p2.1; left; omega
  · right; omega
  · rcases p4 with ⟨x1, x2, x3, x4, x5⟩ | ⟨x1, x2⟩
    · left
      have h1 := run_le p3.2.1 p3.1
      have h2 := dv_mono (b := b) (a := a) (Nat.le_refl n) p3.2.1
      have h3 := p3.1
      by_cases z : a = f
      · have := x3 z; omega
      · have := x4 z; omega
    · right; omega
/-- the law's numbers from the i-th on -/
def LawP (len : Int) (b : Nat → Int) : Nat → Nat → Int → (Nat → Int) → Int → Nat → (Nat → Int) → Int → Prop
  | 0, _, _, _, _, _, _, _ => False
  | f + 1, i, p, c, r, k, c2, st => ∃ w v e : Int, NumR len b p 100000 w v e ∧ ((w ≠ -4 ∧ r = w) ∨ (w = -4 ∧ ((Byt len b e 58 ∧ v = 0 ∧ r = e) ∨ (Byt len b e 58 ∧ v ≠ 0 ∧ r = -4 ∧ k = i + 1 ∧ c2 = uA c (i + 1) v ∧ st = e + 1) ∨ (¬ Byt len b e 58 ∧ (¬ Byt len b e 44 ∨ i = 5) ∧ r = e) ∨ (¬ Byt len b e 58 ∧ Byt len b e 44 ∧ i ≠ 5 ∧ LawP len b f (i + 1) (e + 1) (uA c (i + 1) v) r k c2 st))))
/-- the starts from the i-th on -/
def StP (len : Int) (b : Nat → Int) (k : Nat) : Nat → Nat → Int → (Nat → Int) → Int → (Nat → Int) → Prop
  | 0, _, _, _, _, _ => False
  | f + 1, i, p, s, r, s2 => ∃ w v e : Int, NumR len b p 1000000 w v e ∧ ((w ≠ -4 ∧ r = w) ∨ (w = -4 ∧ ((i + 1 = k ∧ e < len ∧ r = e) ∨ (i + 1 = k ∧ len ≤ e ∧ r = -4 ∧ s2 = uA s i v) ∨ (i + 1 ≠ k ∧ ¬ Byt len b e 44 ∧ r = e) ∨ (i + 1 ≠ k ∧ Byt len b e 44 ∧ StP len b k f (i + 1) (e + 1) (uA s i v) r s2))))
theorem LawP.one {len : Int} {b : Nat → Int} : ∀ {f i : Nat} {p : Int} {c : Nat → Int} {r r2 : Int} {k k2 : Nat} {c1 c2 : Nat → Int} {st st2 : Int}, 0 ≤ p → p ≤ len → LawP len b f i p c r k c1 st → LawP len b f i p c r2 k2 c2 st2 → r = r2 ∧ (r = -4 → k = k2 ∧ c1 = c2 ∧ st = st2)
  | 0, _, _, _, _, _, _, _, _, _, _, _, _, _, h1, _ => h1.elim
  | f + 1, i, p, c, r, r2, k, k2, c1, c2, st, st2, h0, hl, h1, h2 => by
    obtain ⟨w, v, e, hn, h1⟩ := h1
    obtain ⟨w2, v2, e2, hn2, h2⟩ := h2
    obtain ⟨ew, eve⟩ := hn.one h0 hn2
    have hb := hn.bd h0 hl (by decide)
    subst ew
    rcases h1 with ⟨p1, p2⟩ | ⟨p1, h1⟩ <;> rcases h2 with ⟨q1, q2⟩ | ⟨q1, h2⟩
    · exact ⟨by omega, fun z => by omega⟩
    · exact absurd q1 p1
    · exact absurd p1 q1
    · obtain ⟨ev, ee⟩ := eve p1
      subst ev; subst ee
      have ne : Byt len b e 58 → ¬ Byt len b e 44 := fun x y => by have := x.2; have := y.2; omega
      rcases h1 with ⟨a1, a2, a3⟩ | ⟨a1, a2, a3, a4, a5, a6⟩ | ⟨a1, a2, a3⟩ | ⟨a1, a2, a3, a4⟩ <;> rcases h2 with ⟨b1, b2, b3⟩ | ⟨b1, b2, b3, b4, b5, b6⟩ | ⟨b1, b2, b3⟩ | ⟨b1, b2, b3, b4⟩
      · exact ⟨by omega, fun z => by omega⟩
      · exact absurd a2 b2
      · exact absurd a1 b1
      · exact absurd a1 b1
      · exact absurd b2 a2
      · exact ⟨by omega, fun _ => ⟨by omega, by rw [a5, b5], by omega⟩⟩
      · exact absurd a1 b1
      · exact absurd a1 b1
      · exact absurd b1 a1
      · exact absurd b1 a1
      · exact ⟨by omega, fun z => by omega⟩
      · rcases a2 with x | x
        · exact absurd b2 x
        · exact absurd x b3
      · exact absurd b1 a1
      · exact absurd b1 a1
      · rcases b2 with x | x
        · exact absurd a2 x
        · exact absurd x a3
      · have := a2.1
        exact LawP.one (by omega) (by omega) a4 b4
theorem StP.one {len : Int} {b : Nat → Int} {k : Nat} : ∀ {f i : Nat} {p : Int} {s : Nat → Int} {r r2 : Int} {s1 s2 : Nat → Int}, 0 ≤ p → p ≤ len → StP len b k f i p s r s1 → StP len b k f i p s r2 s2 → r = r2 ∧ (r = -4 → s1 = s2)
  | 0, _, _, _, _, _, _, _, _, _, h1, _ => h1.elim
  | f + 1, i, p, s, r, r2, s1, s2, h0, hl, h1, h2 => by
    obtain ⟨w, v, e, hn, h1⟩ := h1
    obtain ⟨w2, v2, e2, hn2, h2⟩ := h2
    obtain ⟨ew, eve⟩ := hn.one h0 hn2
    have hb := hn.bd h0 hl (by decide)
    subst ew
    rcases h1 with ⟨p1, p2⟩ | ⟨p1, h1⟩ <;> rcases h2 with ⟨q1, q2⟩ | ⟨q1, h2⟩
    · exact ⟨by omega, fun z => by omega⟩
    · exact absurd q1 p1
    · exact absurd p1 q1
    · obtain ⟨ev, ee⟩ := eve p1
      subst ev; subst ee
      rcases h1 with ⟨a1, a2, a3⟩ | ⟨a1, a2, a3, a4⟩ | ⟨a1, a2, a3⟩ | ⟨a1, a2, a3⟩ <;> rcases h2 with ⟨b1, b2, b3⟩ | ⟨b1, b2, b3, b4⟩ | ⟨b1, b2, b3⟩ | ⟨b1, b2, b3⟩
      · exact ⟨by omega, fun z => by omega⟩
      · omega
      · exact absurd a1 b1
      · exact absurd a1 b1
      · omega
      · exact ⟨by omega, fun _ => by rw [a4, b4]⟩
      · exact absurd a1 b1
      · exact absurd a1 b1
      · exact absurd b1 a1
      · exact absurd b1 a1
      · exact ⟨by omega, fun z => by omega⟩
      · exact absurd b2 a2
      · exact absurd b1 a1
      · exact absurd b1 a1
      · exact absurd a2 b2
      · have := a2.1
        exact StP.one (by omega) (by omega) a3 b3
/-- what a text tells: r is -4, and the row is k, c, s; or r is the fault -/
def Par (len : Int) (b : Nat → Int) (r : Int) (k : Nat) (c s : Nat → Int) : Prop :=
  (∃ st : Int, LawP len b 6 0 0 (fun _ => 0) (-4) k c st ∧ StP len b k k 0 st (fun _ => 0) r s) ∨ (r ≠ -4 ∧ ∃ (k2 : Nat) (c2 : Nat → Int) (st : Int), LawP len b 6 0 0 (fun _ => 0) r k2 c2 st)
theorem LawP.bd {len : Int} {b : Nat → Int} : ∀ {f i : Nat} {p : Int} {c : Nat → Int} {r : Int} {k : Nat} {c2 : Nat → Int} {st : Int}, 0 ≤ p → p ≤ len → i + f = 6 → (∀ j, 1 ≤ j → j ≤ i → -100000 ≤ c j ∧ c j ≤ 100000) → LawP len b f i p c r k c2 st → (r = -4 ∧ 1 ≤ k ∧ k ≤ 6 ∧ (∀ j, 1 ≤ j → j ≤ k → -100000 ≤ c2 j ∧ c2 j ≤ 100000) ∧ 0 ≤ st ∧ st ≤ len) ∨ (0 ≤ r ∧ r ≤ len)
  | 0, _, _, _, _, _, _, _, _, _, _, _, h => h.elim
  | f + 1, i, p, c, r, k, c2, st, h0, hl, hi, hc, h => by
    obtain ⟨w, v, e, hn, h⟩ := h
    have hb := hn.bd h0 hl (by decide)
    rcases h with ⟨p1, p2⟩ | ⟨p1, h⟩
    · right; omega
    · have hc2 : ∀ j, 1 ≤ j → j ≤ i + 1 → -100000 ≤ uA c (i + 1) v j ∧ uA c (i + 1) v j ≤ 100000 := fun j h1 h2 => by
        by_cases z : j = i + 1
        · subst z; rw [uA_e]; omega
        · rw [uA_n z]; exact hc j h1 (by omega)
      rcases h with ⟨a1, a2, a3⟩ | ⟨a1, a2, a3, a4, a5, a6⟩ | ⟨a1, a2, a3⟩ | ⟨a1, a2, a3, a4⟩
      · right; omega
      · left
        have := a1.1
        subst a4; subst a5
        exact ⟨a3, by omega, by omega, hc2, by omega, by omega⟩
      · right; omega
      · have := a2.1
        exact LawP.bd (by omega) (by omega) (by omega) hc2 a4
theorem StP.bd {len : Int} {b : Nat → Int} {k : Nat} : ∀ {f i : Nat} {p : Int} {s : Nat → Int} {r : Int} {s2 : Nat → Int}, 0 ≤ p → p ≤ len → i + f = k → (∀ j, j < i → -1000000 ≤ s j ∧ s j ≤ 1000000) → StP len b k f i p s r s2 → (r = -4 ∧ (∀ j, j < k → -1000000 ≤ s2 j ∧ s2 j ≤ 1000000)) ∨ (0 ≤ r ∧ r ≤ len)
  | 0, _, _, _, _, _, _, _, _, _, h => h.elim
  | f + 1, i, p, s, r, s2, h0, hl, hi, hc, h => by
    obtain ⟨w, v, e, hn, h⟩ := h
    have hb := hn.bd h0 hl (by decide)
    rcases h with ⟨p1, p2⟩ | ⟨p1, h⟩
    · right; omega
    · have hc2 : ∀ j, j < i + 1 → -1000000 ≤ uA s i v j ∧ uA s i v j ≤ 1000000 := fun j h2 => by
        by_cases z : j = i
        · subst z; rw [uA_e]; omega
        · rw [uA_n z]; exact hc j (by omega)
      rcases h with ⟨a1, a2, a3⟩ | ⟨a1, a2, a3, a4⟩ | ⟨a1, a2, a3⟩ | ⟨a1, a2, a3⟩
      · right; omega
      · left
        subst a4
        rw [← a1]
        exact ⟨a3, hc2⟩
      · right; omega
      · have := a2.1
        exact StP.bd (by omega) (by omega) (by omega) hc2 a3
theorem Par.one {len : Int} {b : Nat → Int} {r r2 : Int} {k k2 : Nat} {c c2 s s2 : Nat → Int} (h0 : 0 ≤ len) (h1 : Par len b r k c s) (h2 : Par len b r2 k2 c2 s2) : r = r2 ∧ (r = -4 → k = k2 ∧ c = c2 ∧ s = s2) := by
  have nb : ∀ j, 1 ≤ j → j ≤ 0 → -100000 ≤ (fun _ => (0 : Int)) j ∧ (fun _ => (0 : Int)) j ≤ 100000 := fun j h1 h2 => by omega
  rcases h1 with ⟨st, a1, a2⟩ | ⟨a1, k3, c3, st, a2⟩ <;> rcases h2 with ⟨st2, b1, b2⟩ | ⟨b1, k4, c4, st2, b2⟩
  · obtain ⟨-, q⟩ := a1.one (by decide) h0 b1
    obtain ⟨q1, q2, q3⟩ := q rfl
    subst q1; subst q2; subst q3
    have hb := a1.bd (by decide) h0 rfl nb
    obtain ⟨z1, z2⟩ := a2.one (by omega) (by omega) b2
    exact ⟨z1, fun z => ⟨rfl, rfl, z2 z⟩⟩
  · exact absurd (a1.one (by decide) h0 b2).1 (fun z => b1 z.symm)
  · exact absurd (b1.one (by decide) h0 a2).1 (fun z => a1 z.symm)
  · exact ⟨(a2.one (by decide) h0 b2).1, fun z => absurd z a1⟩
theorem Par.bd {len : Int} {b : Nat → Int} {r : Int} {k : Nat} {c s : Nat → Int} (h0 : 0 ≤ len) (h : Par len b r k c s) : (r = -4 ∧ 1 ≤ k ∧ k ≤ 6 ∧ (∀ j, 1 ≤ j → j ≤ k → -100000 ≤ c j ∧ c j ≤ 100000) ∧ ∀ j, j < k → -1000000 ≤ s j ∧ s j ≤ 1000000) ∨ (0 ≤ r ∧ r ≤ len) := by
  have nb : ∀ j, 1 ≤ j → j ≤ 0 → -100000 ≤ (fun _ => (0 : Int)) j ∧ (fun _ => (0 : Int)) j ≤ 100000 := fun j h1 h2 => by omega
  rcases h with ⟨st, a1, a2⟩ | ⟨a1, k3, c3, st, a2⟩
  · have hb := a1.bd (by decide) h0 rfl nb
    have hs := a2.bd (by omega) (by omega) (by omega) (fun j hj => absurd hj (Nat.not_lt_zero j))
    rcases hb with ⟨-, q1, q2, q3, -⟩ | q
    · rcases hs with ⟨z1, z2⟩ | z
      · exact Or.inl ⟨z1, q1, q2, q3, z2⟩
      · exact Or.inr z
    · omega
  · have hb := a2.bd (by decide) h0 rfl nb
    omega
