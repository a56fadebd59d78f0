/-! the abstract machine: numbers as Int, references as places in one list of cells, the heap as a function -/
def iZ (z : Int) : Int32 := Int32.ofInt z
def lZ (z : Int) : Int64 := Int64.ofInt z
def rI (z : Int) : Prop := -2147483648 ≤ z ∧ z ≤ 2147483647
def rL (z : Int) : Prop := -9223372036854775808 ≤ z ∧ z ≤ 9223372036854775807
theorem iZ_t {z : Int} (h : rI z) : (iZ z).toInt = z := Int32.toInt_ofInt_of_le (by have := h.1; omega) (by have := h.2; omega)
theorem lZ_t {z : Int} (h : rL z) : (lZ z).toInt = z := Int64.toInt_ofInt_of_le (by have := h.1; omega) (by have := h.2; omega)
theorem iZ_x (x : Int32) : iZ x.toInt = x := Int32.ofInt_toInt x
theorem lZ_x (x : Int64) : lZ x.toInt = x := Int64.ofInt_toInt x
theorem rI_x (x : Int32) : rI x.toInt := ⟨by have := Int32.le_toInt x; omega, by have := Int32.toInt_lt x; omega⟩
theorem rL_x (x : Int64) : rL x.toInt := ⟨by have := Int64.le_toInt x; omega, by have := Int64.toInt_lt x; omega⟩
theorem iZ_add (a b : Int) : iZ a + iZ b = iZ (a + b) := (Int32.ofInt_add a b).symm
theorem iZ_sub (a b : Int) : iZ a - iZ b = iZ (a - b) := (Int32.ofInt_sub a b).symm
theorem iZ_mul (a b : Int) : iZ a * iZ b = iZ (a * b) := (Int32.ofInt_mul a b).symm
theorem iZ_neg (a : Int) : -iZ a = iZ (-a) := (Int32.ofInt_neg a).symm
theorem lZ_add (a b : Int) : lZ a + lZ b = lZ (a + b) := (Int64.ofInt_add a b).symm
theorem lZ_sub (a b : Int) : lZ a - lZ b = lZ (a - b) := (Int64.ofInt_sub a b).symm
theorem lZ_mul (a b : Int) : lZ a * lZ b = lZ (a * b) := (Int64.ofInt_mul a b).symm
theorem lZ_neg (a : Int) : -lZ a = lZ (-a) := (Int64.ofInt_neg a).symm
theorem iZ_lt {a b : Int} (ha : rI a) (hb : rI b) : iZ a < iZ b ↔ a < b := by rw [Int32.lt_iff_toInt_lt, iZ_t ha, iZ_t hb]
theorem iZ_le {a b : Int} (ha : rI a) (hb : rI b) : iZ a ≤ iZ b ↔ a ≤ b := by rw [Int32.le_iff_toInt_le, iZ_t ha, iZ_t hb]
theorem iZ_eq {a b : Int} (ha : rI a) (hb : rI b) : iZ a = iZ b ↔ a = b := by rw [← Int32.toInt_inj, iZ_t ha, iZ_t hb]
theorem lZ_lt {a b : Int} (ha : rL a) (hb : rL b) : lZ a < lZ b ↔ a < b := by rw [Int64.lt_iff_toInt_lt, lZ_t ha, lZ_t hb]
theorem lZ_le {a b : Int} (ha : rL a) (hb : rL b) : lZ a ≤ lZ b ↔ a ≤ b := by rw [Int64.le_iff_toInt_le, lZ_t ha, lZ_t hb]
theorem lZ_eq {a b : Int} (ha : rL a) (hb : rL b) : lZ a = lZ b ↔ a = b := by rw [← Int64.toInt_inj, lZ_t ha, lZ_t hb]
theorem rI_0 : rI 0 := ⟨by decide, by decide⟩
theorem rL_0 : rL 0 := ⟨by decide, by decide⟩
theorem iZ_0 : iZ 0 = 0 := rfl
theorem lZ_0 : lZ 0 = 0 := rfl
theorem iZ_in {z : Int} {n : Nat} (h0 : 0 ≤ z) (h1 : z < n) (hn : n < 2147483648) : vp_in (iZ z) n := by
  rw [vp_in_iff, iZ_t ⟨by omega, by omega⟩]; exact ⟨h0, h1⟩
theorem iZ_nat {z : Int} (h0 : 0 ≤ z) (h1 : z < 2147483648) : (iZ z).toNatClampNeg = z.toNat := by
  show (iZ z).toInt.toNat = _
  rw [iZ_t ⟨by omega, by omega⟩]
theorem iZ_l {z : Int} (h : rI z) : (iZ z).toInt64 = lZ z := by
  rw [← Int64.toInt_inj, Int32.toInt_toInt64, iZ_t h, lZ_t ⟨by have := h.1; omega, by have := h.2; omega⟩]
theorem lZ_i (z : Int) : (lZ z).toInt32 = iZ z := Int64.toInt32_ofInt
theorem iZ_ne0 {z : Int} (h : rI z) (h0 : z ≠ 0) : ¬ iZ z = 0 := fun q => h0 ((iZ_eq h rI_0).mp (q.trans iZ_0.symm))
theorem lZ_ne0 {z : Int} (h : rL z) (h0 : z ≠ 0) : ¬ lZ z = 0 := fun q => h0 ((lZ_eq h rL_0).mp (q.trans lZ_0.symm))
theorem iZ_div {a b : Int} (ha : rI a) (hb : rI b) (h : -2147483648 < a) : iZ a / iZ b = iZ (a.tdiv b) := by
  have h9 : iZ a ≠ Int32.minValue := fun q => by
    have := congrArg Int32.toInt q
    rw [iZ_t ha, Int32.toInt_minValue] at this
    omega
  have e := Int32.toInt_div_of_ne_left (iZ a) (iZ b) h9
  rw [iZ_t ha, iZ_t hb] at e
  rw [← iZ_x (iZ a / iZ b), e]
theorem lZ_div {a b : Int} (ha : rL a) (hb : rL b) (h : -9223372036854775808 < a) : lZ a / lZ b = lZ (a.tdiv b) := by
  have h9 : lZ a ≠ Int64.minValue := fun q => by
    have := congrArg Int64.toInt q
    rw [lZ_t ha, Int64.toInt_minValue] at this
    omega
  have e := Int64.toInt_div_of_ne_left (lZ a) (lZ b) h9
  rw [lZ_t ha, lZ_t hb] at e
  rw [← lZ_x (lZ a / lZ b), e]
theorem tmod_mul (a b : Int) : a - a.tdiv b * b = a.tmod b := by
  have := Int.tmod_add_mul_tdiv a b
  have e : a.tdiv b * b = b * a.tdiv b := Int.mul_comm _ _
  omega
theorem iZ_rem {a b : Int} (ha : rI a) (hb : rI b) (h : -2147483648 < a) : iZ a - iZ a / iZ b * iZ b = iZ (a.tmod b) := by
  rw [iZ_div ha hb h, iZ_mul, iZ_sub, tmod_mul]
theorem lZ_rem {a b : Int} (ha : rL a) (hb : rL b) (h : -9223372036854775808 < a) : lZ a - lZ a / lZ b * lZ b = lZ (a.tmod b) := by
  rw [lZ_div ha hb h, lZ_mul, lZ_sub, tmod_mul]
/-! cells, the heap, the world -/
abbrev ACell : Type := (Nat × Nat × (Nat → Int)) ⊕ (Nat × Nat × (Nat → Option Nat)) ⊕ (Nat × List Value)
abbrev Hp : Type := Nat → ACell
abbrev aI (n : Nat) (f : Nat → Int) : ACell := .inl (0, n, f)
abbrev aL (n : Nat) (f : Nat → Int) : ACell := .inl (1, n, f)
abbrev aR (k n : Nat) (g : Nat → Option Nat) : ACell := .inr (.inl (k, n, g))
abbrev ob (ci : Nat) (fs : List Value) : ACell := .inr (.inr (ci, fs))
def hs (h : Hp) (a : Nat) (c : ACell) : Hp := fun k => if k = a then c else h k
theorem hs_e {h : Hp} {a : Nat} {c : ACell} : hs h a c a = c := if_pos rfl
theorem hs_n {h : Hp} {a b : Nat} {c : ACell} (e : b ≠ a) : hs h a c b = h b := if_neg e
theorem hs_hs {h : Hp} {a : Nat} {c d : ACell} : hs (hs h a c) a d = hs h a d := by
  funext k; unfold hs; by_cases e : k = a <;> simp [e]
theorem hs_sw {h : Hp} {a b : Nat} {c d : ACell} (e : a ≠ b) : hs (hs h a c) b d = hs (hs h b d) a c := by
  funext k; unfold hs
  by_cases e1 : k = a
  · subst e1; simp [e]
  · simp [e1]
theorem hs_id {h : Hp} {a : Nat} {c : ACell} (e : h a = c) : hs h a c = h := by
  funext k; unfold hs
  by_cases e1 : k = a
  · subst e1; simp [e]
  · simp [e1]
def uA (f : Nat → Int) (i : Nat) (z : Int) : Nat → Int := fun j => if j = i then z else f j
theorem uA_e {f : Nat → Int} {i : Nat} {z : Int} : uA f i z i = z := if_pos rfl
theorem uA_n {f : Nat → Int} {i j : Nat} {z : Int} (h : j ≠ i) : uA f i z j = f j := if_neg h
def uR (f : Nat → Option Nat) (i : Nat) (z : Option Nat) : Nat → Option Nat := fun j => if j = i then z else f j
/-- the k-th cell's address; behind the cells that can come: the one foreign cell -/
def BIG : Nat := 100000
def adr (B b : Nat) (k : Nat) : Nat := if k < BIG then B + k else b
theorem adr_lt {B b k : Nat} (h : k < BIG) : adr B b k = B + k := if_pos h
def cv (B b : Nat) : Value → Value
  | .ref k => .ref (adr B b k)
  | v => v
def cnc (dA : Nat → ClassId) (B b : Nat) : ACell → va_E
  | .inl (0, n, f) => .inl (dA 0, n, .inl (fun j => iZ (f j)))
  | .inl (_ + 1, n, f) => .inl (dA 1, n, .inr (.inl (fun j => lZ (f j))))
  | .inr (.inl (k, n, g)) => .inl (dA k, n, .inr (.inr (.inr (.inr (fun j => (g j).map (adr B b))))))
  | .inr (.inr (ci, fs)) => .inr (ci, fs.map (cv B b))
abbrev vwCl : List vw_C := [(RX0, TX0, 5), (RX1, TX1, 6), (RX2, TX2, 8), (RX3, TX3, 12), (RX4, TX4, 2), (RX5, TX5, 6), (RX6, TX6, 5), (RX7, TX7, 3), (RX8, TX8, 5), (RX9, TX9, 6), (RX10, TX10, 10), (RX11, TX11, 31)]
def tyT (k : Nat) : FieldType := match k with
  | 0 => .int
  | 1 => .long
  | 2 => .object RX7
  | _ => .array .int
def tysL (dA : Nat → ClassId) : List (ClassId × FieldType) := [(dA 0, tyT 0), (dA 1, tyT 1), (dA 2, tyT 2), (dA 3, tyT 3)]
def AH (D : va_G) (dA : Nat → ClassId) (B b N : Nat) (h : Hp) (H : Heap) : Prop := H.size = B + N ∧ ∀ k, k < N → va_at D vwCl (B + k, cnc dA B b (h k)) H
/-- what was below B stays, and nothing below B was written -/
def SB (B : Nat) (H0 H : Heap) (locs : List Loc) : Prop := (∀ q : Nat, q < B → H[q]? = H0[q]?) ∧ ∀ l ∈ locs, B ≤ l.base
def TS : List Cond := lw_tbl.filter goodWord
theorem TS_good : ∀ w ∈ TS, goodWord w = true := fun w h => (List.mem_filter.mp h).2
theorem TS_in {w : Cond} (h : w ∈ lw_tbl) (g : goodWord w = true) : w ∈ TS := List.mem_filter.mpr ⟨h, g⟩
/-! locals -/
def lo (B b : Nat) : Nat → List (Option Value) → List (Nat × Value)
  | _, [] => []
  | i, none :: L => lo B b (i + 1) L
  | i, some v :: L => (i, cv B b v) :: lo B b (i + 1) L
theorem lo_mem {B b : Nat} : ∀ {L : List (Option Value)} {i : Nat} {q : Nat × Value}, q ∈ lo B b i L ↔ ∃ j v, L[j]? = some (some v) ∧ q = (i + j, cv B b v)
  | [], i, q => by simp [lo]
  | none :: L, i, q => by
    unfold lo
    rw [lo_mem (L := L)]
    constructor
    · rintro ⟨j, v, h1, h2⟩
      exact ⟨j + 1, v, by simpa using h1, by rw [h2]; congr 1; omega⟩
    · rintro ⟨j, v, h1, h2⟩
      cases j with
      | zero => simp at h1
      | succ j => exact ⟨j, v, by simpa using h1, by rw [h2]; congr 1; omega⟩
  | some w :: L, i, q => by
    unfold lo
    rw [List.mem_cons, lo_mem (L := L)]
    constructor
    · rintro (h | ⟨j, v, h1, h2⟩)
      · exact ⟨0, w, rfl, h⟩
      · exact ⟨j + 1, v, by simpa using h1, by rw [h2]; congr 1; omega⟩
    · rintro ⟨j, v, h1, h2⟩
      cases j with
      | zero => simp at h1; subst h1; exact Or.inl h2
      | succ j => exact Or.inr ⟨j, v, by simpa using h1, by rw [h2]; congr 1; omega⟩
def lg : List (Option Value) → Nat → Option Value
  | [], _ => none
  | x :: _, 0 => x
  | _ :: L, i + 1 => lg L i
theorem lg_get : ∀ {L : List (Option Value)} {i : Nat} {v : Value}, lg L i = some v → L[i]? = some (some v)
  | [], _, _, h => by simp [lg] at h
  | x :: L, 0, v, h => by simp [lg] at h; simp [h]
  | x :: L, i + 1, v, h => by simp [lg] at h; simpa using lg_get h
theorem lg_at {B b : Nat} {ls : Array Slot} {n : Nat} {L : List (Option Value)} (hl : lv_has ls n (lo B b 0 L)) {i : Nat} {v : Value} (h : lg L i = some v) : ls[i]? = some (.val (cv B b v)) :=
  hl.2.2 (i, cv B b v) (lo_mem.mpr ⟨i, v, lg_get h, by simp⟩)
/-- a value of one slot into the place i -/
def ls1 : List (Option Value) → Nat → Value → List (Option Value)
  | [], _, _ => []
  | _ :: L, 0, v => some v :: L
  | some (.long _) :: L, 1, v => none :: ls1 L 0 v
  | some (.double _) :: L, 1, v => none :: ls1 L 0 v
  | x :: L, i + 1, v => x :: ls1 L i v
/-- a value of two slots -/
def ls2 : List (Option Value) → Nat → Value → List (Option Value)
  | [], _, _ => []
  | [_], 0, v => [some v]
  | _ :: _ :: L, 0, v => some v :: none :: L
  | some (.long _) :: L, 1, v => none :: ls2 L 0 v
  | some (.double _) :: L, 1, v => none :: ls2 L 0 v
  | x :: L, i + 1, v => x :: ls2 L i v
def c2 : Option Value → Bool
  | some (.long _) => true
  | some (.double _) => true
  | _ => false
theorem c2_cat {w : Value} (h : w.category = 2) : c2 (some w) = true := by
  cases w <;> first | rfl | (simp [Value.category] at h)
theorem ls1_succ (x : Option Value) (L : List (Option Value)) (i : Nat) (v : Value) : ls1 (x :: L) (i + 1) v = (if i = 0 ∧ c2 x = true then none else x) :: ls1 L i v := by
  cases x with
  | none => cases i <;> simp [ls1, c2]
  | some w => cases w <;> cases i <;> simp [ls1, c2]
theorem ls1_get : ∀ (L : List (Option Value)) (i j : Nat) (v w : Value), (ls1 L i v)[j]? = some (some w) → (j = i ∧ w = v) ∨ (j ≠ i ∧ L[j]? = some (some w) ∧ ¬ (j + 1 = i ∧ w.category = 2)) := by
  intro L
  induction L with
  | nil => intro i j v w h; simp [ls1] at h
  | cons x L ih =>
    intro i j v w h
    cases i with
    | zero =>
      cases j with
      | zero => simp [ls1] at h; exact Or.inl ⟨rfl, h.symm⟩
      | succ j => simp [ls1] at h; exact Or.inr ⟨by omega, by simpa using h, by omega⟩
    | succ i =>
      rw [ls1_succ] at h
      cases j with
      | zero =>
        by_cases e : i = 0 ∧ c2 x = true
        · rw [if_pos e] at h; simp at h
        · rw [if_neg e] at h
          simp at h
          subst h
          refine Or.inr ⟨by omega, by simp, fun q => e ⟨by omega, c2_cat q.2⟩⟩
      | succ j =>
        have h2 : (ls1 L i v)[j]? = some (some w) := by simpa using h
        rcases ih i j v w h2 with q | q
        · exact Or.inl ⟨by omega, q.2⟩
        · exact Or.inr ⟨by omega, by simpa using q.2.1, fun z => q.2.2 ⟨by omega, z.2⟩⟩
theorem ls1_len (L : List (Option Value)) : ∀ (i : Nat) (v : Value), (ls1 L i v).length = L.length := by
  induction L with
  | nil => intro i v; rfl
  | cons x L ih =>
    intro i v
    cases i with
    | zero => rfl
    | succ i => rw [ls1_succ]; simp [ih]
theorem ls2_succ (x : Option Value) (L : List (Option Value)) (i : Nat) (v : Value) : ls2 (x :: L) (i + 1) v = (if i = 0 ∧ c2 x = true then none else x) :: ls2 L i v := by
  cases x with
  | none => cases i <;> cases L <;> simp [ls2, c2]
  | some w => cases w <;> cases i <;> cases L <;> simp [ls2, c2]
theorem ls2_get : ∀ (L : List (Option Value)) (i j : Nat) (v w : Value), (ls2 L i v)[j]? = some (some w) → (j = i ∧ w = v) ∨ (j ≠ i ∧ j ≠ i + 1 ∧ L[j]? = some (some w) ∧ ¬ (j + 1 = i ∧ w.category = 2)) := by
  intro L
  induction L with
  | nil => intro i j v w h; simp [ls2] at h
  | cons x L ih =>
    intro i j v w h
    cases i with
    | zero =>
      cases L with
      | nil =>
        cases j with
        | zero => simp [ls2] at h; exact Or.inl ⟨rfl, h.symm⟩
        | succ j => simp [ls2] at h
      | cons y L =>
        cases j with
        | zero => simp [ls2] at h; exact Or.inl ⟨rfl, h.symm⟩
        | succ j =>
          cases j with
          | zero => simp [ls2] at h
          | succ j => simp [ls2] at h; exact Or.inr ⟨by omega, by omega, by simpa using h, by omega⟩
    | succ i =>
      rw [ls2_succ] at h
      cases j with
      | zero =>
        by_cases e : i = 0 ∧ c2 x = true
        · rw [if_pos e] at h; simp at h
        · rw [if_neg e] at h
          simp at h
          subst h
          refine Or.inr ⟨by omega, by omega, by simp, fun q => e ⟨by omega, c2_cat q.2⟩⟩
      | succ j =>
        have h2 : (ls2 L i v)[j]? = some (some w) := by simpa using h
        rcases ih i j v w h2 with q | q
        · exact Or.inl ⟨by omega, q.2⟩
        · exact Or.inr ⟨by omega, by omega, by simpa using q.2.2.1, fun z => q.2.2.2 ⟨by omega, z.2⟩⟩
theorem ls2_len (L : List (Option Value)) : ∀ (i : Nat) (v : Value), (ls2 L i v).length = L.length := by
  induction L with
  | nil => intro i v; rfl
  | cons x L ih =>
    intro i v
    cases i with
    | zero => cases L <;> rfl
    | succ i => rw [ls2_succ]; simp [ih]
theorem cv_cat (B b : Nat) (v : Value) : (cv B b v).category = v.category := by cases v <;> rfl
theorem ls1_has {B b n : Nat} {ls : Array Slot} {L L' : List (Option Value)} {i : Nat} {v : Value} (hL : ls1 L i v = L') (h : lv_has ls n ((i, cv B b v) :: (lo B b 0 L).filter (fun q => !(q.1 == i) && !(q.1 + 1 == i && q.2.category == 2)))) : lv_has ls n (lo B b 0 L') := by
  refine ⟨h.1, h.2.1, fun q hq => h.2.2 q ?_⟩
  rw [← hL] at hq
  obtain ⟨j, w, h1, rfl⟩ := lo_mem.mp hq
  rcases ls1_get L i j v w h1 with e | ⟨e1, e2, e3⟩
  · rw [e.1, e.2]; simp
  · refine List.mem_cons_of_mem _ (List.mem_filter.mpr ⟨lo_mem.mpr ⟨j, w, e2, rfl⟩, ?_⟩)
    simp only [Nat.zero_add, cv_cat, Bool.and_eq_true, Bool.not_eq_true', beq_eq_false_iff_ne, Bool.and_eq_false_iff, ne_eq]
    refine ⟨e1, ?_⟩
    by_cases z : j + 1 = i
    · exact Or.inr (fun q => e3 ⟨z, q⟩)
    · exact Or.inl z
theorem ls2_has {B b n : Nat} {ls : Array Slot} {L L' : List (Option Value)} {i : Nat} {v : Value} (hL : ls2 L i v = L') (h : lv_has ls n ((i, cv B b v) :: (lo B b 0 L).filter (fun q => !(q.1 == i) && (!(q.1 == i + 1) && !(q.1 + 1 == i && q.2.category == 2))))) : lv_has ls n (lo B b 0 L') := by
  refine ⟨h.1, h.2.1, fun q hq => h.2.2 q ?_⟩
  rw [← hL] at hq
  obtain ⟨j, w, h1, rfl⟩ := lo_mem.mp hq
  rcases ls2_get L i j v w h1 with e | ⟨e1, e2, e3, e4⟩
  · rw [e.1, e.2]; simp
  · refine List.mem_cons_of_mem _ (List.mem_filter.mpr ⟨lo_mem.mpr ⟨j, w, e3, rfl⟩, ?_⟩)
    simp only [Nat.zero_add, cv_cat, Bool.and_eq_true, Bool.not_eq_true', beq_eq_false_iff_ne, Bool.and_eq_false_iff, ne_eq]
    refine ⟨e1, e2, ?_⟩
    by_cases z : j + 1 = i
    · exact Or.inr (fun q => e4 ⟨z, q⟩)
    · exact Or.inl z
/-- fewer locals are known -/
def lle : List (Option Value) → List (Option Value) → Prop
  | [], [] => True
  | none :: L, _ :: L' => lle L L'
  | some x :: L, y :: L' => some x = y ∧ lle L L'
  | _, _ => False
theorem lle_get : ∀ {L L' : List (Option Value)}, lle L L' → L.length = L'.length ∧ ∀ (j : Nat) (v : Value), L[j]? = some (some v) → L'[j]? = some (some v)
  | [], [], _ => ⟨rfl, fun j v h => h⟩
  | [], _ :: _, h => h.elim
  | none :: _, [], h => h.elim
  | some _ :: _, [], h => h.elim
  | none :: L, y :: L', h => by
    have h2 : lle L L' := h
    obtain ⟨a, b⟩ := lle_get h2
    refine ⟨by simp [a], fun j v hj => ?_⟩
    cases j with
    | zero => simp at hj
    | succ j => simpa using b j v (by simpa using hj)
  | some x :: L, y :: L', h => by
    have h2 : some x = y ∧ lle L L' := h
    obtain ⟨a, b⟩ := lle_get h2.2
    refine ⟨by simp [a], fun j v hj => ?_⟩
    cases j with
    | zero => simp at hj ⊢; rw [← h2.1, hj]
    | succ j => simpa using b j v (by simpa using hj)
def NL : List (String × Nat × MethodName × String) := [("CarriedRows", 9, ⟨"CarriedRows$Text", "<init>", "()V"⟩, "CarriedRows"), ("CarriedRows", 24, ⟨"CarriedRows$Numbers", "<init>", "()V"⟩, "CarriedRows"), ("CarriedRows$Numbers", 38, ⟨"CarriedRows$Walk", "<init>", "()V"⟩, "CarriedRows"), ("CarriedRows", 31, ⟨"CarriedRows$Rests", "<init>", "()V"⟩, "CarriedRows"), ("CarriedRows", 38, ⟨"CarriedRows$Rounds", "<init>", "()V"⟩, "CarriedRows"), ("CarriedRows$Rounds", 11, ⟨"CarriedRows$Walk", "<init>", "()V"⟩, "CarriedRows"), ("CarriedRows", 45, ⟨"CarriedRows$Longest", "<init>", "()V"⟩, "CarriedRows"), ("CarriedRows$Longest", 9, ⟨"CarriedRows$Walk", "<init>", "()V"⟩, "CarriedRows"), ("CarriedRows", 52, ⟨"CarriedRows$Maker", "<init>", "()V"⟩, "CarriedRows"), ("CarriedRows", 59, ⟨"CarriedRows$Parts", "<init>", "()V"⟩, "CarriedRows"), ("CarriedRows$Parts", 11, ⟨"CarriedRows$Poly", "<init>", "()V"⟩, "CarriedRows"), ("CarriedRows$Rests", 46, ⟨"CarriedRows", "inverse", "(JI)I"⟩, "CarriedRows"), ("CarriedRows$Numbers", 80, ⟨"CarriedRows", "inverse", "(JI)I"⟩, "CarriedRows"), ("CarriedRows$Poly", 51, ⟨"CarriedRows", "inverse", "(JI)I"⟩, "CarriedRows")]
/-- what the tables say at every state: the classes, the array classes, the nest's links -/
def KK (D : va_G) (dA : Nat → ClassId) (U : State) : Prop := va_K D vwCl (tysL dA) U ∧ va_AO RX7 U ∧ AOv .int U ∧ ∀ q ∈ NL, va_Nw (.methodLinkNest q.1 q.2.1 q.2.2.1 q.2.2.2) U
theorem KK.warm {D : va_G} {dA : Nat → ClassId} {s U : State} (hW : s.WarmedH U.vm) (h : KK D dA s) : KK D dA U :=
  ⟨va_K.moved hW.alike h.1, va_AO.moved hW.alike h.2.1, AOv.moved hW.alike h.2.2.1, fun q hq => va_Nw.warmM hW (h.2.2.2 q hq)⟩
theorem KK.same {D : va_G} {dA : Nat → ClassId} {u U : State} (e : u.vm = U.vm) (h : KK D dA u) : KK D dA U :=
  ⟨va_K.moved (by rw [e]; exact Vm.Alike.refl _) h.1, va_AO.moved (by rw [e]; exact Vm.Alike.refl _) h.2.1, AOv.moved (by rw [e]; exact Vm.Alike.refl _) h.2.2.1, fun q hq => va_Nw.same rfl e (h.2.2.2 q hq)⟩
theorem AH.one {D : va_G} {dA : Nat → ClassId} {B b N a : Nat} {h : Hp} {H : Heap} (hA : AH D dA B b N h H) (ha : a < N) : va_P D vwCl [(B + a, cnc dA B b (h a))] H := by
  intro k q hk
  cases k with
  | zero => cases hk; exact hA.2 a ha
  | succ k => simp at hk
theorem AH.put {D : va_G} {dA : Nat → ClassId} {B b N a : Nat} {h : Hp} {H H1 : Heap} {c : ACell} (hA : AH D dA B b N h H) (e : va_at D vwCl (B + a, cnc dA B b c) H1) (z : H1.size = H.size) (oq : ∀ q : Nat, q ≠ B + a → H1[q]? = H[q]?) : AH D dA B b N (hs h a c) H1 := by
  refine ⟨z.trans hA.1, fun k hk => ?_⟩
  by_cases q : k = a
  · subst q; rw [hs_e]; exact e
  · rw [hs_n q]
    exact (hA.2 k hk).kept (oq _ (by show B + k ≠ B + a; omega))
theorem SB.put {B a : Nat} {H0 H H1 : Heap} {locs : List Loc} {j : Nat} (h : SB B H0 H locs) (oq : ∀ q : Nat, q ≠ B + a → H1[q]? = H[q]?) : SB B H0 H1 (locs ++ [⟨B + a, j⟩]) := by
  refine ⟨fun q hq => (oq q (by omega)).trans (h.1 q hq), fun l hl => ?_⟩
  rcases List.mem_append.mp hl with q | q
  · exact h.2 l q
  · rw [List.mem_singleton] at q; subst q; exact Nat.le_add_right _ _
theorem TS_good2 : ∀ w ∈ TS, (w.onTables && w.keeps) = true ∨ ∃ ty, w = .arrayClass ty := fun w h => good_of_word (TS_good w h)
theorem wsub {y : MethodName} {bytes : ByteArray} {maxL : Nat} {ret : Option FieldType} (hc : Cond.code y bytes maxL ret ∈ TS) : GoodIn TS (Cond.code y bytes maxL ret :: TS) := by
  intro w hw
  rcases List.mem_cons.mp hw with q | q
  · rw [q]; exact ⟨hc, TS_good2 _ hc⟩
  · exact ⟨q, TS_good2 _ q⟩

/-! the judgement -/
abbrev Ctx : Type := Program × Launch × Env × State × MethodId × Array Value × List Frame × Method × Code × va_G × (Nat → ClassId) × Heap × Nat × Nat × (State → Prop)
def G (X : Ctx) (own : String) (cc : ByteArray) (R : Room) (N k n pc : Nat) (L : List (Option Value)) (S : List Value) (h : Hp) : Prop :=
  match X with
  | (p, l, e, s, m, args, below, meth, c, D, dA, H0, B, b, Q) =>
    p.tables.exec = Jvm.exec → c.code = cc → c.maxLocals = L.length → s.vm.findClass own = some m.cls → (∀ w ∈ TS, w.before args s = true) → KK D dA s → N ≤ BIG →
    ∀ (H : Heap) (locs : List Loc) (ls : Array Slot), AH D dA B b N h H → SB B H0 H locs → lv_has ls L.length (lo B b 0 L) → W p l e R s m args below meth c H locs k n Q (F0 m pc ls (S.map (cv B b)))
theorem lcmp_tri (x y : Int64) : (lg_cmp x y = 1 ∧ y < x) ∨ (lg_cmp x y = 0 ∧ x = y) ∨ (lg_cmp x y = -1 ∧ x < y) := by
  unfold lg_cmp
  by_cases h : x > y
  · left; rw [if_pos h]; exact ⟨rfl, h⟩
  · right
    by_cases e : x = y
    · left; subst e; simp
    · right
      rw [if_neg h, if_neg e]
      refine ⟨rfl, ?_⟩
      have h1 : ¬ y.toInt < x.toInt := fun q => h (Int64.lt_iff_toInt_lt.mpr q)
      have h2 : ¬ x.toInt = y.toInt := fun q => e (Int64.toInt_inj.mp q)
      exact Int64.lt_iff_toInt_lt.mpr (by omega)
theorem lcmp_eq (x y : Int64) : (lg_cmp x y = 0) ↔ x = y := by
  rcases lcmp_tri x y with ⟨a, b⟩ | ⟨a, b⟩ | ⟨a, b⟩ <;> rw [a]
  · exact ⟨fun q => absurd q (by decide), fun q => by subst q; exact absurd b (by rw [Int64.lt_iff_toInt_lt]; omega)⟩
  · exact ⟨fun _ => b, fun _ => rfl⟩
  · exact ⟨fun q => absurd q (by decide), fun q => by subst q; exact absurd b (by rw [Int64.lt_iff_toInt_lt]; omega)⟩
theorem lcmp_ne (x y : Int64) : (¬ lg_cmp x y = 0) ↔ ¬ x = y := not_congr (lcmp_eq x y)
theorem lcmp_lt (x y : Int64) : (lg_cmp x y < 0) ↔ x < y := by
  rcases lcmp_tri x y with ⟨a, b⟩ | ⟨a, b⟩ | ⟨a, b⟩ <;> rw [a]
  · exact ⟨fun q => absurd q (by decide), fun q => by rw [Int64.lt_iff_toInt_lt] at b q; omega⟩
  · subst b; exact ⟨fun q => absurd q (by decide), fun q => by rw [Int64.lt_iff_toInt_lt] at q; omega⟩
  · exact ⟨fun _ => b, fun _ => by decide⟩
theorem lcmp_gt (x y : Int64) : (0 < lg_cmp x y) ↔ y < x := by
  rcases lcmp_tri x y with ⟨a, b⟩ | ⟨a, b⟩ | ⟨a, b⟩ <;> rw [a]
  · exact ⟨fun _ => b, fun _ => by decide⟩
  · subst b; exact ⟨fun q => absurd q (by decide), fun q => by rw [Int64.lt_iff_toInt_lt] at q; omega⟩
  · exact ⟨fun q => absurd q (by decide), fun q => by rw [Int64.lt_iff_toInt_lt] at b q; omega⟩
theorem lcmp_ge (x y : Int64) : (0 ≤ lg_cmp x y) ↔ y ≤ x := lg_cmp_ge x y
theorem lcmp_le (x y : Int64) : (lg_cmp x y ≤ 0) ↔ x ≤ y := by
  rcases lcmp_tri x y with ⟨a, b⟩ | ⟨a, b⟩ | ⟨a, b⟩ <;> rw [a]
  · exact ⟨fun q => absurd q (by decide), fun q => by rw [Int64.lt_iff_toInt_lt] at b; rw [Int64.le_iff_toInt_le] at q; omega⟩
  · subst b; exact ⟨fun _ => by rw [Int64.le_iff_toInt_le]; omega, fun _ => by decide⟩
  · exact ⟨fun _ => by rw [Int64.lt_iff_toInt_lt] at b; rw [Int64.le_iff_toInt_le]; omega, fun _ => by decide⟩
section RW1
variable {X : Ctx} {own : String} {cc : ByteArray} {R : Room} {N k n pc : Nat} {L : List (Option Value)} {S : List Value} {h : Hp}
theorem r_iconst {z : Int} (d : decode cc pc = .ok (.iconst z, 1)) (K : G X own cc R N k n (pc + 1) L (.int (iZ z) :: S) h) : G X own cc R N k n pc L (S) h := by
  obtain ⟨p, l, e, s, m, args, below, meth, c, D, dA, H0, B, b, Q⟩ := X
  intro hx hb hml ho hts hK hN H locs ls hA hS hl
  exact lv_iconst hx hb d rfl (K hx hb hml ho hts hK hN H locs ls hA hS hl)
theorem r_bipush {z : Int} (d : decode cc pc = .ok (.bipush z, 2)) (hz : (Int8.ofInt z).toInt32 = iZ z) (K : G X own cc R N k n (pc + 2) L (.int (iZ z) :: S) h) : G X own cc R N k n pc L (S) h := by
  obtain ⟨p, l, e, s, m, args, below, meth, c, D, dA, H0, B, b, Q⟩ := X
  intro hx hb hml ho hts hK hN H locs ls hA hS hl
  exact lv_bipush hx hb d hz (K hx hb hml ho hts hK hN H locs ls hA hS hl)
theorem r_sipush {z : Int} (d : decode cc pc = .ok (.sipush z, 3)) (hz : (Int16.ofInt z).toInt32 = iZ z) (K : G X own cc R N k n (pc + 3) L (.int (iZ z) :: S) h) : G X own cc R N k n pc L (S) h := by
  obtain ⟨p, l, e, s, m, args, below, meth, c, D, dA, H0, B, b, Q⟩ := X
  intro hx hb hml ho hts hK hN H locs ls hA hS hl
  exact lv_sipush hx hb d hz (K hx hb hml ho hts hK hN H locs ls hA hS hl)
theorem r_lconst {j : Fin 2} {z : Int} (d : decode cc pc = .ok (.lconst j, 1)) (hz : Int64.ofNat (j : Nat) = lZ z) (K : G X own cc R N k n (pc + 1) L (.long (lZ z) :: S) h) : G X own cc R N k n pc L (S) h := by
  obtain ⟨p, l, e, s, m, args, below, meth, c, D, dA, H0, B, b, Q⟩ := X
  intro hx hb hml ho hts hK hN H locs ls hA hS hl
  exact lv_lconst hx hb d hz (K hx hb hml ho hts hK hN H locs ls hA hS hl)
theorem r_iload_n {j : Fin 4} {i : Nat} {x : Int32} (d : decode cc pc = .ok (.iload_n j, 1)) (hi : (j : Nat) = i) (hg : lg L i = some (.int x)) (K : G X own cc R N k n (pc + 1) L (.int x :: S) h) : G X own cc R N k n pc L (S) h := by
  obtain ⟨p, l, e, s, m, args, below, meth, c, D, dA, H0, B, b, Q⟩ := X
  intro hx hb hml ho hts hK hN H locs ls hA hS hl
  exact lv_iload_n hx hb d hi (lg_at hl hg) (K hx hb hml ho hts hK hN H locs ls hA hS hl)
theorem r_iload {i : Nat} {x : Int32} (d : decode cc pc = .ok (.iload i, 2)) (hg : lg L i = some (.int x)) (K : G X own cc R N k n (pc + 2) L (.int x :: S) h) : G X own cc R N k n pc L (S) h := by
  obtain ⟨p, l, e, s, m, args, below, meth, c, D, dA, H0, B, b, Q⟩ := X
  intro hx hb hml ho hts hK hN H locs ls hA hS hl
  exact lv_iload hx hb d (lg_at hl hg) (K hx hb hml ho hts hK hN H locs ls hA hS hl)
theorem r_lload_n {j : Fin 4} {i : Nat} {x : Int64} (d : decode cc pc = .ok (.lload_n j, 1)) (hi : (j : Nat) = i) (hg : lg L i = some (.long x)) (K : G X own cc R N k n (pc + 1) L (.long x :: S) h) : G X own cc R N k n pc L (S) h := by
  obtain ⟨p, l, e, s, m, args, below, meth, c, D, dA, H0, B, b, Q⟩ := X
  intro hx hb hml ho hts hK hN H locs ls hA hS hl
  exact lv_lload_n hx hb d hi (lg_at hl hg) (K hx hb hml ho hts hK hN H locs ls hA hS hl)
theorem r_lload {i : Nat} {x : Int64} (d : decode cc pc = .ok (.lload i, 2)) (hg : lg L i = some (.long x)) (K : G X own cc R N k n (pc + 2) L (.long x :: S) h) : G X own cc R N k n pc L (S) h := by
  obtain ⟨p, l, e, s, m, args, below, meth, c, D, dA, H0, B, b, Q⟩ := X
  intro hx hb hml ho hts hK hN H locs ls hA hS hl
  exact lv_lload hx hb d (lg_at hl hg) (K hx hb hml ho hts hK hN H locs ls hA hS hl)
theorem r_aload_n {j : Fin 4} {i : Nat} {x : Nat} (d : decode cc pc = .ok (.aload_n j, 1)) (hi : (j : Nat) = i) (hg : lg L i = some (.ref x)) (K : G X own cc R N k n (pc + 1) L (.ref x :: S) h) : G X own cc R N k n pc L (S) h := by
  obtain ⟨p, l, e, s, m, args, below, meth, c, D, dA, H0, B, b, Q⟩ := X
  intro hx hb hml ho hts hK hN H locs ls hA hS hl
  exact lv_aload_n hx hb d hi (lg_at hl hg) (K hx hb hml ho hts hK hN H locs ls hA hS hl)
theorem r_aload {i : Nat} {x : Nat} (d : decode cc pc = .ok (.aload i, 2)) (hg : lg L i = some (.ref x)) (K : G X own cc R N k n (pc + 2) L (.ref x :: S) h) : G X own cc R N k n pc L (S) h := by
  obtain ⟨p, l, e, s, m, args, below, meth, c, D, dA, H0, B, b, Q⟩ := X
  intro hx hb hml ho hts hK hN H locs ls hA hS hl
  exact lv_aload hx hb d (lg_at hl hg) (K hx hb hml ho hts hK hN H locs ls hA hS hl)
theorem r_istore_n {j : Fin 4} {i : Nat} {x : Int32} {L2 : List (Option Value)} (d : decode cc pc = .ok (.istore_n j, 1)) (hi : (j : Nat) = i) (hn : i < L.length) (hL : ls1 L i (.int x) = L2) (K : G X own cc R N k n (pc + 1) L2 S h) : G X own cc R N k n pc L (.int x :: S) h := by
  obtain ⟨p, l, e, s, m, args, below, meth, c, D, dA, H0, B, b, Q⟩ := X
  intro hx hb hml ho hts hK hN H locs ls hA hS hl
  have hlen : L2.length = L.length := by rw [← hL, ls1_len]
  exact lv_istore_n hx hb d hi hl hn rfl (fun ls2 hl2 => K hx hb (hml.trans hlen.symm) ho hts hK hN H locs ls2 hA hS (by rw [hlen]; exact ls1_has (v := .int x) hL hl2))
theorem r_istore {i : Nat} {x : Int32} {L2 : List (Option Value)} (d : decode cc pc = .ok (.istore i, 2)) (hn : i < L.length) (hL : ls1 L i (.int x) = L2) (K : G X own cc R N k n (pc + 2) L2 S h) : G X own cc R N k n pc L (.int x :: S) h := by
  obtain ⟨p, l, e, s, m, args, below, meth, c, D, dA, H0, B, b, Q⟩ := X
  intro hx hb hml ho hts hK hN H locs ls hA hS hl
  have hlen : L2.length = L.length := by rw [← hL, ls1_len]
  exact lv_istore hx hb d hl hn rfl (fun ls2 hl2 => K hx hb (hml.trans hlen.symm) ho hts hK hN H locs ls2 hA hS (by rw [hlen]; exact ls1_has (v := .int x) hL hl2))
theorem r_lstore_n {j : Fin 4} {i : Nat} {x : Int64} {L2 : List (Option Value)} (d : decode cc pc = .ok (.lstore_n j, 1)) (hi : (j : Nat) = i) (hn : i + 1 < L.length) (hL : ls2 L i (.long x) = L2) (K : G X own cc R N k n (pc + 1) L2 S h) : G X own cc R N k n pc L (.long x :: S) h := by
  obtain ⟨p, l, e, s, m, args, below, meth, c, D, dA, H0, B, b, Q⟩ := X
  intro hx hb hml ho hts hK hN H locs ls hA hS hl
  have hlen : L2.length = L.length := by rw [← hL, ls2_len]
  exact lv_lstore_n hx hb d hi hl hn rfl (fun ls2 hl2 => K hx hb (hml.trans hlen.symm) ho hts hK hN H locs ls2 hA hS (by rw [hlen]; exact ls2_has (v := .long x) hL hl2))
theorem r_lstore {i : Nat} {x : Int64} {L2 : List (Option Value)} (d : decode cc pc = .ok (.lstore i, 2)) (hn : i + 1 < L.length) (hL : ls2 L i (.long x) = L2) (K : G X own cc R N k n (pc + 2) L2 S h) : G X own cc R N k n pc L (.long x :: S) h := by
  obtain ⟨p, l, e, s, m, args, below, meth, c, D, dA, H0, B, b, Q⟩ := X
  intro hx hb hml ho hts hK hN H locs ls hA hS hl
  have hlen : L2.length = L.length := by rw [← hL, ls2_len]
  exact lv_lstore hx hb d hl hn rfl (fun ls2 hl2 => K hx hb (hml.trans hlen.symm) ho hts hK hN H locs ls2 hA hS (by rw [hlen]; exact ls2_has (v := .long x) hL hl2))
theorem r_astore_n {j : Fin 4} {i : Nat} {x : Nat} {L2 : List (Option Value)} (d : decode cc pc = .ok (.astore_n j, 1)) (hi : (j : Nat) = i) (hn : i < L.length) (hL : ls1 L i (.ref x) = L2) (K : G X own cc R N k n (pc + 1) L2 S h) : G X own cc R N k n pc L (.ref x :: S) h := by
  obtain ⟨p, l, e, s, m, args, below, meth, c, D, dA, H0, B, b, Q⟩ := X
  intro hx hb hml ho hts hK hN H locs ls hA hS hl
  have hlen : L2.length = L.length := by rw [← hL, ls1_len]
  exact lv_astore_n hx hb d hi hl hn rfl (fun ls2 hl2 => K hx hb (hml.trans hlen.symm) ho hts hK hN H locs ls2 hA hS (by rw [hlen]; exact ls1_has (v := .ref x) hL hl2))
theorem r_astore {i : Nat} {x : Nat} {L2 : List (Option Value)} (d : decode cc pc = .ok (.astore i, 2)) (hn : i < L.length) (hL : ls1 L i (.ref x) = L2) (K : G X own cc R N k n (pc + 2) L2 S h) : G X own cc R N k n pc L (.ref x :: S) h := by
  obtain ⟨p, l, e, s, m, args, below, meth, c, D, dA, H0, B, b, Q⟩ := X
  intro hx hb hml ho hts hK hN H locs ls hA hS hl
  have hlen : L2.length = L.length := by rw [← hL, ls1_len]
  exact lv_astore hx hb d hl hn rfl (fun ls2 hl2 => K hx hb (hml.trans hlen.symm) ho hts hK hN H locs ls2 hA hS (by rw [hlen]; exact ls1_has (v := .ref x) hL hl2))
theorem r_iinc {i : Nat} {j z : Int} {L2 : List (Option Value)} (d : decode cc pc = .ok (.iinc i j, 3)) (hn : i < L.length) (hg : lg L i = some (.int (iZ z))) (hL : ls1 L i (.int (iZ (z + j))) = L2) (K : G X own cc R N k n (pc + 3) L2 S h) : G X own cc R N k n pc L S h := by
  obtain ⟨p, l, e, s, m, args, below, meth, c, D, dA, H0, B, b, Q⟩ := X
  intro hx hb hml ho hts hK hN H locs ls hA hS hl
  have hlen : L2.length = L.length := by rw [← hL, ls1_len]
  obtain ⟨q, hq⟩ : ∃ q : Nat, (lo B b 0 L)[q]? = some (i, Value.int (iZ z)) := List.getElem?_of_mem (lo_mem.mpr ⟨i, _, lg_get hg, by simp [cv]⟩)
  exact lv_iinc (k := q) (v := iZ (z + j)) hx hb d hl hq (iZ_add z j) hn rfl (fun ls2 hl2 => K hx hb (hml.trans hlen.symm) ho hts hK hN H locs ls2 hA hS (by rw [hlen]; exact ls1_has (v := .int (iZ (z + j))) hL hl2))
theorem r_iadd {x y : Int} (d : decode cc pc = .ok (.iadd, 1)) (K : G X own cc R N k n (pc + 1) L (.int (iZ (x + y)) :: S) h) : G X own cc R N k n pc L (.int (iZ y) :: .int (iZ x) :: S) h := by
  obtain ⟨p, l, e, s, m, args, below, meth, c, D, dA, H0, B, b, Q⟩ := X
  intro hx hb hml ho hts hK hN H locs ls hA hS hl
  refine lv_iadd hx hb d ?_
  rw [iZ_add]
  exact K hx hb hml ho hts hK hN H locs ls hA hS hl
theorem r_isub {x y : Int} (d : decode cc pc = .ok (.isub, 1)) (K : G X own cc R N k n (pc + 1) L (.int (iZ (x - y)) :: S) h) : G X own cc R N k n pc L (.int (iZ y) :: .int (iZ x) :: S) h := by
  obtain ⟨p, l, e, s, m, args, below, meth, c, D, dA, H0, B, b, Q⟩ := X
  intro hx hb hml ho hts hK hN H locs ls hA hS hl
  refine lv_isub hx hb d ?_
  rw [iZ_sub]
  exact K hx hb hml ho hts hK hN H locs ls hA hS hl
theorem r_imul {x y : Int} (d : decode cc pc = .ok (.imul, 1)) (K : G X own cc R N k n (pc + 1) L (.int (iZ (x * y)) :: S) h) : G X own cc R N k n pc L (.int (iZ y) :: .int (iZ x) :: S) h := by
  obtain ⟨p, l, e, s, m, args, below, meth, c, D, dA, H0, B, b, Q⟩ := X
  intro hx hb hml ho hts hK hN H locs ls hA hS hl
  refine lv_imul hx hb d ?_
  rw [iZ_mul]
  exact K hx hb hml ho hts hK hN H locs ls hA hS hl
theorem r_ladd {x y : Int} (d : decode cc pc = .ok (.ladd, 1)) (K : G X own cc R N k n (pc + 1) L (.long (lZ (x + y)) :: S) h) : G X own cc R N k n pc L (.long (lZ y) :: .long (lZ x) :: S) h := by
  obtain ⟨p, l, e, s, m, args, below, meth, c, D, dA, H0, B, b, Q⟩ := X
  intro hx hb hml ho hts hK hN H locs ls hA hS hl
  refine lv_ladd hx hb d ?_
  rw [lZ_add]
  exact K hx hb hml ho hts hK hN H locs ls hA hS hl
theorem r_lsub {x y : Int} (d : decode cc pc = .ok (.lsub, 1)) (K : G X own cc R N k n (pc + 1) L (.long (lZ (x - y)) :: S) h) : G X own cc R N k n pc L (.long (lZ y) :: .long (lZ x) :: S) h := by
  obtain ⟨p, l, e, s, m, args, below, meth, c, D, dA, H0, B, b, Q⟩ := X
  intro hx hb hml ho hts hK hN H locs ls hA hS hl
  refine lv_lsub hx hb d ?_
  rw [lZ_sub]
  exact K hx hb hml ho hts hK hN H locs ls hA hS hl
theorem r_lmul {x y : Int} (d : decode cc pc = .ok (.lmul, 1)) (K : G X own cc R N k n (pc + 1) L (.long (lZ (x * y)) :: S) h) : G X own cc R N k n pc L (.long (lZ y) :: .long (lZ x) :: S) h := by
  obtain ⟨p, l, e, s, m, args, below, meth, c, D, dA, H0, B, b, Q⟩ := X
  intro hx hb hml ho hts hK hN H locs ls hA hS hl
  refine lv_lmul hx hb d ?_
  rw [lZ_mul]
  exact K hx hb hml ho hts hK hN H locs ls hA hS hl
theorem r_idiv {x y : Int} (d : decode cc pc = .ok (.idiv, 1)) (hx1 : rI x) (hy1 : rI y) (h0 : y ≠ 0) (hm : -2147483648 < x) (K : G X own cc R N k n (pc + 1) L (.int (iZ (x.tdiv y)) :: S) h) : G X own cc R N k n pc L (.int (iZ y) :: .int (iZ x) :: S) h := by
  obtain ⟨p, l, e, s, m, args, below, meth, c, D, dA, H0, B, b, Q⟩ := X
  intro hx hb hml ho hts hK hN H locs ls hA hS hl
  refine lv_idiv hx hb d (iZ_ne0 hy1 h0) ?_
  rw [iZ_div hx1 hy1 hm]
  exact K hx hb hml ho hts hK hN H locs ls hA hS hl
theorem r_ldiv {x y : Int} (d : decode cc pc = .ok (.ldiv, 1)) (hx1 : rL x) (hy1 : rL y) (h0 : y ≠ 0) (hm : -9223372036854775808 < x) (K : G X own cc R N k n (pc + 1) L (.long (lZ (x.tdiv y)) :: S) h) : G X own cc R N k n pc L (.long (lZ y) :: .long (lZ x) :: S) h := by
  obtain ⟨p, l, e, s, m, args, below, meth, c, D, dA, H0, B, b, Q⟩ := X
  intro hx hb hml ho hts hK hN H locs ls hA hS hl
  refine lv_ldiv hx hb d (lZ_ne0 hy1 h0) ?_
  rw [lZ_div hx1 hy1 hm]
  exact K hx hb hml ho hts hK hN H locs ls hA hS hl
theorem r_irem {x y : Int} (d : decode cc pc = .ok (.irem, 1)) (hx1 : rI x) (hy1 : rI y) (h0 : y ≠ 0) (hm : -2147483648 < x) (K : G X own cc R N k n (pc + 1) L (.int (iZ (x.tmod y)) :: S) h) : G X own cc R N k n pc L (.int (iZ y) :: .int (iZ x) :: S) h := by
  obtain ⟨p, l, e, s, m, args, below, meth, c, D, dA, H0, B, b, Q⟩ := X
  intro hx hb hml ho hts hK hN H locs ls hA hS hl
  refine lv_irem hx hb d (iZ_ne0 hy1 h0) ?_
  rw [iZ_rem hx1 hy1 hm]
  exact K hx hb hml ho hts hK hN H locs ls hA hS hl
theorem r_lrem {x y : Int} (d : decode cc pc = .ok (.lrem, 1)) (hx1 : rL x) (hy1 : rL y) (h0 : y ≠ 0) (hm : -9223372036854775808 < x) (K : G X own cc R N k n (pc + 1) L (.long (lZ (x.tmod y)) :: S) h) : G X own cc R N k n pc L (.long (lZ y) :: .long (lZ x) :: S) h := by
  obtain ⟨p, l, e, s, m, args, below, meth, c, D, dA, H0, B, b, Q⟩ := X
  intro hx hb hml ho hts hK hN H locs ls hA hS hl
  refine lv_lrem hx hb d (lZ_ne0 hy1 h0) ?_
  rw [lZ_rem hx1 hy1 hm]
  exact K hx hb hml ho hts hK hN H locs ls hA hS hl
theorem r_ineg {x : Int} (d : decode cc pc = .ok (.ineg, 1)) (K : G X own cc R N k n (pc + 1) L (.int (iZ (-x)) :: S) h) : G X own cc R N k n pc L (.int (iZ x) :: S) h := by
  obtain ⟨p, l, e, s, m, args, below, meth, c, D, dA, H0, B, b, Q⟩ := X
  intro hx hb hml ho hts hK hN H locs ls hA hS hl
  refine lv_ineg hx hb d ?_
  rw [iZ_neg]
  exact K hx hb hml ho hts hK hN H locs ls hA hS hl
theorem r_lneg {x : Int} (d : decode cc pc = .ok (.lneg, 1)) (K : G X own cc R N k n (pc + 1) L (.long (lZ (-x)) :: S) h) : G X own cc R N k n pc L (.long (lZ x) :: S) h := by
  obtain ⟨p, l, e, s, m, args, below, meth, c, D, dA, H0, B, b, Q⟩ := X
  intro hx hb hml ho hts hK hN H locs ls hA hS hl
  refine lv_lneg hx hb d ?_
  rw [lZ_neg]
  exact K hx hb hml ho hts hK hN H locs ls hA hS hl
theorem r_i2l {x : Int} (d : decode cc pc = .ok (.i2l, 1)) (hx1 : rI x) (K : G X own cc R N k n (pc + 1) L (.long (lZ x) :: S) h) : G X own cc R N k n pc L (.int (iZ x) :: S) h := by
  obtain ⟨p, l, e, s, m, args, below, meth, c, D, dA, H0, B, b, Q⟩ := X
  intro hx hb hml ho hts hK hN H locs ls hA hS hl
  exact lv_i2l hx hb d (iZ_l hx1) (K hx hb hml ho hts hK hN H locs ls hA hS hl)
theorem r_l2i {x : Int} (d : decode cc pc = .ok (.l2i, 1)) (K : G X own cc R N k n (pc + 1) L (.int (iZ x) :: S) h) : G X own cc R N k n pc L (.long (lZ x) :: S) h := by
  obtain ⟨p, l, e, s, m, args, below, meth, c, D, dA, H0, B, b, Q⟩ := X
  intro hx hb hml ho hts hK hN H locs ls hA hS hl
  exact lv_l2i hx hb d (lZ_i x) (K hx hb hml ho hts hK hN H locs ls hA hS hl)
theorem r_iand {x y z : Int32} (d : decode cc pc = .ok (.iand, 1)) (hz : x &&& y = z) (K : G X own cc R N k n (pc + 1) L (.int z :: S) h) : G X own cc R N k n pc L (.int y :: .int x :: S) h := by
  obtain ⟨p, l, e, s, m, args, below, meth, c, D, dA, H0, B, b, Q⟩ := X
  intro hx hb hml ho hts hK hN H locs ls hA hS hl
  subst hz
  exact lv_iand hx hb d (K hx hb hml ho hts hK hN H locs ls hA hS hl)
theorem r_land {x y z : Int64} (d : decode cc pc = .ok (.land, 1)) (hz : x &&& y = z) (K : G X own cc R N k n (pc + 1) L (.long z :: S) h) : G X own cc R N k n pc L (.long y :: .long x :: S) h := by
  obtain ⟨p, l, e, s, m, args, below, meth, c, D, dA, H0, B, b, Q⟩ := X
  intro hx hb hml ho hts hK hN H locs ls hA hS hl
  subst hz
  exact lv_land hx hb d (K hx hb hml ho hts hK hN H locs ls hA hS hl)
theorem r_lor {x y z : Int64} (d : decode cc pc = .ok (.lor, 1)) (hz : x ||| y = z) (K : G X own cc R N k n (pc + 1) L (.long z :: S) h) : G X own cc R N k n pc L (.long y :: .long x :: S) h := by
  obtain ⟨p, l, e, s, m, args, below, meth, c, D, dA, H0, B, b, Q⟩ := X
  intro hx hb hml ho hts hK hN H locs ls hA hS hl
  subst hz
  exact lv_lor hx hb d (K hx hb hml ho hts hK hN H locs ls hA hS hl)
theorem r_lxor {x y z : Int64} (d : decode cc pc = .ok (.lxor, 1)) (hz : x ^^^ y = z) (K : G X own cc R N k n (pc + 1) L (.long z :: S) h) : G X own cc R N k n pc L (.long y :: .long x :: S) h := by
  obtain ⟨p, l, e, s, m, args, below, meth, c, D, dA, H0, B, b, Q⟩ := X
  intro hx hb hml ho hts hK hN H locs ls hA hS hl
  subst hz
  exact lv_lxor hx hb d (K hx hb hml ho hts hK hN H locs ls hA hS hl)
theorem r_ishr {x y z : Int32} (d : decode cc pc = .ok (.ishr, 1)) (hz : x >>> (y &&& 31) = z) (K : G X own cc R N k n (pc + 1) L (.int z :: S) h) : G X own cc R N k n pc L (.int y :: .int x :: S) h := by
  obtain ⟨p, l, e, s, m, args, below, meth, c, D, dA, H0, B, b, Q⟩ := X
  intro hx hb hml ho hts hK hN H locs ls hA hS hl
  subst hz
  exact lv_ishr hx hb d (K hx hb hml ho hts hK hN H locs ls hA hS hl)
theorem r_lushr {x z : Int64} {y : Int32} (d : decode cc pc = .ok (.lushr, 1)) (hz : (x.toUInt64 >>> (y.toInt64.toUInt64 &&& Int64.toUInt64 63)).toInt64 = z) (K : G X own cc R N k n (pc + 1) L (.long z :: S) h) : G X own cc R N k n pc L (.int y :: .long x :: S) h := by
  obtain ⟨p, l, e, s, m, args, below, meth, c, D, dA, H0, B, b, Q⟩ := X
  intro hx hb hml ho hts hK hN H locs ls hA hS hl
  exact lv_lushr hx hb d hz (K hx hb hml ho hts hK hN H locs ls hA hS hl)
theorem r_lshl {x z : Int64} {y : Int32} (d : decode cc pc = .ok (.lshl, 1)) (hz : x <<< (y.toInt64 &&& 63) = z) (K : G X own cc R N k n (pc + 1) L (.long z :: S) h) : G X own cc R N k n pc L (.int y :: .long x :: S) h := by
  obtain ⟨p, l, e, s, m, args, below, meth, c, D, dA, H0, B, b, Q⟩ := X
  intro hx hb hml ho hts hK hN H locs ls hA hS hl
  exact lv_lshl hx hb d hz (K hx hb hml ho hts hK hN H locs ls hA hS hl)
theorem r_lshr {x z : Int64} {y : Int32} (d : decode cc pc = .ok (.lshr, 1)) (hz : x >>> (y.toInt64 &&& 63) = z) (K : G X own cc R N k n (pc + 1) L (.long z :: S) h) : G X own cc R N k n pc L (.int y :: .long x :: S) h := by
  obtain ⟨p, l, e, s, m, args, below, meth, c, D, dA, H0, B, b, Q⟩ := X
  intro hx hb hml ho hts hK hN H locs ls hA hS hl
  exact lv_lshr hx hb d hz (K hx hb hml ho hts hK hN H locs ls hA hS hl)
theorem r_dup {v : Value} (d : decode cc pc = .ok (.dup, 1)) (hv : v.category = 1) (K : G X own cc R N k n (pc + 1) L (v :: v :: S) h) : G X own cc R N k n pc L (v :: S) h := by
  obtain ⟨p, l, e, s, m, args, below, meth, c, D, dA, H0, B, b, Q⟩ := X
  intro hx hb hml ho hts hK hN H locs ls hA hS hl
  exact lv_dup hx hb d ((cv_cat B b v).trans hv) (K hx hb hml ho hts hK hN H locs ls hA hS hl)
theorem r_pop {v : Value} (d : decode cc pc = .ok (.pop, 1)) (hv : v.category = 1) (K : G X own cc R N k n (pc + 1) L (S) h) : G X own cc R N k n pc L (v :: S) h := by
  obtain ⟨p, l, e, s, m, args, below, meth, c, D, dA, H0, B, b, Q⟩ := X
  intro hx hb hml ho hts hK hN H locs ls hA hS hl
  exact lv_pop hx hb d ((cv_cat B b v).trans hv) (K hx hb hml ho hts hK hN H locs ls hA hS hl)
theorem r_dup2 {v w : Value} (d : decode cc pc = .ok (.dup2, 1)) (hv : v.category = 1) (hw : w.category = 1) (K : G X own cc R N k n (pc + 1) L (v :: w :: v :: w :: S) h) : G X own cc R N k n pc L (v :: w :: S) h := by
  obtain ⟨p, l, e, s, m, args, below, meth, c, D, dA, H0, B, b, Q⟩ := X
  intro hx hb hml ho hts hK hN H locs ls hA hS hl
  exact lv_dup2_11 hx hb d ((cv_cat B b v).trans hv) ((cv_cat B b w).trans hw) (K hx hb hml ho hts hK hN H locs ls hA hS hl)
theorem r_goto {off : Int} (tgt : Nat) (d : decode cc pc = .ok (.goto off, 3)) (ht : (pc : Int) + off = (tgt : Int)) (K : G X own cc R N k n tgt L S h) : G X own cc R N k n pc L S h := by
  obtain ⟨p, l, e, s, m, args, below, meth, c, D, dA, H0, B, b, Q⟩ := X
  intro hx hb hml ho hts hK hN H locs ls hA hS hl
  exact lv_goto hx hb d ht (K hx hb hml ho hts hK hN H locs ls hA hS hl)
theorem r_icmp_eq {x y off : Int} (tgt : Nat) (d : decode cc pc = .ok (.if_icmp .eq off, 3)) (ht : (pc : Int) + off = (tgt : Int)) (hx1 : rI x) (hy1 : rI y) (K1 : x = y → G X own cc R N k n tgt L S h) (K2 : ¬ (x = y) → G X own cc R N k n (pc + 3) L S h) : G X own cc R N k n pc L (.int (iZ y) :: .int (iZ x) :: S) h := by
  obtain ⟨p, l, e, s, m, args, below, meth, c, D, dA, H0, B, b, Q⟩ := X
  intro hx hb hml ho hts hK hN H locs ls hA hS hl
  have e := iZ_eq hx1 hy1
  exact lv_icmp_eq hx hb d ht (fun q => K1 (e.mp q) hx hb hml ho hts hK hN H locs ls hA hS hl) (fun q9 => K2 (fun z => q9 (e.mpr z)) hx hb hml ho hts hK hN H locs ls hA hS hl)
theorem r_if_eq {x off : Int} (tgt : Nat) (d : decode cc pc = .ok (.ifCond .eq off, 3)) (ht : (pc : Int) + off = (tgt : Int)) (hx1 : rI x) (K1 : x = 0 → G X own cc R N k n tgt L S h) (K2 : ¬ (x = 0) → G X own cc R N k n (pc + 3) L S h) : G X own cc R N k n pc L (.int (iZ x) :: S) h := by
  obtain ⟨p, l, e, s, m, args, below, meth, c, D, dA, H0, B, b, Q⟩ := X
  intro hx hb hml ho hts hK hN H locs ls hA hS hl
  have e := iZ_eq hx1 rI_0
  exact lv_if_eq hx hb d ht (fun q => K1 (e.mp q) hx hb hml ho hts hK hN H locs ls hA hS hl) (fun q9 => K2 (fun z => q9 (e.mpr z)) hx hb hml ho hts hK hN H locs ls hA hS hl)
theorem r_lcmp_eq {x y off : Int} (tgt : Nat) (d1 : decode cc pc = .ok (.lcmp, 1)) (d : decode cc (pc + 1) = .ok (.ifCond .eq off, 3)) (ht : ((pc + 1 : Nat) : Int) + off = (tgt : Int)) (hx1 : rL x) (hy1 : rL y) (K1 : x = y → G X own cc R N k n tgt L S h) (K2 : ¬ (x = y) → G X own cc R N k n (pc + 4) L S h) : G X own cc R N k n pc L (.long (lZ y) :: .long (lZ x) :: S) h := by
  obtain ⟨p, l, e, s, m, args, below, meth, c, D, dA, H0, B, b, Q⟩ := X
  intro hx hb hml ho hts hK hN H locs ls hA hS hl
  have e : (lg_cmp (lZ x) (lZ y) = 0) ↔ (x = y) := (lcmp_eq (lZ x) (lZ y)).trans (lZ_eq hx1 hy1)
  refine W.lcmp hx hb d1 ?_
  exact lv_if_eq hx hb d ht (fun q => K1 (e.mp q) hx hb hml ho hts hK hN H locs ls hA hS hl) (fun q9 => K2 (fun z => q9 (e.mpr z)) hx hb hml ho hts hK hN H locs ls hA hS hl)
theorem r_icmp_ne {x y off : Int} (tgt : Nat) (d : decode cc pc = .ok (.if_icmp .ne off, 3)) (ht : (pc : Int) + off = (tgt : Int)) (hx1 : rI x) (hy1 : rI y) (K1 : ¬ x = y → G X own cc R N k n tgt L S h) (K2 : x = y → G X own cc R N k n (pc + 3) L S h) : G X own cc R N k n pc L (.int (iZ y) :: .int (iZ x) :: S) h := by
  obtain ⟨p, l, e, s, m, args, below, meth, c, D, dA, H0, B, b, Q⟩ := X
  intro hx hb hml ho hts hK hN H locs ls hA hS hl
  have e := not_congr (iZ_eq hx1 hy1)
  exact lv_icmp_ne hx hb d ht (fun q => K1 (e.mp q) hx hb hml ho hts hK hN H locs ls hA hS hl) (fun q9 => K2 (Decidable.of_not_not (fun z => e.mpr z q9)) hx hb hml ho hts hK hN H locs ls hA hS hl)
theorem r_if_ne {x off : Int} (tgt : Nat) (d : decode cc pc = .ok (.ifCond .ne off, 3)) (ht : (pc : Int) + off = (tgt : Int)) (hx1 : rI x) (K1 : ¬ x = 0 → G X own cc R N k n tgt L S h) (K2 : x = 0 → G X own cc R N k n (pc + 3) L S h) : G X own cc R N k n pc L (.int (iZ x) :: S) h := by
  obtain ⟨p, l, e, s, m, args, below, meth, c, D, dA, H0, B, b, Q⟩ := X
  intro hx hb hml ho hts hK hN H locs ls hA hS hl
  have e := not_congr (iZ_eq hx1 rI_0)
  exact lv_if_ne hx hb d ht (fun q => K1 (e.mp q) hx hb hml ho hts hK hN H locs ls hA hS hl) (fun q9 => K2 (Decidable.of_not_not (fun z => e.mpr z q9)) hx hb hml ho hts hK hN H locs ls hA hS hl)
theorem r_lcmp_ne {x y off : Int} (tgt : Nat) (d1 : decode cc pc = .ok (.lcmp, 1)) (d : decode cc (pc + 1) = .ok (.ifCond .ne off, 3)) (ht : ((pc + 1 : Nat) : Int) + off = (tgt : Int)) (hx1 : rL x) (hy1 : rL y) (K1 : ¬ x = y → G X own cc R N k n tgt L S h) (K2 : x = y → G X own cc R N k n (pc + 4) L S h) : G X own cc R N k n pc L (.long (lZ y) :: .long (lZ x) :: S) h := by
  obtain ⟨p, l, e, s, m, args, below, meth, c, D, dA, H0, B, b, Q⟩ := X
  intro hx hb hml ho hts hK hN H locs ls hA hS hl
  have e : (¬ lg_cmp (lZ x) (lZ y) = 0) ↔ (¬ x = y) := (lcmp_ne (lZ x) (lZ y)).trans (not_congr (lZ_eq hx1 hy1))
  refine W.lcmp hx hb d1 ?_
  exact lv_if_ne hx hb d ht (fun q => K1 (e.mp q) hx hb hml ho hts hK hN H locs ls hA hS hl) (fun q9 => K2 (Decidable.of_not_not (fun z => e.mpr z q9)) hx hb hml ho hts hK hN H locs ls hA hS hl)
theorem r_icmp_lt {x y off : Int} (tgt : Nat) (d : decode cc pc = .ok (.if_icmp .lt off, 3)) (ht : (pc : Int) + off = (tgt : Int)) (hx1 : rI x) (hy1 : rI y) (K1 : x < y → G X own cc R N k n tgt L S h) (K2 : ¬ (x < y) → G X own cc R N k n (pc + 3) L S h) : G X own cc R N k n pc L (.int (iZ y) :: .int (iZ x) :: S) h := by
  obtain ⟨p, l, e, s, m, args, below, meth, c, D, dA, H0, B, b, Q⟩ := X
  intro hx hb hml ho hts hK hN H locs ls hA hS hl
  have e := iZ_lt hx1 hy1
  exact lv_icmp_lt hx hb d ht (fun q => K1 (e.mp q) hx hb hml ho hts hK hN H locs ls hA hS hl) (fun q9 => K2 (fun z => q9 (e.mpr z)) hx hb hml ho hts hK hN H locs ls hA hS hl)
theorem r_if_lt {x off : Int} (tgt : Nat) (d : decode cc pc = .ok (.ifCond .lt off, 3)) (ht : (pc : Int) + off = (tgt : Int)) (hx1 : rI x) (K1 : x < 0 → G X own cc R N k n tgt L S h) (K2 : ¬ (x < 0) → G X own cc R N k n (pc + 3) L S h) : G X own cc R N k n pc L (.int (iZ x) :: S) h := by
  obtain ⟨p, l, e, s, m, args, below, meth, c, D, dA, H0, B, b, Q⟩ := X
  intro hx hb hml ho hts hK hN H locs ls hA hS hl
  have e := iZ_lt hx1 rI_0
  exact lv_if_lt hx hb d ht (fun q => K1 (e.mp q) hx hb hml ho hts hK hN H locs ls hA hS hl) (fun q9 => K2 (fun z => q9 (e.mpr z)) hx hb hml ho hts hK hN H locs ls hA hS hl)
theorem r_lcmp_lt {x y off : Int} (tgt : Nat) (d1 : decode cc pc = .ok (.lcmp, 1)) (d : decode cc (pc + 1) = .ok (.ifCond .lt off, 3)) (ht : ((pc + 1 : Nat) : Int) + off = (tgt : Int)) (hx1 : rL x) (hy1 : rL y) (K1 : x < y → G X own cc R N k n tgt L S h) (K2 : ¬ (x < y) → G X own cc R N k n (pc + 4) L S h) : G X own cc R N k n pc L (.long (lZ y) :: .long (lZ x) :: S) h := by
  obtain ⟨p, l, e, s, m, args, below, meth, c, D, dA, H0, B, b, Q⟩ := X
  intro hx hb hml ho hts hK hN H locs ls hA hS hl
  have e : (lg_cmp (lZ x) (lZ y) < 0) ↔ (x < y) := (lcmp_lt (lZ x) (lZ y)).trans (lZ_lt hx1 hy1)
  refine W.lcmp hx hb d1 ?_
  exact lv_if_lt hx hb d ht (fun q => K1 (e.mp q) hx hb hml ho hts hK hN H locs ls hA hS hl) (fun q9 => K2 (fun z => q9 (e.mpr z)) hx hb hml ho hts hK hN H locs ls hA hS hl)
theorem r_icmp_ge {x y off : Int} (tgt : Nat) (d : decode cc pc = .ok (.if_icmp .ge off, 3)) (ht : (pc : Int) + off = (tgt : Int)) (hx1 : rI x) (hy1 : rI y) (K1 : y ≤ x → G X own cc R N k n tgt L S h) (K2 : ¬ (y ≤ x) → G X own cc R N k n (pc + 3) L S h) : G X own cc R N k n pc L (.int (iZ y) :: .int (iZ x) :: S) h := by
  obtain ⟨p, l, e, s, m, args, below, meth, c, D, dA, H0, B, b, Q⟩ := X
  intro hx hb hml ho hts hK hN H locs ls hA hS hl
  have e := iZ_le hy1 hx1
  exact lv_icmp_ge hx hb d ht (fun q => K1 (e.mp q) hx hb hml ho hts hK hN H locs ls hA hS hl) (fun q9 => K2 (fun z => q9 (e.mpr z)) hx hb hml ho hts hK hN H locs ls hA hS hl)
theorem r_if_ge {x off : Int} (tgt : Nat) (d : decode cc pc = .ok (.ifCond .ge off, 3)) (ht : (pc : Int) + off = (tgt : Int)) (hx1 : rI x) (K1 : 0 ≤ x → G X own cc R N k n tgt L S h) (K2 : ¬ (0 ≤ x) → G X own cc R N k n (pc + 3) L S h) : G X own cc R N k n pc L (.int (iZ x) :: S) h := by
  obtain ⟨p, l, e, s, m, args, below, meth, c, D, dA, H0, B, b, Q⟩ := X
  intro hx hb hml ho hts hK hN H locs ls hA hS hl
  have e := iZ_le rI_0 hx1
  exact lv_if_ge hx hb d ht (fun q => K1 (e.mp q) hx hb hml ho hts hK hN H locs ls hA hS hl) (fun q9 => K2 (fun z => q9 (e.mpr z)) hx hb hml ho hts hK hN H locs ls hA hS hl)
theorem r_lcmp_ge {x y off : Int} (tgt : Nat) (d1 : decode cc pc = .ok (.lcmp, 1)) (d : decode cc (pc + 1) = .ok (.ifCond .ge off, 3)) (ht : ((pc + 1 : Nat) : Int) + off = (tgt : Int)) (hx1 : rL x) (hy1 : rL y) (K1 : y ≤ x → G X own cc R N k n tgt L S h) (K2 : ¬ (y ≤ x) → G X own cc R N k n (pc + 4) L S h) : G X own cc R N k n pc L (.long (lZ y) :: .long (lZ x) :: S) h := by
  obtain ⟨p, l, e, s, m, args, below, meth, c, D, dA, H0, B, b, Q⟩ := X
  intro hx hb hml ho hts hK hN H locs ls hA hS hl
  have e : (0 ≤ lg_cmp (lZ x) (lZ y)) ↔ (y ≤ x) := (lcmp_ge (lZ x) (lZ y)).trans (lZ_le hy1 hx1)
  refine W.lcmp hx hb d1 ?_
  exact lv_if_ge hx hb d ht (fun q => K1 (e.mp q) hx hb hml ho hts hK hN H locs ls hA hS hl) (fun q9 => K2 (fun z => q9 (e.mpr z)) hx hb hml ho hts hK hN H locs ls hA hS hl)
theorem r_icmp_gt {x y off : Int} (tgt : Nat) (d : decode cc pc = .ok (.if_icmp .gt off, 3)) (ht : (pc : Int) + off = (tgt : Int)) (hx1 : rI x) (hy1 : rI y) (K1 : y < x → G X own cc R N k n tgt L S h) (K2 : ¬ (y < x) → G X own cc R N k n (pc + 3) L S h) : G X own cc R N k n pc L (.int (iZ y) :: .int (iZ x) :: S) h := by
  obtain ⟨p, l, e, s, m, args, below, meth, c, D, dA, H0, B, b, Q⟩ := X
  intro hx hb hml ho hts hK hN H locs ls hA hS hl
  have e := iZ_lt hy1 hx1
  exact lv_icmp_gt hx hb d ht (fun q => K1 (e.mp q) hx hb hml ho hts hK hN H locs ls hA hS hl) (fun q9 => K2 (fun z => q9 (e.mpr z)) hx hb hml ho hts hK hN H locs ls hA hS hl)
theorem r_if_gt {x off : Int} (tgt : Nat) (d : decode cc pc = .ok (.ifCond .gt off, 3)) (ht : (pc : Int) + off = (tgt : Int)) (hx1 : rI x) (K1 : 0 < x → G X own cc R N k n tgt L S h) (K2 : ¬ (0 < x) → G X own cc R N k n (pc + 3) L S h) : G X own cc R N k n pc L (.int (iZ x) :: S) h := by
  obtain ⟨p, l, e, s, m, args, below, meth, c, D, dA, H0, B, b, Q⟩ := X
  intro hx hb hml ho hts hK hN H locs ls hA hS hl
  have e := iZ_lt rI_0 hx1
  exact lv_if_gt hx hb d ht (fun q => K1 (e.mp q) hx hb hml ho hts hK hN H locs ls hA hS hl) (fun q9 => K2 (fun z => q9 (e.mpr z)) hx hb hml ho hts hK hN H locs ls hA hS hl)
theorem r_lcmp_gt {x y off : Int} (tgt : Nat) (d1 : decode cc pc = .ok (.lcmp, 1)) (d : decode cc (pc + 1) = .ok (.ifCond .gt off, 3)) (ht : ((pc + 1 : Nat) : Int) + off = (tgt : Int)) (hx1 : rL x) (hy1 : rL y) (K1 : y < x → G X own cc R N k n tgt L S h) (K2 : ¬ (y < x) → G X own cc R N k n (pc + 4) L S h) : G X own cc R N k n pc L (.long (lZ y) :: .long (lZ x) :: S) h := by
  obtain ⟨p, l, e, s, m, args, below, meth, c, D, dA, H0, B, b, Q⟩ := X
  intro hx hb hml ho hts hK hN H locs ls hA hS hl
  have e : (0 < lg_cmp (lZ x) (lZ y)) ↔ (y < x) := (lcmp_gt (lZ x) (lZ y)).trans (lZ_lt hy1 hx1)
  refine W.lcmp hx hb d1 ?_
  exact lv_if_gt hx hb d ht (fun q => K1 (e.mp q) hx hb hml ho hts hK hN H locs ls hA hS hl) (fun q9 => K2 (fun z => q9 (e.mpr z)) hx hb hml ho hts hK hN H locs ls hA hS hl)
theorem r_icmp_le {x y off : Int} (tgt : Nat) (d : decode cc pc = .ok (.if_icmp .le off, 3)) (ht : (pc : Int) + off = (tgt : Int)) (hx1 : rI x) (hy1 : rI y) (K1 : x ≤ y → G X own cc R N k n tgt L S h) (K2 : ¬ (x ≤ y) → G X own cc R N k n (pc + 3) L S h) : G X own cc R N k n pc L (.int (iZ y) :: .int (iZ x) :: S) h := by
  obtain ⟨p, l, e, s, m, args, below, meth, c, D, dA, H0, B, b, Q⟩ := X
  intro hx hb hml ho hts hK hN H locs ls hA hS hl
  have e := iZ_le hx1 hy1
  exact lv_icmp_le hx hb d ht (fun q => K1 (e.mp q) hx hb hml ho hts hK hN H locs ls hA hS hl) (fun q9 => K2 (fun z => q9 (e.mpr z)) hx hb hml ho hts hK hN H locs ls hA hS hl)
theorem r_if_le {x off : Int} (tgt : Nat) (d : decode cc pc = .ok (.ifCond .le off, 3)) (ht : (pc : Int) + off = (tgt : Int)) (hx1 : rI x) (K1 : x ≤ 0 → G X own cc R N k n tgt L S h) (K2 : ¬ (x ≤ 0) → G X own cc R N k n (pc + 3) L S h) : G X own cc R N k n pc L (.int (iZ x) :: S) h := by
  obtain ⟨p, l, e, s, m, args, below, meth, c, D, dA, H0, B, b, Q⟩ := X
  intro hx hb hml ho hts hK hN H locs ls hA hS hl
  have e := iZ_le hx1 rI_0
  exact lv_if_le hx hb d ht (fun q => K1 (e.mp q) hx hb hml ho hts hK hN H locs ls hA hS hl) (fun q9 => K2 (fun z => q9 (e.mpr z)) hx hb hml ho hts hK hN H locs ls hA hS hl)
theorem r_lcmp_le {x y off : Int} (tgt : Nat) (d1 : decode cc pc = .ok (.lcmp, 1)) (d : decode cc (pc + 1) = .ok (.ifCond .le off, 3)) (ht : ((pc + 1 : Nat) : Int) + off = (tgt : Int)) (hx1 : rL x) (hy1 : rL y) (K1 : x ≤ y → G X own cc R N k n tgt L S h) (K2 : ¬ (x ≤ y) → G X own cc R N k n (pc + 4) L S h) : G X own cc R N k n pc L (.long (lZ y) :: .long (lZ x) :: S) h := by
  obtain ⟨p, l, e, s, m, args, below, meth, c, D, dA, H0, B, b, Q⟩ := X
  intro hx hb hml ho hts hK hN H locs ls hA hS hl
  have e : (lg_cmp (lZ x) (lZ y) ≤ 0) ↔ (x ≤ y) := (lcmp_le (lZ x) (lZ y)).trans (lZ_le hx1 hy1)
  refine W.lcmp hx hb d1 ?_
  exact lv_if_le hx hb d ht (fun q => K1 (e.mp q) hx hb hml ho hts hK hN H locs ls hA hS hl) (fun q9 => K2 (fun z => q9 (e.mpr z)) hx hb hml ho hts hK hN H locs ls hA hS hl)
theorem r_ldc {z : Int} {idx : Nat} (d : decode cc pc = .ok (.ldc idx, 2)) (w : Cond.constant own idx (iZ z) ∈ TS) (K : G X own cc R N k n (pc + 2) L (.int (iZ z) :: S) h) : G X own cc R N k n pc L (S) h := by
  obtain ⟨p, l, e, s, m, args, below, meth, c, D, dA, H0, B, b, Q⟩ := X
  intro hx hb hml ho hts hK hN H locs ls hA hS hl
  exact lv_ldc hx hb ho (hts _ w) d (K hx hb hml ho hts hK hN H locs ls hA hS hl)
theorem r_ldc2 {z : Int} {idx : Nat} (d : decode cc pc = .ok (.ldc2_w idx, 3)) (w : Cond.constantLong own idx (lZ z) ∈ TS) (K : G X own cc R N k n (pc + 3) L (.long (lZ z) :: S) h) : G X own cc R N k n pc L (S) h := by
  obtain ⟨p, l, e, s, m, args, below, meth, c, D, dA, H0, B, b, Q⟩ := X
  intro hx hb hml ho hts hK hN H locs ls hA hS hl
  exact lv_ldc2 hx hb ho (hts _ w) d (K hx hb hml ho hts hK hN H locs ls hA hS hl)
theorem r_tabOut {df a c2 x : Int} {offs : Array Int} {len : Nat} (tgt : Nat) (d : decode cc pc = .ok (.tableswitch df a c2 offs, len)) (hx1 : rI x) (hv : x < a ∨ c2 < x) (ht : (pc : Int) + df = (tgt : Int)) (K : G X own cc R N k n tgt L S h) : G X own cc R N k n pc L (.int (iZ x) :: S) h := by
  obtain ⟨p, l, e, s, m, args, below, meth, c, D, dA, H0, B, b, Q⟩ := X
  intro hx hb hml ho hts hK hN H locs ls hA hS hl
  exact lv_tableOut hx hb d (by rw [iZ_t hx1]; exact hv) ht (K hx hb hml ho hts hK hN H locs ls hA hS hl)
theorem r_tabIn {df a c2 x off : Int} {offs : Array Int} {len : Nat} (tgt : Nat) (d : decode cc pc = .ok (.tableswitch df a c2 offs, len)) (hx1 : rI x) (h1 : a ≤ x) (h2 : x ≤ c2) (hof : offs[(x - a).toNat]? = some off) (ht : (pc : Int) + off = (tgt : Int)) (K : G X own cc R N k n tgt L S h) : G X own cc R N k n pc L (.int (iZ x) :: S) h := by
  obtain ⟨p, l, e, s, m, args, below, meth, c, D, dA, H0, B, b, Q⟩ := X
  intro hx hb hml ho hts hK hN H locs ls hA hS hl
  exact lv_tableIn hx hb d (by rw [iZ_t hx1]; omega) (by rw [iZ_t hx1]; omega) (by rw [iZ_t hx1]; exact hof) ht (K hx hb hml ho hts hK hN H locs ls hA hS hl)
theorem r_drop {L2 : List (Option Value)} (hL : lle L2 L) (K : G X own cc R N k n pc L2 S h) : G X own cc R N k n pc L S h := by
  obtain ⟨p, l, e, s, m, args, below, meth, c, D, dA, H0, B, b, Q⟩ := X
  intro hx hb hml ho hts hK hN H locs ls hA hS hl
  obtain ⟨h1, h2⟩ := lle_get hL
  exact K hx hb (hml.trans h1.symm) ho hts hK hN H locs ls hA hS (by rw [h1]; exact ⟨hl.1, hl.2.1, fun q hq => by obtain ⟨j, v, g1, g2⟩ := lo_mem.mp hq; exact hl.2.2 q (lo_mem.mpr ⟨j, v, h2 j v g1, g2⟩)⟩)
end RW1
