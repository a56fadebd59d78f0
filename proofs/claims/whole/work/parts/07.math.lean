/-! plain facts -/
theorem nlt {a b : Nat} (h : Nat.ble (a + 1) b = true) : a < b := Nat.le_of_ble_eq_true h
theorem nle {a b : Nat} (h : Nat.ble a b = true) : a ≤ b := Nat.le_of_ble_eq_true h
theorem hs_put {h h2 : Hp} {a b : Nat} {c d : ACell} (e : a ≠ b) (ih : hs h a c = h2) : hs (hs h b d) a c = hs h2 b d := by rw [hs_sw (Ne.symm e), ih]
theorem mulb {a b A B C : Int} (h1 : -A ≤ a) (h2 : a ≤ A) (h3 : -B ≤ b) (h4 : b ≤ B) (e : A * B = C) : -C ≤ a * b ∧ a * b ≤ C := by
  have ha : a.natAbs ≤ A.natAbs := by omega
  have hb : b.natAbs ≤ B.natAbs := by omega
  have hm := Nat.mul_le_mul ha hb
  rw [← Int.natAbs_mul, ← Int.natAbs_mul, e] at hm
  have hc : 0 ≤ C := by rw [← e]; exact Int.mul_nonneg (by omega) (by omega)
  omega
theorem tdivp {x y : Int} (h : 0 ≤ x) : x.tdiv y = x / y := Int.tdiv_eq_ediv_of_nonneg h
theorem tmodp {x y : Int} (h : 0 ≤ x) : x.tmod y = x % y := Int.tmod_eq_emod_of_nonneg h
def msk : List Bool → List (Option Value) → List (Option Value)
  | _, [] => []
  | [], L => L
  | true :: m, x :: L => x :: msk m L
  | false :: m, _ :: L => none :: msk m L
theorem lle_rf : ∀ L : List (Option Value), lle L L
  | [] => trivial
  | none :: L => lle_rf L
  | some _ :: L => ⟨rfl, lle_rf L⟩
theorem msk_lle : ∀ (m : List Bool) (L : List (Option Value)), lle (msk m L) L
  | [], [] => trivial
  | _ :: _, [] => trivial
  | [], x :: L => lle_rf (x :: L)
  | true :: m, none :: L => msk_lle m L
  | true :: m, some _ :: L => ⟨rfl, msk_lle m L⟩
  | false :: m, _ :: L => msk_lle m L
section RWP
variable {X : Ctx} {own : String} {cc : ByteArray} {R : Room} {N k n pc : Nat} {L : List (Option Value)} {S : List Value} {h : Hp}
theorem r_idivp {x y : Int} (d : decode cc pc = .ok (.idiv, 1)) (hx1 : rI x) (hy1 : rI y) (h0 : 0 ≤ x) (hy : 0 < y) (K : G X own cc R N k n (pc + 1) L (.int (iZ (x / y)) :: S) h) : G X own cc R N k n pc L (.int (iZ y) :: .int (iZ x) :: S) h := r_idiv d hx1 hy1 (by omega) (by omega) (by rw [tdivp h0]; exact K)
theorem r_iremp {x y : Int} (d : decode cc pc = .ok (.irem, 1)) (hx1 : rI x) (hy1 : rI y) (h0 : 0 ≤ x) (hy : 0 < y) (K : G X own cc R N k n (pc + 1) L (.int (iZ (x % y)) :: S) h) : G X own cc R N k n pc L (.int (iZ y) :: .int (iZ x) :: S) h := r_irem d hx1 hy1 (by omega) (by omega) (by rw [tmodp h0]; exact K)
theorem r_ldivp {x y : Int} (d : decode cc pc = .ok (.ldiv, 1)) (hx1 : rL x) (hy1 : rL y) (h0 : 0 ≤ x) (hy : 0 < y) (K : G X own cc R N k n (pc + 1) L (.long (lZ (x / y)) :: S) h) : G X own cc R N k n pc L (.long (lZ y) :: .long (lZ x) :: S) h := r_ldiv d hx1 hy1 (by omega) (by omega) (by rw [tdivp h0]; exact K)
theorem r_lremp {x y : Int} (d : decode cc pc = .ok (.lrem, 1)) (hx1 : rL x) (hy1 : rL y) (h0 : 0 ≤ x) (hy : 0 < y) (K : G X own cc R N k n (pc + 1) L (.long (lZ (x % y)) :: S) h) : G X own cc R N k n pc L (.long (lZ y) :: .long (lZ x) :: S) h := r_lrem d hx1 hy1 (by omega) (by omega) (by rw [tmodp h0]; exact K)
theorem r_mask (m : List Bool) {L2 : List (Option Value)} (e : msk m L = L2) (K : G X own cc R N k n pc L2 S h) : G X own cc R N k n pc L S h := r_drop (e ▸ msk_lle m L) K
end RWP
/-- the sum of the first n -/
def sm (g : Nat → Int) : Nat → Int
  | 0 => 0
  | n + 1 => sm g n + g n
theorem sm_s (g : Nat → Int) (n : Nat) : sm g (n + 1) = sm g n + g n := rfl
theorem sm_cong {f g : Nat → Int} : ∀ {n : Nat}, (∀ j, j < n → f j = g j) → sm f n = sm g n
  | 0, _ => rfl
  | n + 1, h => by rw [sm_s, sm_s, sm_cong (fun j hj => h j (by omega)), h n (by omega)]
theorem sm_bd {g : Nat → Int} {B : Int} (hB : 0 ≤ B) : ∀ {n : Nat}, (∀ j, j < n → -B ≤ g j ∧ g j ≤ B) → -(n * B) ≤ sm g n ∧ sm g n ≤ n * B
  | 0, _ => by simp [sm]
  | n + 1, h => by
    have ih := sm_bd hB (n := n) (fun j hj => h j (by omega))
    have h1 := h n (by omega)
    rw [sm_s]
    have e : ((n + 1 : Nat) : Int) * B = n * B + B := by rw [Int.natCast_add, Int.add_mul]; simp
    rw [e]
    omega
theorem sm_add (f g : Nat → Int) : ∀ n, sm (fun j => f j + g j) n = sm f n + sm g n
  | 0 => rfl
  | n + 1 => by rw [sm_s, sm_s, sm_s, sm_add f g n]; omega
theorem sm_mul (c : Int) (g : Nat → Int) : ∀ n, sm (fun j => c * g j) n = c * sm g n
  | 0 => by simp [sm]
  | n + 1 => by rw [sm_s, sm_s, sm_mul c g n, Int.mul_add]
/-! rows of class Row: an object at r, its law at r + 1, its starts at r + 2 -/
def MOST : Int := 100000000000000000
def RowAt (h : Hp) (r k : Nat) (c s : Nat → Int) : Prop := h r = ob 7 [.int (iZ (k : Int)), .ref (r + 1), .ref (r + 2)] ∧ h (r + 1) = aL 7 c ∧ h (r + 2) = aL 6 s
/-- what a law carries on from the k numbers ahead of place n -/
def carry (c f : Nat → Int) (k n : Nat) : Int := sm (fun j => c (j + 1) * f (n - 1 - j)) k
theorem carry_split (c f : Nat → Int) (k n : Nat) : carry c f k n = sm (fun j => c (j + 1) * (f (n - 1 - j)).tdiv 1000000000) k * 1000000000 + sm (fun j => c (j + 1) * (f (n - 1 - j)).tmod 1000000000) k := by
  unfold carry
  rw [Int.mul_comm, ← sm_mul, ← sm_add]
  refine sm_cong (fun j _ => ?_)
  have := Int.tmod_add_mul_tdiv (f (n - 1 - j)) 1000000000
  calc c (j + 1) * f (n - 1 - j) = c (j + 1) * ((f (n - 1 - j)).tmod 1000000000 + 1000000000 * (f (n - 1 - j)).tdiv 1000000000) := by rw [this]
    _ = _ := by rw [Int.mul_add, Int.add_comm]; congr 1; rw [← Int.mul_assoc, Int.mul_comm (c (j + 1)), Int.mul_assoc]
theorem tdiv9 {x B : Int} (h1 : -(B * 1000000000) ≤ x) (h2 : x ≤ B * 1000000000) : -B ≤ x.tdiv 1000000000 ∧ x.tdiv 1000000000 ≤ B := by
  rcases Int.le_total 0 x with h | h
  · rw [tdivp h]; omega
  · have e : x.tdiv 1000000000 = -((-x) / 1000000000) := by rw [← tdivp (show (0 : Int) ≤ -x by omega), Int.neg_tdiv, Int.neg_neg]
    rw [e]; omega
theorem tmod9 (x : Int) : -1000000000 < x.tmod 1000000000 ∧ x.tmod 1000000000 < 1000000000 ∧ x.tdiv 1000000000 * 1000000000 + x.tmod 1000000000 = x := by
  have := Int.tmod_add_mul_tdiv x 1000000000
  have h2 := tmod_bounds (a := x) (M := 1000000000) (by decide)
  omega
/-! the row's numbers, however far -/
def aW (k : Nat) (c s : Nat → Int) : Nat → Nat → Int
  | 0, j => s j
  | n + 1, j => if j + 1 < k then aW k c s n (j + 1) else sm (fun t => c (t + 1) * aW k c s n (k - 1 - t)) k
def ex (k : Nat) (c s : Nat → Int) (n : Nat) : Int := aW k c s n 0
theorem aW_ex {k : Nat} {c s : Nat → Int} : ∀ (j n : Nat), j < k → aW k c s n j = ex k c s (n + j)
  | 0, n, _ => rfl
  | j + 1, n, h => by
    have e : aW k c s (n + 1) j = aW k c s n (j + 1) := by show (if j + 1 < k then _ else _) = _; rw [if_pos h]
    rw [← e, aW_ex j (n + 1) (by omega)]
    congr 1; omega
theorem ex_lt {k : Nat} {c s : Nat → Int} {n : Nat} (h : n < k) : ex k c s n = s n := by
  have := aW_ex (c := c) (s := s) n 0 h
  rw [Nat.zero_add] at this
  exact this.symm
theorem carry_cong {c c2 f g : Nat → Int} {k n : Nat} (hc : ∀ j, 1 ≤ j → j ≤ k → c j = c2 j) (hf : ∀ j, j < k → f (n - 1 - j) = g (n - 1 - j)) : carry c f k n = carry c2 g k n :=
  sm_cong (fun j hj => by rw [hc (j + 1) (by omega) (by omega), hf j hj])
theorem ex_ge {k : Nat} {c s : Nat → Int} {n : Nat} (h0 : 0 < k) (h : k ≤ n) : ex k c s n = carry c (ex k c s) k n := by
  have e1 := aW_ex (k := k) (c := c) (s := s) (k - 1) (n - k + 1) (by omega)
  have e2 : n - k + 1 + (k - 1) = n := by omega
  rw [e2] at e1
  rw [← e1]
  show (if k - 1 + 1 < k then _ else _) = _
  rw [if_neg (by omega)]
  refine sm_cong (fun t ht => ?_)
  rw [aW_ex (k - 1 - t) (n - k) (by omega)]
  congr 2; omega
theorem ex_cong {k : Nat} {c c2 s s2 : Nat → Int} (hc : ∀ j, 1 ≤ j → j ≤ k → c j = c2 j) (hs : ∀ j, j < k → s j = s2 j) (h0 : 0 < k) : ∀ n, ex k c s n = ex k c2 s2 n := by
  intro n
  induction n using Nat.strongRecOn with
  | _ n ih =>
    by_cases h : n < k
    · rw [ex_lt h, ex_lt h, hs n h]
    · rw [ex_ge h0 (by omega), ex_ge h0 (by omega)]
      exact carry_cong hc (fun j hj => ih _ (by omega))
def inM (x : Int) : Prop := -100000000000000000 ≤ x ∧ x ≤ 100000000000000000
/-- of e places, t are told: the first that is not exact ends it -/
def Told (k : Nat) (c s : Nat → Int) (e t : Nat) : Prop := t ≤ e ∧ (∀ j, j < t → inM (ex k c s j)) ∧ (t < e → ¬ inM (ex k c s t))
theorem Told.one {k : Nat} {c s : Nat → Int} {e t u : Nat} (h1 : Told k c s e t) (h2 : Told k c s e u) : t = u := by
  rcases Nat.lt_trichotomy t u with q | q | q
  · exact absurd (h2.2.1 t q) (h1.2.2 (by have := h2.1; omega))
  · exact q
  · exact absurd (h1.2.1 u q) (h2.2.2 (by have := h1.1; omega))
theorem Told.cong {k : Nat} {c c2 s s2 : Nat → Int} {e t : Nat} (hc : ∀ j, 1 ≤ j → j ≤ k → c j = c2 j) (hs : ∀ j, j < k → s j = s2 j) (h0 : 0 < k) (h : Told k c s e t) : Told k c2 s2 e t := by
  have e1 := ex_cong hc hs h0
  exact ⟨h.1, fun j hj => by rw [← e1]; exact h.2.1 j hj, fun q => by rw [← e1]; exact h.2.2 q⟩
theorem RowAt.hs {h : Hp} {r k q : Nat} {c s : Nat → Int} {x : ACell} (e0 : q ≠ r) (e1 : q ≠ r + 1) (e2 : q ≠ r + 2) (H : RowAt h r k c s) : RowAt (hs h q x) r k c s :=
  ⟨(hs_n (Ne.symm e0)).trans H.1, (hs_n (Ne.symm e1)).trans H.2.1, (hs_n (Ne.symm e2)).trans H.2.2⟩
theorem lxor_neg {x y : Int} (hx : rL x) (hy : rL y) (h : 0 < y) : (lZ x ^^^ lZ y).toInt < 0 ↔ x < 0 := by
  have m : ∀ z : Int64, (z.toInt < 0) ↔ z.toBitVec.msb = true := fun z => by
    rw [BitVec.msb_eq_toInt, decide_eq_true_iff]; exact Iff.rfl
  rw [m, Int64.toBitVec_xor, BitVec.msb_xor]
  have h1 := m (lZ x)
  have h2 := m (lZ y)
  rw [lZ_t hx] at h1
  rw [lZ_t hy] at h2
  have h3 : (lZ y).toBitVec.msb = false := by
    cases q : (lZ y).toBitVec.msb with
    | false => rfl
    | true => exact absurd (h2.mpr q) (by omega)
  rw [h3, h1]
  simp
theorem tmod_fix {x y : Int} (h : 0 < y) : x.tmod y = (if x < 0 ∧ x.tmod y ≠ 0 then x % y - y else x % y) := by
  rcases Int.lt_or_le x 0 with q | q
  · have e : x.tmod y = -((-x) % y) := by rw [← tmodp (show (0 : Int) ≤ -x by omega), Int.neg_tmod, Int.neg_neg]
    have h1 := Int.emod_nonneg (-x) (show y ≠ 0 by omega)
    have h2 := Int.emod_lt_of_pos (-x) h
    have h3 := Int.emod_nonneg x (show y ≠ 0 by omega)
    have h4 := Int.emod_lt_of_pos x h
    have hs : (x % y + (-x) % y) % y = 0 := by rw [← Int.add_emod]; simp [Int.add_right_neg]
    by_cases z : x.tmod y ≠ 0
    · rw [if_pos ⟨q, z⟩, e]
      rw [e] at z
      have : x % y + (-x) % y = y := by
        have h5 : x % y + (-x) % y < 2 * y := by omega
        have h6 : 0 < x % y + (-x) % y := by omega
        by_cases h7 : x % y + (-x) % y < y
        · rw [Int.emod_eq_of_lt (by omega) h7] at hs; omega
        · have : (x % y + (-x) % y - y) % y = 0 := by rw [Int.sub_emod_right]; exact hs
          rw [Int.emod_eq_of_lt (by omega) (by omega)] at this; omega
      omega
    · rw [if_neg (fun w => z w.2), e]
      have z : x.tmod y = 0 := Classical.not_not.mp z
      rw [e] at z
      have z2 : (-x) % y = 0 := by omega
      rw [z2, Int.add_zero, Int.emod_emod_of_dvd x (Int.dvd_refl y)] at hs
      omega
  · rw [if_neg (fun w => by omega), tmodp q]
theorem fmval {x y : Int} (hx : rL x) (hy : rL y) (h : 0 < y) : Jvm.Free.JP.Math_floorMod_JJ.val (lZ x) (lZ y) = lZ (x % y) := by
  have hx1 := hx.1
  have hx2 := hx.2
  have tf := tmod_fix (x := x) h
  have xn := lxor_neg hx hy h
  have rt : rL (x.tmod y) := by have := tmod_bounds (a := x) h; have := hy.2; exact ⟨by omega, by omega⟩
  unfold Jvm.Free.JP.Math_floorMod_JJ.val
  have er : lZ x - lZ x / lZ y * lZ y = lZ (x.tmod y) := by
    by_cases hm : -9223372036854775808 < x
    · exact lZ_rem hx hy hm
    · have ex0 : x = -9223372036854775808 := by omega
      by_cases h1 : y = 1
      · subst h1; subst ex0; decide
      · have e1 := Int64.toInt_div_of_ne_right (lZ x) (lZ y) (fun q => by
          have := congrArg Int64.toInt q
          rw [lZ_t hy] at this
          have h9 : (-1 : Int64).toInt = -1 := by decide
          omega)
        rw [lZ_t hx, lZ_t hy] at e1
        rw [← lZ_x (lZ x / lZ y), e1, lZ_mul, lZ_sub, tmod_mul]
  rw [er]
  have hneg : (lZ x ^^^ lZ y < 0) ↔ x < 0 := by
    rw [Int64.lt_iff_toInt_lt, Int64.toInt_zero]; exact xn
  have hz : (lZ (x.tmod y) = 0) ↔ x.tmod y = 0 := by rw [← lZ_0]; exact lZ_eq rt rL_0
  by_cases h1 : x < 0
  · rw [if_pos (hneg.mpr h1)]
    by_cases h2 : x.tmod y = 0
    · rw [if_pos (hz.mpr h2)]
      rw [if_neg (fun w => w.2 h2)] at tf
      rw [tf]
    · rw [if_neg (fun w => h2 (hz.mp w)), lZ_add]
      rw [if_pos ⟨h1, h2⟩] at tf
      congr 1; omega
  · rw [if_neg (fun w => h1 (hneg.mp w))]
    rw [if_neg (fun w => h1 w.1)] at tf
    rw [tf]
section RWF
variable {X : Ctx} {own : String} {cc : ByteArray} {R : Room} {N k n pc : Nat} {L : List (Option Value)} {S : List Value} {h : Hp}
theorem r_floorMod {x y : Int} {idx : Nat} (d : decode cc pc = .ok (.invokestatic idx, 3)) (hl0 : Cond.methodLink own idx yJ9_floorMod_f86c9 ∈ TS) (hst0 : Cond.static yJ9_floorMod_f86c9 ∈ TS) (hini : Cond.initialized RJ9 ∈ TS) (hc0 : Cond.code yJ9_floorMod_f86c9 cJ9_floorMod_f86c9 6 (some .long) ∈ TS) (hR : 1 ≤ R.frames ∧ 25 ≤ R.locals) (hW : (S.map fun v => v.category).sum ≤ 8) (hkn : k ≤ R.cells ∧ n ≤ R.slots) (hx1 : rL x) (hy1 : rL y) (hy0 : 0 < y) (K : G X own cc R N k n (pc + 3) L (.long (lZ (x % y)) :: S) h) : G X own cc R N k n pc L (.long (lZ y) :: .long (lZ x) :: S) h := by
  obtain ⟨p, l, e, s, m, args, below, meth, c, D, dA, H0, B, b, Qs⟩ := X
  intro hx hb hml ho hts hK hN H locs ls hA hS hl
  have hW2 : ((S.map (cv B b)).map fun v => v.category).sum ≤ 8 := by rw [List.map_map]; simpa [Function.comp_def, cv_cat] using hW
  have hbytes : cJ9_floorMod_f86c9 = Jvm.Free.JP.Math_floorMod_JJ.yB := by decide +kernel
  have hname : yJ9_floorMod_f86c9 = Jvm.Free.JP.Math_floorMod_JJ.yN := rfl
  have hcode := hts _ hc0
  have htab : Jvm.Free.JP.Math_floorMod_JJ.tab.before args s = true := by
    rw [hbytes, hname] at hcode
    show (Cond.and _ _).before args s = true
    rw [Cond.before_and, hcode, Bool.true_and]
    exact hts _ hini
  intro T hT X0
  obtain ⟨v, vm₁, ⟨U', l2, k2, s2⟩, hW₁, X', ⟨⟨q1, q2⟩, q3, q4, q5⟩, st⟩ := callS X0 hx (bytes := cJ9_floorMod_f86c9) (maxL := 6) (ret := some .long) ho (hts _ hl0) (hts _ hst0) (hts _ hini) hcode (by decide) (Jvm.Free.JP.Math_floorMod_JJ.pays (W := 8) (lZ x) (lZ y) htab hR.1 hR.2) (g := F0 m pc ls (.long (lZ y) :: .long (lZ x) :: S.map (cv B b))) rfl (hl.1.trans hml.symm) (argsL := [.long (lZ x), .long (lZ y)]) (rest := S.map (cv B b))
    (fun sig hs => by
      have h9 : (parseMethodDescriptor "(JJ)J").map (fun d => d.parameters.length) = some 2 := by decide +kernel
      rw [show yJ9_floorMod_f86c9.desc = "(JJ)J" from rfl] at hs
      rw [hs] at h9
      exact (Option.some.inj h9).symm) rfl (lv_room (m := m) (pc := pc) (ls := ls) (rest := (.long (lZ y) :: .long (lZ x) :: S).map (cv B b)) hW2) (by rw [hb]; exact d) (fun vm₁ hW₁ => ⟨hkn.1, hkn.2, rfl, lZ_ne0 hy1 (by omega)⟩)
  dsimp only [Pt.U, Pt.locs, Pt.cells, Pt.slots] at X' q1 q2 q3 q4 q5 st
  subst q3; subst q4; subst q5; subst q1
  rw [fmval hx1 hy1 hy0] at st
  have hU : U'.heap = H := q2.trans hT
  obtain ⟨t, a1, b1⟩ := K hx hb hml ho hts hK hN H _ ls hA ⟨hS.1, fun q hq => hS.2 q (by simpa using hq)⟩ hl U' hU X'
  exact ⟨t, st t a1, b1⟩
end RWF
