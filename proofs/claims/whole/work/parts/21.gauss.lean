/-! forty rows at q, and the elimination that both programs carry out -/
def mx (h : Hp) (q : Nat) (F : Nat → Nat → Int) : Hp := fun a => if q ≤ a ∧ a < q + 40 then aI 41 (F (a - q)) else h a
def uM (F : Nat → Nat → Int) (i : Nat) (f : Nat → Int) : Nat → Nat → Int := fun j => if j = i then f else F j
theorem uM_e {F : Nat → Nat → Int} {i : Nat} {f : Nat → Int} : uM F i f i = f := if_pos rfl
theorem uM_n {F : Nat → Nat → Int} {i j : Nat} {f : Nat → Int} (h : j ≠ i) : uM F i f j = F j := if_neg h
theorem uM_id {F : Nat → Nat → Int} {i : Nat} : uM F i (F i) = F := by
  funext j; unfold uM; by_cases z : j = i
  · rw [if_pos z, z]
  · rw [if_neg z]
theorem uM_uM {F : Nat → Nat → Int} {i : Nat} {f f2 : Nat → Int} : uM (uM F i f) i f2 = uM F i f2 := by
  funext j; unfold uM; by_cases z : j = i
  · rw [if_pos z, if_pos z]
  · rw [if_neg z, if_neg z, if_neg z]
theorem mx_in {h : Hp} {q i : Nat} {F : Nat → Nat → Int} (hi : i < 40) : mx h q F (q + i) = aI 41 (F i) := by
  unfold mx; rw [if_pos ⟨by omega, by omega⟩, Nat.add_sub_cancel_left]
theorem mx_out {h : Hp} {q a : Nat} {F : Nat → Nat → Int} (e : a < q ∨ q + 40 ≤ a) : mx h q F a = h a := if_neg (by omega)
theorem mx_id {h : Hp} {q : Nat} {F : Nat → Nat → Int} (H : ∀ i, i < 40 → h (q + i) = aI 41 (F i)) : mx h q F = h := by
  funext a; unfold mx
  by_cases z : q ≤ a ∧ a < q + 40
  · rw [if_pos z, ← H (a - q) (by omega)]; congr 1; omega
  · rw [if_neg z]
theorem mx_hs {h : Hp} {q i : Nat} {F : Nat → Nat → Int} {f : Nat → Int} (hi : i < 40) : hs (mx h q F) (q + i) (aI 41 f) = mx h q (uM F i f) := by
  funext a; unfold hs mx uM
  by_cases z : a = q + i
  · rw [if_pos z, if_pos ⟨by omega, by omega⟩, if_pos (by omega)]
  · rw [if_neg z]
    by_cases w : q ≤ a ∧ a < q + 40
    · rw [if_pos w, if_pos w, if_neg (by omega)]
    · rw [if_neg w, if_neg w]
theorem mx_hs2 {h : Hp} {q i : Nat} {F : Nat → Nat → Int} {f f2 : Nat → Int} (hi : i < 40) : hs (mx h q (uM F i f)) (q + i) (aI 41 f2) = mx h q (uM F i f2) := by rw [mx_hs hi, uM_uM]
theorem mx_sw {h : Hp} {q a : Nat} {F : Nat → Nat → Int} {c : ACell} (e : a < q ∨ q + 40 ≤ a) : mx (hs h a c) q F = hs (mx h q F) a c := by
  funext b; unfold mx
  by_cases z : b = a
  · rw [if_neg (by omega), z, hs_e, hs_e]
  · rw [hs_n z, hs_n z]
theorem mx_mx {h : Hp} {q : Nat} {F G : Nat → Nat → Int} : mx (mx h q F) q G = mx h q G := by
  funext b; unfold mx
  by_cases z : q ≤ b ∧ b < q + 40
  · rw [if_pos z, if_pos z]
  · rw [if_neg z, if_neg z, if_neg z]
def pR (q : Nat) (g : Nat → Nat) : Nat → Option Nat := fun i => some (q + g i)
abbrev Mat := Nat → Nat → Int
/-- the first line from i on whose column is not 0 -/
def fl (A : Mat) (col places : Nat) : Nat → Nat → Nat
  | 0, i => i
  | n + 1, i => if i < places ∧ A i col = 0 then fl A col places n (i + 1) else i
def LW (A : Mat) (col i places l : Nat) : Prop := i ≤ l ∧ l ≤ places ∧ (∀ j, i ≤ j → j < l → A j col = 0) ∧ (l < places → A l col ≠ 0)
theorem fl_LW {A : Mat} {col places : Nat} : ∀ (n i : Nat), places ≤ i + n → i ≤ places → LW A col i places (fl A col places n i)
  | 0, i, h, h2 => ⟨Nat.le_refl _, h2, fun j a b => absurd b (by show ¬ j < i; omega), fun w => by have : i < places := w; omega⟩
  | n + 1, i, h, h2 => by
    show LW A col i places (if i < places ∧ A i col = 0 then fl A col places n (i + 1) else i)
    by_cases z : i < places ∧ A i col = 0
    · rw [if_pos z]
      have ih := fl_LW (A := A) (col := col) (places := places) n (i + 1) (by omega) (by omega)
      refine ⟨by have := ih.1; omega, ih.2.1, fun j a b => ?_, ih.2.2.2⟩
      by_cases w : j = i
      · rw [w]; exact z.2
      · exact ih.2.2.1 j (by omega) b
    · rw [if_neg z]
      exact ⟨Nat.le_refl _, h2, fun j a b => by omega, fun w e => z ⟨w, e⟩⟩
theorem LW.one {A B : Mat} {col i places l l2 : Nat} (hAB : ∀ j, j < places → A j col = B j col) (h : LW A col i places l) (h2 : LW B col i places l2) : l = l2 := by
  obtain ⟨a1, a2, a3, a4⟩ := h
  obtain ⟨b1, b2, b3, b4⟩ := h2
  rcases Nat.lt_trichotomy l l2 with q | q | q
  · exact absurd (by rw [hAB l (by omega)]; exact b3 l a1 q) (a4 (by omega))
  · exact q
  · exact absurd (by rw [← hAB l2 (by omega)]; exact a3 l2 b1 q) (b4 (by omega))
def flW (A : Mat) (col i places : Nat) : Nat := fl A col places (places - i) i
theorem flW_LW {A : Mat} {col i places : Nat} (h : i ≤ places) : LW A col i places (flW A col i places) := fl_LW _ _ (by omega) h
def swp (A : Mat) (a b : Nat) : Mat := fun i => if i = a then A b else if i = b then A a else A i
def scl (A : Mat) (r col span : Nat) (t p : Int) : Mat := fun i c => if i = r ∧ col ≤ c ∧ c ≤ span then A i c * t % p else A i c
def clr (A : Mat) (r col span places : Nat) (p : Int) : Mat := fun i c => if i < places ∧ i ≠ r ∧ A i col ≠ 0 ∧ col ≤ c ∧ c ≤ span then (A i c + (p - A i col) * A r c) % p else A i c
noncomputable def ivf (p a : Int) : Int := Classical.epsilon (fun x => IsInv a p x)
theorem ivf_of {p a x : Int} (h : IsInv a p x) : ivf p a = x := (Classical.epsilon_spec (p := fun x => IsInv a p x) ⟨x, h⟩).one h
abbrev GS := Mat × Nat × (Nat → Nat)
noncomputable def gst (p : Int) (span places : Nat) (g : GS) (col : Nat) : GS :=
  if g.2.1 < places ∧ flW g.1 col g.2.1 places < places then
    (clr (scl (swp g.1 g.2.1 (flW g.1 col g.2.1 places)) g.2.1 col span (ivf p (g.1 (flW g.1 col g.2.1 places) col)) p) g.2.1 col span places p, g.2.1 + 1, fun i => if i = g.2.1 then col else g.2.2 i)
  else g
noncomputable def gss (p : Int) (span places : Nat) (A : Mat) : Nat → GS
  | 0 => (A, 0, fun _ => 0)
  | col + 1 => gst p span places (gss p span places A col) col
def mE (places span : Nat) (A B : Mat) : Prop := ∀ i, i < places → ∀ c, c ≤ span → A i c = B i c
theorem mE_swp {places span a b : Nat} {A B : Mat} (h : mE places span A B) (ha : a < places) (hb : b < places) : mE places span (swp A a b) (swp B a b) := by
  intro i hi c hc
  unfold swp
  by_cases z : i = a
  · rw [if_pos z, if_pos z]; exact h b hb c hc
  · rw [if_neg z, if_neg z]
    by_cases w : i = b
    · rw [if_pos w, if_pos w]; exact h a ha c hc
    · rw [if_neg w, if_neg w]; exact h i hi c hc
theorem mE_scl {places span r col : Nat} {t p : Int} {A B : Mat} (h : mE places span A B) : mE places span (scl A r col span t p) (scl B r col span t p) := by
  intro i hi c hc
  unfold scl
  rw [h i hi c hc]
theorem mE_clr {places span r col : Nat} {p : Int} {A B : Mat} (h : mE places span A B) (hr : r < places) (hcol : col ≤ span) : mE places span (clr A r col span places p) (clr B r col span places p) := by
  intro i hi c hc
  unfold clr
  rw [h i hi c hc, h i hi col hcol, h r hr c hc]
theorem mE.tr {places span : Nat} {A B C : Mat} (h : mE places span A B) (h2 : mE places span B C) : mE places span A C := fun i hi c hc => (h i hi c hc).trans (h2 i hi c hc)
theorem prm_n {p : Int} (hp : Prm p) : ∃ q : Nat, p = (q : Int) ∧ PrmN q := by
  have key : ∀ q : Fin 98, 2 ≤ q.1 → (∀ d : Fin 10, 2 ≤ d.1 → d.1 * d.1 ≤ q.1 → q.1 % d.1 ≠ 0) → ∀ d : Fin 98, q.1 % d.1 = 0 → d.1 = 1 ∨ d.1 = q.1 := by decide +kernel
  obtain ⟨h1, h2, h3⟩ := hp
  obtain ⟨q, e⟩ : ∃ q : Nat, p = (q : Int) := ⟨p.toNat, by omega⟩
  subst e
  refine ⟨q, rfl, by omega, fun d hd => ?_⟩
  have hle := Nat.le_of_dvd (by omega) hd
  refine key ⟨q, by omega⟩ (by show 2 ≤ q; omega) (fun d h5 h6 h7 => ?_) ⟨d, by omega⟩ (Nat.mod_eq_zero_of_dvd hd)
  have := h3 (d.1 : Int) (by omega) (by exact_mod_cast h6)
  exact this (by exact_mod_cast h7)
theorem prm_gcd {p a : Int} (hp : Prm p) (h0 : 0 < a) (h1 : a < p) : Int.gcd a p = 1 := by
  obtain ⟨q, e, hq⟩ := prm_n hp
  subst e
  rcases hq.2 (Int.gcd a q) (by have := Int.gcd_dvd_right (a := a) (b := (q : Int)); exact_mod_cast this) with z | z
  · exact z
  · have h := Int.gcd_dvd_left (a := a) (b := (q : Int))
    rw [z] at h
    have := Int.le_of_dvd h0 h
    omega
theorem prm_inv {p a : Int} (hp : Prm p) (h0 : 0 < a) (h1 : a < p) {x : Int} (h : IsInv a p x) : ivf p a = x := ivf_of h
theorem gss_s (p : Int) (span places : Nat) (A : Mat) (col : Nat) : gss p span places A (col + 1) = gst p span places (gss p span places A col) col := rfl
theorem gst_no {p : Int} {span places col : Nat} {g : GS} (h : ¬ (g.2.1 < places ∧ flW g.1 col g.2.1 places < places)) : gst p span places g col = g := if_neg h
theorem gst_yes {p : Int} {span places col : Nat} {g : GS} (h : g.2.1 < places ∧ flW g.1 col g.2.1 places < places) : gst p span places g col = (clr (scl (swp g.1 g.2.1 (flW g.1 col g.2.1 places)) g.2.1 col span (ivf p (g.1 (flW g.1 col g.2.1 places) col)) p) g.2.1 col span places p, g.2.1 + 1, fun i => if i = g.2.1 then col else g.2.2 i) := if_pos h
theorem gss_led {p : Int} {span places : Nat} {A : Mat} : ∀ col, (gss p span places A col).2.1 ≤ col ∧ (gss p span places A col).2.1 ≤ places
  | 0 => ⟨Nat.le_refl _, Nat.zero_le _⟩
  | col + 1 => by
    have ih := gss_led (p := p) (span := span) (places := places) (A := A) col
    rw [gss_s]
    by_cases z : (gss p span places A col).2.1 < places ∧ flW (gss p span places A col).1 col (gss p span places A col).2.1 places < places
    · rw [gst_yes z]; exact ⟨by show _ + 1 ≤ _; omega, by show _ + 1 ≤ _; omega⟩
    · rw [gst_no z]; omega
theorem gss_stop {p : Int} {span places : Nat} {A : Mat} {col : Nat} (h : places ≤ (gss p span places A col).2.1) : ∀ n, gss p span places A (col + n) = gss p span places A col
  | 0 => rfl
  | n + 1 => by
    show gst p span places (gss p span places A (col + n)) (col + n) = _
    rw [gss_stop h n, gst_no (fun w => by omega)]
theorem gss_ld {p : Int} {span places : Nat} {A : Mat} : ∀ col, (∀ r, r < (gss p span places A col).2.1 → (gss p span places A col).2.2 r < col) ∧ (∀ r r2, r < (gss p span places A col).2.1 → r2 < (gss p span places A col).2.1 → (gss p span places A col).2.2 r = (gss p span places A col).2.2 r2 → r = r2)
  | 0 => ⟨fun r h => absurd h (Nat.not_lt_zero r), fun r _ h => absurd h (Nat.not_lt_zero r)⟩
  | col + 1 => by
    have ih := gss_ld (p := p) (span := span) (places := places) (A := A) col
    rw [gss_s]
    by_cases z : (gss p span places A col).2.1 < places ∧ flW (gss p span places A col).1 col (gss p span places A col).2.1 places < places
    · rw [gst_yes z]
      refine ⟨fun r h => ?_, fun r r2 h h2 e => ?_⟩
      · show (if r = _ then col else _) < _
        by_cases w : r = (gss p span places A col).2.1
        · rw [if_pos w]; omega
        · rw [if_neg w]
          have := ih.1 r (by have h9 : r < (gss p span places A col).2.1 + 1 := h; omega)
          omega
      · have h9 : r < (gss p span places A col).2.1 + 1 := h
        have h8 : r2 < (gss p span places A col).2.1 + 1 := h2
        have e9 : (if r = (gss p span places A col).2.1 then col else (gss p span places A col).2.2 r) = (if r2 = (gss p span places A col).2.1 then col else (gss p span places A col).2.2 r2) := e
        by_cases w : r = (gss p span places A col).2.1
        · by_cases w2 : r2 = (gss p span places A col).2.1
          · omega
          · rw [if_pos w, if_neg w2] at e9
            have := ih.1 r2 (by omega)
            omega
        · by_cases w2 : r2 = (gss p span places A col).2.1
          · rw [if_neg w, if_pos w2] at e9
            have := ih.1 r (by omega)
            omega
          · rw [if_neg w, if_neg w2] at e9
            exact ih.2 r r2 (by omega) (by omega) e9
    · rw [gst_no z]
      exact ⟨fun r h => by have := ih.1 r h; omega, ih.2⟩
/-- two entries change their places -/
def swg (g : Nat → Nat) (a b : Nat) : Nat → Nat := fun i => if i = a then g b else if i = b then g a else g i
theorem swg_lt {g : Nat → Nat} {a b : Nat} (hg : ∀ i, i < 40 → g i < 40) (ha : a < 40) (hb : b < 40) : ∀ i, i < 40 → swg g a b i < 40 := by
  intro i hi
  unfold swg
  by_cases z : i = a
  · rw [if_pos z]; exact hg b hb
  · rw [if_neg z]
    by_cases w : i = b
    · rw [if_pos w]; exact hg a ha
    · rw [if_neg w]; exact hg i hi
theorem swg_in {g : Nat → Nat} {a b : Nat} (hgi : ∀ i j, i < 40 → j < 40 → g i = g j → i = j) (ha : a < 40) (hb : b < 40) : ∀ i j, i < 40 → j < 40 → swg g a b i = swg g a b j → i = j := by
  intro i j hi hj e
  unfold swg at e
  by_cases z : i = a <;> by_cases w : i = b <;> by_cases z2 : j = a <;> by_cases w2 : j = b <;> simp only [z, w, z2, w2, if_true, if_false, if_pos, if_neg] at e <;> first
    | omega
    | (split at e <;> first | omega | (have := hgi _ _ (by omega) (by omega) e; omega))
    | (have := hgi _ _ (by omega) (by omega) e; omega)
theorem swg_F {F : Nat → Nat → Int} {g : Nat → Nat} {a b : Nat} : (fun i c => F (swg g a b i) c) = swp (fun i c => F (g i) c) a b := by
  funext i c
  unfold swg swp
  by_cases z : i = a
  · rw [if_pos z, if_pos z]
  · rw [if_neg z, if_neg z]
    by_cases w : i = b
    · rw [if_pos w, if_pos w]
    · rw [if_neg w, if_neg w]
theorem swg_R {q a b : Nat} {g : Nat → Nat} : uR (uR (pR q g) a (some (q + g b))) b (some (q + g a)) = pR q (swg g a b) := by
  funext i
  unfold uR pR swg
  by_cases z : i = b
  · rw [if_pos z]
    by_cases w : i = a
    · rw [if_pos w, ← z, w]
    · rw [if_neg w, if_pos z]
  · rw [if_neg z]
    by_cases w : i = a
    · rw [if_pos w, if_pos w]
    · rw [if_neg w, if_neg w, if_neg z]
theorem range_clr {A : Mat} {r col span places : Nat} {p : Int} (hp : 0 < p) (h : ∀ i, i < places → ∀ c, c ≤ span → 0 ≤ A i c ∧ A i c < p) : ∀ i, i < places → ∀ c, c ≤ span → 0 ≤ clr A r col span places p i c ∧ clr A r col span places p i c < p := by
  intro i hi c hc
  unfold clr
  by_cases z : i < places ∧ i ≠ r ∧ A i col ≠ 0 ∧ col ≤ c ∧ c ≤ span
  · rw [if_pos z]; exact ⟨Int.emod_nonneg _ (by omega), Int.emod_lt_of_pos _ hp⟩
  · rw [if_neg z]; exact h i hi c hc
theorem range_scl {A : Mat} {r col span places : Nat} {t p : Int} (hp : 0 < p) (h : ∀ i, i < places → ∀ c, c ≤ span → 0 ≤ A i c ∧ A i c < p) : ∀ i, i < places → ∀ c, c ≤ span → 0 ≤ scl A r col span t p i c ∧ scl A r col span t p i c < p := by
  intro i hi c hc
  unfold scl
  by_cases z : i = r ∧ col ≤ c ∧ c ≤ span
  · rw [if_pos z]; exact ⟨Int.emod_nonneg _ (by omega), Int.emod_lt_of_pos _ hp⟩
  · rw [if_neg z]; exact h i hi c hc
theorem range_swp {A : Mat} {a b span places : Nat} {p : Int} (ha : a < places) (hb : b < places) (h : ∀ i, i < places → ∀ c, c ≤ span → 0 ≤ A i c ∧ A i c < p) : ∀ i, i < places → ∀ c, c ≤ span → 0 ≤ swp A a b i c ∧ swp A a b i c < p := by
  intro i hi c hc
  unfold swp
  by_cases z : i = a
  · rw [if_pos z]; exact h b hb c hc
  · rw [if_neg z]
    by_cases w : i = b
    · rw [if_pos w]; exact h a ha c hc
    · rw [if_neg w]; exact h i hi c hc
/-- the elimination for a span of sp over sz numbers -/
noncomputable def elim (p : Int) (vs : Nat → Int) (sz sp : Nat) : GS := gss p sp (sz - sp) (fun i c => vs (i + c)) sp
def SOLb (p : Int) (vs : Nat → Int) (sz sp : Nat) : Prop := ∀ r, (elim p vs sz sp).2.1 ≤ r → r < sz - sp → (elim p vs sz sp).1 r sp = 0
def LAWR (p : Int) (vs : Nat → Int) (sz sp : Nat) (law : Nat → Int) : Prop := ∀ t, 1 ≤ t → t ≤ sp → (∀ r, r < (elim p vs sz sp).2.1 → (elim p vs sz sp).2.2 r + t = sp → law t = (elim p vs sz sp).1 r sp) ∧ ((∀ r, r < (elim p vs sz sp).2.1 → (elim p vs sz sp).2.2 r + t ≠ sp) → law t = 0)
theorem LAWR.one {p : Int} {vs : Nat → Int} {sz sp : Nat} {l1 l2 : Nat → Int} (h1 : LAWR p vs sz sp l1) (h2 : LAWR p vs sz sp l2) : ∀ t, 1 ≤ t → t ≤ sp → l1 t = l2 t := by
  intro t a b
  by_cases z : ∀ r, r < (elim p vs sz sp).2.1 → (elim p vs sz sp).2.2 r + t ≠ sp
  · rw [(h1 t a b).2 z, (h2 t a b).2 z]
  · have ⟨r, hr⟩ := Classical.not_forall.mp z
    have ⟨hr1, hr2⟩ := Classical.not_imp.mp hr
    have hr3 := Classical.not_not.mp hr2
    rw [(h1 t a b).1 r hr1 hr3, (h2 t a b).1 r hr1 hr3]
def LEAST (p : Int) (vs : Nat → Int) (sz sp : Nat) : Prop := sp ≤ sz ∧ (∀ t, t < sp → ¬ SOLb p vs sz t) ∧ SOLb p vs sz sp
theorem LEAST.one {p : Int} {vs : Nat → Int} {sz a b : Nat} (h1 : LEAST p vs sz a) (h2 : LEAST p vs sz b) : a = b := by
  rcases Nat.lt_trichotomy a b with q | q | q
  · exact absurd h1.2.2 (h2.2.1 a q)
  · exact q
  · exact absurd h2.2.2 (h1.2.1 b q)
theorem SOLb_end {p : Int} {vs : Nat → Int} {sz : Nat} : SOLb p vs sz sz := fun r _ h => by omega
