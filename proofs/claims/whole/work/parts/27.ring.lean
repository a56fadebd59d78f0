/-! commutative rings: divisors, units, products of lists -/
def dvR {R : Type} [Lean.Grind.CommRing R] (a b : R) : Prop := ∃ c, b = a * c
def unR {R : Type} [Lean.Grind.CommRing R] (a : R) : Prop := ∃ c, a * c = 1
def prL {R : Type} [Lean.Grind.CommRing R] : List R → R
  | [] => 1
  | x :: l => x * prL l
theorem dvR.rf {R : Type} [Lean.Grind.CommRing R] {a : R} : dvR a a := ⟨1, by grind⟩
theorem dvR.tr {R : Type} [Lean.Grind.CommRing R] {a b c : R} (h : dvR a b) (h2 : dvR b c) : dvR a c := by
  obtain ⟨x, hx⟩ := h
  obtain ⟨y, hy⟩ := h2
  exact ⟨x * y, by grind⟩
theorem dvR.add {R : Type} [Lean.Grind.CommRing R] {a b c : R} (h : dvR a b) (h2 : dvR a c) : dvR a (b + c) := by
  obtain ⟨x, hx⟩ := h
  obtain ⟨y, hy⟩ := h2
  exact ⟨x + y, by grind⟩
theorem dvR.sub {R : Type} [Lean.Grind.CommRing R] {a b c : R} (h : dvR a b) (h2 : dvR a c) : dvR a (b - c) := by
  obtain ⟨x, hx⟩ := h
  obtain ⟨y, hy⟩ := h2
  exact ⟨x - y, by grind⟩
theorem dvR.mr {R : Type} [Lean.Grind.CommRing R] {a b : R} (h : dvR a b) (c : R) : dvR a (b * c) := by
  obtain ⟨x, hx⟩ := h
  exact ⟨x * c, by grind⟩
theorem dvR.ml {R : Type} [Lean.Grind.CommRing R] {a b : R} (h : dvR a b) (c : R) : dvR a (c * b) := by
  obtain ⟨x, hx⟩ := h
  exact ⟨x * c, by grind⟩
theorem dvR.zero {R : Type} [Lean.Grind.CommRing R] {a : R} : dvR a 0 := ⟨0, by grind⟩
theorem dvR.lf {R : Type} [Lean.Grind.CommRing R] {a b : R} : dvR a (a * b) := ⟨b, rfl⟩
theorem dvR.rg {R : Type} [Lean.Grind.CommRing R] {a b : R} : dvR b (a * b) := ⟨a, by grind⟩
theorem dvR.mm {R : Type} [Lean.Grind.CommRing R] {a b c d : R} (h : dvR a b) (h2 : dvR c d) : dvR (a * c) (b * d) := by
  obtain ⟨x, hx⟩ := h
  obtain ⟨y, hy⟩ := h2
  exact ⟨x * y, by grind⟩
theorem unR.dv {R : Type} [Lean.Grind.CommRing R] {a b : R} (h : unR a) : dvR a b := by
  obtain ⟨x, hx⟩ := h
  exact ⟨x * b, by grind⟩
theorem dvR.un {R : Type} [Lean.Grind.CommRing R] {a b : R} (h : dvR a b) (h2 : unR b) : unR a := by
  obtain ⟨x, hx⟩ := h
  obtain ⟨y, hy⟩ := h2
  exact ⟨x * y, by grind⟩
theorem unR.mul {R : Type} [Lean.Grind.CommRing R] {a b : R} (h : unR a) (h2 : unR b) : unR (a * b) := by
  obtain ⟨x, hx⟩ := h
  obtain ⟨y, hy⟩ := h2
  exact ⟨x * y, by grind⟩
theorem unR.one {R : Type} [Lean.Grind.CommRing R] : unR (1 : R) := ⟨1, by grind⟩
theorem unR.inv {R : Type} [Lean.Grind.CommRing R] {a : R} (h : unR a) : ∃ b, a * b = 1 ∧ unR b := by
  obtain ⟨x, hx⟩ := h
  exact ⟨x, hx, ⟨a, by grind⟩⟩
theorem dvR.cu {R : Type} [Lean.Grind.CommRing R] {a b u : R} (hu : unR u) (h : dvR a (u * b)) : dvR a b := by
  obtain ⟨x, hx⟩ := h
  obtain ⟨y, hy⟩ := hu
  exact ⟨x * y, by grind⟩
theorem prL_app {R : Type} [Lean.Grind.CommRing R] : ∀ (l m : List R), prL (l ++ m) = prL l * prL m
  | [], m => by show prL m = 1 * prL m; grind
  | x :: l, m => by
    have ih := prL_app l m
    show x * prL (l ++ m) = x * prL l * prL m
    grind
theorem prL_perm {R : Type} [Lean.Grind.CommRing R] {l m : List R} (h : l.Perm m) : prL l = prL m := by
  induction h with
  | nil => rfl
  | cons x _ ih => show x * _ = x * _; rw [ih]
  | swap x y l => show y * (x * prL l) = x * (y * prL l); grind
  | trans _ _ ih1 ih2 => exact ih1.trans ih2
theorem prL_mem {R : Type} [Lean.Grind.CommRing R] {x : R} : ∀ {l : List R}, x ∈ l → dvR x (prL l)
  | y :: l, h => by
    rcases List.mem_cons.mp h with e | e
    · subst e; exact dvR.lf
    · exact (prL_mem e).ml y
/-! a size: 0 of 0, 1 of units, as many as the order and 1 -/
def euR (R : Type) [Lean.Grind.CommRing R] (sz : R → Nat) : Prop := (∀ x : R, sz x = 0 ↔ x = 0) ∧ (∀ x y : R, x ≠ 0 → y ≠ 0 → sz (x * y) + 1 = sz x + sz y) ∧ (∀ x y : R, y ≠ 0 → ∃ q r, x = q * y + r ∧ sz r < sz y) ∧ sz (1 : R) = 1 ∧ ∀ x y : R, sz (x - y) ≤ max (sz x) (sz y)
def irR {R : Type} [Lean.Grind.CommRing R] (f : R) : Prop := f ≠ 0 ∧ ¬ unR f ∧ ∀ a b, f = a * b → unR a ∨ unR b
theorem euR.n0 {R : Type} [Lean.Grind.CommRing R] {sz : R → Nat} (E : euR R sz) {x : R} (h : x ≠ 0) : 1 ≤ sz x := by
  have : sz x ≠ 0 := fun q => h ((E.1 x).mp q)
  omega
theorem euR.dom {R : Type} [Lean.Grind.CommRing R] {sz : R → Nat} (E : euR R sz) {x y : R} (h : x * y = 0) : x = 0 ∨ y = 0 := by
  by_cases hx : x = 0
  · exact Or.inl hx
  · by_cases hy : y = 0
    · exact Or.inr hy
    · have h1 := E.2.1 x y hx hy
      have h2 := (E.1 (x * y)).mpr h
      have h3 := E.n0 hx
      have h4 := E.n0 hy
      omega
theorem euR.one0 {R : Type} [Lean.Grind.CommRing R] {sz : R → Nat} (E : euR R sz) : (1 : R) ≠ 0 := fun h => by
  have h1 := E.2.2.2.1
  have h2 := (E.1 (1 : R)).mpr h
  omega
theorem euR.mn0 {R : Type} [Lean.Grind.CommRing R] {sz : R → Nat} (E : euR R sz) {x y : R} (h : x * y ≠ 0) : x ≠ 0 ∧ y ≠ 0 := ⟨fun e => h (by rw [e]; grind), fun e => h (by rw [e]; grind)⟩
theorem euR.un1 {R : Type} [Lean.Grind.CommRing R] {sz : R → Nat} (E : euR R sz) {x : R} (h : unR x) : sz x = 1 := by
  obtain ⟨c, hc⟩ := h
  have h0 : x * c ≠ 0 := by rw [hc]; exact E.one0
  have h1 := E.mn0 h0
  have h2 := E.2.1 x c h1.1 h1.2
  rw [hc, E.2.2.2.1] at h2
  have h3 := E.n0 h1.1
  have h4 := E.n0 h1.2
  omega
theorem euR.un2 {R : Type} [Lean.Grind.CommRing R] {sz : R → Nat} (E : euR R sz) {x : R} (h : sz x = 1) : unR x := by
  have h0 : x ≠ 0 := fun e => by have := (E.1 x).mpr e; omega
  obtain ⟨q, r, h1, h2⟩ := E.2.2.1 1 x h0
  have h3 : r = 0 := (E.1 r).mp (by omega)
  exact ⟨q, by rw [h3] at h1; grind⟩
theorem euR.dvsz {R : Type} [Lean.Grind.CommRing R] {sz : R → Nat} (E : euR R sz) {a b : R} (h : dvR a b) (hb : b ≠ 0) : sz a ≤ sz b := by
  obtain ⟨c, rfl⟩ := h
  have h1 := E.mn0 hb
  have h2 := E.2.1 a c h1.1 h1.2
  have h4 := E.n0 h1.2
  omega
theorem euR.asc {R : Type} [Lean.Grind.CommRing R] {sz : R → Nat} (E : euR R sz) {a b : R} (h : dvR a b) (hb : b ≠ 0) (hs : sz b ≤ sz a) : ∃ u, unR u ∧ b = a * u := by
  obtain ⟨c, rfl⟩ := h
  have h1 := E.mn0 hb
  have h2 := E.2.1 a c h1.1 h1.2
  have h4 := E.n0 h1.2
  exact ⟨c, E.un2 (by omega), rfl⟩
theorem euR.bez {R : Type} [Lean.Grind.CommRing R] {sz : R → Nat} (E : euR R sz) : ∀ (n : Nat) (a b : R), sz b ≤ n → ∃ g u v, g = u * a + v * b ∧ dvR g a ∧ dvR g b := by
  intro n
  induction n with
  | zero => 
    intro a b h
    have hb : b = 0 := (E.1 b).mp (by omega)
    exact ⟨a, 1, 0, by grind, dvR.rf, by rw [hb]; exact dvR.zero⟩
  | succ n ih =>
    intro a b h
    by_cases hb : b = 0
    · exact ⟨a, 1, 0, by grind, dvR.rf, by rw [hb]; exact dvR.zero⟩
    · obtain ⟨q, r, h1, h2⟩ := E.2.2.1 a b hb
      obtain ⟨g, u, v, h3, h4, h5⟩ := ih b r (by omega)
      exact ⟨g, v, u - v * q, by grind, by rw [h1]; exact (h4.ml q).add h5, h4⟩
theorem euR.prime {R : Type} [Lean.Grind.CommRing R] {sz : R → Nat} (E : euR R sz) {f a b : R} (hf : irR f) (h : dvR f (a * b)) : dvR f a ∨ dvR f b := by
  obtain ⟨g, u, v, h1, ⟨c, h2⟩, ⟨e, h3⟩⟩ := E.bez _ f a (Nat.le_refl _)
  obtain ⟨k, hk⟩ := h
  rcases hf.2.2 g c h2 with ⟨w, hw⟩ | ⟨w, hw⟩
  · refine Or.inr ⟨w * (u * b + v * k), ?_⟩
    have h5 : b = w * (g * b) := by grind
    have h6 : g * b = f * (u * b + v * k) := by grind
    rw [h6] at h5
    grind
  · refine Or.inl ⟨w * e, ?_⟩
    have h5 : g = f * w := by grind
    grind
theorem irR.as {R : Type} [Lean.Grind.CommRing R] {f g : R} (hf : irR f) (hg : irR g) (h : dvR f g) : ∃ u, unR u ∧ g = f * u := by
  obtain ⟨c, hc⟩ := h
  rcases hg.2.2 f c hc with q | q
  · exact absurd q hf.2.1
  · exact ⟨c, q, hc⟩
theorem irR.mu {R : Type} [Lean.Grind.CommRing R] {f u : R} (hf : irR f) (hu : unR u) : irR (f * u) := by
  obtain ⟨w, hw, huw⟩ := hu.inv
  have e9 : f = f * u * w := by grind
  refine ⟨fun q => hf.1 (by rw [e9, q]; grind), fun q => hf.2.1 (by rw [e9]; exact q.mul huw), fun a b h => ?_⟩
  have h2 : f = a * (b * w) := by rw [h] at e9; grind
  rcases hf.2.2 _ _ h2 with q | q
  · exact Or.inl q
  · exact Or.inr (dvR.un dvR.lf q)
theorem euR.fac1 {R : Type} [Lean.Grind.CommRing R] {sz : R → Nat} (E : euR R sz) : ∀ (n : Nat) (x : R), sz x ≤ n → x ≠ 0 → ¬ unR x → ∃ f, irR f ∧ dvR f x := by
  intro n
  induction n with
  | zero => intro x h h0; exact absurd ((E.1 x).mp (by omega)) h0
  | succ n ih =>
    intro x h h0 hu
    by_cases hi : irR x
    · exact ⟨x, hi, dvR.rf⟩
    · have h1 : ∃ a b, x = a * b ∧ ¬ unR a ∧ ¬ unR b := by
        refine Classical.byContradiction fun q => hi ⟨h0, hu, fun a b hab => ?_⟩
        by_cases ha : unR a
        · exact Or.inl ha
        · by_cases hb : unR b
          · exact Or.inr hb
          · exact absurd ⟨a, b, hab, ha, hb⟩ q
      obtain ⟨a, b, hab, ha, hb⟩ := h1
      have h2 := E.mn0 (hab ▸ h0)
      have h3 := E.2.1 a b h2.1 h2.2
      rw [← hab] at h3
      have h4 := E.n0 h2.2
      have h5 : sz b ≠ 1 := fun q => hb (E.un2 q)
      obtain ⟨f, hf, hd⟩ := ih a (by omega) h2.1 ha
      exact ⟨f, hf, hd.tr ⟨b, hab⟩⟩
/-- each number but 0 has one of its kind that leads with 1 -/
def mnR {R : Type} [Lean.Grind.CommRing R] (mon : R → Prop) : Prop := (∀ x, x ≠ 0 → ∃ u, unR u ∧ mon (x * u)) ∧ ∀ x y, mon x → mon y → (∃ u, unR u ∧ y = x * u) → x = y
theorem euR.fac {R : Type} [Lean.Grind.CommRing R] {sz : R → Nat} (E : euR R sz) {mon : R → Prop} (M : mnR mon) : ∀ (n : Nat) (x : R), sz x ≤ n → x ≠ 0 → ∃ L, (∀ f ∈ L, irR f ∧ mon f) ∧ ∃ u, unR u ∧ x = u * prL L := by
  intro n
  induction n with
  | zero => intro x h h0; exact absurd ((E.1 x).mp (by omega)) h0
  | succ n ih =>
    intro x h h0
    by_cases hu : unR x
    · exact ⟨[], fun f hf => (by simp at hf), x, hu, by show x = x * 1; grind⟩
    · obtain ⟨f, hf, c, hc⟩ := E.fac1 _ x (Nat.le_refl _) h0 hu
      obtain ⟨u, hu2, hm⟩ := M.1 f hf.1
      obtain ⟨w, hw, huw⟩ := hu2.inv
      have h2 := E.mn0 (hc ▸ h0)
      have h3 := E.2.1 f c h2.1 h2.2
      rw [← hc] at h3
      have h5 : sz f ≠ 1 := fun q => hf.2.1 (E.un2 q)
      have h6 := E.n0 hf.1
      obtain ⟨L, hL, v, hv, he⟩ := ih c (by omega) h2.2
      refine ⟨f * u :: L, fun g hg => ?_, w * v, huw.mul hv, ?_⟩
      · rcases List.mem_cons.mp hg with q | q
        · rw [q]; exact ⟨hf.mu hu2, hm⟩
        · exact hL g q
      · show x = w * v * (f * u * prL L)
        rw [hc, he]
        have e1 : f * (v * prL L) = f * (v * prL L) * (u * w) := by rw [hw]; grind
        rw [e1]
        grind
theorem euR.memL {R : Type} [Lean.Grind.CommRing R] {sz : R → Nat} (E : euR R sz) {mon : R → Prop} (M : mnR mon) {f : R} (hf : irR f) (hm : mon f) : ∀ {L : List R}, (∀ g ∈ L, irR g ∧ mon g) → dvR f (prL L) → f ∈ L
  | [], _, h => absurd (h.un unR.one) hf.2.1
  | g :: L, hL, h => by
    rcases E.prime hf (show dvR f (g * prL L) from h) with q | q
    · have hg := hL g (List.mem_cons_self ..)
      rw [M.2 f g hm hg.2 (hf.as hg.1 q)]
      exact List.mem_cons_self ..
    · exact List.mem_cons_of_mem _ (E.memL M hf hm (fun g hg => hL g (List.mem_cons_of_mem _ hg)) q)
theorem euR.copr {R : Type} [Lean.Grind.CommRing R] {sz : R → Nat} (E : euR R sz) {mon : R → Prop} (M : mnR mon) {G : R} : ∀ {L : List R}, L.Nodup → (∀ g ∈ L, irR g ∧ mon g) → (∀ g ∈ L, dvR g G) → dvR (prL L) G
  | [], _, _, _ => ⟨G, by show G = 1 * G; grind⟩
  | g :: L, hn, hL, h => by
    rw [List.nodup_cons] at hn
    obtain ⟨c, hc⟩ := E.copr M hn.2 (fun g hg => hL g (List.mem_cons_of_mem _ hg)) (fun g hg => h g (List.mem_cons_of_mem _ hg))
    have hg := hL g (List.mem_cons_self ..)
    have h1 := h g (List.mem_cons_self ..)
    rw [hc] at h1
    rcases E.prime hg.1 h1 with q | ⟨e, he⟩
    · exact absurd (E.memL M hg.1 hg.2 (fun g hg => hL g (List.mem_cons_of_mem _ hg)) q) hn.1
    · exact ⟨e, by show G = g * prL L * e; rw [hc, he]; grind⟩
/-! lists -/
theorem nd_perm {T : Type} : ∀ {l m : List T}, l.Nodup → (∀ x ∈ l, x ∈ m) → m.length ≤ l.length → l.Perm m
  | [], m, _, _, hl => by
    have : m = [] := List.eq_nil_of_length_eq_zero (by simpa using hl)
    rw [this]
  | x :: l, m, hn, hs, hl => by
    rw [List.nodup_cons] at hn
    obtain ⟨s, t, he⟩ := List.append_of_mem (hs x (List.mem_cons_self ..))
    have ih : l.Perm (s ++ t) := nd_perm hn.2 (fun y hy => by
      have h1 := hs y (List.mem_cons_of_mem _ hy)
      rw [he] at h1
      rcases List.mem_append.mp h1 with q | q
      · exact List.mem_append_left _ q
      · rcases List.mem_cons.mp q with z | z
        · rw [z] at hy; exact absurd hy hn.1
        · exact List.mem_append_right _ z) (by rw [he] at hl; simp at hl ⊢; omega)
    rw [he]
    exact (List.Perm.cons x ih).trans List.perm_middle.symm
theorem ex_dd {T : Type} : ∀ L : List T, ∃ D M, D.Nodup ∧ (∀ x, x ∈ D ↔ x ∈ L) ∧ L.Perm (D ++ M)
  | [] => ⟨[], [], List.nodup_nil, fun x => Iff.rfl, List.Perm.nil⟩
  | x :: L => by
    obtain ⟨D, M, h1, h2, h3⟩ := ex_dd L
    by_cases hx : x ∈ D
    · refine ⟨D, x :: M, h1, fun y => ?_, (List.Perm.cons x h3).trans List.perm_middle.symm⟩
      rw [h2, List.mem_cons]
      constructor
      · exact Or.inr
      · rintro (q | q)
        · rw [q]; exact (h2 x).mp hx
        · exact q
    · refine ⟨x :: D, M, List.nodup_cons.mpr ⟨hx, h1⟩, fun y => ?_, List.Perm.cons x h3⟩
      rw [List.mem_cons, List.mem_cons, h2]
theorem ex_sp {T : Type} (P : T → Prop) : ∀ L : List T, ∃ A B, L.Perm (A ++ B) ∧ (∀ x ∈ A, P x) ∧ ∀ x ∈ B, ¬ P x
  | [] => ⟨[], [], List.Perm.nil, fun x hx => (by simp at hx), fun x hx => (by simp at hx)⟩
  | x :: L => by
    obtain ⟨A, B, h1, h2, h3⟩ := ex_sp P L
    by_cases hx : P x
    · refine ⟨x :: A, B, List.Perm.cons x h1, fun y hy => ?_, h3⟩
      rcases List.mem_cons.mp hy with q | q
      · rw [q]; exact hx
      · exact h2 y q
    · refine ⟨A, x :: B, (List.Perm.cons x h1).trans List.perm_middle.symm, h2, fun y hy => ?_⟩
      rcases List.mem_cons.mp hy with q | q
      · rw [q]; exact hx
      · exact h3 y q
