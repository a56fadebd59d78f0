/-! how many parts, the greatest, how many unlike -/
def resL {T : Type} (sz : T → Nat) (L : List T) (a g u : Nat) : Prop := a = L.length ∧ (∀ f ∈ L, sz f ≤ g + 1) ∧ (g = 0 ∨ ∃ f ∈ L, sz f = g + 1) ∧ ∃ D : List T, D.Nodup ∧ (∀ x, x ∈ D ↔ x ∈ L) ∧ u = D.length
theorem resL.pm {T : Type} {sz : T → Nat} {L M : List T} {a g u : Nat} (h : resL sz L a g u) (p : L.Perm M) : resL sz M a g u := by
  obtain ⟨h1, h2, h3, D, h4, h5, h6⟩ := h
  refine ⟨h1.trans p.length_eq, fun f hf => h2 f (p.mem_iff.mpr hf), ?_, D, h4, fun x => (h5 x).trans p.mem_iff, h6⟩
  rcases h3 with q | ⟨f, hf, e⟩
  · exact Or.inl q
  · exact Or.inr ⟨f, p.mem_iff.mp hf, e⟩
theorem resL.one {T : Type} {sz : T → Nat} {L : List T} {a g u a2 g2 u2 : Nat} (h : resL sz L a g u) (k : resL sz L a2 g2 u2) : a = a2 ∧ g = g2 ∧ u = u2 := by
  obtain ⟨h1, h2, h3, D, h4, h5, h6⟩ := h
  obtain ⟨k1, k2, k3, D2, k4, k5, k6⟩ := k
  refine ⟨h1.trans k1.symm, ?_, ?_⟩
  · have e1 : g ≤ g2 := by
      rcases h3 with q | ⟨f, hf, e⟩
      · omega
      · have := k2 f hf; omega
    have e2 : g2 ≤ g := by
      rcases k3 with q | ⟨f, hf, e⟩
      · omega
      · have := h2 f hf; omega
    omega
  · rw [h6, k6]
    exact (List.Perm.length_eq ((List.perm_ext_iff_of_nodup h4 k4).mpr (fun x => (h5 x).trans (k5 x).symm)))
theorem resL.nil {T : Type} {sz : T → Nat} : resL sz ([] : List T) 0 0 0 := ⟨rfl, fun f hf => by simp at hf, Or.inl rfl, [], List.nodup_nil, fun x => Iff.rfl, rfl⟩
theorem resL.add {T : Type} {sz : T → Nat} {A C D : List T} {a g u d : Nat} (h : resL sz A a g u) (hA : ∀ f ∈ A, sz f ≤ d) (hC : ∀ f ∈ C, sz f = d + 1) (hD : D.Nodup) (hDC : ∀ x, x ∈ D ↔ x ∈ C) (hD0 : D ≠ []) : resL sz (A ++ C) (a + C.length) d (u + D.length) := by
  obtain ⟨h1, h2, h3, D2, h4, h5, h6⟩ := h
  refine ⟨by rw [h1, List.length_append], fun f hf => ?_, Or.inr ?_, D2 ++ D, ?_, fun x => ?_, by rw [h6, List.length_append]⟩
  · rcases List.mem_append.mp hf with q | q
    · have := hA f q; omega
    · have := hC f q; omega
  · match D, hD0, hDC with
    | x :: D, _, hDC =>
      have hx := (hDC x).mp (List.mem_cons_self ..)
      exact ⟨x, List.mem_append_right _ hx, hC x hx⟩
  · refine List.nodup_append.mpr ⟨h4, hD, fun x hx y hy e => ?_⟩
    have e1 := hA x ((h5 x).mp hx)
    have e2 := hC y ((hDC y).mp hy)
    rw [e] at e1
    omega
  · rw [List.mem_append, List.mem_append, h5, hDC]
theorem sz_prL {R : Type} [Lean.Grind.CommRing R] {sz : R → Nat} (E : euR R sz) {d : Nat} : ∀ {M : List R}, (∀ f ∈ M, irR f ∧ sz f = d + 1) → prL M ≠ 0 ∧ sz (prL M) = d * M.length + 1
  | [], _ => ⟨E.one0, by show sz (1 : R) = d * 0 + 1; rw [E.2.2.2.1]; omega⟩
  | f :: M, h => by
    have ih := sz_prL E (M := M) (fun g hg => h g (List.mem_cons_of_mem _ hg))
    have hf := h f (List.mem_cons_self ..)
    have h1 := E.2.1 f (prL M) hf.1.1 ih.1
    refine ⟨fun e => ?_, ?_⟩
    · rcases E.dom (show f * prL M = 0 from e) with q | q
      · exact hf.1.1 q
      · exact ih.1 q
    · show sz (f * prL M) = d * (M.length + 1) + 1
      rw [Nat.mul_succ]
      omega
theorem prL_n0 {R : Type} [Lean.Grind.CommRing R] {sz : R → Nat} (E : euR R sz) : ∀ {M : List R}, (∀ f ∈ M, irR f) → prL M ≠ 0
  | [], _ => E.one0
  | f :: M, h => fun e => by
    rcases E.dom (show f * prL M = 0 from e) with q | q
    · exact (h f (List.mem_cons_self ..)).1 q
    · exact prL_n0 E (fun g hg => h g (List.mem_cons_of_mem _ hg)) q
/-- what is left: a unit times a product -/
def lftR {R : Type} [Lean.Grind.CommRing R] (l : R) (B : List R) : Prop := ∃ u, unR u ∧ l = u * prL B
theorem lftR.pm {R : Type} [Lean.Grind.CommRing R] {l : R} {B C : List R} (h : lftR l B) (p : B.Perm C) : lftR l C := by
  obtain ⟨u, h1, h2⟩ := h
  exact ⟨u, h1, by rw [h2, prL_perm p]⟩
theorem lftR.n0 {R : Type} [Lean.Grind.CommRing R] {sz : R → Nat} (E : euR R sz) {l : R} {B : List R} (h : lftR l B) (hB : ∀ f ∈ B, irR f) : l ≠ 0 := by
  obtain ⟨u, ⟨v, hv⟩, h2⟩ := h
  intro e
  rw [e] at h2
  refine prL_n0 E hB ?_
  have : prL B = u * prL B * v := by grind
  rw [this, ← h2]; grind
theorem lftR.sz {R : Type} [Lean.Grind.CommRing R] {sz : R → Nat} (E : euR R sz) {l : R} {B : List R} (h : lftR l B) (hB : ∀ f ∈ B, irR f) : sz l = sz (prL B) := by
  obtain ⟨u, hu, h2⟩ := h
  have h3 := E.2.1 u (prL B) (fun e => by rw [e] at hu; obtain ⟨c, hc⟩ := hu; exact E.one0 (by rw [← hc]; grind)) (prL_n0 E hB)
  have h4 := E.un1 hu
  rw [h2]; omega
theorem lftR.le {R : Type} [Lean.Grind.CommRing R] {sz : R → Nat} (E : euR R sz) {l f : R} {B : List R} (h : lftR l B) (hB : ∀ f ∈ B, irR f) (hf : f ∈ B) : sz f ≤ sz l := by
  rw [h.sz E hB]
  exact E.dvsz (prL_mem hf) (prL_n0 E hB)
/-- what shared holds is taken out once of what is left -/
theorem lftR.out {R : Type} [Lean.Grind.CommRing R] {sz : R → Nat} (E : euR R sz) {l s t r : R} {D M : List R} (h : lftR l (D ++ M)) (hs : ∃ w, unR w ∧ s = prL D * w) (hD : ∀ f ∈ D, irR f) (hd : l = t * s + r) (hr : sz r < sz s) : lftR t M := by
  obtain ⟨u, hu, h2⟩ := h
  obtain ⟨w, hw, h3⟩ := hs
  obtain ⟨v, hv, hvu⟩ := hw.inv
  rw [prL_app] at h2
  have h0 := prL_n0 E hD
  have e1 : r = s * (v * (u * prL M) - t) := by
    have : s * v = prL D := by rw [h3]; grind
    have e2 : l = s * v * (u * prL M) := by rw [this, h2]; grind
    grind
  have e3 : r = 0 := by
    refine Classical.byContradiction fun q => ?_
    have := E.dvsz ⟨_, e1⟩ q
    omega
  refine ⟨u * v, hu.mul hvu, ?_⟩
  have e4 : s * (v * (u * prL M) - t) = 0 := by rw [← e1, e3]
  rcases E.dom e4 with q | q
  · rw [h3] at q
    rcases E.dom q with z | z
    · exact absurd z h0
    · rw [z] at hv
      exact absurd (show (1 : R) = 0 by rw [← hv]; grind) E.one0
  · grind
