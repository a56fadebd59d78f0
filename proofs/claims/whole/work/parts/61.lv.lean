/-! what is left, high places first, as a polynomial by pn -/
theorem sm_rev (n : Nat) : ∀ g : Nat → Int, sm g (n + 1) = sm (fun t => g (n - t)) (n + 1) := by
  induction n with
  | zero => intro g; rfl
  | succ n ih =>
    intro g
    rw [sm_s g (n + 1), ih g, sm_head (fun t => g (n + 1 - t)) (n + 1), Int.add_comm]
    show g (n + 1) + _ = g (n + 1) + sm (fun j => g (n + 1 - (j + 1))) (n + 1)
    congr 1
    exact sm_cong (fun j hj => by rw [show n + 1 - (j + 1) = n - j by omega])
theorem conv_rev {q g : Nat → Int} {A B n : Nat} (hq : ∀ i, A < i → q i = 0) (hg : ∀ i, B < i → g i = 0) (hn : n ≤ A + B) : conv (fun i => if i ≤ A then q (A - i) else 0) (fun i => if i ≤ B then g (B - i) else 0) n = conv q g (A + B - n) := by
  have e1 : conv (fun i => if i ≤ A then q (A - i) else 0) (fun i => if i ≤ B then g (B - i) else 0) n = sm (fun j => if j ≤ A ∧ j ≤ n ∧ n - j ≤ B then q (A - j) * g (B - (n - j)) else 0) (A + n + 1) := by
    unfold conv
    rw [sm_tail (g := fun j => if j ≤ A ∧ j ≤ n ∧ n - j ≤ B then q (A - j) * g (B - (n - j)) else 0) (a := n + 1) (b := A + n + 1) (by omega) (fun j h1 h2 => if_neg (by omega))]
    refine sm_cong (fun j hj => ?_)
    show (if j ≤ A then q (A - j) else 0) * (if n - j ≤ B then g (B - (n - j)) else 0) = _
    by_cases a : j ≤ A
    · by_cases b : n - j ≤ B
      · rw [if_pos a, if_pos b, if_pos ⟨a, by omega, b⟩]
      · rw [if_neg b, Int.mul_zero, if_neg (show ¬ (j ≤ A ∧ j ≤ n ∧ n - j ≤ B) from fun w => b w.2.2)]
    · rw [if_neg a, Int.zero_mul, if_neg (show ¬ (j ≤ A ∧ j ≤ n ∧ n - j ≤ B) from fun w => a w.1)]
  have e2 : sm (fun j => if j ≤ A ∧ j ≤ n ∧ n - j ≤ B then q (A - j) * g (B - (n - j)) else 0) (A + n + 1) = sm (fun j => if j ≤ A ∧ j ≤ n ∧ n - j ≤ B then q (A - j) * g (B - (n - j)) else 0) (A + 1) := sm_tail (by omega) (fun j h1 h2 => if_neg (by omega))
  have e3 : sm (fun t => if A - t ≤ A ∧ A - t ≤ n ∧ n - (A - t) ≤ B then q (A - (A - t)) * g (B - (n - (A - t))) else 0) (A + 1) = sm (fun t => if t ≤ A ∧ t ≤ A + B - n ∧ A - t ≤ n then q t * g (A + B - n - t) else 0) (A + B + 1) := by
    rw [sm_tail (g := fun t => if t ≤ A ∧ t ≤ A + B - n ∧ A - t ≤ n then q t * g (A + B - n - t) else 0) (a := A + 1) (b := A + B + 1) (by omega) (fun j h1 h2 => if_neg (by omega))]
    refine sm_cong (fun t ht => ?_)
    by_cases a : t ≤ A + B - n ∧ A - t ≤ n
    · rw [if_pos (show A - t ≤ A ∧ A - t ≤ n ∧ n - (A - t) ≤ B by omega), if_pos (show t ≤ A ∧ t ≤ A + B - n ∧ A - t ≤ n by omega), show A - (A - t) = t by omega, show B - (n - (A - t)) = A + B - n - t by omega]
    · rw [if_neg (show ¬ (A - t ≤ A ∧ A - t ≤ n ∧ n - (A - t) ≤ B) by omega), if_neg (show ¬ (t ≤ A ∧ t ≤ A + B - n ∧ A - t ≤ n) by omega)]
  have e4 : conv q g (A + B - n) = sm (fun t => if t ≤ A ∧ t ≤ A + B - n ∧ A - t ≤ n then q t * g (A + B - n - t) else 0) (A + B + 1) := by
    unfold conv
    rw [sm_tail (g := fun t => if t ≤ A ∧ t ≤ A + B - n ∧ A - t ≤ n then q t * g (A + B - n - t) else 0) (a := A + B - n + 1) (b := A + B + 1) (by omega) (fun j h1 h2 => if_neg (by omega))]
    refine sm_cong (fun t ht => ?_)
    by_cases a : t ≤ A
    · by_cases b : A - t ≤ n
      · rw [if_pos (show t ≤ A ∧ t ≤ A + B - n ∧ A - t ≤ n by omega)]
      · rw [if_neg (fun w => b w.2.2), hg _ (by omega), Int.mul_zero]
    · rw [if_neg (fun w => a w.1), hq t (by omega), Int.zero_mul]
  rw [e1, e2, sm_rev A, e3, e4]
section LV
variable {pn : Nat} (hpn : PrmN pn)
def lvP (f : Nat → Int) (D : Nat) : PZ (pn : Int) := pzM (hp0 hpn) (fun i => if i ≤ D then f (D - i) else 0) ⟨D + 1, fun i hi => if_neg (by omega)⟩
def lwP (w : Nat → Int) (d D : Nat) : PZ (pn : Int) := pzM (hp0 hpn) (fun i => if i < d then w (D - i) else 0) ⟨d, fun i hi => if_neg (by omega)⟩
theorem lvP_at {f : Nat → Int} {D : Nat} (hb : ∀ i, i ≤ D → 0 ≤ f i ∧ f i < (pn : Int)) (i : Nat) : (lvP hpn f D).1 i = if i ≤ D then f (D - i) else 0 := by
  show (if i ≤ D then f (D - i) else 0) % (pn : Int) = _
  split
  · exact Int.emod_eq_of_lt (hb _ (by omega)).1 (hb _ (by omega)).2
  · exact Int.zero_emod _
theorem lvP_sz {f : Nat → Int} {D : Nat} (hb : ∀ i, i ≤ D → 0 ≤ f i ∧ f i < (pn : Int)) (h0 : f 0 = 1) : pzS (lvP hpn f D) = D + 1 := pzS_one (fun i hi => by rw [lvP_at hpn hb, if_neg (by omega)]) (Or.inr (by rw [lvP_at hpn hb, if_pos (by omega), show D - (D + 1 - 1) = 0 by omega, h0]; decide))
theorem lvP_mon {f : Nat → Int} {D : Nat} (hb : ∀ i, i ≤ D → 0 ≤ f i ∧ f i < (pn : Int)) (h0 : f 0 = 1) : pzMon (lvP hpn f D) := ⟨by rw [lvP_sz hpn hb h0]; omega, by rw [lvP_sz hpn hb h0, lvP_at hpn hb, if_pos (by omega), show D - (D + 1 - 1) = 0 by omega]; exact h0⟩
theorem lvP_cong {f g : Nat → Int} {D : Nat} (h : ∀ i, i ≤ D → f i = g i) : lvP hpn f D = lvP hpn g D := pz_ext (fun i => (pzM_cg i).tr ((cg.of (by
  show (if i ≤ D then f (D - i) else 0) = if i ≤ D then g (D - i) else 0
  split
  · exact h _ (by omega)
  · rfl)).tr (pzM_cg i).sy))
theorem lvP_div {f q g w : Nat → Int} {E d D : Nat} (hD : D = E + d) (hq : ∀ i, E < i → q i = 0) (hg : ∀ i, d < i → g i = 0) (H : ∀ n, n ≤ D → cg (pn : Int) (f n) (conv q g n + (if E < n then w n else 0))) : lvP hpn f D = pzAdd (hp0 hpn) (pzMul (hp0 hpn) (lvP hpn q E) (lvP hpn g d)) (lwP hpn w d D) := pz_ext (fun i => by
  refine (pzM_cg i).tr (cg.sy ?_)
  refine (pzAdd_cg (hp0 hpn) i).tr ?_
  refine (((pzMul_cg (hp0 hpn) i).tr (conv_cg (fun i => pzM_cg i) (fun i => pzM_cg i) i)).add (pzM_cg i)).tr ?_
  by_cases z : i ≤ D
  · rw [conv_rev hq hg (by omega), if_pos z, ← hD]
    refine cg.tr (cg.of ?_) (H (D - i) (by omega)).sy
    congr 1
    by_cases y : i < d
    · rw [if_pos y, if_pos (by omega)]
    · rw [if_neg y, if_neg (by omega)]
  · rw [conv_fs (n := E + 1) (m := d + 1) (fun i hi => if_neg (by omega)) (fun i hi => if_neg (by omega)) i (by omega), if_neg (by omega), if_neg z]
    exact cg.of rfl)
theorem tr_in {d : Nat} {B : List (PZ (pn : Int))} {l t : PZ (pn : Int)} (hd : 1 ≤ d) (hB : grB hpn d B) (hl : lfP hpn l B) (hm : pzMon t) (hs : pzS t = d + 1) (hdv : dvP hpn t l) : t ∈ B := by
  letI := pzRing (hp0 hpn)
  have E := pz_eu hpn
  have M := pz_mn hpn
  have ht0 : t ≠ 0 := fun e => by
    have := (E.1 t).mpr e
    omega
  have htu : ¬ unR t := fun e => by
    have := E.un1 e
    omega
  obtain ⟨f, hf, hft⟩ := E.fac1 (pzS t) t (Nat.le_refl _) ht0 htu
  obtain ⟨u, hu, hmu⟩ := M.1 f hf.1
  obtain ⟨v, hv, _⟩ := hu.inv
  have hfu : dvR (f * u) t := by
    obtain ⟨c, hc⟩ := hft
    exact ⟨v * c, by rw [hc]; grind⟩
  obtain ⟨w, hw, hlw⟩ := (show lftR l B from hl)
  have h1 : dvR (f * u) (w * prL B) := by
    rw [← hlw]
    exact hfu.tr hdv
  have h2 : f * u ∈ B := E.memL M (hf.mu hu) hmu (fun g hg => ⟨(hB g hg).1, (hB g hg).2.1⟩) (h1.cu hw)
  have h3 := (hB _ h2).2.2
  obtain ⟨u2, hu2, e2⟩ := E.asc hfu ht0 (by omega)
  rw [← M.2 (f * u) t hmu hm ⟨u2, hu2, e2⟩]
  exact h2
theorem in_tr {B : List (PZ (pn : Int))} {l t : PZ (pn : Int)} (hl : lfP hpn l B) (h : t ∈ B) : dvP hpn t l := by
  letI := pzRing (hp0 hpn)
  obtain ⟨w, hw, hlw⟩ := (show lftR l B from hl)
  show dvR t l
  rw [hlw]
  exact (prL_mem h).ml w
theorem lf_out1 {B : List (PZ (pn : Int))} {l t q : PZ (pn : Int)} (ht : irP hpn t) (hl : lfP hpn l (t :: B)) (e : l = pzMul (hp0 hpn) q t) : lfP hpn q B := by
  letI := pzRing (hp0 hpn)
  have E := pz_eu hpn
  have ht : irR t := ht
  have hl : lftR l ([t] ++ B) := hl
  have e : l = q * t := e
  have h0 : pzS (0 : PZ (pn : Int)) = 0 := (E.1 0).mpr rfl
  have h1 := E.n0 ht.1
  exact hl.out E (s := t) (r := 0) ⟨1, unR.one, by show t = t * 1 * 1; grind⟩ (fun f hf => by rw [List.mem_singleton.mp hf]; exact ht) (by rw [e]; grind) (by omega)
theorem nd_r {l q t r : PZ (pn : Int)} (e : l = pzAdd (hp0 hpn) (pzMul (hp0 hpn) q t) r) (hr : pzS r < pzS t) (hr0 : pzS r ≠ 0) : ¬ dvP hpn t l := fun h => by
  letI := pzRing (hp0 hpn)
  have E := pz_eu hpn
  have h : dvR t l := h
  have e : l = q * t + r := e
  have h2 : dvR t r := by
    obtain ⟨c, hc⟩ := h
    exact ⟨c - q, by rw [hc] at e; grind⟩
  have := E.dvsz h2 (fun z => hr0 ((E.1 r).mpr z))
  omega
theorem one_left {B : List (PZ (pn : Int))} {l : PZ (pn : Int)} {e D : Nat} (he : 1 ≤ e) (hB : grB hpn e B) (hl : lfP hpn l B) (hs : pzS l = D + 1) (h2 : D < 2 * e) : (D = 0 → B = []) ∧ (0 < D → ∃ x, B = [x] ∧ pzS x = D + 1) := by
  letI := pzRing (hp0 hpn)
  have E := pz_eu hpn
  have hl : lftR l B := hl
  have h3 := hl.sz E (fun f hf => (hB f hf).1)
  match B, hB, h3 with
  | [], _, h3 =>
    have h4 : pzS (prL ([] : List (PZ (pn : Int)))) = 1 := E.2.2.2.1
    exact ⟨fun _ => rfl, fun w => by omega⟩
  | [x], hB, h3 =>
    have h4 : prL [x] = x := by show x * 1 = x; grind
    rw [h4] at h3
    have h5 := (hB x (List.mem_cons_self ..)).2.2
    exact ⟨fun w => by omega, fun _ => ⟨x, rfl, by omega⟩⟩
  | x :: y :: B, hB, h3 =>
    have hx := hB x (List.mem_cons_self ..)
    have hy := hB y (List.mem_cons_of_mem _ (List.mem_cons_self ..))
    have h4 := prL_n0 E (M := x :: y :: B) (fun f hf => (hB f hf).1)
    have h5 : dvR (x * y) (prL (x :: y :: B)) := ⟨prL B, by show x * (y * prL B) = x * y * prL B; grind⟩
    have h6 := E.dvsz h5 h4
    have h7 := E.2.1 x y hx.1.1 hy.1.1
    have h8 := hx.2.2
    have h9 := hy.2.2
    exact absurd h6 (by omega)
def trf (pn d a : Nat) : Nat → Int := fun j => if j = 0 then 1 else if j ≤ d then ((a / pn ^ (d - j) % pn : Nat) : Int) else 0
theorem trf_b (hpn : PrmN pn) (d a i : Nat) : 0 ≤ trf pn d a i ∧ trf pn d a i < (pn : Int) := by
  have := hpn.1
  unfold trf
  split
  · omega
  · split
    · have := Nat.mod_lt (a / pn ^ (d - i)) (y := pn) (by omega)
      omega
    · omega
theorem trf_0 (d a : Nat) : trf pn d a 0 = 1 := rfl
theorem trf_all {d : Nat} {x : PZ (pn : Int)} (hm : pzMon x) (hs : pzS x = d + 1) : ∃ a, a < pn ^ d ∧ x = lvP hpn (trf pn d a) d := by
  obtain ⟨a, ha, h⟩ := dg_ex hpn.1 d x.1 x.2.1
  refine ⟨a, ha, Subtype.ext (funext fun i => ?_)⟩
  rw [lvP_at hpn (fun i _ => trf_b hpn d a i)]
  by_cases z : i ≤ d
  · rw [if_pos z]
    unfold trf
    by_cases y : i = d
    · rw [if_pos (by omega), y]
      have := hm.2
      rw [hs] at this
      exact this
    · rw [if_neg (by omega), if_pos (by omega), show d - (d - i) = i by omega]
      exact (h i (by omega)).symm
  · rw [if_neg z]
    exact (pzS_spec x).1 i (by omega)
theorem trf_inj {d a b : Nat} (ha : a < pn ^ d) (hb : b < pn ^ d) (e : lvP hpn (trf pn d a) d = lvP hpn (trf pn d b) d) : a = b := by
  refine dg_inj hpn.1 d a b ha hb (fun i hi => ?_)
  have h1 := congrArg (fun x : PZ (pn : Int) => x.1 i) e
  have h1 : (lvP hpn (trf pn d a) d).1 i = (lvP hpn (trf pn d b) d).1 i := h1
  rw [lvP_at hpn (fun i _ => trf_b hpn d a i), lvP_at hpn (fun i _ => trf_b hpn d b i), if_pos (by omega), if_pos (by omega)] at h1
  unfold trf at h1
  rw [if_neg (show ¬ d - i = 0 by omega), if_neg (show ¬ d - i = 0 by omega), if_pos (show d - i ≤ d by omega), if_pos (show d - i ≤ d by omega), show d - (d - i) = i by omega] at h1
  exact Int.ofNat.inj h1
end LV
theorem resL.put {T : Type} {sz : T → Nat} {A : List T} {a g u d : Nat} {t : T} (h : resL sz A a g u) (hA : ∀ f ∈ A, sz f ≤ d + 1) (ht : sz t = d + 1) : (t ∉ A → resL sz (A ++ [t]) (a + 1) d (u + 1)) ∧ (t ∈ A → resL sz (A ++ [t]) (a + 1) d u) := by
  obtain ⟨h1, h2, h3, D, h4, h5, h6⟩ := h
  have q1 : a + 1 = (A ++ [t]).length := by rw [h1, List.length_append]; rfl
  have q2 : ∀ f ∈ A ++ [t], sz f ≤ d + 1 := fun f hf => by
    rcases List.mem_append.mp hf with q | q
    · exact hA f q
    · rw [List.mem_singleton.mp q]; omega
  have q3 : d = 0 ∨ ∃ f ∈ A ++ [t], sz f = d + 1 := Or.inr ⟨t, List.mem_append_right _ (List.mem_singleton.mpr rfl), ht⟩
  refine ⟨fun hn => ⟨q1, q2, q3, D ++ [t], ?_, fun x => ?_, by rw [h6, List.length_append]; rfl⟩, fun hn => ⟨q1, q2, q3, D, h4, fun x => ?_, h6⟩⟩
  · refine List.nodup_append.mpr ⟨h4, List.nodup_cons.mpr ⟨List.not_mem_nil, List.nodup_nil⟩, fun x hx y hy e => ?_⟩
    rw [List.mem_singleton.mp hy] at e
    rw [e] at hx
    exact hn ((h5 t).mp hx)
  · rw [List.mem_append, List.mem_append, h5]
  · rw [h5, List.mem_append]
    exact ⟨Or.inl, fun w => by
      rcases w with w | w
      · exact w
      · rw [List.mem_singleton.mp w]; exact hn⟩
theorem resL.last {T : Type} {sz : T → Nat} {A : List T} {a g u d : Nat} {t : T} (h : resL sz A a g u) (ht : sz t = d + 1) (hn : t ∉ A) : resL sz (A ++ [t]) (a + 1) (max g d) (u + 1) := by
  obtain ⟨h1, h2, h3, D, h4, h5, h6⟩ := h
  refine ⟨by rw [h1, List.length_append]; rfl, fun f hf => ?_, ?_, D ++ [t], ?_, fun x => ?_, by rw [h6, List.length_append]; rfl⟩
  · rcases List.mem_append.mp hf with q | q
    · have := h2 f q; omega
    · rw [List.mem_singleton.mp q]; omega
  · by_cases z : g ≤ d
    · exact Or.inr ⟨t, List.mem_append_right _ (List.mem_singleton.mpr rfl), by omega⟩
    · rcases h3 with q | ⟨f, hf, e⟩
      · omega
      · exact Or.inr ⟨f, List.mem_append_left _ hf, by omega⟩
  · refine List.nodup_append.mpr ⟨h4, List.nodup_cons.mpr ⟨List.not_mem_nil, List.nodup_nil⟩, fun x hx y hy e => ?_⟩
    rw [List.mem_singleton.mp hy] at e
    rw [e] at hx
    exact hn ((h5 t).mp hx)
  · rw [List.mem_append, List.mem_append, h5]
