/-! the arrays' polynomials in the ring -/
def pzT {p : Int} (hp : 0 < p) (f : Nat → Int) : PZ p := pzM hp (fun i => if i ≤ 12 then f i else 0) ⟨13, fun i hi => if_neg (by omega)⟩
theorem pzT_at {p : Int} {hp : 0 < p} {f : Nat → Int} {dg : Int} (h : POK p f dg) (i : Nat) : (pzT hp f).1 i = f i := by
  show (if i ≤ 12 then f i else 0) % p = f i
  have hb := h.2.2.2.1 i
  by_cases z : i ≤ 12
  · rw [if_pos z, Int.emod_eq_of_lt hb.1 hb.2]
  · rw [if_neg z, Int.zero_emod, h.z i (by omega)]
theorem pzT_sz {p : Int} {hp : 0 < p} {f : Nat → Int} {dg : Int} (h : POK p f dg) : pzS (pzT hp f) = (dg + 1).toNat := by
  have h1 := h.1
  refine pzS_one (fun i hi => by rw [pzT_at h]; exact h.2.2.1 i (by omega)) ?_
  by_cases z : 0 ≤ dg
  · right
    rw [pzT_at h, show (dg + 1).toNat - 1 = dg.toNat by omega]
    exact h.2.2.2.2 z
  · left; omega
theorem pzT_zero {p : Int} {hp : 0 < p} {f : Nat → Int} (h : POK p f (-1)) : pzT hp f = pzX hp 0 0 := (pzS_zero hp _).mp (pzT_sz h)
theorem pzT_div {p : Int} {hp : 0 < p} {f g e r : Nat → Int} {df dg de dr : Int} (hf : POK p f df) (hg : POK p g dg) (he : POK p e de) (hr : POK p r dr) (H : DIV p f g e r) : pzT hp f = pzAdd hp (pzMul hp (pzT hp e) (pzT hp g)) (pzT hp r) := pz_ext (fun i => by
  refine cg.tr ?_ ((pzAdd_cg hp i).tr ((pzMul_cg hp i).add cg.rf)).sy
  rw [pzT_at hf, pzT_at hr, show (pzT hp e).1 = e from funext (fun i => pzT_at he i), show (pzT hp g).1 = g from funext (fun i => pzT_at hg i)]
  exact H i)
theorem pzT_mul {p : Int} {hp : 0 < p} {f a b : Nat → Int} {df da db : Int} (hf : POK p f df) (ha : POK p a da) (hb : POK p b db) (hd : da + db ≤ 12) (H : ∀ n, n ≤ 12 → cg p (f n) (conv a b n)) : pzT hp f = pzMul hp (pzT hp a) (pzT hp b) := pz_ext (fun i => by
  refine cg.tr ?_ (pzMul_cg hp i).sy
  rw [pzT_at hf, show (pzT hp a).1 = a from funext (fun i => pzT_at ha i), show (pzT hp b).1 = b from funext (fun i => pzT_at hb i)]
  by_cases z : i ≤ 12
  · exact H i z
  · rw [hf.z i (by omega)]
    refine cg.of (sm_nil (fun t _ => ?_)).symm
    by_cases w : da < (t : Int)
    · rw [ha.2.2.1 t w, Int.zero_mul]
    · rw [hb.2.2.1 (i - t) (by omega), Int.mul_zero])
theorem pone_ok {p : Int} (hp : 2 ≤ p) : POK p pone 0 := ⟨by decide, by decide, fun i hi => if_neg (by omega), fun i => by unfold pone; split <;> omega, fun _ => by show (1 : Int) ≠ 0; decide⟩
theorem pz_ok {p : Int} (hp : 2 ≤ p) : POK p pz 1 := ⟨by decide, by decide, fun i hi => if_neg (by omega), fun i => by unfold pz; split <;> omega, fun _ => by show (1 : Int) ≠ 0; decide⟩
theorem pzT_one {p : Int} (hp : 2 ≤ p) : pzT (show 0 < p by omega) pone = pzX (show 0 < p by omega) 1 0 := pz_ext (fun i => by
  rw [pzT_at (pone_ok hp)]; exact (pzX_cg _ i).sy)
theorem pzT_z {p : Int} (hp : 2 ≤ p) : pzT (show 0 < p by omega) pz = pzX (show 0 < p by omega) 1 1 := pz_ext (fun i => by
  rw [pzT_at (pz_ok hp)]; exact (pzX_cg _ i).sy)
theorem pzT_lessZ {p : Int} {hp : 0 < p} {f : Nat → Int} {df d2 : Int} (hf : POK p f df) (h2 : POK p (uA f 1 ((f 1 + p - 1) % p)) d2) : pzT hp (uA f 1 ((f 1 + p - 1) % p)) = pzAdd hp (pzT hp f) (pzNeg hp (pzX hp 1 1)) := pz_ext (fun i => by
  refine cg.tr ?_ ((pzAdd_cg hp i).tr (cg.rf.add ((pzNeg_cg hp i).tr ((cg.rf (x := (0 : Int))).sub (pzX_cg hp i) |>.tr cg.rf |> fun h => (cg.of (Int.zero_sub _).symm).tr h)))).sy
  rw [pzT_at h2, pzT_at hf]
  by_cases z : i = 1
  · rw [z, uA_e, if_pos rfl]
    refine cg.md.tr ?_
    show p ∣ _
    exact ⟨1, by omega⟩
  · rw [uA_n z, if_neg z]
    exact cg.of (by omega))
/-- the greatest common parts -/
def gcP {q : Nat} (hq : PrmN q) (S A B : PZ q) : Prop := ∀ c : PZ q, @dvR _ (pzRing (hp0 hq)) c S ↔ @dvR _ (pzRing (hp0 hq)) c A ∧ @dvR _ (pzRing (hp0 hq)) c B
def cmP {q : Nat} (hq : PrmN q) (S T A B : PZ q) : Prop := ∀ c : PZ q, (@dvR _ (pzRing (hp0 hq)) c S ∧ @dvR _ (pzRing (hp0 hq)) c T) ↔ @dvR _ (pzRing (hp0 hq)) c A ∧ @dvR _ (pzRing (hp0 hq)) c B
theorem cmP.step {q : Nat} {hq : PrmN q} {S T A B g r : PZ q} (h : cmP hq S T A B) (e : S = pzAdd (hp0 hq) (pzMul (hp0 hq) g T) r) : cmP hq T r A B := fun c => by
  letI := pzRing (hp0 hq)
  rw [← h c]
  have e : S = g * T + r := e
  constructor
  · rintro ⟨h1, h2⟩
    exact ⟨by rw [e]; exact (h1.ml g).add h2, h1⟩
  · rintro ⟨h1, h2⟩
    refine ⟨h2, ?_⟩
    have e2 : r = S - g * T := by grind
    rw [e2]; exact h1.sub (h2.ml g)
theorem cmP.fin {q : Nat} {hq : PrmN q} {S T A B : PZ q} (h : cmP hq S T A B) (e : T = pzX (hp0 hq) 0 0) : gcP hq S A B := fun c => by
  letI := pzRing (hp0 hq)
  rw [← h c]
  have e : T = 0 := e
  rw [e]
  exact ⟨fun x => ⟨x, dvR.zero⟩, fun x => x.1⟩
/-- congruent by what is left -/
def cgL {q : Nat} (hq : PrmN q) (l a b : PZ q) : Prop := @dvR _ (pzRing (hp0 hq)) l (pzAdd (hp0 hq) a (pzNeg (hp0 hq) b))
theorem cgL.rf {q : Nat} {hq : PrmN q} {l a : PZ q} : cgL hq l a a := by
  letI := pzRing (hp0 hq)
  show dvR l (a - a)
  rw [show a - a = 0 by grind]; exact dvR.zero
theorem cgL.tr {q : Nat} {hq : PrmN q} {l a b c : PZ q} (h1 : cgL hq l a b) (h2 : cgL hq l b c) : cgL hq l a c := by
  letI := pzRing (hp0 hq)
  have h1 : dvR l (a - b) := h1
  have h2 : dvR l (b - c) := h2
  show dvR l (a - c)
  rw [show a - c = (a - b) + (b - c) by grind]; exact h1.add h2
theorem cgL.sy {q : Nat} {hq : PrmN q} {l a b : PZ q} (h1 : cgL hq l a b) : cgL hq l b a := by
  letI := pzRing (hp0 hq)
  have h1 : dvR l (a - b) := h1
  show dvR l (b - a)
  rw [show b - a = (a - b) * (-1) by grind]; exact h1.mr _
theorem cgL.mul {q : Nat} {hq : PrmN q} {l a b c d : PZ q} (h1 : cgL hq l a b) (h2 : cgL hq l c d) : cgL hq l (pzMul (hp0 hq) a c) (pzMul (hp0 hq) b d) := by
  letI := pzRing (hp0 hq)
  have h1 : dvR l (a - b) := h1
  have h2 : dvR l (c - d) := h2
  show dvR l (a * c - b * d)
  rw [show a * c - b * d = (a - b) * c + b * (c - d) by grind]; exact (h1.mr c).add (h2.ml b)
theorem cgL.div {q : Nat} {hq : PrmN q} {l a g r : PZ q} (e : a = pzAdd (hp0 hq) (pzMul (hp0 hq) g l) r) : cgL hq l r a := by
  letI := pzRing (hp0 hq)
  have e : a = g * l + r := e
  show dvR l (r - a)
  rw [e, show r - (g * l + r) = l * (-g) by grind]; exact dvR.lf
theorem cgL.pow {q : Nat} {hq : PrmN q} {l a b : PZ q} (h1 : cgL hq l a b) : ∀ n, cgL hq l (pzPow (hp0 hq) a n) (pzPow (hp0 hq) b n)
  | 0 => cgL.rf
  | n + 1 => (h1.pow n).mul h1
theorem cgL.dv {q : Nat} {hq : PrmN q} {l m a b : PZ q} (h1 : cgL hq l a b) (h2 : @dvR _ (pzRing (hp0 hq)) m l) : cgL hq m a b := @dvR.tr _ (pzRing (hp0 hq)) _ _ _ h2 h1
theorem pzPow_add {q : Nat} (hq : PrmN q) (a : PZ q) (m n : Nat) : pzPow (hp0 hq) a (m + n) = pzMul (hp0 hq) (pzPow (hp0 hq) a m) (pzPow (hp0 hq) a n) := @pw_add _ (pzRing (hp0 hq)) a m n
theorem pzPow_mul {q : Nat} (hq : PrmN q) (a : PZ q) (m n : Nat) : pzPow (hp0 hq) a (m * n) = pzPow (hp0 hq) (pzPow (hp0 hq) a m) n := @pw_mul _ (pzRing (hp0 hq)) a m n
theorem pzPow_1 {q : Nat} (hq : PrmN q) (a : PZ q) : pzPow (hp0 hq) a 1 = a := pzMul_one (hp0 hq) a
theorem plaw_ok {p : Int} (hp : 2 ≤ p) {k : Nat} {c : Nat → Int} (hk : k ≤ 6) (hc0 : c 0 = -1) : POK p (plaw p k c) k := by
  refine ⟨by omega, by omega, fun i hi => if_neg (by omega), fun i => ?_, fun _ => ?_⟩
  · unfold plaw
    have := emod_bd (-(c (k - i))) (show 0 < p by omega)
    split <;> omega
  · show plaw p k c (k : Int).toNat ≠ 0
    unfold plaw
    rw [if_pos (by omega), show k - (k : Int).toNat = 0 by omega, hc0, show -(-1 : Int) = 1 from rfl, Int.emod_eq_of_lt (by omega) (by omega)]
    decide
