/-! lists of parts, in the ring by pn -/
section LP
variable {pn : Nat} (hpn : PrmN pn)
def lfP (l : PZ (pn : Int)) (B : List (PZ (pn : Int))) : Prop := @lftR _ (pzRing (hp0 hpn)) l B
def irP (f : PZ (pn : Int)) : Prop := @irR _ (pzRing (hp0 hpn)) f
def okB (d : Nat) (M : List (PZ (pn : Int))) : Prop := ∀ f ∈ M, irP hpn f ∧ pzMon f ∧ pzS f = d + 1
def grB (d : Nat) (M : List (PZ (pn : Int))) : Prop := ∀ f ∈ M, irP hpn f ∧ pzMon f ∧ d + 1 ≤ pzS f
def shP (s : PZ (pn : Int)) (D : List (PZ (pn : Int))) : Prop := ∃ w, @unR _ (pzRing (hp0 hpn)) w ∧ s = pzMul (hp0 hpn) (@prL _ (pzRing (hp0 hpn)) D) w
def dsP (D M : List (PZ (pn : Int))) : Prop := D.Nodup ∧ ∀ x, x ∈ D ↔ x ∈ M
def GGP (d : Nat) : PZ (pn : Int) := pzAdd (hp0 hpn) (pzPow (hp0 hpn) (pzX (hp0 hpn) 1 1) (pn ^ d)) (pzNeg (hp0 hpn) (pzX (hp0 hpn) 1 1))
def dvP (a b : PZ (pn : Int)) : Prop := @dvR _ (pzRing (hp0 hpn)) a b
theorem mix_ir {d : Nat} {M B : List (PZ (pn : Int))} (hM : okB hpn d M) (hB : grB hpn (d + 1) B) : ∀ f ∈ M ++ B, irP hpn f ∧ pzMon f ∧ d + 1 ≤ pzS f := fun f hf => by
  rcases List.mem_append.mp hf with q | q
  · have := hM f q; exact ⟨this.1, this.2.1, by omega⟩
  · have := hB f q; exact ⟨this.1, this.2.1, by omega⟩
theorem sh_new {d : Nat} (hd : 1 ≤ d) {M B D : List (PZ (pn : Int))} {S l Z : PZ (pn : Int)} (hM : okB hpn d M) (hB : grB hpn (d + 1) B) (hl : lfP hpn l (M ++ B)) (hZ : cgL hpn l Z (GGP hpn d)) (hg : gcP hpn S l Z) (hD : dsP D M) : shP hpn S D := by
  letI := pzRing (hp0 hpn)
  have hS := (hg S).mp (dvR.rf (a := S))
  have hZ : dvR l (Z - GGP hpn d) := hZ
  refine (pz_fp hpn).share hd (mix_ir hpn hM hB) hl hS.1 ?_ ?_ hD.1 (fun x => ?_)
  · have h1 := hS.2.sub (hS.1.tr hZ)
    rw [show Z - (Z - GGP hpn d) = GGP hpn d by grind] at h1
    exact h1
  · intro c hc1 hc2
    refine (hg c).mpr ⟨hc1, ?_⟩
    have h1 := (show dvR c (GGP hpn d) from hc2).add (hc1.tr hZ)
    rw [show GGP hpn d + (Z - GGP hpn d) = Z by grind] at h1
    exact h1
  · rw [hD.2 x, List.mem_append]
    constructor
    · intro hx; exact ⟨Or.inl hx, (hM x hx).2.2⟩
    · rintro ⟨hx | hx, hs⟩
      · exact hx
      · have := (hB x hx).2.2; omega
theorem sh_sz {d : Nat} {M D : List (PZ (pn : Int))} {S : PZ (pn : Int)} (hM : okB hpn d M) (hD : dsP D M) (hS : shP hpn S D) : pzS S = d * D.length + 1 := by
  letI := pzRing (hp0 hpn)
  have E := pz_eu hpn
  obtain ⟨w, hw, e⟩ := hS
  have h1 := sz_prL E (d := d) (M := D) (fun f hf => ⟨(hM f ((hD.2 f).mp hf)).1, (hM f ((hD.2 f).mp hf)).2.2⟩)
  have h2 := E.2.1 (prL D) w h1.1 (fun e => by rw [e] at hw; obtain ⟨c, hc⟩ := hw; exact E.one0 (by rw [← hc]; grind))
  have h3 := E.un1 hw
  have e : S = prL D * w := e
  rw [e]; omega
theorem lf_out {d : Nat} {M M2 B D : List (PZ (pn : Int))} {S l t r : PZ (pn : Int)} (hM : okB hpn d M) (hB : grB hpn (d + 1) B) (hl : lfP hpn l (M ++ B)) (hD : dsP D M) (hp9 : M.Perm (D ++ M2)) (hS : shP hpn S D) (e : l = pzAdd (hp0 hpn) (pzMul (hp0 hpn) t S) r) (hr : pzS r < pzS S) : lfP hpn t (M2 ++ B) ∧ dvP hpn t l ∧ pzS t ≤ pzS l ∧ okB hpn d M2 := by
  letI := pzRing (hp0 hpn)
  have E := pz_eu hpn
  have hMi := mix_ir hpn hM hB
  have hl0 : lftR l (M ++ B) := hl
  have hl2 : lftR l (D ++ (M2 ++ B)) := lftR.pm hl0 (by rw [← List.append_assoc]; exact hp9.append_right B)
  have h1 : lftR t (M2 ++ B) := lftR.out E hl2 hS (fun f hf => (hM f ((hD.2 f).mp hf)).1) e hr
  have h2 : dvR t l := by
    obtain ⟨u, hu, e1⟩ := h1
    obtain ⟨u2, hu2, e2⟩ := hl2
    obtain ⟨v, hv⟩ := hu
    rw [prL_app] at e2
    exact ⟨v * u2 * prL D, by rw [e2, e1]; grind⟩
  exact ⟨h1, h2, E.dvsz h2 (hl0.n0 E (fun f hf => (hMi f hf).1)), fun f hf => hM f (hp9.mem_iff.mpr (List.mem_append_right _ hf))⟩
theorem lf_len {d : Nat} (hd : 1 ≤ d) {M B : List (PZ (pn : Int))} {l : PZ (pn : Int)} (hM : okB hpn d M) (hB : grB hpn (d + 1) B) (hl : lfP hpn l (M ++ B)) : M.length + 1 ≤ pzS l := by
  letI := pzRing (hp0 hpn)
  have E := pz_eu hpn
  have hMi := mix_ir hpn hM hB
  have hl0 : lftR l (M ++ B) := hl
  have h1 := hl0.sz E (fun f hf => (hMi f hf).1)
  have h2 := sz_prL E (d := d) (M := M) (fun f hf => ⟨(hM f hf).1, (hM f hf).2.2⟩)
  have h3 := prL_n0 E (M := M ++ B) (fun f hf => (hMi f hf).1)
  rw [prL_app] at h1 h3
  have h4 := E.dvsz (dvR.lf (a := prL M) (b := prL B)) h3
  have h5 : M.length ≤ d * M.length := Nat.le_mul_of_pos_left _ hd
  omega
theorem lf_nil {d k : Nat} {B : List (PZ (pn : Int))} {l : PZ (pn : Int)} (hB : grB hpn d B) (hl : lfP hpn l B) (hs : pzS l < d + 1) : B = [] := by
  letI := pzRing (hp0 hpn)
  match B, hB, hl with
  | [], _, _ => rfl
  | f :: B, hB, hl =>
    have h1 := lftR.le (pz_eu hpn) (show lftR l (f :: B) from hl) (fun g hg => (hB g hg).1) (List.mem_cons_self ..)
    have h2 := (hB f (List.mem_cons_self ..)).2.2
    omega
theorem ds_nil {D M : List (PZ (pn : Int))} (h : dsP D M) (e : D.length = 0) : M = [] := by
  have e2 : D = [] := List.eq_nil_of_length_eq_zero e
  match M, h with
  | [], _ => rfl
  | x :: M, h =>
    have := (h.2 x).mpr (List.mem_cons_self ..)
    rw [e2] at this
    simp at this
theorem pz_dg {f : Nat → Int} {dg : Int} {n : Nat} (h : POK (pn : Int) f dg) (e : pzS (pzT (hp0 hpn) f) = n + 1) : dg = (n : Int) := by
  rw [pzT_sz h] at e
  have := h.1
  omega
end LP
set_option maxHeartbeats 2000000 in
set_option maxRecDepth 20000 in
theorem c_X3_takeOut {N : Nat} {h : Hp} {Q : QP} {q pn : Nat} {al gr un : Int} (hpn : PrmN pn) (hpr : Prm (pn : Int)) (hq0 : h q = PAo q pn al gr un) (hN : q + 16 < N) {dL dZ dS dO dQ dP : Int} {fL fZ fS fO fQ fP : Nat → Int} {di ki : Int} {d k : Nat} {M B D : List (PZ (pn : Int))} (hxL : h (q + 1) = POo (q + 1) dL) (gxL : h (q + 1 + 1) = aI 13 fL) (hxZ : h (q + 11) = POo (q + 11) dZ) (gxZ : h (q + 11 + 1) = aI 13 fZ) (hxS : h (q + 13) = POo (q + 13) dS) (gxS : h (q + 13 + 1) = aI 13 fS) (hxO : h (q + 15) = POo (q + 15) dO) (gxO : h (q + 15 + 1) = aI 13 fO) (hxQ : h (q + 9) = POo (q + 9) dQ) (gxQ : h (q + 9 + 1) = aI 13 fQ) (hxP : h (q + 7) = POo (q + 7) dP) (gxP : h (q + 7 + 1) = aI 13 fP) (hPl : POK pn fL dL) (hdl : dL ≤ 6) (hPz : POK pn fZ dZ) (hdz : dZ ≤ 6) (hPs : POK pn fS dS) (zO : Z13 fO) (zQ : Z13 fQ) (zP : Z13 fP) (hd : 1 ≤ d) (hdi : di = (d : Int)) (hd6 : d ≤ 6) (hki : ki = (k : Int)) (hk6 : k ≤ 6) (hM : okB hpn d M) (hB : grB hpn (d + 1) B) (hl : lfP hpn (pzT (hp0 hpn) fL) (M ++ B)) (hD : dsP D M) (hS : shP hpn (pzT (hp0 hpn) fS) D) (hZ : cgL hpn (pzT (hp0 hpn) fL) (pzT (hp0 hpn) fZ) (GGP hpn d)) (hMk : M.length ≤ k) (hQ : ∀ (l2 s2 o2 q2 p2 : Nat → Int) (dl ds do_ dq dp : Int), POK pn l2 dl → dl ≤ 6 → lfP hpn (pzT (hp0 hpn) l2) B → dvP hpn (pzT (hp0 hpn) l2) (pzT (hp0 hpn) fL) → Z13 s2 → Z13 o2 → Z13 q2 → Z13 p2 → Q none N (hs (hs (hs (hs (hs (hs (hs (hs (hs (hs (hs h q (PAo q pn (al + (M.length : Int)) gr un)) (q + 15 + 1) (aI 13 o2)) (q + 15) (POo (q + 15) do_)) (q + 9 + 1) (aI 13 q2)) (q + 9) (POo (q + 9) dq)) (q + 1 + 1) (aI 13 l2)) (q + 1) (POo (q + 1) dl)) (q + 13 + 1) (aI 13 s2)) (q + 13) (POo (q + 13) ds)) (q + 7 + 1) (aI 13 p2)) (q + 7) (POo (q + 7) dp))) : Runs mX3_takeOut [.ref (q), .int (iZ (di)), .int (iZ (ki))] N h Q := by
  refine run_start (own := RX3) rfl (by decide) (nle rfl) rfl (fun X hq hini => ?_)
  show G X RX3 cX3_takeOut mX3_takeOut.rm N 0 0 0 [some (.ref (q)), some (.int (iZ (di))), some (.int (iZ (ki))), none] [] h
  refine r_iconst (z := 0) dX3_takeOut_0 ?_
  refine r_istore_n (L2 := [_, _, _, _]) dX3_takeOut_1 rfl (nlt rfl) rfl ?_
  have lp2 : ∀ (fu2 : Nat) (al1 : Int) (o1 : Nat → Int) (e1 : Int) (q1 : Nat → Int) (e2 : Int) (l1 : Nat → Int) (d1 : Int) (s1 : Nat → Int) (d2 : Int) (p1 : Nat → Int) (e3 : Int) (i : Int) (M1 : List (PZ (pn : Int))) (D1 : List (PZ (pn : Int))), (ki + 1 - i) < (fu2 : Int) → (0 ≤ i) → (i + (M1.length : Int) ≤ ki) → (al1 + (M1.length : Int) = al + (M.length : Int)) → (POK pn l1 d1) → (d1 ≤ 6) → (POK pn s1 d2) → (okB hpn d M1) → (lfP hpn (pzT (hp0 hpn) l1) (M1 ++ B)) → (dsP D1 M1) → (shP hpn (pzT (hp0 hpn) s1) D1) → (dvP hpn (pzT (hp0 hpn) l1) (pzT (hp0 hpn) fL)) → (Z13 o1) → (Z13 q1) → (Z13 p1) → G X RX3 cX3_takeOut mX3_takeOut.rm N 0 0 2 [some (.ref (q)), some (.int (iZ (di))), some (.int (iZ (ki))), some (.int (iZ (i)))] [] (hs (hs (hs (hs (hs (hs (hs (hs (hs (hs (hs h (q) (ob 3 [.ref (q + 1), .ref (q + 3), .ref (q + 5), .ref (q + 7), .ref (q + 9), .ref (q + 11), .ref (q + 13), .ref (q + 15), .int (iZ ((pn : Int))), .int (iZ (al1)), .int (iZ (gr)), .int (iZ (un))])) (q + 15 + 1) (aI 13 (o1))) (q + 15) (ob 4 [.ref (q + 15 + 1), .int (iZ (e1))])) (q + 9 + 1) (aI 13 (q1))) (q + 9) (ob 4 [.ref (q + 9 + 1), .int (iZ (e2))])) (q + 1 + 1) (aI 13 (l1))) (q + 1) (ob 4 [.ref (q + 1 + 1), .int (iZ (d1))])) (q + 13 + 1) (aI 13 (s1))) (q + 13) (ob 4 [.ref (q + 13 + 1), .int (iZ (d2))])) (q + 7 + 1) (aI 13 (p1))) (q + 7) (ob 4 [.ref (q + 7 + 1), .int (iZ (e3))])) := by
    intro fu2
    induction fu2 with
    | zero => intro al1 o1 e1 q1 e2 l1 d1 s1 d2 p1 e3 i M1 D1 hm i0 i1 i2 hPl1 hd1 hPs1 hM1 hl1 hD1 hS1 hdv1 zo1 zq1 zp1; exfalso; omega
    | succ fu2 ih2 =>
      intro al1 o1 e1 q1 e2 l1 d1 s1 d2 p1 e3 i M1 D1 hms2 i0 i1 i2 hPl1 hd1 hPs1 hM1 hl1 hD1 hS1 hdv1 zo1 zq1 zp1
      have ps1 := hPs1.1
      have ps2 := hPs1.2.1
      have pl1 := hPl1.1
      have hsz := sh_sz hpn hM1 hD1 hS1
      have hds := pz_dg hpn hPs1 hsz
      refine r_iload_n dX3_takeOut_2 rfl rfl ?_
      refine r_iload_n dX3_takeOut_3 rfl rfl ?_
      refine r_icmp_ge 86 dX3_takeOut_4 (by decide) ⟨by omega, by omega⟩ ⟨by omega, by omega⟩ (fun c_4 => ?_) (fun c_4 => ?_)
      · refine r_return hq dX3_takeOut_86 rfl rfl rfl ?_
        have hM0 : M1 = [] := List.eq_nil_of_length_eq_zero (by omega)
        rw [hM0] at hl1 i2
        have e8 : al1 = al + (M.length : Int) := by rw [← i2]; show al1 = al1 + (0 : Int); omega
        rw [e8]
        exact hQ l1 s1 o1 q1 p1 d1 d2 e1 e2 e3 hPl1 hd1 hl1 hdv1 hPs1.z zo1 zq1 zp1
      · refine r_aload_n dX3_takeOut_7 rfl rfl ?_
        refine gf_X3_33 dX3_takeOut_8 (by omega) ((hs_n (by omega)).trans ((hs_n (by omega)).trans ((hs_n (by omega)).trans ((hs_n (by omega)).trans ((hs_n (by omega)).trans ((hs_n (by omega)).trans ((hs_n (by omega)).trans ((hs_n (by omega)).trans ((hs_n (by omega)).trans ((hs_n (by omega)).trans hs_e)))))))))) rfl ?_
        refine gf_X3_64 dX3_takeOut_11 (by omega) ((hs_n (by omega)).trans ((hs_n (by omega)).trans hs_e)) rfl ?_
        refine r_if_le 86 dX3_takeOut_14 (by decide) ⟨by omega, by omega⟩ (fun c_14 => ?_) (fun c_14 => ?_)
        · refine r_return hq dX3_takeOut_86 rfl rfl rfl ?_
          have hM0 : M1 = [] := ds_nil hD1 (by
            rcases Nat.eq_zero_or_pos D1.length with z | z
            · exact z
            · have := Nat.mul_le_mul hd z
              omega)
          rw [hM0] at hl1 i2
          have e8 : al1 = al + (M.length : Int) := by rw [← i2]; show al1 = al1 + (0 : Int); omega
          rw [e8]
          exact hQ l1 s1 o1 q1 p1 d1 d2 e1 e2 e3 hPl1 hd1 hl1 hdv1 hPs1.z zo1 zq1 zp1
        · refine r_aload_n dX3_takeOut_17 rfl rfl ?_
          refine r_dup dX3_takeOut_18 rfl ?_
          refine gf_X3_43 dX3_takeOut_19 (by omega) ((hs_n (by omega)).trans ((hs_n (by omega)).trans ((hs_n (by omega)).trans ((hs_n (by omega)).trans ((hs_n (by omega)).trans ((hs_n (by omega)).trans ((hs_n (by omega)).trans ((hs_n (by omega)).trans ((hs_n (by omega)).trans ((hs_n (by omega)).trans hs_e)))))))))) rfl ?_
          refine r_aload_n dX3_takeOut_22 rfl rfl ?_
          refine gf_X3_33 dX3_takeOut_23 (by omega) ((hs_n (by omega)).trans ((hs_n (by omega)).trans ((hs_n (by omega)).trans ((hs_n (by omega)).trans ((hs_n (by omega)).trans ((hs_n (by omega)).trans ((hs_n (by omega)).trans ((hs_n (by omega)).trans ((hs_n (by omega)).trans ((hs_n (by omega)).trans hs_e)))))))))) rfl ?_
          refine gf_X3_64 dX3_takeOut_26 (by omega) ((hs_n (by omega)).trans ((hs_n (by omega)).trans hs_e)) rfl ?_
          refine r_iload_n dX3_takeOut_29 rfl rfl ?_
          refine r_idivp dX3_takeOut_30 ⟨by omega, by omega⟩ ⟨by omega, by omega⟩ (by omega) (by omega) ?_
          refine r_iadd dX3_takeOut_31 ?_
          have hdd : d2 / di = (D1.length : Int) := by rw [hds, hdi, Int.natCast_mul, Int.mul_ediv_cancel_left _ (by omega)]
          refine pf_X3_43 (fs2 := [_, _, _, _, _, _, _, _, _, _, _, _]) dX3_takeOut_32 (fun _ _ => rfl) (fun _ _ => rfl) (nlt rfl) (by omega) ((hs_n (by omega)).trans ((hs_n (by omega)).trans ((hs_n (by omega)).trans ((hs_n (by omega)).trans ((hs_n (by omega)).trans ((hs_n (by omega)).trans ((hs_n (by omega)).trans ((hs_n (by omega)).trans ((hs_n (by omega)).trans ((hs_n (by omega)).trans hs_e)))))))))) rfl ?_
          refine g_heap (h2 := (hs (hs (hs (hs (hs (hs (hs (hs (hs (hs (hs h (q) (ob 3 [.ref (q + 1), .ref (q + 3), .ref (q + 5), .ref (q + 7), .ref (q + 9), .ref (q + 11), .ref (q + 13), .ref (q + 15), .int (iZ ((pn : Int))), .int (iZ (al1 + (d2 / di))), .int (iZ (gr)), .int (iZ (un))])) (q + 15 + 1) (aI 13 (o1))) (q + 15) (ob 4 [.ref (q + 15 + 1), .int (iZ (e1))])) (q + 9 + 1) (aI 13 (q1))) (q + 9) (ob 4 [.ref (q + 9 + 1), .int (iZ (e2))])) (q + 1 + 1) (aI 13 (l1))) (q + 1) (ob 4 [.ref (q + 1 + 1), .int (iZ (d1))])) (q + 13 + 1) (aI 13 (s1))) (q + 13) (ob 4 [.ref (q + 13 + 1), .int (iZ (d2))])) (q + 7 + 1) (aI 13 (p1))) (q + 7) (ob 4 [.ref (q + 7 + 1), .int (iZ (e3))]))) (hs_put (by omega) (hs_put (by omega) (hs_put (by omega) (hs_put (by omega) (hs_put (by omega) (hs_put (by omega) (hs_put (by omega) (hs_put (by omega) (hs_put (by omega) (hs_put (by omega) hs_hs)))))))))) ?_
          refine r_aload_n dX3_takeOut_35 rfl rfl ?_
          refine gf_X3_36 dX3_takeOut_36 (by omega) ((hs_n (by omega)).trans ((hs_n (by omega)).trans ((hs_n (by omega)).trans ((hs_n (by omega)).trans ((hs_n (by omega)).trans ((hs_n (by omega)).trans ((hs_n (by omega)).trans ((hs_n (by omega)).trans ((hs_n (by omega)).trans ((hs_n (by omega)).trans hs_e)))))))))) rfl ?_
          refine r_aload_n dX3_takeOut_39 rfl rfl ?_
          refine gf_X3_12 dX3_takeOut_40 (by omega) ((hs_n (by omega)).trans ((hs_n (by omega)).trans ((hs_n (by omega)).trans ((hs_n (by omega)).trans ((hs_n (by omega)).trans ((hs_n (by omega)).trans ((hs_n (by omega)).trans ((hs_n (by omega)).trans ((hs_n (by omega)).trans ((hs_n (by omega)).trans hs_e)))))))))) rfl ?_
          refine r_callV (av := [.ref (q + 1)]) dX3_takeOut_43 lkX4_become ml_X3_70 imX4_become seX4_become (by omega) (rfl : vwCl[4]? = _) ⟨_, ((hs_n (by omega)).trans ((hs_n (by omega)).trans ((hs_n (by omega)).trans ((hs_n (by omega)).trans ((hs_n (by omega)).trans ((hs_n (by omega)).trans ((hs_n (by omega)).trans ((hs_n (by omega)).trans hs_e))))))))⟩ ⟨Nat.le_of_ble_eq_true rfl, Nat.le_of_ble_eq_true rfl⟩ rfl rfl (nle rfl) ⟨Nat.le_of_ble_eq_true rfl, Nat.le_of_ble_eq_true rfl⟩ (c_X4_become (r := q + 15) (v := q + 1) (dg := e1) (dv := d1) (f := o1) (g := l1) ((hs_n (by omega)).trans ((hs_n (by omega)).trans ((hs_n (by omega)).trans ((hs_n (by omega)).trans ((hs_n (by omega)).trans ((hs_n (by omega)).trans ((hs_n (by omega)).trans ((hs_n (by omega)).trans hs_e)))))))) ((hs_n (by omega)).trans ((hs_n (by omega)).trans ((hs_n (by omega)).trans ((hs_n (by omega)).trans ((hs_n (by omega)).trans ((hs_n (by omega)).trans ((hs_n (by omega)).trans ((hs_n (by omega)).trans ((hs_n (by omega)).trans hs_e))))))))) (by omega) ((hs_n (by omega)).trans ((hs_n (by omega)).trans ((hs_n (by omega)).trans ((hs_n (by omega)).trans hs_e)))) ((hs_n (by omega)).trans ((hs_n (by omega)).trans ((hs_n (by omega)).trans ((hs_n (by omega)).trans ((hs_n (by omega)).trans hs_e))))) (by omega) (by omega) zo1 hPl1.z ?_)
          refine g_heap (h2 := (hs (hs (hs (hs (hs (hs (hs (hs (hs (hs (hs h (q) (ob 3 [.ref (q + 1), .ref (q + 3), .ref (q + 5), .ref (q + 7), .ref (q + 9), .ref (q + 11), .ref (q + 13), .ref (q + 15), .int (iZ ((pn : Int))), .int (iZ (al1 + (d2 / di))), .int (iZ (gr)), .int (iZ (un))])) (q + 15 + 1) (aI 13 (l1))) (q + 15) (ob 4 [.ref (q + 15 + 1), .int (iZ (d1))])) (q + 9 + 1) (aI 13 (q1))) (q + 9) (ob 4 [.ref (q + 9 + 1), .int (iZ (e2))])) (q + 1 + 1) (aI 13 (l1))) (q + 1) (ob 4 [.ref (q + 1 + 1), .int (iZ (d1))])) (q + 13 + 1) (aI 13 (s1))) (q + 13) (ob 4 [.ref (q + 13 + 1), .int (iZ (d2))])) (q + 7 + 1) (aI 13 (p1))) (q + 7) (ob 4 [.ref (q + 7 + 1), .int (iZ (e3))]))) ((congrArg (fun x9 => hs x9 (q + 15) (ob 4 [.ref (q + 15 + 1), .int (iZ (d1))])) (hs_put (by omega) (hs_put (by omega) (hs_put (by omega) (hs_put (by omega) (hs_put (by omega) (hs_put (by omega) (hs_put (by omega) (hs_put (by omega) (hs_put (by omega) hs_hs)))))))))).trans (hs_put (by omega) (hs_put (by omega) (hs_put (by omega) (hs_put (by omega) (hs_put (by omega) (hs_put (by omega) (hs_put (by omega) (hs_put (by omega) hs_hs))))))))) ?_
          show G _ _ _ _ _ _ _ 46 _ _ _
          refine r_aload_n dX3_takeOut_46 rfl rfl ?_
          refine gf_X3_36 dX3_takeOut_47 (by omega) ((hs_n (by omega)).trans ((hs_n (by omega)).trans ((hs_n (by omega)).trans ((hs_n (by omega)).trans ((hs_n (by omega)).trans ((hs_n (by omega)).trans ((hs_n (by omega)).trans ((hs_n (by omega)).trans ((hs_n (by omega)).trans ((hs_n (by omega)).trans hs_e)))))))))) rfl ?_
          refine r_aload_n dX3_takeOut_50 rfl rfl ?_
          refine gf_X3_33 dX3_takeOut_51 (by omega) ((hs_n (by omega)).trans ((hs_n (by omega)).trans ((hs_n (by omega)).trans ((hs_n (by omega)).trans ((hs_n (by omega)).trans ((hs_n (by omega)).trans ((hs_n (by omega)).trans ((hs_n (by omega)).trans ((hs_n (by omega)).trans ((hs_n (by omega)).trans hs_e)))))))))) rfl ?_
          refine r_aload_n dX3_takeOut_54 rfl rfl ?_
          refine gf_X3_39 dX3_takeOut_55 (by omega) ((hs_n (by omega)).trans ((hs_n (by omega)).trans ((hs_n (by omega)).trans ((hs_n (by omega)).trans ((hs_n (by omega)).trans ((hs_n (by omega)).trans ((hs_n (by omega)).trans ((hs_n (by omega)).trans ((hs_n (by omega)).trans ((hs_n (by omega)).trans hs_e)))))))))) rfl ?_
          refine r_aload_n dX3_takeOut_58 rfl rfl ?_
          refine gf_X3_27 dX3_takeOut_59 (by omega) ((hs_n (by omega)).trans ((hs_n (by omega)).trans ((hs_n (by omega)).trans ((hs_n (by omega)).trans ((hs_n (by omega)).trans ((hs_n (by omega)).trans ((hs_n (by omega)).trans ((hs_n (by omega)).trans ((hs_n (by omega)).trans ((hs_n (by omega)).trans hs_e)))))))))) rfl ?_
          refine r_callV (av := [.ref (q + 13), .int (iZ ((pn : Int))), .ref (q + 9)]) dX3_takeOut_62 lkX4_divideBy ml_X3_85 imX4_divideBy seX4_divideBy (by omega) (rfl : vwCl[4]? = _) ⟨_, ((hs_n (by omega)).trans ((hs_n (by omega)).trans ((hs_n (by omega)).trans ((hs_n (by omega)).trans ((hs_n (by omega)).trans ((hs_n (by omega)).trans ((hs_n (by omega)).trans ((hs_n (by omega)).trans hs_e))))))))⟩ ⟨Nat.le_of_ble_eq_true rfl, Nat.le_of_ble_eq_true rfl⟩ rfl rfl (nle rfl) ⟨Nat.le_of_ble_eq_true rfl, Nat.le_of_ble_eq_true rfl⟩ (c_X4_divideBy (r := q + 15) (v := q + 13) (u := q + 9) (dg := d1) (dv := d2) (du := e2) (p := (pn : Int)) (f := l1) (g := s1) (e := q1) ((hs_n (by omega)).trans ((hs_n (by omega)).trans ((hs_n (by omega)).trans ((hs_n (by omega)).trans ((hs_n (by omega)).trans ((hs_n (by omega)).trans ((hs_n (by omega)).trans ((hs_n (by omega)).trans hs_e)))))))) ((hs_n (by omega)).trans ((hs_n (by omega)).trans ((hs_n (by omega)).trans ((hs_n (by omega)).trans ((hs_n (by omega)).trans ((hs_n (by omega)).trans ((hs_n (by omega)).trans ((hs_n (by omega)).trans ((hs_n (by omega)).trans hs_e))))))))) (by omega) ((hs_n (by omega)).trans ((hs_n (by omega)).trans hs_e)) ((hs_n (by omega)).trans ((hs_n (by omega)).trans ((hs_n (by omega)).trans hs_e))) (by omega) (by omega) ((hs_n (by omega)).trans ((hs_n (by omega)).trans ((hs_n (by omega)).trans ((hs_n (by omega)).trans ((hs_n (by omega)).trans ((hs_n (by omega)).trans hs_e)))))) ((hs_n (by omega)).trans ((hs_n (by omega)).trans ((hs_n (by omega)).trans ((hs_n (by omega)).trans ((hs_n (by omega)).trans ((hs_n (by omega)).trans ((hs_n (by omega)).trans hs_e))))))) (by omega) (by omega) (by omega) zq1 hpr hPl1 hPs1 (by omega) (fun qf62 rf62 dq62 dr62 hPq62 hPr62 hd162 hd262 hDV62 => ?_))
          refine g_heap (h2 := (hs (hs (hs (hs (hs (hs (hs (hs (hs (hs (hs h (q) (ob 3 [.ref (q + 1), .ref (q + 3), .ref (q + 5), .ref (q + 7), .ref (q + 9), .ref (q + 11), .ref (q + 13), .ref (q + 15), .int (iZ ((pn : Int))), .int (iZ (al1 + (d2 / di))), .int (iZ (gr)), .int (iZ (un))])) (q + 15 + 1) (aI 13 (rf62))) (q + 15) (ob 4 [.ref (q + 15 + 1), .int (iZ (dr62))])) (q + 9 + 1) (aI 13 (qf62))) (q + 9) (ob 4 [.ref (q + 9 + 1), .int (iZ (dq62))])) (q + 1 + 1) (aI 13 (l1))) (q + 1) (ob 4 [.ref (q + 1 + 1), .int (iZ (d1))])) (q + 13 + 1) (aI 13 (s1))) (q + 13) (ob 4 [.ref (q + 13 + 1), .int (iZ (d2))])) (q + 7 + 1) (aI 13 (p1))) (q + 7) (ob 4 [.ref (q + 7 + 1), .int (iZ (e3))]))) ((congrArg (fun x9 => hs x9 (q + 15) (ob 4 [.ref (q + 15 + 1), .int (iZ (dr62))])) ((congrArg (fun x9 => hs x9 (q + 15 + 1) (aI 13 (rf62))) ((congrArg (fun x9 => hs x9 (q + 9) (ob 4 [.ref (q + 9 + 1), .int (iZ (dq62))])) (hs_put (by omega) (hs_put (by omega) (hs_put (by omega) (hs_put (by omega) (hs_put (by omega) (hs_put (by omega) (hs_put (by omega) hs_hs)))))))).trans (hs_put (by omega) (hs_put (by omega) (hs_put (by omega) (hs_put (by omega) (hs_put (by omega) (hs_put (by omega) hs_hs)))))))).trans (hs_put (by omega) (hs_put (by omega) (hs_put (by omega) (hs_put (by omega) (hs_put (by omega) (hs_put (by omega) (hs_put (by omega) (hs_put (by omega) (hs_put (by omega) hs_hs))))))))))).trans (hs_put (by omega) (hs_put (by omega) (hs_put (by omega) (hs_put (by omega) (hs_put (by omega) (hs_put (by omega) (hs_put (by omega) (hs_put (by omega) hs_hs))))))))) ?_
          show G _ _ _ _ _ _ _ 65 _ _ _
          obtain ⟨DD, M2, hn9, hm9, hp9⟩ := ex_dd M1
          have hpD : DD.length = D1.length := List.Perm.length_eq ((List.perm_ext_iff_of_nodup hn9 hD1.1).mpr (fun x => (hm9 x).trans (hD1.2 x).symm))
          have hp8 : M1.Perm (D1 ++ M2) := hp9.trans (((List.perm_ext_iff_of_nodup hn9 hD1.1).mpr (fun x => (hm9 x).trans (hD1.2 x).symm)).append_right M2)
          have hlo := lf_out hpn hM1 hB hl1 hD1 hp8 hS1 (pzT_div hPl1 hPs1 hPq62 hPr62 hDV62) (by rw [pzT_sz hPr62, pzT_sz hPs1]; omega)
          have hlen : M1.length = D1.length + M2.length := by rw [hp8.length_eq, List.length_append]
          have hs9 := hlo.2.2.1
          rw [pzT_sz hPq62, pzT_sz hPl1] at hs9
          have hd9 : 1 ≤ D1.length := by
            refine Nat.one_le_iff_ne_zero.mpr fun z => ?_
            rw [z, Nat.mul_zero] at hds
            omega
          obtain ⟨D2, Mx, hn7, hm7, _⟩ := ex_dd M2
          have hD2 : dsP D2 M2 := ⟨hn7, hm7⟩
          refine r_aload_n dX3_takeOut_65 rfl rfl ?_
          refine gf_X3_12 dX3_takeOut_66 (by omega) ((hs_n (by omega)).trans ((hs_n (by omega)).trans ((hs_n (by omega)).trans ((hs_n (by omega)).trans ((hs_n (by omega)).trans ((hs_n (by omega)).trans ((hs_n (by omega)).trans ((hs_n (by omega)).trans ((hs_n (by omega)).trans ((hs_n (by omega)).trans hs_e)))))))))) rfl ?_
          refine r_aload_n dX3_takeOut_69 rfl rfl ?_
          refine gf_X3_27 dX3_takeOut_70 (by omega) ((hs_n (by omega)).trans ((hs_n (by omega)).trans ((hs_n (by omega)).trans ((hs_n (by omega)).trans ((hs_n (by omega)).trans ((hs_n (by omega)).trans ((hs_n (by omega)).trans ((hs_n (by omega)).trans ((hs_n (by omega)).trans ((hs_n (by omega)).trans hs_e)))))))))) rfl ?_
          refine r_callV (av := [.ref (q + 9)]) dX3_takeOut_73 lkX4_become ml_X3_70 imX4_become seX4_become (by omega) (rfl : vwCl[4]? = _) ⟨_, ((hs_n (by omega)).trans ((hs_n (by omega)).trans ((hs_n (by omega)).trans ((hs_n (by omega)).trans hs_e))))⟩ ⟨Nat.le_of_ble_eq_true rfl, Nat.le_of_ble_eq_true rfl⟩ rfl rfl (nle rfl) ⟨Nat.le_of_ble_eq_true rfl, Nat.le_of_ble_eq_true rfl⟩ (c_X4_become (r := q + 1) (v := q + 9) (dg := d1) (dv := dq62) (f := l1) (g := qf62) ((hs_n (by omega)).trans ((hs_n (by omega)).trans ((hs_n (by omega)).trans ((hs_n (by omega)).trans hs_e)))) ((hs_n (by omega)).trans ((hs_n (by omega)).trans ((hs_n (by omega)).trans ((hs_n (by omega)).trans ((hs_n (by omega)).trans hs_e))))) (by omega) ((hs_n (by omega)).trans ((hs_n (by omega)).trans ((hs_n (by omega)).trans ((hs_n (by omega)).trans ((hs_n (by omega)).trans ((hs_n (by omega)).trans hs_e)))))) ((hs_n (by omega)).trans ((hs_n (by omega)).trans ((hs_n (by omega)).trans ((hs_n (by omega)).trans ((hs_n (by omega)).trans ((hs_n (by omega)).trans ((hs_n (by omega)).trans hs_e))))))) (by omega) (by omega) hPl1.z hPq62.z ?_)
          refine g_heap (h2 := (hs (hs (hs (hs (hs (hs (hs (hs (hs (hs (hs h (q) (ob 3 [.ref (q + 1), .ref (q + 3), .ref (q + 5), .ref (q + 7), .ref (q + 9), .ref (q + 11), .ref (q + 13), .ref (q + 15), .int (iZ ((pn : Int))), .int (iZ (al1 + (d2 / di))), .int (iZ (gr)), .int (iZ (un))])) (q + 15 + 1) (aI 13 (rf62))) (q + 15) (ob 4 [.ref (q + 15 + 1), .int (iZ (dr62))])) (q + 9 + 1) (aI 13 (qf62))) (q + 9) (ob 4 [.ref (q + 9 + 1), .int (iZ (dq62))])) (q + 1 + 1) (aI 13 (qf62))) (q + 1) (ob 4 [.ref (q + 1 + 1), .int (iZ (dq62))])) (q + 13 + 1) (aI 13 (s1))) (q + 13) (ob 4 [.ref (q + 13 + 1), .int (iZ (d2))])) (q + 7 + 1) (aI 13 (p1))) (q + 7) (ob 4 [.ref (q + 7 + 1), .int (iZ (e3))]))) ((congrArg (fun x9 => hs x9 (q + 1) (ob 4 [.ref (q + 1 + 1), .int (iZ (dq62))])) (hs_put (by omega) (hs_put (by omega) (hs_put (by omega) (hs_put (by omega) (hs_put (by omega) hs_hs)))))).trans (hs_put (by omega) (hs_put (by omega) (hs_put (by omega) (hs_put (by omega) hs_hs))))) ?_
          show G _ _ _ _ _ _ _ 76 _ _ _
          refine r_aload_n dX3_takeOut_76 rfl rfl ?_
          refine r_callV (av := []) dX3_takeOut_77 lkX3_share ml_X3_78 imX3_share seX3_share (by omega) (rfl : vwCl[3]? = _) ⟨_, ((hs_n (by omega)).trans ((hs_n (by omega)).trans ((hs_n (by omega)).trans ((hs_n (by omega)).trans ((hs_n (by omega)).trans ((hs_n (by omega)).trans ((hs_n (by omega)).trans ((hs_n (by omega)).trans ((hs_n (by omega)).trans ((hs_n (by omega)).trans hs_e))))))))))⟩ ⟨Nat.le_of_ble_eq_true rfl, Nat.le_of_ble_eq_true rfl⟩ rfl rfl (nle rfl) ⟨Nat.le_of_ble_eq_true rfl, Nat.le_of_ble_eq_true rfl⟩ (c_X3_share (pn := pn) (al := al1 + (d2 / di)) (gr := gr) (un := un) (fL := qf62) (dL := dq62) (fZ := fZ) (dZ := dZ) (fS := s1) (dS := d2) (fO := rf62) (dO := dr62) (fQ := qf62) (dQ := dq62) (fP := p1) (dP := e3) hpn hpr ((hs_n (by omega)).trans ((hs_n (by omega)).trans ((hs_n (by omega)).trans ((hs_n (by omega)).trans ((hs_n (by omega)).trans ((hs_n (by omega)).trans ((hs_n (by omega)).trans ((hs_n (by omega)).trans ((hs_n (by omega)).trans ((hs_n (by omega)).trans hs_e)))))))))) (by omega) ((hs_n (by omega)).trans ((hs_n (by omega)).trans ((hs_n (by omega)).trans ((hs_n (by omega)).trans hs_e)))) ((hs_n (by omega)).trans ((hs_n (by omega)).trans ((hs_n (by omega)).trans ((hs_n (by omega)).trans ((hs_n (by omega)).trans hs_e))))) ((hs_n (by omega)).trans ((hs_n (by omega)).trans ((hs_n (by omega)).trans ((hs_n (by omega)).trans ((hs_n (by omega)).trans ((hs_n (by omega)).trans ((hs_n (by omega)).trans ((hs_n (by omega)).trans ((hs_n (by omega)).trans ((hs_n (by omega)).trans ((hs_n (by omega)).trans hxZ))))))))))) ((hs_n (by omega)).trans ((hs_n (by omega)).trans ((hs_n (by omega)).trans ((hs_n (by omega)).trans ((hs_n (by omega)).trans ((hs_n (by omega)).trans ((hs_n (by omega)).trans ((hs_n (by omega)).trans ((hs_n (by omega)).trans ((hs_n (by omega)).trans ((hs_n (by omega)).trans gxZ))))))))))) ((hs_n (by omega)).trans ((hs_n (by omega)).trans hs_e)) ((hs_n (by omega)).trans ((hs_n (by omega)).trans ((hs_n (by omega)).trans hs_e))) ((hs_n (by omega)).trans ((hs_n (by omega)).trans ((hs_n (by omega)).trans ((hs_n (by omega)).trans ((hs_n (by omega)).trans ((hs_n (by omega)).trans ((hs_n (by omega)).trans ((hs_n (by omega)).trans hs_e)))))))) ((hs_n (by omega)).trans ((hs_n (by omega)).trans ((hs_n (by omega)).trans ((hs_n (by omega)).trans ((hs_n (by omega)).trans ((hs_n (by omega)).trans ((hs_n (by omega)).trans ((hs_n (by omega)).trans ((hs_n (by omega)).trans hs_e))))))))) ((hs_n (by omega)).trans ((hs_n (by omega)).trans ((hs_n (by omega)).trans ((hs_n (by omega)).trans ((hs_n (by omega)).trans ((hs_n (by omega)).trans hs_e)))))) ((hs_n (by omega)).trans ((hs_n (by omega)).trans ((hs_n (by omega)).trans ((hs_n (by omega)).trans ((hs_n (by omega)).trans ((hs_n (by omega)).trans ((hs_n (by omega)).trans hs_e))))))) hs_e ((hs_n (by omega)).trans hs_e) hPq62 hPz (by omega) hPs1.z hPr62.z hPq62.z zp1 (fun s77 o77 q77 p77 ds77 do77 dq77 dp77 hPs77 hgc77 zo77 zq77 zp77 => ?_))
          refine g_heap (h2 := (hs (hs (hs (hs (hs (hs (hs (hs (hs (hs (hs h (q) (ob 3 [.ref (q + 1), .ref (q + 3), .ref (q + 5), .ref (q + 7), .ref (q + 9), .ref (q + 11), .ref (q + 13), .ref (q + 15), .int (iZ ((pn : Int))), .int (iZ (al1 + (d2 / di))), .int (iZ (gr)), .int (iZ (un))])) (q + 15 + 1) (aI 13 (o77))) (q + 15) (ob 4 [.ref (q + 15 + 1), .int (iZ (do77))])) (q + 9 + 1) (aI 13 (q77))) (q + 9) (ob 4 [.ref (q + 9 + 1), .int (iZ (dq77))])) (q + 1 + 1) (aI 13 (qf62))) (q + 1) (ob 4 [.ref (q + 1 + 1), .int (iZ (dq62))])) (q + 13 + 1) (aI 13 (s77))) (q + 13) (ob 4 [.ref (q + 13 + 1), .int (iZ (ds77))])) (q + 7 + 1) (aI 13 (p77))) (q + 7) (ob 4 [.ref (q + 7 + 1), .int (iZ (dp77))]))) ((congrArg (fun x9 => hs x9 (q + 7) (ob 4 [.ref (q + 7 + 1), .int (iZ (dp77))])) ((congrArg (fun x9 => hs x9 (q + 7 + 1) (aI 13 (p77))) ((congrArg (fun x9 => hs x9 (q + 9) (ob 4 [.ref (q + 9 + 1), .int (iZ (dq77))])) ((congrArg (fun x9 => hs x9 (q + 9 + 1) (aI 13 (q77))) ((congrArg (fun x9 => hs x9 (q + 15) (ob 4 [.ref (q + 15 + 1), .int (iZ (do77))])) ((congrArg (fun x9 => hs x9 (q + 15 + 1) (aI 13 (o77))) ((congrArg (fun x9 => hs x9 (q + 13) (ob 4 [.ref (q + 13 + 1), .int (iZ (ds77))])) (hs_put (by omega) (hs_put (by omega) (hs_put (by omega) hs_hs)))).trans (hs_put (by omega) (hs_put (by omega) hs_hs)))).trans (hs_put (by omega) (hs_put (by omega) (hs_put (by omega) (hs_put (by omega) (hs_put (by omega) (hs_put (by omega) (hs_put (by omega) (hs_put (by omega) (hs_put (by omega) hs_hs))))))))))).trans (hs_put (by omega) (hs_put (by omega) (hs_put (by omega) (hs_put (by omega) (hs_put (by omega) (hs_put (by omega) (hs_put (by omega) (hs_put (by omega) hs_hs)))))))))).trans (hs_put (by omega) (hs_put (by omega) (hs_put (by omega) (hs_put (by omega) (hs_put (by omega) (hs_put (by omega) (hs_put (by omega) hs_hs))))))))).trans (hs_put (by omega) (hs_put (by omega) (hs_put (by omega) (hs_put (by omega) (hs_put (by omega) (hs_put (by omega) hs_hs)))))))).trans (hs_put (by omega) hs_hs))).trans hs_hs) ?_
          show G _ _ _ _ _ _ _ 80 _ _ _
          refine r_iinc (L2 := [_, _, _, _]) dX3_takeOut_80 (nlt rfl) rfl rfl ?_
          refine r_goto 2 dX3_takeOut_83 (by decide) ?_
          exact ih2 (al1 + (d2 / di)) (o77) (do77) (q77) (dq77) (qf62) (dq62) (s77) (ds77) (p77) (dp77) (i + 1) (M2) (D2) (by omega) (by omega) (by omega) (by omega) hPq62 (by omega) hPs77 hlo.2.2.2 hlo.1 hD2 (sh_new hpn hd hlo.2.2.2 hB hlo.1 (hZ.dv (@dvR.tr _ (pzRing (hp0 hpn)) _ _ _ hlo.2.1 hdv1)) hgc77 hD2) (@dvR.tr _ (pzRing (hp0 hpn)) _ _ _ hlo.2.1 hdv1) zo77 zq77 zp77
  refine g_heap (hs_id (c := ob 3 [.ref (q + 1), .ref (q + 3), .ref (q + 5), .ref (q + 7), .ref (q + 9), .ref (q + 11), .ref (q + 13), .ref (q + 15), .int (iZ ((pn : Int))), .int (iZ (al)), .int (iZ (gr)), .int (iZ (un))]) hq0).symm ?_
  refine g_heap (hs_id (c := aI 13 (fO)) ((hs_n (by omega)).trans gxO)).symm ?_
  refine g_heap (hs_id (c := ob 4 [.ref (q + 15 + 1), .int (iZ (dO))]) ((hs_n (by omega)).trans ((hs_n (by omega)).trans hxO))).symm ?_
  refine g_heap (hs_id (c := aI 13 (fQ)) ((hs_n (by omega)).trans ((hs_n (by omega)).trans ((hs_n (by omega)).trans gxQ)))).symm ?_
  refine g_heap (hs_id (c := ob 4 [.ref (q + 9 + 1), .int (iZ (dQ))]) ((hs_n (by omega)).trans ((hs_n (by omega)).trans ((hs_n (by omega)).trans ((hs_n (by omega)).trans hxQ))))).symm ?_
  refine g_heap (hs_id (c := aI 13 (fL)) ((hs_n (by omega)).trans ((hs_n (by omega)).trans ((hs_n (by omega)).trans ((hs_n (by omega)).trans ((hs_n (by omega)).trans gxL)))))).symm ?_
  refine g_heap (hs_id (c := ob 4 [.ref (q + 1 + 1), .int (iZ (dL))]) ((hs_n (by omega)).trans ((hs_n (by omega)).trans ((hs_n (by omega)).trans ((hs_n (by omega)).trans ((hs_n (by omega)).trans ((hs_n (by omega)).trans hxL))))))).symm ?_
  refine g_heap (hs_id (c := aI 13 (fS)) ((hs_n (by omega)).trans ((hs_n (by omega)).trans ((hs_n (by omega)).trans ((hs_n (by omega)).trans ((hs_n (by omega)).trans ((hs_n (by omega)).trans ((hs_n (by omega)).trans gxS)))))))).symm ?_
  refine g_heap (hs_id (c := ob 4 [.ref (q + 13 + 1), .int (iZ (dS))]) ((hs_n (by omega)).trans ((hs_n (by omega)).trans ((hs_n (by omega)).trans ((hs_n (by omega)).trans ((hs_n (by omega)).trans ((hs_n (by omega)).trans ((hs_n (by omega)).trans ((hs_n (by omega)).trans hxS))))))))).symm ?_
  refine g_heap (hs_id (c := aI 13 (fP)) ((hs_n (by omega)).trans ((hs_n (by omega)).trans ((hs_n (by omega)).trans ((hs_n (by omega)).trans ((hs_n (by omega)).trans ((hs_n (by omega)).trans ((hs_n (by omega)).trans ((hs_n (by omega)).trans ((hs_n (by omega)).trans gxP)))))))))).symm ?_
  refine g_heap (hs_id (c := ob 4 [.ref (q + 7 + 1), .int (iZ (dP))]) ((hs_n (by omega)).trans ((hs_n (by omega)).trans ((hs_n (by omega)).trans ((hs_n (by omega)).trans ((hs_n (by omega)).trans ((hs_n (by omega)).trans ((hs_n (by omega)).trans ((hs_n (by omega)).trans ((hs_n (by omega)).trans ((hs_n (by omega)).trans hxP))))))))))).symm ?_
  exact lp2 ((ki + 1 : Int) + 1).toNat (al) (fO) (dO) (fQ) (dQ) (fL) (dL) (fS) (dS) (fP) (dP) (0) (M) (D) (by omega) (by decide) (by omega) rfl hPl hdl hPs hM hl hD hS (@dvR.rf _ (pzRing (hp0 hpn)) _) zO zQ zP
