def qnf (w : Nat → Int) (n : Nat) : Nat → Int := fun t => if t < n then w t else 0
def gcut (g : Nat → Int) (d : Nat) : Nat → Int := fun j => if j ≤ d then g j else 0
def GH (p : Int) (f g w : Nat → Int) (d D n : Nat) : Prop := ∀ m, m ≤ D → cg p (f m) (conv (qnf w n) (gcut g d) m + (if n ≤ m then w m else 0))
theorem GH.zero {p : Int} {f g w : Nat → Int} {d D : Nat} (h : ∀ t, t ≤ D → w t = f t) : GH p f g w d D 0 := fun m hm => by
  have e : conv (qnf w 0) (gcut g d) m = 0 := sm_nil (fun j _ => by show (if j < 0 then w j else 0) * _ = 0; rw [if_neg (Nat.not_lt_zero j), Int.zero_mul])
  rw [e, if_pos (Nat.zero_le m), h m hm, Int.zero_add]
  exact cg.rf
theorem GH.step {p : Int} {f g w w3 : Nat → Int} {d D n : Nat} (h : GH p f g w d D n) (hg0 : g 0 = 1) (hn : n + d ≤ D) (h3 : ∀ t, t ≤ D → w3 t = if n < t ∧ t ≤ n + d then (w t - w n * g (t - n)) % p else w t) : GH p f g w3 d D (n + 1) := fun m hm => by
  have e1 : conv (qnf w3 (n + 1)) (gcut g d) m = conv (qnf w n) (gcut g d) m + (if n ≤ m then w n * gcut g d (m - n) else 0) := by
    have e2 : qnf w3 (n + 1) = fun t => qnf w n t + (if t = n then w n else 0) := funext fun t => by
      unfold qnf
      by_cases a : t < n
      · rw [if_pos (show t < n + 1 by omega), if_pos a, if_neg (show ¬ t = n by omega), h3 t (by omega), if_neg (show ¬ (n < t ∧ t ≤ n + d) by omega), Int.add_zero]
      · by_cases b : t = n
        · rw [if_pos (show t < n + 1 by omega), if_neg a, if_pos b, b, h3 n (by omega), if_neg (show ¬ (n < n ∧ n ≤ n + d) by omega), Int.zero_add]
        · rw [if_neg (show ¬ t < n + 1 by omega), if_neg a, if_neg b]; rfl
    rw [conv_comm, e2, conv_add, conv_comm (gcut g d) (qnf w n), conv_comm (gcut g d) (fun t => if t = n then w n else 0), conv_mon]
  rw [e1]
  refine (h m hm).tr ?_
  by_cases a : n ≤ m
  · rw [if_pos a, if_pos a]
    by_cases b : n = m
    · rw [← b, if_neg (show ¬ n + 1 ≤ n by omega), Nat.sub_self, show gcut g d 0 = 1 from (if_pos (Nat.zero_le d)).trans hg0]
      exact cg.of (by omega)
    · rw [if_pos (show n + 1 ≤ m by omega), h3 m hm]
      by_cases c : m ≤ n + d
      · rw [if_pos (show n < m ∧ m ≤ n + d by omega), show gcut g d (m - n) = g (m - n) from if_pos (by omega)]
        refine cg.sy ((cg.rf.add cg.md).tr (cg.of (by omega)))
      · rw [if_neg (show ¬ (n < m ∧ m ≤ n + d) by omega), show gcut g d (m - n) = 0 from if_neg (by omega), Int.mul_zero]
        exact cg.of (by omega)
  · rw [if_neg a, if_neg a, if_neg (show ¬ n + 1 ≤ m by omega)]
    exact cg.of (by omega)
theorem GH.fin {pn : Nat} (hpn : PrmN pn) {f g w : Nat → Int} {d D E : Nat} (hD : D = E + d) (h : GH (pn : Int) f g w d D (E + 1)) : lvP hpn f D = pzAdd (hp0 hpn) (pzMul (hp0 hpn) (lvP hpn w E) (lvP hpn g d)) (lwP hpn w d D) := by
  have h1 := lvP_div hpn (f := f) (q := qnf w (E + 1)) (g := gcut g d) (w := w) hD (fun i hi => if_neg (by omega)) (fun i hi => if_neg (by omega)) (fun n hn => by
    refine (h n hn).tr (cg.of ?_)
    congr 1)
  rw [h1, lvP_cong hpn (f := qnf w (E + 1)) (g := w) (fun i hi => if_pos (by omega)), lvP_cong hpn (f := gcut g d) (g := g) (fun i hi => if_pos hi)]
theorem lwP_z {pn : Nat} (hpn : PrmN pn) {w : Nat → Int} {d D : Nat} (h : ∀ i, i < d → w (D - i) = 0) : lwP hpn w d D = pzX (hp0 hpn) 0 0 := pz_ext (fun i => by
  refine (pzM_cg i).tr ((cg.of ?_).tr (pzX_cg (hp0 hpn) i).sy)
  show (if i < d then w (D - i) else 0) = if i = 0 then 0 else 0
  split
  · rw [h i (by omega)]; split <;> rfl
  · split <;> rfl)
theorem lwP_s {pn : Nat} (hpn : PrmN pn) {w : Nat → Int} {d D : Nat} : pzS (lwP hpn w d D) ≤ d := pzS_le (fun i hi => by
  show (if i < d then w (D - i) else 0) % (pn : Int) = 0
  rw [if_neg (by omega)]; exact Int.zero_emod _)
theorem lwP_n {pn : Nat} (hpn : PrmN pn) {w : Nat → Int} {d D i : Nat} (hi : i < d) (h0 : 0 ≤ w (D - i)) (h1 : w (D - i) < (pn : Int)) (h2 : w (D - i) ≠ 0) : pzS (lwP hpn w d D) ≠ 0 := fun e => by
  have h3 := (pzS_spec (lwP hpn w d D)).1 i (by omega)
  have h4 : (if i < d then w (D - i) else 0) % (pn : Int) = 0 := h3
  rw [if_pos hi, Int.emod_eq_of_lt h0 h1] at h4
  exact h2 h4
def GIN {pn : Nat} (hpn : PrmN pn) (f g : Nat → Int) (d D : Nat) (b dg2 : Int) (f2 : Nat → Int) : Prop := (b = 0 ∧ dg2 = (D : Int) ∧ f2 = f ∧ ¬ dvP hpn (lvP hpn g d) (lvP hpn f D)) ∨ (b = 1 ∧ ∃ E, D = E + d ∧ dg2 = (E : Int) ∧ f2 0 = 1 ∧ (∀ i, i ≤ E → 0 ≤ f2 i ∧ f2 i < (pn : Int)) ∧ lvP hpn f D = pzMul (hp0 hpn) (lvP hpn f2 E) (lvP hpn g d))
set_option maxHeartbeats 4000000 in
set_option maxRecDepth 20000 in
theorem c_X11_goesIn {N : Nat} {h : Hp} {Q : QP} {ln pr nm at_ wr va em ta ro dg : Int} {f g w0 : Nat → Int} {D d pn : Nat} {di p : Int} (hm0 : h 124 = MOo ln pr nm at_ wr va em ta ro dg) (hN : 146 ≤ N) (hdg : dg = (D : Int)) (h143 : h 143 = aL 7 f) (h144 : h 144 = aL 4 g) (h145 : h 145 = aL 7 w0) (hdi : di = (d : Int)) (hd1 : 1 ≤ d) (hd3 : d ≤ 3) (hdD : d ≤ D) (hD6 : D ≤ 6) (hpn : PrmN pn) (hp : p = (pn : Int)) (hp97 : p ≤ 97) (hfb : ∀ i, i ≤ D → 0 ≤ f i ∧ f i < p) (hf0 : f 0 = 1) (hgb : ∀ i, i ≤ d → 0 ≤ g i ∧ g i < p) (hg0 : g 0 = 1) (hQ : ∀ (b dg2 : Int) (f2 w2 : Nat → Int), GIN hpn f g d D b dg2 f2 → Q (some (.int (iZ b))) N (hs (hs (hs h 145 (aL 7 w2)) 124 (MOo ln pr nm at_ wr va em ta ro dg2)) 143 (aL 7 f2))) : Runs mX11_goesIn [.ref (124), .int (iZ (di)), .int (iZ (p))] N h Q := by
  have hp2 : 2 ≤ p := by have := hpn.1; omega
  obtain ⟨E, hE⟩ : ∃ E, D = E + d := ⟨D - d, by omega⟩
  refine run_start (own := RX11) rfl (by decide) (nle rfl) rfl (fun X hq hini => ?_)
  show G X RX11 cX11_goesIn mX11_goesIn.rm N 0 0 0 [some (.ref (124)), some (.int (iZ (di))), some (.int (iZ (p))), none, none] [] h
  refine r_iconst (z := 0) dX11_goesIn_0 ?_
  refine r_istore_n (L2 := [_, _, _, _, none]) dX11_goesIn_1 rfl (nlt rfl) rfl ?_
  have lp2 : ∀ (fu2 : Nat) (w1 : Nat → Int) (i : Int) (n : Nat), (9 - i) < (fu2 : Int) → (i = (n : Int)) → (n ≤ D + 1) → (∀ t, t < n → w1 t = f t) → G X RX11 cX11_goesIn mX11_goesIn.rm N 0 0 2 [some (.ref (124)), some (.int (iZ (di))), some (.int (iZ (p))), some (.int (iZ (i))), none] [] (hs h (145) (aL 7 (w1))) := by
    intro fu2
    induction fu2 with
    | zero => intro w1 i n hm ei nD hw1; exfalso; omega
    | succ fu2 ih2 =>
      intro w1 i n hms2 ei nD hw1
      refine r_iload_n dX11_goesIn_2 rfl rfl ?_
      refine r_aload_n dX11_goesIn_3 rfl rfl ?_
      refine gf_X11_292 dX11_goesIn_4 (by omega) ((hs_n (by omega)).trans hm0) rfl ?_
      refine r_icmp_gt 28 dX11_goesIn_7 (by decide) ⟨by omega, by omega⟩ ⟨by omega, by omega⟩ (fun c_7 => ?_) (fun c_7 => ?_)
      · refine r_iconst (z := 0) dX11_goesIn_28 ?_
        refine r_istore_n (L2 := [_, _, _, _, none]) dX11_goesIn_29 rfl (nlt rfl) rfl ?_
        have hw1f : ∀ t, t ≤ D → w1 t = f t := fun t ht => hw1 t (by omega)
        have lp30 : ∀ (fu30 : Nat) (w2 : Nat → Int) (i2 : Int) (n2 : Nat), (9 - i2) < (fu30 : Int) → (i2 = (n2 : Int)) → (n2 ≤ E + 1) → (∀ t, t ≤ D → 0 ≤ w2 t ∧ w2 t < p) → (w2 0 = 1) → (GH p f g w2 d D n2) → G X RX11 cX11_goesIn mX11_goesIn.rm N 0 0 30 [some (.ref (124)), some (.int (iZ (di))), some (.int (iZ (p))), some (.int (iZ (i2))), none] [] (hs h (145) (aL 7 (w2))) := by
          intro fu30
          induction fu30 with
          | zero => intro w2 i2 n2 hm ei2 n2E hwb hw0 hGH; exfalso; omega
          | succ fu30 ih30 =>
            intro w2 i2 n2 hms30 ei2 n2E hwb hw0 hGH
            refine r_iload_n dX11_goesIn_30 rfl rfl ?_
            refine r_iload_n dX11_goesIn_31 rfl rfl ?_
            refine r_iadd dX11_goesIn_32 ?_
            refine r_aload_n dX11_goesIn_33 rfl rfl ?_
            refine gf_X11_292 dX11_goesIn_34 (by omega) ((hs_n (by omega)).trans hm0) rfl ?_
            refine r_icmp_gt 110 dX11_goesIn_37 (by decide) ⟨by omega, by omega⟩ ⟨by omega, by omega⟩ (fun c_37 => ?_) (fun c_37 => ?_)
            · have n9 : n2 = E + 1 := by omega
              rw [n9, hp] at hGH
              have hdv := GH.fin hpn hE hGH
              refine r_aload_n dX11_goesIn_110 rfl rfl ?_
              refine gf_X11_292 dX11_goesIn_111 (by omega) ((hs_n (by omega)).trans hm0) rfl ?_
              refine r_iload_n dX11_goesIn_114 rfl rfl ?_
              refine r_isub dX11_goesIn_115 ?_
              refine r_iconst (z := 1) dX11_goesIn_116 ?_
              refine r_iadd dX11_goesIn_117 ?_
              refine r_istore_n (L2 := [_, _, _, _, none]) dX11_goesIn_118 rfl (nlt rfl) rfl ?_
              have lp119 : ∀ (fu119 : Nat) (i3 : Int) (u : Nat), (9 - i3) < (fu119 : Int) → (i3 = (u : Int)) → (E + 1 ≤ u) → (u ≤ D + 1) → (∀ t, E < t → t < u → w2 t = 0) → G X RX11 cX11_goesIn mX11_goesIn.rm N 0 0 119 [some (.ref (124)), some (.int (iZ (di))), some (.int (iZ (p))), some (.int (iZ (i3))), none] [] (hs h (145) (aL 7 (w2))) := by
                intro fu119
                induction fu119 with
                | zero => intro i3 u hm ei3 uE uD hz; exfalso; omega
                | succ fu119 ih119 =>
                  intro i3 u hms119 ei3 uE uD hz
                  refine r_iload_n dX11_goesIn_119 rfl rfl ?_
                  refine r_aload_n dX11_goesIn_120 rfl rfl ?_
                  refine gf_X11_292 dX11_goesIn_121 (by omega) ((hs_n (by omega)).trans hm0) rfl ?_
                  refine r_icmp_gt 146 dX11_goesIn_124 (by decide) ⟨by omega, by omega⟩ ⟨by omega, by omega⟩ (fun c_124 => ?_) (fun c_124 => ?_)
                  · refine r_aload_n dX11_goesIn_146 rfl rfl ?_
                    refine r_dup dX11_goesIn_147 rfl ?_
                    refine gf_X11_292 dX11_goesIn_148 (by omega) ((hs_n (by omega)).trans hm0) rfl ?_
                    refine r_iload_n dX11_goesIn_151 rfl rfl ?_
                    refine r_isub dX11_goesIn_152 ?_
                    refine pf_X11_292 (fs2 := [_, _, _, _, _, _, _, _, _, _, _, _, _, _, _, _, _, _, _, _, _, _, _, _, _, _, _, _, _, _, _]) dX11_goesIn_153 (fun _ _ => rfl) (fun _ _ => rfl) (nlt rfl) (by omega) ((hs_n (by omega)).trans hm0) rfl ?_
                    refine r_iconst (z := 0) dX11_goesIn_156 ?_
                    refine r_istore_n (L2 := [_, _, _, _, none]) dX11_goesIn_157 rfl (nlt rfl) rfl ?_
                    have lp158 : ∀ (fu158 : Nat) (f2 : Nat → Int) (i4 : Int) (v : Nat), (9 - i4) < (fu158 : Int) → (i4 = (v : Int)) → (v ≤ E + 1) → (∀ t, t < v → f2 t = w2 t) → G X RX11 cX11_goesIn mX11_goesIn.rm N 0 0 158 [some (.ref (124)), none, none, some (.int (iZ (i4))), none] [] (hs (hs (hs h (145) (aL 7 (w2))) (124) (MOo (ln) (pr) (nm) (at_) (wr) (va) (em) (ta) (ro) (dg - di))) (143) (aL 7 (f2))) := by
                      intro fu158
                      induction fu158 with
                      | zero => intro f2 i4 v hm ei4 vE hf2; exfalso; omega
                      | succ fu158 ih158 =>
                        intro f2 i4 v hms158 ei4 vE hf2
                        refine r_iload_n dX11_goesIn_158 rfl rfl ?_
                        refine r_aload_n dX11_goesIn_159 rfl rfl ?_
                        refine gf_X11_292 dX11_goesIn_160 (by omega) ((hs_n (by omega)).trans hs_e) rfl ?_
                        refine r_icmp_gt 184 dX11_goesIn_163 (by decide) ⟨by omega, by omega⟩ ⟨by omega, by omega⟩ (fun c_163 => ?_) (fun c_163 => ?_)
                        · refine r_iconst (z := 1) dX11_goesIn_184 ?_
                          refine r_zreturn hq dX11_goesIn_185 rfl (by decide) rfl rfl ?_
                          have hz9 := lwP_z hpn (w := w2) (d := d) (D := D) (fun i hi => hz (D - i) (by omega) (by omega))
                          rw [hz9, pzAdd_zero, lvP_cong hpn (f := w2) (g := f2) (fun i hi => (hf2 i (by omega)).symm)] at hdv
                          exact hQ 1 _ f2 w2 (Or.inr ⟨rfl, E, hE, by omega, by rw [hf2 0 (by omega)]; exact hw0, fun i hi => by rw [hf2 i (by omega), ← hp]; exact hwb i (by omega), hdv⟩)
                        · refine r_aload_n dX11_goesIn_166 rfl rfl ?_
                          refine gf_X11_69 dX11_goesIn_167 (by omega) ((hs_n (by omega)).trans hs_e) rfl ?_
                          refine r_iload_n dX11_goesIn_170 rfl rfl ?_
                          refine r_aload_n dX11_goesIn_171 rfl rfl ?_
                          refine gf_X11_75 dX11_goesIn_172 (by omega) ((hs_n (by omega)).trans hs_e) rfl ?_
                          refine r_iload_n dX11_goesIn_175 rfl rfl ?_
                          refine r_laload dX11_goesIn_176 (by omega) ((hs_n (by omega)).trans ((hs_n (by omega)).trans hs_e)) (by omega) (by omega) (by decide) ?_
                          refine r_lastore dX11_goesIn_177 (by omega) hs_e (by omega) (by omega) (by decide) ?_
                          refine g_heap (h2 := (hs (hs (hs h (145) (aL 7 (w2))) (124) (MOo (ln) (pr) (nm) (at_) (wr) (va) (em) (ta) (ro) (dg - di))) (143) (aL 7 (uA (f2) (i4).toNat (w2 (i4).toNat))))) hs_hs ?_
                          refine r_iinc (L2 := [_, none, none, _, none]) dX11_goesIn_178 (nlt rfl) rfl rfl ?_
                          refine r_goto 158 dX11_goesIn_181 (by decide) ?_
                          exact ih158 (uA (f2) (i4).toNat (w2 (i4).toNat)) (i4 + 1) ((v + 1)) (by omega) (by omega) (by omega) (fun t ht => by rw [show i4.toNat = v by omega]; by_cases z : t = v; (rw [z, uA_e]); rw [uA_n z]; exact hf2 t (by omega))
                    refine r_mask [true, false, false, true, false] (L2 := [_, none, none, _, none]) rfl ?_
                    refine g_heap (hs_id (c := aL 7 (f)) ((hs_n (by omega)).trans ((hs_n (by omega)).trans h143))).symm ?_
                    exact lp158 ((9 : Int) + 1).toNat (f) (0) (0) (by omega) rfl (Nat.zero_le _) (fun t ht => absurd ht (Nat.not_lt_zero t))
                  · have e132 : w2 i3.toNat = w2 u := by congr 1; omega
                    have r132 := hwb u (by omega)
                    rw [← e132] at r132
                    refine r_aload_n dX11_goesIn_127 rfl rfl ?_
                    refine gf_X11_75 dX11_goesIn_128 (by omega) ((hs_n (by omega)).trans hm0) rfl ?_
                    refine r_iload_n dX11_goesIn_131 rfl rfl ?_
                    refine r_laload dX11_goesIn_132 (by omega) hs_e (by omega) (by omega) (by decide) ?_
                    refine r_lconst (z := 0) dX11_goesIn_133 (by decide) ?_
                    refine r_lcmp_eq 140 dX11_goesIn_134 dX11_goesIn_135 (by decide) ⟨by omega, by omega⟩ ⟨by decide, by decide⟩ (fun c_134 => ?_) (fun c_134 => ?_)
                    · refine r_iinc (L2 := [_, _, _, _, none]) dX11_goesIn_140 (nlt rfl) rfl rfl ?_
                      refine r_goto 119 dX11_goesIn_143 (by decide) ?_
                      exact ih119 (i3 + 1) ((u + 1)) (by omega) (by omega) (by omega) (by omega) (fun t a b => by by_cases z : t = u; (rw [z, ← e132]; exact c_134); exact hz t a (by omega))
                    · refine r_iconst (z := 0) dX11_goesIn_138 ?_
                      refine r_zreturn hq dX11_goesIn_139 rfl (by decide) rfl rfl ?_
                      have hgs := lvP_sz hpn (f := g) (D := d) (fun i hi => by rw [← hp]; exact hgb i hi) hg0
                      have hls := lwP_s hpn (w := w2) (d := d) (D := D)
                      have hln := lwP_n hpn (w := w2) (d := d) (D := D) (i := D - u) (by omega) (by rw [show D - (D - u) = u by omega]; omega) (by rw [show D - (D - u) = u by omega]; omega) (by rw [show D - (D - u) = u by omega, ← e132]; exact c_134)
                      have hfin := hQ 0 dg f w2 (Or.inl ⟨rfl, hdg, rfl, nd_r hpn hdv (by omega) hln⟩)
                      rw [hs_id (a := 124) ((hs_n (by omega)).trans hm0)] at hfin
                      rw [hs_id (a := 143) ((hs_n (by omega)).trans h143)] at hfin
                      exact hfin
              exact lp119 ((9 : Int) + 1).toNat ((dg - di) + 1) ((E + 1)) (by omega) (by omega) (Nat.le_refl _) (by omega) (fun t a b => by omega)
            · refine r_iconst (z := 1) dX11_goesIn_40 ?_
              refine r_istore (L2 := [_, _, _, _, _]) dX11_goesIn_41 (nlt rfl) rfl ?_
              have lp43 : ∀ (fu43 : Nat) (w3 : Nat → Int) (j : Int) (q : Nat), (9 - j) < (fu43 : Int) → (j = (q : Int)) → (1 ≤ q) → (q ≤ d + 1) → (∀ t, t ≤ D → w3 t = if n2 < t ∧ t < n2 + q then (w2 t - w2 n2 * g (t - n2)) % p else w2 t) → G X RX11 cX11_goesIn mX11_goesIn.rm N 0 0 43 [some (.ref (124)), some (.int (iZ (di))), some (.int (iZ (p))), some (.int (iZ (i2))), some (.int (iZ (j)))] [] (hs h (145) (aL 7 (w3))) := by
                intro fu43
                induction fu43 with
                | zero => intro w3 j q hm ej q1 qd hw3; exfalso; omega
                | succ fu43 ih43 =>
                  intro w3 j q hms43 ej q1 qd hw3
                  refine r_iload dX11_goesIn_43 rfl ?_
                  refine r_iload_n dX11_goesIn_45 rfl rfl ?_
                  refine r_icmp_gt 104 dX11_goesIn_46 (by decide) ⟨by omega, by omega⟩ ⟨by omega, by omega⟩ (fun c_46 => ?_) (fun c_46 => ?_)
                  · have hw4 : ∀ t, t ≤ D → w3 t = if n2 < t ∧ t ≤ n2 + d then (w2 t - w2 n2 * g (t - n2)) % p else w2 t := fun t ht => by
                      rw [hw3 t ht]
                      rw [show q = d + 1 by omega]
                      by_cases y : n2 < t ∧ t < n2 + (d + 1)
                      · rw [if_pos y, if_pos (show n2 < t ∧ t ≤ n2 + d by omega)]
                      · rw [if_neg y, if_neg (show ¬ (n2 < t ∧ t ≤ n2 + d) by omega)]
                    refine r_iinc (L2 := [_, _, _, _, _]) dX11_goesIn_104 (nlt rfl) rfl rfl ?_
                    refine r_goto 30 dX11_goesIn_107 (by decide) ?_
                    refine r_mask [true, true, true, true, false] (L2 := [_, _, _, _, none]) rfl ?_
                    exact ih30 (w3) (i2 + 1) ((n2 + 1)) (by omega) (by omega) (by omega) (fun t ht => by rw [hw4 t ht]; split; exact emod_bd _ (by omega); exact hwb t ht) (by rw [hw4 0 (Nat.zero_le _), if_neg (by omega)]; exact hw0) (hGH.step hg0 (by omega) hw4)
                  · have e53 : w3 i2.toNat = w2 n2 := by rw [show i2.toNat = n2 by omega, hw3 n2 (by omega), if_neg (by omega)]
                    have r53 := hwb n2 (by omega)
                    rw [← e53] at r53
                    refine r_aload_n dX11_goesIn_49 rfl rfl ?_
                    refine gf_X11_75 dX11_goesIn_50 (by omega) ((hs_n (by omega)).trans hm0) rfl ?_
                    refine r_iload_n dX11_goesIn_53 rfl rfl ?_
                    refine r_laload dX11_goesIn_54 (by omega) hs_e (by omega) (by omega) (by decide) ?_
                    refine r_lconst (z := 0) dX11_goesIn_55 (by decide) ?_
                    refine r_lcmp_eq 104 dX11_goesIn_56 dX11_goesIn_57 (by decide) ⟨by omega, by omega⟩ ⟨by decide, by decide⟩ (fun c_56 => ?_) (fun c_56 => ?_)
                    · have hw4 : ∀ t, t ≤ D → w3 t = if n2 < t ∧ t ≤ n2 + d then (w2 t - w2 n2 * g (t - n2)) % p else w2 t := fun t ht => by
                        rw [hw3 t ht]
                        have z9 : w2 n2 = 0 := by rw [← e53]; exact c_56
                        rw [z9, Int.zero_mul, Int.sub_zero, Int.emod_eq_of_lt (hwb t ht).1 (hwb t ht).2]
                        split <;> split <;> rfl
                      refine r_iinc (L2 := [_, _, _, _, _]) dX11_goesIn_104 (nlt rfl) rfl rfl ?_
                      refine r_goto 30 dX11_goesIn_107 (by decide) ?_
                      refine r_mask [true, true, true, true, false] (L2 := [_, _, _, _, none]) rfl ?_
                      exact ih30 (w3) (i2 + 1) ((n2 + 1)) (by omega) (by omega) (by omega) (fun t ht => by rw [hw4 t ht]; split; exact emod_bd _ (by omega); exact hwb t ht) (by rw [hw4 0 (Nat.zero_le _), if_neg (by omega)]; exact hw0) (hGH.step hg0 (by omega) hw4)
                    · have e67 : (i2 + j).toNat = n2 + q := by omega
                      have e76 : w3 (n2 + q) = w2 (n2 + q) := by rw [hw3 (n2 + q) (by omega), if_neg (by omega)]
                      have e82 : w3 i2.toNat = w2 n2 := e53
                      have r76 := hwb (n2 + q) (by omega)
                      rw [← e76, ← e67] at r76
                      have r89 := hgb j.toNat (by omega)
                      have m90 := mulb (A := 97) (B := 97) (a := w3 i2.toNat) (b := g j.toNat) (C := 9409) (by omega) (by omega) (by omega) (by omega) (by decide)
                      refine r_aload_n dX11_goesIn_60 rfl rfl ?_
                      refine gf_X11_75 dX11_goesIn_61 (by omega) ((hs_n (by omega)).trans hm0) rfl ?_
                      refine r_iload_n dX11_goesIn_64 rfl rfl ?_
                      refine r_iload dX11_goesIn_65 rfl ?_
                      refine r_iadd dX11_goesIn_67 ?_
                      refine r_aload_n dX11_goesIn_68 rfl rfl ?_
                      refine gf_X11_75 dX11_goesIn_69 (by omega) ((hs_n (by omega)).trans hm0) rfl ?_
                      refine r_iload_n dX11_goesIn_72 rfl rfl ?_
                      refine r_iload dX11_goesIn_73 rfl ?_
                      refine r_iadd dX11_goesIn_75 ?_
                      refine r_laload dX11_goesIn_76 (by omega) hs_e (by omega) (by omega) (by decide) ?_
                      refine r_aload_n dX11_goesIn_77 rfl rfl ?_
                      refine gf_X11_75 dX11_goesIn_78 (by omega) ((hs_n (by omega)).trans hm0) rfl ?_
                      refine r_iload_n dX11_goesIn_81 rfl rfl ?_
                      refine r_laload dX11_goesIn_82 (by omega) hs_e (by omega) (by omega) (by decide) ?_
                      refine r_aload_n dX11_goesIn_83 rfl rfl ?_
                      refine gf_X11_72 dX11_goesIn_84 (by omega) ((hs_n (by omega)).trans hm0) rfl ?_
                      refine r_iload dX11_goesIn_87 rfl ?_
                      refine r_laload dX11_goesIn_89 (by omega) ((hs_n (by omega)).trans h144) (by omega) (by omega) (by decide) ?_
                      refine r_lmul dX11_goesIn_90 ?_
                      refine r_lsub dX11_goesIn_91 ?_
                      refine r_iload_n dX11_goesIn_92 rfl rfl ?_
                      refine r_i2l dX11_goesIn_93 ⟨by omega, by omega⟩ ?_
                      refine r_callS (av := [.long (lZ ((w3 (i2 + j).toNat) - ((w3 (i2).toNat) * (g (j).toNat)))), .long (lZ (p))]) dX11_goesIn_94 lkX11_modulo ml_X11_156 stX11_modulo ⟨Nat.le_of_ble_eq_true rfl, Nat.le_of_ble_eq_true rfl⟩ rfl rfl (nle rfl) ⟨Nat.le_of_ble_eq_true rfl, Nat.le_of_ble_eq_true rfl⟩ (c_X11_modulo (x := (w3 (i2 + j).toNat) - ((w3 (i2).toNat) * (g (j).toNat))) (m := p) (by omega) (by omega) ?_)
                      have em_94 := emod_bd ((w3 (i2 + j).toNat) - ((w3 (i2).toNat) * (g (j).toNat))) (show 0 < p by omega)
                      show G _ _ _ _ _ _ _ 97 _ _ _
                      refine r_lastore dX11_goesIn_97 (by omega) hs_e (by omega) (by omega) (by decide) ?_
                      refine g_heap (h2 := (hs h (145) (aL 7 (uA (w3) (i2 + j).toNat (((w3 (i2 + j).toNat) - ((w3 (i2).toNat) * (g (j).toNat))) % p))))) hs_hs ?_
                      refine r_iinc (L2 := [_, _, _, _, _]) dX11_goesIn_98 (nlt rfl) rfl rfl ?_
                      refine r_goto 43 dX11_goesIn_101 (by decide) ?_
                      exact ih43 (uA (w3) (i2 + j).toNat (((w3 (i2 + j).toNat) - ((w3 (i2).toNat) * (g (j).toNat))) % p)) (j + 1) ((q + 1)) (by omega) (by omega) (by omega) (by omega) (fun t ht => by
                        rw [e67]
                        by_cases z : t = n2 + q
                        · rw [z, uA_e, if_pos (show n2 < n2 + q ∧ n2 + q < n2 + (q + 1) by omega), e76, e82, show n2 + q - n2 = q by omega, show j.toNat = q by omega]
                        · rw [uA_n z, hw3 t ht]
                          by_cases y : n2 < t ∧ t < n2 + q
                          · rw [if_pos y, if_pos (show n2 < t ∧ t < n2 + (q + 1) by omega)]
                          · rw [if_neg y, if_neg (show ¬ (n2 < t ∧ t < n2 + (q + 1)) by omega)])
              exact lp43 ((9 : Int) + 1).toNat (w2) (1) (1) (by omega) rfl (Nat.le_refl _) (by omega) (fun t ht => by rw [if_neg (by omega)])
        exact lp30 ((9 : Int) + 1).toNat (w1) (0) (0) (by omega) rfl (Nat.zero_le _) (fun t ht => by rw [hw1f t ht]; exact hfb t ht) (by rw [hw1f 0 (Nat.zero_le _)]; exact hf0) (GH.zero hw1f)
      · refine r_aload_n dX11_goesIn_10 rfl rfl ?_
        refine gf_X11_75 dX11_goesIn_11 (by omega) ((hs_n (by omega)).trans hm0) rfl ?_
        refine r_iload_n dX11_goesIn_14 rfl rfl ?_
        refine r_aload_n dX11_goesIn_15 rfl rfl ?_
        refine gf_X11_69 dX11_goesIn_16 (by omega) ((hs_n (by omega)).trans hm0) rfl ?_
        refine r_iload_n dX11_goesIn_19 rfl rfl ?_
        refine r_laload dX11_goesIn_20 (by omega) ((hs_n (by omega)).trans h143) (by omega) (by omega) (by decide) ?_
        refine r_lastore dX11_goesIn_21 (by omega) hs_e (by omega) (by omega) (by decide) ?_
        refine g_heap (h2 := (hs h (145) (aL 7 (uA (w1) (i).toNat (f (i).toNat))))) hs_hs ?_
        refine r_iinc (L2 := [_, _, _, _, none]) dX11_goesIn_22 (nlt rfl) rfl rfl ?_
        refine r_goto 2 dX11_goesIn_25 (by decide) ?_
        exact ih2 (uA (w1) (i).toNat (f (i).toNat)) (i + 1) ((n + 1)) (by omega) (by omega) (by omega) (fun t ht => by rw [show i.toNat = n by omega]; by_cases z : t = n; (rw [z, uA_e]); rw [uA_n z]; exact hw1 t (by omega))
  refine g_heap (hs_id (c := aL 7 (w0)) h145).symm ?_
  exact lp2 ((9 : Int) + 1).toNat (w0) (0) (0) (by omega) rfl (Nat.zero_le _) (fun t ht => absurd ht (Nat.not_lt_zero t))
