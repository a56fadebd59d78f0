/-- register 6 got a law -/
def LW6 (om ml : Nat → Int) (ok : Prop) (K : Nat) (f : Nat → Int) (b : Int) (om2 ml2 : Nat → Int) : Prop := (∀ i, i < 6 → om2 i = om i) ∧ (∀ t, t < 36 → ml2 t = ml t) ∧ ((b = 0 ∧ ¬ ok) ∨ (b = 1 ∧ ok ∧ om2 6 = (K : Int) ∧ ∀ j, 1 ≤ j → j ≤ K → ml2 (36 + j - 1) = f j))
theorem RG.low {om ml ms om2 ml2 ms2 : Nat → Int} {r k : Nat} {c s : Nat → Int} (h : RG om ml ms r k c s) (hr : r < 6) (h1 : ∀ i, i < 6 → om2 i = om i) (h2 : ∀ t, t < 36 → ml2 t = ml t) (h3 : ∀ t, t < 36 → ms2 t = ms t) : RG om2 ml2 ms2 r k c s := by
  obtain ⟨a1, a2, a3, a4, a5⟩ := h
  exact ⟨(h1 r hr).trans a1, a2, a3, fun j x y => ⟨(h2 _ (by omega)).trans (a4 j x y).1, (a4 j x y).2⟩, fun j x => ⟨(h3 _ (by omega)).trans (a5 j x).1, (a5 j x).2⟩⟩
theorem mul_nn {a b x y : Int} (h1 : a = -x) (h2 : b = -y) : a * b = x * y := by rw [h1, h2, Int.neg_mul_neg]
def mg9 (c d : Nat → Int) (l t : Nat) : Nat → Int := fun i => if i ≤ t ∧ t ≤ i + l then c i * d (t - i) else 0
theorem mg9_eq {c d : Nat → Int} {k l t : Nat} : -(sm (mg9 c d l t) (k + 1)) = mulc c d k l t := by
  have e1 : sm (mg9 c d l t) (k + 1) = sm (fun i => if i ≤ k then mg9 c d l t i else 0) (k + 1) := sm_cong (fun j hj => by rw [if_pos (by omega)])
  have e2 : sm (mulg c d k l t) (t + 1) = sm (fun i => if i ≤ k then mg9 c d l t i else 0) (t + 1) := sm_cong (fun j hj => by
    unfold mulg mg9
    by_cases a : j ≤ k
    · rw [if_pos a]
      by_cases b : t ≤ j + l
      · rw [if_pos ⟨a, b⟩, if_pos ⟨by omega, b⟩]
      · rw [if_neg (fun w => b w.2), if_neg (fun w => b w.2)]
    · rw [if_neg (fun w => a w.1), if_neg a])
  unfold mulc
  rw [e1, e2, ← sm_tail (a := k + 1) (b := k + t + 1) (by omega) (fun j h1 h2 => if_neg (by omega)), sm_tail (g := fun i => if i ≤ k then mg9 c d l t i else 0) (a := t + 1) (b := k + t + 1) (by omega) (fun j h1 h2 => by
    show (if j ≤ k then mg9 c d l t j else 0) = 0
    unfold mg9
    rw [if_neg (show ¬ (j ≤ t ∧ t ≤ j + l) by omega)]; split <;> rfl)]
theorem mg9_bd {c d : Nat → Int} {k l t n : Nat} (hn : n ≤ k + 1) (hc : ∀ j, j ≤ k → -100000 ≤ c j ∧ c j ≤ 100000) (hd : ∀ j, j ≤ l → -100000 ≤ d j ∧ d j ≤ 100000) : -((n : Int) * 10000000000) ≤ sm (mg9 c d l t) n ∧ sm (mg9 c d l t) n ≤ (n : Int) * 10000000000 :=
  sm_bd (by decide) (fun j hj => by
    unfold mg9
    by_cases a : j ≤ t ∧ t ≤ j + l
    · rw [if_pos a]
      have h1 := hc j (by omega)
      have h2 := hd (t - j) (by omega)
      exact mulb (A := 100000) (B := 100000) h1.1 h1.2 h2.1 h2.2 (by decide)
    · rw [if_neg a]; decide)
theorem mg9_s {c d : Nat → Int} {l t n : Nat} : sm (mg9 c d l t) n + (if n ≤ t ∧ t < n + (l + 1) then c n * d (t - n) else 0) = sm (mg9 c d l t) (n + 1) := by
  rw [sm_s]
  congr 1
  unfold mg9
  by_cases a : n ≤ t ∧ t < n + (l + 1)
  · rw [if_pos a, if_pos (by omega)]
  · rw [if_neg a, if_neg (by omega)]
set_option maxHeartbeats 8000000 in
set_option maxRecDepth 20000 in
theorem c_X11_multiply {N : Nat} {h : Hp} {Q : QP} {ln pr nm at_ wr va em ta ro dg : Int} {om ml ms : Nat → Int} {c s d po : Nat → Int} {r k l : Nat} {ri yi : Int} (hm0 : h 124 = MOo ln pr nm at_ wr va em ta ro dg) (hN : 146 ≤ N) (hom : h 125 = aI 7 om) (hml : h 126 = aL 42 ml) (hms : h 127 = aL 42 ms) (h138 : h 138 = aL 14 po) (hg : RG om ml ms r k c s) (hri : ri = (r : Int)) (hr6 : r < 6) (hc0 : c 0 = -1) (hd0 : d 0 = -1) (hl1 : 1 ≤ l) (hl6 : l ≤ 6) (hdb : ∀ j, j ≤ l → -100000 ≤ d j ∧ d j ≤ 100000) (hy5 : yi ≤ 5) (hy0 : yi < 0 → -100 ≤ yi ∧ l = 1 ∧ d 1 = 1) (hy1 : 0 ≤ yi → yi ≤ 5 ∧ om yi.toNat = (l : Int) ∧ ∀ j, 1 ≤ j → j ≤ l → ml ((6 * yi) + j - 1).toNat = d j) (hQ : ∀ (b : Int) (om2 ml2 po2 : Nat → Int), LW6 om ml (k + l ≤ 6 ∧ lawB (k + l) (mulc c d k l)) (k + l) (mulc c d k l) b om2 ml2 → Q (some (.int (iZ b))) N (hs (hs (hs h 138 (aL 14 po2)) 125 (aI 7 om2)) 126 (aL 42 ml2))) : Runs mX11_multiply [.ref (124), .int (iZ (ri)), .int (iZ (yi))] N h Q := by
  obtain ⟨hg1, hg2, hg3, hg4, hg5⟩ := id hg
  have ern : ri.toNat = r := by omega
  have eom : om ri.toNat = (k : Int) := by rw [ern]; exact hg1
  have hcb : ∀ j, j ≤ k → -100000 ≤ c j ∧ c j ≤ 100000 := fun j hj => by
    by_cases z : j = 0
    · rw [z, hc0]; decide
    · exact (hg4 j (by omega) hj).2
  have yb : -100 ≤ yi := by
    by_cases z : yi < 0
    · exact (hy0 z).1
    · omega
  refine run_start (own := RX11) rfl (by decide) (nle rfl) rfl (fun X hq hini => ?_)
  show G X RX11 cX11_multiply mX11_multiply.rm N 0 0 0 [some (.ref (124)), some (.int (iZ (ri))), some (.int (iZ (yi))), none, none, none, none, none, none, none, none] [] h
  refine r_aload_n dX11_multiply_0 rfl rfl ?_
  refine gf_X11_7 dX11_multiply_1 (by omega) hm0 rfl ?_
  refine r_iload_n dX11_multiply_4 rfl rfl ?_
  refine r_iaload dX11_multiply_5 (by omega) hom (by omega) (by omega) (by decide) ?_
  refine r_istore_n (L2 := [_, _, _, _, none, none, none, none, none, none, none]) dX11_multiply_6 rfl (nlt rfl) rfl ?_
  refine r_iload_n dX11_multiply_7 rfl rfl ?_
  refine r_if_ge 15 dX11_multiply_8 (by decide) ⟨by omega, by omega⟩ (fun c_8 => ?_) (fun c_8 => ?_)
  · refine r_aload_n dX11_multiply_15 rfl rfl ?_
    refine gf_X11_7 dX11_multiply_16 (by omega) hm0 rfl ?_
    refine r_iload_n dX11_multiply_19 rfl rfl ?_
    refine r_iaload dX11_multiply_20 (by omega) hom (by omega) (by omega) (by decide) ?_
    refine r_istore (L2 := [_, _, _, _, _, none, none, none, none, none, none]) dX11_multiply_21 (nlt rfl) rfl ?_
    have el : om (yi).toNat = (l : Int) := (hy1 (by omega)).2.1
    rw [el]
    refine r_iload_n dX11_multiply_23 rfl rfl ?_
    refine r_iload dX11_multiply_24 rfl ?_
    refine r_iadd dX11_multiply_26 ?_
    refine r_bipush (z := 6) dX11_multiply_27 (by decide) ?_
    refine r_icmp_le 34 dX11_multiply_29 (by decide) ⟨by omega, by omega⟩ ⟨by decide, by decide⟩ (fun c_29 => ?_) (fun c_29 => ?_)
    · refine r_iconst (z := 0) dX11_multiply_34 ?_
      refine r_istore (L2 := [_, _, _, _, _, _, none, none, none, none, none]) dX11_multiply_35 (nlt rfl) rfl ?_
      have lp37 : ∀ (fu37 : Nat) (po1 : Nat → Int) (z : Int) (zn : Nat), (15 - z) < (fu37 : Int) → (z = (zn : Int)) → (zn ≤ 14) → (∀ t, t < zn → po1 t = 0) → G X RX11 cX11_multiply mX11_multiply.rm N 0 0 37 [some (.ref (124)), some (.int (iZ (ri))), some (.int (iZ (yi))), some (.int (iZ (om (ri).toNat))), some (.int (iZ ((l : Int)))), some (.int (iZ (z))), none, none, none, none, none] [] (hs h (138) (aL 14 (po1))) := by
        intro fu37
        induction fu37 with
        | zero => intro po1 z zn hm ez zl hz; exfalso; omega
        | succ fu37 ih37 =>
          intro po1 z zn hms37 ez zl hz
          refine r_iload dX11_multiply_37 rfl ?_
          refine r_bipush (z := 14) dX11_multiply_39 (by decide) ?_
          refine r_icmp_ge 58 dX11_multiply_41 (by decide) ⟨by omega, by omega⟩ ⟨by decide, by decide⟩ (fun c_41 => ?_) (fun c_41 => ?_)
          · refine r_iconst (z := 0) dX11_multiply_58 ?_
            refine r_istore (L2 := [_, _, _, _, _, _, none, none, none, none, none]) dX11_multiply_59 (nlt rfl) rfl ?_
            have lp61 : ∀ (fu61 : Nat) (po2 : Nat → Int) (i : Int) (n : Nat), (9 - i) < (fu61 : Int) → (i = (n : Int)) → (n ≤ k + 1) → (∀ t, t < 14 → po2 t = sm (mg9 c d l t) n) → G X RX11 cX11_multiply mX11_multiply.rm N 0 0 61 [some (.ref (124)), some (.int (iZ (ri))), some (.int (iZ (yi))), some (.int (iZ (om (ri).toNat))), some (.int (iZ ((l : Int)))), some (.int (iZ (i))), none, none, none, none, none] [] (hs h (138) (aL 14 (po2))) := by
              intro fu61
              induction fu61 with
              | zero => intro po2 i n hm ei nk hpo2; exfalso; omega
              | succ fu61 ih61 =>
                intro po2 i n hms61 ei nk hpo2
                refine r_iload dX11_multiply_61 rfl ?_
                refine r_iload_n dX11_multiply_63 rfl rfl ?_
                refine r_icmp_gt 169 dX11_multiply_64 (by decide) ⟨by omega, by omega⟩ ⟨by omega, by omega⟩ (fun c_64 => ?_) (fun c_64 => ?_)
                · refine r_aload_n dX11_multiply_169 rfl rfl ?_
                  refine gf_X11_7 dX11_multiply_170 (by omega) ((hs_n (by omega)).trans hm0) rfl ?_
                  refine r_bipush (z := 6) dX11_multiply_173 (by decide) ?_
                  refine r_iload_n dX11_multiply_175 rfl rfl ?_
                  refine r_iload dX11_multiply_176 rfl ?_
                  refine r_iadd dX11_multiply_178 ?_
                  refine r_iastore dX11_multiply_179 (by omega) ((hs_n (by omega)).trans hom) (by omega) (by omega) (by decide) ?_
                  refine r_iconst (z := 1) dX11_multiply_180 ?_
                  refine r_istore (L2 := [_, _, _, _, _, _, none, none, none, none, none]) dX11_multiply_181 (nlt rfl) rfl ?_
                  refine r_iconst (z := 1) dX11_multiply_183 ?_
                  refine r_istore (L2 := [_, _, _, _, _, _, _, none, none, none, none]) dX11_multiply_184 (nlt rfl) rfl ?_
                  have n9 : n = k + 1 := by omega
                  rw [n9] at hpo2
                  have hmu : ∀ t, t < 14 → -(po2 t) = mulc c d k l t := fun t ht => by rw [hpo2 t ht]; exact mg9_eq
                  have hpb : ∀ t, t < 14 → -1000000000000 ≤ po2 t ∧ po2 t ≤ 1000000000000 := fun t ht => by
                    have := mg9_bd (c := c) (d := d) (k := k) (l := l) (t := t) (n := k + 1) (Nat.le_refl _) hcb hdb
                    rw [hpo2 t ht]; omega
                  have lp186 : ∀ (fu186 : Nat) (ml3 : Nat → Int) (fit : Int) (u : Int) (w : Nat), (14 - u) < (fu186 : Int) → (u = (w : Int)) → (1 ≤ w) → (w ≤ k + l + 1) → (fit = 0 ∨ fit = 1) → (∀ t, t < 36 → ml3 t = ml t) → (∀ t, 1 ≤ t → t < w → ml3 (36 + t - 1) = mulc c d k l t) → (fit = 1 → ∀ t, 1 ≤ t → t < w → -100000 ≤ mulc c d k l t ∧ mulc c d k l t ≤ 100000) → (fit = 0 → ∃ t, 1 ≤ t ∧ t < w ∧ ¬ (-100000 ≤ mulc c d k l t ∧ mulc c d k l t ≤ 100000)) → G X RX11 cX11_multiply mX11_multiply.rm N 0 0 186 [some (.ref (124)), none, none, some (.int (iZ (om (ri).toNat))), some (.int (iZ ((l : Int)))), some (.int (iZ (fit))), some (.int (iZ (u))), none, none, none, none] [] (hs (hs (hs h (138) (aL 14 (po2))) (125) (aI 7 (uA (om) (6 : Int).toNat ((om (ri).toNat) + (l : Int))))) (126) (aL 42 (ml3))) := by
                    intro fu186
                    induction fu186 with
                    | zero => intro ml3 fit u w hm eu w1 wl f01 hm1 hm2 hf1 hf0; exfalso; omega
                    | succ fu186 ih186 =>
                      intro ml3 fit u w hms186 eu w1 wl f01 hm1 hm2 hf1 hf0
                      refine r_iload dX11_multiply_186 rfl ?_
                      refine r_iload_n dX11_multiply_188 rfl rfl ?_
                      refine r_iload dX11_multiply_189 rfl ?_
                      refine r_iadd dX11_multiply_191 ?_
                      refine r_icmp_gt 250 dX11_multiply_192 (by decide) ⟨by omega, by omega⟩ ⟨by omega, by omega⟩ (fun c_192 => ?_) (fun c_192 => ?_)
                      · refine r_iload dX11_multiply_250 rfl ?_
                        refine r_zreturn hq dX11_multiply_252 rfl (by omega) rfl rfl ?_
                        have hk6 : k + l ≤ 6 := by omega
                        refine hQ fit _ ml3 po2 ⟨fun i hi => uA_n (by show i ≠ 6; omega), hm1, ?_⟩
                        rcases f01 with y | y
                        · refine Or.inl ⟨y, fun z => ?_⟩
                          obtain ⟨t, t1, t2, t3⟩ := hf0 y
                          exact t3 (z.2 t t1 (by omega))
                        · exact Or.inr ⟨y, ⟨hk6, fun t a b => hf1 y t a (by omega)⟩, uA_e.trans (by omega), fun t a b => hm2 t a (by omega)⟩
                      · have e205 : ((36 + u) - 1).toNat = 36 + w - 1 := by omega
                        have hmw : -(po2 u.toNat) = mulc c d k l w := by rw [show u.toNat = w by omega]; exact hmu w (by omega)
                        have pb9 := hpb u.toNat (by omega)
                        refine r_aload_n dX11_multiply_195 rfl rfl ?_
                        refine gf_X11_13 dX11_multiply_196 (by omega) ((hs_n (by omega)).trans ((hs_n (by omega)).trans ((hs_n (by omega)).trans hm0))) rfl ?_
                        refine r_bipush (z := 36) dX11_multiply_199 (by decide) ?_
                        refine r_iload dX11_multiply_201 rfl ?_
                        refine r_iadd dX11_multiply_203 ?_
                        refine r_iconst (z := 1) dX11_multiply_204 ?_
                        refine r_isub dX11_multiply_205 ?_
                        refine r_aload_n dX11_multiply_206 rfl rfl ?_
                        refine gf_X11_54 dX11_multiply_207 (by omega) ((hs_n (by omega)).trans ((hs_n (by omega)).trans ((hs_n (by omega)).trans hm0))) rfl ?_
                        refine r_iload dX11_multiply_210 rfl ?_
                        refine r_laload dX11_multiply_212 (by omega) ((hs_n (by omega)).trans ((hs_n (by omega)).trans hs_e)) (by omega) (by omega) (by decide) ?_
                        refine r_lneg dX11_multiply_213 ?_
                        refine r_lastore dX11_multiply_214 (by omega) hs_e (by omega) (by omega) (by decide) ?_
                        refine g_heap (h2 := (hs (hs (hs h (138) (aL 14 (po2))) (125) (aI 7 (uA (om) (6 : Int).toNat ((om (ri).toNat) + (l : Int))))) (126) (aL 42 (uA (ml3) ((36 + u) - 1).toNat (-(po2 (u).toNat)))))) hs_hs ?_
                        refine r_iload dX11_multiply_215 rfl ?_
                        refine r_if_eq 241 dX11_multiply_217 (by decide) ⟨by omega, by omega⟩ (fun c_217 => ?_) (fun c_217 => ?_)
                        · refine r_iconst (z := 0) dX11_multiply_241 ?_
                          refine r_istore (L2 := [_, none, none, _, _, _, _, none, none, none, none]) dX11_multiply_242 (nlt rfl) rfl ?_
                          refine r_iinc (L2 := [_, none, none, _, _, _, _, none, none, none, none]) dX11_multiply_244 (nlt rfl) rfl rfl ?_
                          refine r_goto 186 dX11_multiply_247 (by decide) ?_
                          exact ih186 (uA (ml3) ((36 + u) - 1).toNat (-(po2 (u).toNat))) (0) (u + 1) ((w + 1)) (by omega) (by omega) (by omega) (by omega) (by omega) (fun t ht => by rw [e205, uA_n (by omega)]; exact hm1 t ht) (fun t a b => by rw [e205]; by_cases z : t = w; (rw [z, uA_e]; exact hmw); rw [uA_n (by omega)]; exact hm2 t a (by omega)) (fun y => by omega) (fun y => by by_cases z : fit = 0; (obtain ⟨t, t1, t2, t3⟩ := hf0 z; exact ⟨t, t1, by omega, t3⟩); exact ⟨w, w1, by omega, fun v => by rw [← hmw] at v; omega⟩)
                        · refine r_aload_n dX11_multiply_220 rfl rfl ?_
                          refine gf_X11_54 dX11_multiply_221 (by omega) ((hs_n (by omega)).trans ((hs_n (by omega)).trans ((hs_n (by omega)).trans hm0))) rfl ?_
                          refine r_iload dX11_multiply_224 rfl ?_
                          refine r_laload dX11_multiply_226 (by omega) ((hs_n (by omega)).trans ((hs_n (by omega)).trans hs_e)) (by omega) (by omega) (by decide) ?_
                          refine r_callS (av := [.long (lZ (po2 (u).toNat))]) dX11_multiply_227 lkX11_size ml_X11_84 stX11_size ⟨Nat.le_of_ble_eq_true rfl, Nat.le_of_ble_eq_true rfl⟩ rfl rfl (nle rfl) ⟨Nat.le_of_ble_eq_true rfl, Nat.le_of_ble_eq_true rfl⟩ (c_X11_size (x := po2 (u).toNat) (by omega) ?_)
                          show G _ _ _ _ _ _ _ 230 _ _ _
                          refine r_ldc2 (z := 100000) dX11_multiply_230 kc_X11_115 ?_
                          refine r_lcmp_gt 241 dX11_multiply_233 dX11_multiply_234 (by decide) ⟨by omega, by omega⟩ ⟨by decide, by decide⟩ (fun c_233 => ?_) (fun c_233 => ?_)
                          · refine r_iconst (z := 0) dX11_multiply_241 ?_
                            refine r_istore (L2 := [_, none, none, _, _, _, _, none, none, none, none]) dX11_multiply_242 (nlt rfl) rfl ?_
                            refine r_iinc (L2 := [_, none, none, _, _, _, _, none, none, none, none]) dX11_multiply_244 (nlt rfl) rfl rfl ?_
                            refine r_goto 186 dX11_multiply_247 (by decide) ?_
                            exact ih186 (uA (ml3) ((36 + u) - 1).toNat (-(po2 (u).toNat))) (0) (u + 1) ((w + 1)) (by omega) (by omega) (by omega) (by omega) (by omega) (fun t ht => by rw [e205, uA_n (by omega)]; exact hm1 t ht) (fun t a b => by rw [e205]; by_cases z : t = w; (rw [z, uA_e]; exact hmw); rw [uA_n (by omega)]; exact hm2 t a (by omega)) (fun y => by omega) (fun y => by by_cases z : fit = 0; (obtain ⟨t, t1, t2, t3⟩ := hf0 z; exact ⟨t, t1, by omega, t3⟩); exact ⟨w, w1, by omega, fun v => by rw [← hmw] at v; omega⟩)
                          · refine r_iconst (z := 1) dX11_multiply_237 ?_
                            refine r_goto 242 dX11_multiply_238 (by decide) ?_
                            refine r_istore (L2 := [_, none, none, _, _, _, _, none, none, none, none]) dX11_multiply_242 (nlt rfl) rfl ?_
                            refine r_iinc (L2 := [_, none, none, _, _, _, _, none, none, none, none]) dX11_multiply_244 (nlt rfl) rfl rfl ?_
                            refine r_goto 186 dX11_multiply_247 (by decide) ?_
                            exact ih186 (uA (ml3) ((36 + u) - 1).toNat (-(po2 (u).toNat))) (1) (u + 1) ((w + 1)) (by omega) (by omega) (by omega) (by omega) (by omega) (fun t ht => by rw [e205, uA_n (by omega)]; exact hm1 t ht) (fun t a b => by rw [e205]; by_cases z : t = w; (rw [z, uA_e]; exact hmw); rw [uA_n (by omega)]; exact hm2 t a (by omega)) (fun _ t a b => by by_cases z : t = w; (rw [z, ← hmw]; omega); exact hf1 (f01.resolve_left c_217) t a (by omega)) (fun y => absurd y (by decide))
                  refine r_mask [true, false, false, true, true, true, true, false, false, false, false] (L2 := [_, none, none, _, _, _, _, none, none, none, none]) rfl ?_
                  refine g_heap (hs_id (c := aL 42 (ml)) ((hs_n (by omega)).trans ((hs_n (by omega)).trans hml))).symm ?_
                  exact lp186 ((14 : Int) + 1).toNat (ml) (1) (1) (1) (by omega) rfl (Nat.le_refl _) (by omega) (by omega) (fun _ _ => rfl) (fun t a b => by omega) (fun _ t a b => by omega) (fun y => by omega)
                · refine r_iconst (z := 0) dX11_multiply_67 ?_
                  refine r_istore (L2 := [_, _, _, _, _, _, _, none, none, none, none]) dX11_multiply_68 (nlt rfl) rfl ?_
                  have lp70 : ∀ (fu70 : Nat) (po3 : Nat → Int) (j : Int) (q : Nat), (9 - j) < (fu70 : Int) → (j = (q : Int)) → (q ≤ l + 1) → (∀ t, t < 14 → po3 t = sm (mg9 c d l t) n + (if n ≤ t ∧ t < n + q then c n * d (t - n) else 0)) → G X RX11 cX11_multiply mX11_multiply.rm N 0 0 70 [some (.ref (124)), some (.int (iZ (ri))), some (.int (iZ (yi))), some (.int (iZ (om (ri).toNat))), some (.int (iZ ((l : Int)))), some (.int (iZ (i))), some (.int (iZ (j))), none, none, none, none] [] (hs h (138) (aL 14 (po3))) := by
                    intro fu70
                    induction fu70 with
                    | zero => intro po3 j q hm ej ql hpo3; exfalso; omega
                    | succ fu70 ih70 =>
                      intro po3 j q hms70 ej ql hpo3
                      refine r_iload dX11_multiply_70 rfl ?_
                      refine r_iload dX11_multiply_72 rfl ?_
                      refine r_icmp_gt 163 dX11_multiply_74 (by decide) ⟨by omega, by omega⟩ ⟨by omega, by omega⟩ (fun c_74 => ?_) (fun c_74 => ?_)
                      · refine r_iinc (L2 := [_, _, _, _, _, _, _, none, none, none, none]) dX11_multiply_163 (nlt rfl) rfl rfl ?_
                        refine r_goto 61 dX11_multiply_166 (by decide) ?_
                        refine r_mask [true, true, true, true, true, true, false, false, false, false, false] (L2 := [_, _, _, _, _, _, none, none, none, none, none]) rfl ?_
                        exact ih61 (po3) (i + 1) ((n + 1)) (by omega) (by omega) (by omega) (fun t ht => by rw [hpo3 t ht, show q = l + 1 by omega]; exact mg9_s)
                      · refine r_iload dX11_multiply_77 rfl ?_
                        refine r_if_ne 86 dX11_multiply_79 (by decide) ⟨by omega, by omega⟩ (fun c_79 => ?_) (fun c_79 => ?_)
                        · refine r_aload_n dX11_multiply_86 rfl rfl ?_
                          refine gf_X11_13 dX11_multiply_87 (by omega) ((hs_n (by omega)).trans hm0) rfl ?_
                          refine r_bipush (z := 6) dX11_multiply_90 (by decide) ?_
                          refine r_iload_n dX11_multiply_92 rfl rfl ?_
                          refine r_imul dX11_multiply_93 ?_
                          refine r_iload dX11_multiply_94 rfl ?_
                          refine r_iadd dX11_multiply_96 ?_
                          refine r_iconst (z := 1) dX11_multiply_97 ?_
                          refine r_isub dX11_multiply_98 ?_
                          refine r_laload dX11_multiply_99 (by omega) ((hs_n (by omega)).trans hml) (by omega) (by omega) (by decide) ?_
                          refine r_lneg dX11_multiply_100 ?_
                          refine r_lstore (L2 := [_, _, _, _, _, _, _, _, none, none, none]) dX11_multiply_101 (nlt rfl) rfl ?_
                          refine r_iload dX11_multiply_103 rfl ?_
                          refine r_if_ne 112 dX11_multiply_105 (by decide) ⟨by omega, by omega⟩ (fun c_105 => ?_) (fun c_105 => ?_)
                          · refine r_iload_n dX11_multiply_112 rfl rfl ?_
                            refine r_if_ge 122 dX11_multiply_113 (by decide) ⟨by omega, by omega⟩ (fun c_113 => ?_) (fun c_113 => ?_)
                            · refine r_aload_n dX11_multiply_122 rfl rfl ?_
                              refine gf_X11_13 dX11_multiply_123 (by omega) ((hs_n (by omega)).trans hm0) rfl ?_
                              refine r_bipush (z := 6) dX11_multiply_126 (by decide) ?_
                              refine r_iload_n dX11_multiply_128 rfl rfl ?_
                              refine r_imul dX11_multiply_129 ?_
                              refine r_iload dX11_multiply_130 rfl ?_
                              refine r_iadd dX11_multiply_132 ?_
                              refine r_iconst (z := 1) dX11_multiply_133 ?_
                              refine r_isub dX11_multiply_134 ?_
                              refine r_laload dX11_multiply_135 (by omega) ((hs_n (by omega)).trans hml) (by omega) (by omega) (by decide) ?_
                              refine r_lneg dX11_multiply_136 ?_
                              refine r_lstore (L2 := [_, _, _, _, _, _, _, _, none, _, none]) dX11_multiply_137 (nlt rfl) rfl ?_
                              have e100 : ml (((6 * ri) + i) - 1).toNat = c n := by rw [show (((6 * ri) + i) - 1).toNat = 6 * r + n - 1 by omega]; exact (hg4 n (by omega) (by omega)).1
                              have ea7 : -(ml (((6 * ri) + i) - 1).toNat) = -(c n) := by rw [e100]
                              have eb9 : -(ml (((6 * yi) + j) - 1).toNat) = -(d q) := by
                                have w := (hy1 (by omega)).2.2 q (by omega) (by omega)
                                rw [← w]; congr 2; omega
                              have cb := hcb n (by omega)
                              have db := hdb q (by omega)
                              have m154 := mulb (A := 100000) (B := 100000) (a := -(ml (((6 * ri) + i) - 1).toNat)) (b := -(ml (((6 * yi) + j) - 1).toNat)) (C := 10000000000) (by omega) (by omega) (by omega) (by omega) (by decide)
                              have mab : -(ml (((6 * ri) + i) - 1).toNat) * -(ml (((6 * yi) + j) - 1).toNat) = c n * d q := mul_nn ea7 eb9
                              have ie : (i + j).toNat = n + q := by omega
                              have pb := mg9_bd (c := c) (d := d) (k := k) (l := l) (t := n + q) (n := n) (by omega) hcb hdb
                              have epo : po3 (i + j).toNat = sm (mg9 c d l (n + q)) n := by rw [ie, hpo3 _ (by omega), if_neg (by omega), Int.add_zero]
                              refine r_aload_n dX11_multiply_139 rfl rfl ?_
                              refine gf_X11_54 dX11_multiply_140 (by omega) ((hs_n (by omega)).trans hm0) rfl ?_
                              refine r_iload dX11_multiply_143 rfl ?_
                              refine r_iload dX11_multiply_145 rfl ?_
                              refine r_iadd dX11_multiply_147 ?_
                              refine r_dup2 dX11_multiply_148 rfl rfl ?_
                              refine r_laload dX11_multiply_149 (by omega) hs_e (by omega) (by omega) (by decide) ?_
                              refine r_lload dX11_multiply_150 rfl ?_
                              refine r_lload dX11_multiply_152 rfl ?_
                              refine r_lmul dX11_multiply_154 ?_
                              refine r_ladd dX11_multiply_155 ?_
                              refine r_lastore dX11_multiply_156 (by omega) hs_e (by omega) (by omega) (by decide) ?_
                              refine g_heap (h2 := (hs h (138) (aL 14 (uA (po3) (i + j).toNat ((po3 (i + j).toNat) + ((-(ml (((6 * ri) + i) - 1).toNat)) * (-(ml (((6 * yi) + j) - 1).toNat)))))))) hs_hs ?_
                              refine r_iinc (L2 := [_, _, _, _, _, _, _, _, none, _, none]) dX11_multiply_157 (nlt rfl) rfl rfl ?_
                              refine r_goto 70 dX11_multiply_160 (by decide) ?_
                              refine r_mask [true, true, true, true, true, true, true, false, false, false, false] (L2 := [_, _, _, _, _, _, _, none, none, none, none]) rfl ?_
                              exact ih70 (uA (po3) (i + j).toNat ((po3 (i + j).toNat) + ((-(ml (((6 * ri) + i) - 1).toNat)) * (-(ml (((6 * yi) + j) - 1).toNat))))) (j + 1) ((q + 1)) (by omega) (by omega) (by omega) (fun t ht => by
                                rw [mab, epo, ie]
                                by_cases w : t = n + q
                                · rw [w, uA_e, if_pos (by omega), show n + q - n = q by omega]
                                · rw [uA_n w, hpo3 t ht]
                                  congr 1
                                  by_cases w1 : n ≤ t ∧ t < n + q
                                  · rw [if_pos w1, if_pos (by omega)]
                                  · rw [if_neg w1, if_neg (by omega)])
                            · refine r_ldc2 (z := -1) dX11_multiply_116 kc_X11_224 ?_
                              refine r_goto 137 dX11_multiply_119 (by decide) ?_
                              refine r_lstore (L2 := [_, _, _, _, _, _, _, _, none, _, none]) dX11_multiply_137 (nlt rfl) rfl ?_
                              have e100 : ml (((6 * ri) + i) - 1).toNat = c n := by rw [show (((6 * ri) + i) - 1).toNat = 6 * r + n - 1 by omega]; exact (hg4 n (by omega) (by omega)).1
                              have ea7 : -(ml (((6 * ri) + i) - 1).toNat) = -(c n) := by rw [e100]
                              have eb9 : (-1) = -(d q) := by
                                have w := hy0 (by omega)
                                rw [show q = 1 by omega, w.2.2]
                              have cb := hcb n (by omega)
                              have db := hdb q (by omega)
                              have m154 := mulb (A := 100000) (B := 100000) (a := -(ml (((6 * ri) + i) - 1).toNat)) (b := (-1)) (C := 10000000000) (by omega) (by omega) (by omega) (by omega) (by decide)
                              have mab : -(ml (((6 * ri) + i) - 1).toNat) * (-1) = c n * d q := mul_nn ea7 eb9
                              have ie : (i + j).toNat = n + q := by omega
                              have pb := mg9_bd (c := c) (d := d) (k := k) (l := l) (t := n + q) (n := n) (by omega) hcb hdb
                              have epo : po3 (i + j).toNat = sm (mg9 c d l (n + q)) n := by rw [ie, hpo3 _ (by omega), if_neg (by omega), Int.add_zero]
                              refine r_aload_n dX11_multiply_139 rfl rfl ?_
                              refine gf_X11_54 dX11_multiply_140 (by omega) ((hs_n (by omega)).trans hm0) rfl ?_
                              refine r_iload dX11_multiply_143 rfl ?_
                              refine r_iload dX11_multiply_145 rfl ?_
                              refine r_iadd dX11_multiply_147 ?_
                              refine r_dup2 dX11_multiply_148 rfl rfl ?_
                              refine r_laload dX11_multiply_149 (by omega) hs_e (by omega) (by omega) (by decide) ?_
                              refine r_lload dX11_multiply_150 rfl ?_
                              refine r_lload dX11_multiply_152 rfl ?_
                              refine r_lmul dX11_multiply_154 ?_
                              refine r_ladd dX11_multiply_155 ?_
                              refine r_lastore dX11_multiply_156 (by omega) hs_e (by omega) (by omega) (by decide) ?_
                              refine g_heap (h2 := (hs h (138) (aL 14 (uA (po3) (i + j).toNat ((po3 (i + j).toNat) + ((-(ml (((6 * ri) + i) - 1).toNat)) * (-1))))))) hs_hs ?_
                              refine r_iinc (L2 := [_, _, _, _, _, _, _, _, none, _, none]) dX11_multiply_157 (nlt rfl) rfl rfl ?_
                              refine r_goto 70 dX11_multiply_160 (by decide) ?_
                              refine r_mask [true, true, true, true, true, true, true, false, false, false, false] (L2 := [_, _, _, _, _, _, _, none, none, none, none]) rfl ?_
                              exact ih70 (uA (po3) (i + j).toNat ((po3 (i + j).toNat) + ((-(ml (((6 * ri) + i) - 1).toNat)) * (-1)))) (j + 1) ((q + 1)) (by omega) (by omega) (by omega) (fun t ht => by
                                rw [mab, epo, ie]
                                by_cases w : t = n + q
                                · rw [w, uA_e, if_pos (by omega), show n + q - n = q by omega]
                                · rw [uA_n w, hpo3 t ht]
                                  congr 1
                                  by_cases w1 : n ≤ t ∧ t < n + q
                                  · rw [if_pos w1, if_pos (by omega)]
                                  · rw [if_neg w1, if_neg (by omega)])
                          · refine r_lconst (z := 1) dX11_multiply_108 (by decide) ?_
                            refine r_goto 137 dX11_multiply_109 (by decide) ?_
                            refine r_lstore (L2 := [_, _, _, _, _, _, _, _, none, _, none]) dX11_multiply_137 (nlt rfl) rfl ?_
                            have e100 : ml (((6 * ri) + i) - 1).toNat = c n := by rw [show (((6 * ri) + i) - 1).toNat = 6 * r + n - 1 by omega]; exact (hg4 n (by omega) (by omega)).1
                            have ea7 : -(ml (((6 * ri) + i) - 1).toNat) = -(c n) := by rw [e100]
                            have eb9 : 1 = -(d q) := by rw [show q = 0 by omega, hd0]; rfl
                            have cb := hcb n (by omega)
                            have db := hdb q (by omega)
                            have m154 := mulb (A := 100000) (B := 100000) (a := -(ml (((6 * ri) + i) - 1).toNat)) (b := 1) (C := 10000000000) (by omega) (by omega) (by omega) (by omega) (by decide)
                            have mab : -(ml (((6 * ri) + i) - 1).toNat) * 1 = c n * d q := mul_nn ea7 eb9
                            have ie : (i + j).toNat = n + q := by omega
                            have pb := mg9_bd (c := c) (d := d) (k := k) (l := l) (t := n + q) (n := n) (by omega) hcb hdb
                            have epo : po3 (i + j).toNat = sm (mg9 c d l (n + q)) n := by rw [ie, hpo3 _ (by omega), if_neg (by omega), Int.add_zero]
                            refine r_aload_n dX11_multiply_139 rfl rfl ?_
                            refine gf_X11_54 dX11_multiply_140 (by omega) ((hs_n (by omega)).trans hm0) rfl ?_
                            refine r_iload dX11_multiply_143 rfl ?_
                            refine r_iload dX11_multiply_145 rfl ?_
                            refine r_iadd dX11_multiply_147 ?_
                            refine r_dup2 dX11_multiply_148 rfl rfl ?_
                            refine r_laload dX11_multiply_149 (by omega) hs_e (by omega) (by omega) (by decide) ?_
                            refine r_lload dX11_multiply_150 rfl ?_
                            refine r_lload dX11_multiply_152 rfl ?_
                            refine r_lmul dX11_multiply_154 ?_
                            refine r_ladd dX11_multiply_155 ?_
                            refine r_lastore dX11_multiply_156 (by omega) hs_e (by omega) (by omega) (by decide) ?_
                            refine g_heap (h2 := (hs h (138) (aL 14 (uA (po3) (i + j).toNat ((po3 (i + j).toNat) + ((-(ml (((6 * ri) + i) - 1).toNat)) * 1)))))) hs_hs ?_
                            refine r_iinc (L2 := [_, _, _, _, _, _, _, _, none, _, none]) dX11_multiply_157 (nlt rfl) rfl rfl ?_
                            refine r_goto 70 dX11_multiply_160 (by decide) ?_
                            refine r_mask [true, true, true, true, true, true, true, false, false, false, false] (L2 := [_, _, _, _, _, _, _, none, none, none, none]) rfl ?_
                            exact ih70 (uA (po3) (i + j).toNat ((po3 (i + j).toNat) + ((-(ml (((6 * ri) + i) - 1).toNat)) * 1))) (j + 1) ((q + 1)) (by omega) (by omega) (by omega) (fun t ht => by
                              rw [mab, epo, ie]
                              by_cases w : t = n + q
                              · rw [w, uA_e, if_pos (by omega), show n + q - n = q by omega]
                              · rw [uA_n w, hpo3 t ht]
                                congr 1
                                by_cases w1 : n ≤ t ∧ t < n + q
                                · rw [if_pos w1, if_pos (by omega)]
                                · rw [if_neg w1, if_neg (by omega)])
                        · refine r_lconst (z := 1) dX11_multiply_82 (by decide) ?_
                          refine r_goto 101 dX11_multiply_83 (by decide) ?_
                          refine r_lstore (L2 := [_, _, _, _, _, _, _, _, none, none, none]) dX11_multiply_101 (nlt rfl) rfl ?_
                          refine r_iload dX11_multiply_103 rfl ?_
                          refine r_if_ne 112 dX11_multiply_105 (by decide) ⟨by omega, by omega⟩ (fun c_105 => ?_) (fun c_105 => ?_)
                          · refine r_iload_n dX11_multiply_112 rfl rfl ?_
                            refine r_if_ge 122 dX11_multiply_113 (by decide) ⟨by omega, by omega⟩ (fun c_113 => ?_) (fun c_113 => ?_)
                            · refine r_aload_n dX11_multiply_122 rfl rfl ?_
                              refine gf_X11_13 dX11_multiply_123 (by omega) ((hs_n (by omega)).trans hm0) rfl ?_
                              refine r_bipush (z := 6) dX11_multiply_126 (by decide) ?_
                              refine r_iload_n dX11_multiply_128 rfl rfl ?_
                              refine r_imul dX11_multiply_129 ?_
                              refine r_iload dX11_multiply_130 rfl ?_
                              refine r_iadd dX11_multiply_132 ?_
                              refine r_iconst (z := 1) dX11_multiply_133 ?_
                              refine r_isub dX11_multiply_134 ?_
                              refine r_laload dX11_multiply_135 (by omega) ((hs_n (by omega)).trans hml) (by omega) (by omega) (by decide) ?_
                              refine r_lneg dX11_multiply_136 ?_
                              refine r_lstore (L2 := [_, _, _, _, _, _, _, _, none, _, none]) dX11_multiply_137 (nlt rfl) rfl ?_
                              have ea7 : 1 = -(c n) := by rw [show n = 0 by omega, hc0]; rfl
                              have eb9 : -(ml (((6 * yi) + j) - 1).toNat) = -(d q) := by
                                have w := (hy1 (by omega)).2.2 q (by omega) (by omega)
                                rw [← w]; congr 2; omega
                              have cb := hcb n (by omega)
                              have db := hdb q (by omega)
                              have m154 := mulb (A := 100000) (B := 100000) (a := 1) (b := -(ml (((6 * yi) + j) - 1).toNat)) (C := 10000000000) (by omega) (by omega) (by omega) (by omega) (by decide)
                              have mab : 1 * -(ml (((6 * yi) + j) - 1).toNat) = c n * d q := mul_nn ea7 eb9
                              have ie : (i + j).toNat = n + q := by omega
                              have pb := mg9_bd (c := c) (d := d) (k := k) (l := l) (t := n + q) (n := n) (by omega) hcb hdb
                              have epo : po3 (i + j).toNat = sm (mg9 c d l (n + q)) n := by rw [ie, hpo3 _ (by omega), if_neg (by omega), Int.add_zero]
                              refine r_aload_n dX11_multiply_139 rfl rfl ?_
                              refine gf_X11_54 dX11_multiply_140 (by omega) ((hs_n (by omega)).trans hm0) rfl ?_
                              refine r_iload dX11_multiply_143 rfl ?_
                              refine r_iload dX11_multiply_145 rfl ?_
                              refine r_iadd dX11_multiply_147 ?_
                              refine r_dup2 dX11_multiply_148 rfl rfl ?_
                              refine r_laload dX11_multiply_149 (by omega) hs_e (by omega) (by omega) (by decide) ?_
                              refine r_lload dX11_multiply_150 rfl ?_
                              refine r_lload dX11_multiply_152 rfl ?_
                              refine r_lmul dX11_multiply_154 ?_
                              refine r_ladd dX11_multiply_155 ?_
                              refine r_lastore dX11_multiply_156 (by omega) hs_e (by omega) (by omega) (by decide) ?_
                              refine g_heap (h2 := (hs h (138) (aL 14 (uA (po3) (i + j).toNat ((po3 (i + j).toNat) + (1 * (-(ml (((6 * yi) + j) - 1).toNat)))))))) hs_hs ?_
                              refine r_iinc (L2 := [_, _, _, _, _, _, _, _, none, _, none]) dX11_multiply_157 (nlt rfl) rfl rfl ?_
                              refine r_goto 70 dX11_multiply_160 (by decide) ?_
                              refine r_mask [true, true, true, true, true, true, true, false, false, false, false] (L2 := [_, _, _, _, _, _, _, none, none, none, none]) rfl ?_
                              exact ih70 (uA (po3) (i + j).toNat ((po3 (i + j).toNat) + (1 * (-(ml (((6 * yi) + j) - 1).toNat))))) (j + 1) ((q + 1)) (by omega) (by omega) (by omega) (fun t ht => by
                                rw [mab, epo, ie]
                                by_cases w : t = n + q
                                · rw [w, uA_e, if_pos (by omega), show n + q - n = q by omega]
                                · rw [uA_n w, hpo3 t ht]
                                  congr 1
                                  by_cases w1 : n ≤ t ∧ t < n + q
                                  · rw [if_pos w1, if_pos (by omega)]
                                  · rw [if_neg w1, if_neg (by omega)])
                            · refine r_ldc2 (z := -1) dX11_multiply_116 kc_X11_224 ?_
                              refine r_goto 137 dX11_multiply_119 (by decide) ?_
                              refine r_lstore (L2 := [_, _, _, _, _, _, _, _, none, _, none]) dX11_multiply_137 (nlt rfl) rfl ?_
                              have ea7 : 1 = -(c n) := by rw [show n = 0 by omega, hc0]; rfl
                              have eb9 : (-1) = -(d q) := by
                                have w := hy0 (by omega)
                                rw [show q = 1 by omega, w.2.2]
                              have cb := hcb n (by omega)
                              have db := hdb q (by omega)
                              have m154 := mulb (A := 100000) (B := 100000) (a := 1) (b := (-1)) (C := 10000000000) (by omega) (by omega) (by omega) (by omega) (by decide)
                              have mab : 1 * (-1) = c n * d q := mul_nn ea7 eb9
                              have ie : (i + j).toNat = n + q := by omega
                              have pb := mg9_bd (c := c) (d := d) (k := k) (l := l) (t := n + q) (n := n) (by omega) hcb hdb
                              have epo : po3 (i + j).toNat = sm (mg9 c d l (n + q)) n := by rw [ie, hpo3 _ (by omega), if_neg (by omega), Int.add_zero]
                              refine r_aload_n dX11_multiply_139 rfl rfl ?_
                              refine gf_X11_54 dX11_multiply_140 (by omega) ((hs_n (by omega)).trans hm0) rfl ?_
                              refine r_iload dX11_multiply_143 rfl ?_
                              refine r_iload dX11_multiply_145 rfl ?_
                              refine r_iadd dX11_multiply_147 ?_
                              refine r_dup2 dX11_multiply_148 rfl rfl ?_
                              refine r_laload dX11_multiply_149 (by omega) hs_e (by omega) (by omega) (by decide) ?_
                              refine r_lload dX11_multiply_150 rfl ?_
                              refine r_lload dX11_multiply_152 rfl ?_
                              refine r_lmul dX11_multiply_154 ?_
                              refine r_ladd dX11_multiply_155 ?_
                              refine r_lastore dX11_multiply_156 (by omega) hs_e (by omega) (by omega) (by decide) ?_
                              refine g_heap (h2 := (hs h (138) (aL 14 (uA (po3) (i + j).toNat ((po3 (i + j).toNat) + (1 * (-1))))))) hs_hs ?_
                              refine r_iinc (L2 := [_, _, _, _, _, _, _, _, none, _, none]) dX11_multiply_157 (nlt rfl) rfl rfl ?_
                              refine r_goto 70 dX11_multiply_160 (by decide) ?_
                              refine r_mask [true, true, true, true, true, true, true, false, false, false, false] (L2 := [_, _, _, _, _, _, _, none, none, none, none]) rfl ?_
                              exact ih70 (uA (po3) (i + j).toNat ((po3 (i + j).toNat) + (1 * (-1)))) (j + 1) ((q + 1)) (by omega) (by omega) (by omega) (fun t ht => by
                                rw [mab, epo, ie]
                                by_cases w : t = n + q
                                · rw [w, uA_e, if_pos (by omega), show n + q - n = q by omega]
                                · rw [uA_n w, hpo3 t ht]
                                  congr 1
                                  by_cases w1 : n ≤ t ∧ t < n + q
                                  · rw [if_pos w1, if_pos (by omega)]
                                  · rw [if_neg w1, if_neg (by omega)])
                          · refine r_lconst (z := 1) dX11_multiply_108 (by decide) ?_
                            refine r_goto 137 dX11_multiply_109 (by decide) ?_
                            refine r_lstore (L2 := [_, _, _, _, _, _, _, _, none, _, none]) dX11_multiply_137 (nlt rfl) rfl ?_
                            have ea7 : 1 = -(c n) := by rw [show n = 0 by omega, hc0]; rfl
                            have eb9 : 1 = -(d q) := by rw [show q = 0 by omega, hd0]; rfl
                            have cb := hcb n (by omega)
                            have db := hdb q (by omega)
                            have m154 := mulb (A := 100000) (B := 100000) (a := 1) (b := 1) (C := 10000000000) (by omega) (by omega) (by omega) (by omega) (by decide)
                            have mab : 1 * 1 = c n * d q := mul_nn ea7 eb9
                            have ie : (i + j).toNat = n + q := by omega
                            have pb := mg9_bd (c := c) (d := d) (k := k) (l := l) (t := n + q) (n := n) (by omega) hcb hdb
                            have epo : po3 (i + j).toNat = sm (mg9 c d l (n + q)) n := by rw [ie, hpo3 _ (by omega), if_neg (by omega), Int.add_zero]
                            refine r_aload_n dX11_multiply_139 rfl rfl ?_
                            refine gf_X11_54 dX11_multiply_140 (by omega) ((hs_n (by omega)).trans hm0) rfl ?_
                            refine r_iload dX11_multiply_143 rfl ?_
                            refine r_iload dX11_multiply_145 rfl ?_
                            refine r_iadd dX11_multiply_147 ?_
                            refine r_dup2 dX11_multiply_148 rfl rfl ?_
                            refine r_laload dX11_multiply_149 (by omega) hs_e (by omega) (by omega) (by decide) ?_
                            refine r_lload dX11_multiply_150 rfl ?_
                            refine r_lload dX11_multiply_152 rfl ?_
                            refine r_lmul dX11_multiply_154 ?_
                            refine r_ladd dX11_multiply_155 ?_
                            refine r_lastore dX11_multiply_156 (by omega) hs_e (by omega) (by omega) (by decide) ?_
                            refine g_heap (h2 := (hs h (138) (aL 14 (uA (po3) (i + j).toNat ((po3 (i + j).toNat) + (1 * 1)))))) hs_hs ?_
                            refine r_iinc (L2 := [_, _, _, _, _, _, _, _, none, _, none]) dX11_multiply_157 (nlt rfl) rfl rfl ?_
                            refine r_goto 70 dX11_multiply_160 (by decide) ?_
                            refine r_mask [true, true, true, true, true, true, true, false, false, false, false] (L2 := [_, _, _, _, _, _, _, none, none, none, none]) rfl ?_
                            exact ih70 (uA (po3) (i + j).toNat ((po3 (i + j).toNat) + (1 * 1))) (j + 1) ((q + 1)) (by omega) (by omega) (by omega) (fun t ht => by
                              rw [mab, epo, ie]
                              by_cases w : t = n + q
                              · rw [w, uA_e, if_pos (by omega), show n + q - n = q by omega]
                              · rw [uA_n w, hpo3 t ht]
                                congr 1
                                by_cases w1 : n ≤ t ∧ t < n + q
                                · rw [if_pos w1, if_pos (by omega)]
                                · rw [if_neg w1, if_neg (by omega)])
                  exact lp70 ((9 : Int) + 1).toNat (po2) (0) (0) (by omega) rfl (by omega) (fun t ht => by rw [if_neg (by omega), Int.add_zero]; exact hpo2 t ht)
            exact lp61 ((9 : Int) + 1).toNat (po1) (0) (0) (by omega) rfl (by omega) (fun t ht => hz t (by omega))
          · refine r_aload_n dX11_multiply_44 rfl rfl ?_
            refine gf_X11_54 dX11_multiply_45 (by omega) ((hs_n (by omega)).trans hm0) rfl ?_
            refine r_iload dX11_multiply_48 rfl ?_
            refine r_lconst (z := 0) dX11_multiply_50 (by decide) ?_
            refine r_lastore dX11_multiply_51 (by omega) hs_e (by omega) (by omega) (by decide) ?_
            refine g_heap (h2 := (hs h (138) (aL 14 (uA (po1) (z).toNat (0))))) hs_hs ?_
            refine r_iinc (L2 := [_, _, _, _, _, _, none, none, none, none, none]) dX11_multiply_52 (nlt rfl) rfl rfl ?_
            refine r_goto 37 dX11_multiply_55 (by decide) ?_
            exact ih37 (uA (po1) (z).toNat (0)) (z + 1) ((zn + 1)) (by omega) (by omega) (by omega) (fun t ht => by rw [show z.toNat = zn by omega]; by_cases w : t = zn; (rw [w, uA_e]); rw [uA_n w]; exact hz t (by omega))
      refine g_heap (hs_id (c := aL 14 (po)) h138).symm ?_
      exact lp37 ((15 : Int) + 1).toNat (po) (0) (0) (by omega) rfl (by decide) (fun t ht => absurd ht (Nat.not_lt_zero t))
    · refine r_iconst (z := 0) dX11_multiply_32 ?_
      refine r_zreturn hq dX11_multiply_33 rfl (by decide) rfl rfl ?_
      have hfin := hQ 0 om ml po ⟨fun _ _ => rfl, fun _ _ => rfl, Or.inl ⟨rfl, fun w => by omega⟩⟩
      rw [hs_id (a := 138) h138] at hfin
      rw [hs_id (a := 125) hom] at hfin
      rw [hs_id (a := 126) hml] at hfin
      exact hfin
  · refine r_iconst (z := 1) dX11_multiply_11 ?_
    refine r_goto 21 dX11_multiply_12 (by decide) ?_
    refine r_istore (L2 := [_, _, _, _, _, none, none, none, none, none, none]) dX11_multiply_21 (nlt rfl) rfl ?_
    have el : (1 : Int) = (l : Int) := by have w := hy0 (by omega); omega
    rw [show (iZ (1)) = iZ (l : Int) from congrArg iZ el]
    refine r_iload_n dX11_multiply_23 rfl rfl ?_
    refine r_iload dX11_multiply_24 rfl ?_
    refine r_iadd dX11_multiply_26 ?_
    refine r_bipush (z := 6) dX11_multiply_27 (by decide) ?_
    refine r_icmp_le 34 dX11_multiply_29 (by decide) ⟨by omega, by omega⟩ ⟨by decide, by decide⟩ (fun c_29 => ?_) (fun c_29 => ?_)
    · refine r_iconst (z := 0) dX11_multiply_34 ?_
      refine r_istore (L2 := [_, _, _, _, _, _, none, none, none, none, none]) dX11_multiply_35 (nlt rfl) rfl ?_
      have lp37 : ∀ (fu37 : Nat) (po1 : Nat → Int) (z : Int) (zn : Nat), (15 - z) < (fu37 : Int) → (z = (zn : Int)) → (zn ≤ 14) → (∀ t, t < zn → po1 t = 0) → G X RX11 cX11_multiply mX11_multiply.rm N 0 0 37 [some (.ref (124)), some (.int (iZ (ri))), some (.int (iZ (yi))), some (.int (iZ (om (ri).toNat))), some (.int (iZ ((l : Int)))), some (.int (iZ (z))), none, none, none, none, none] [] (hs h (138) (aL 14 (po1))) := by
        intro fu37
        induction fu37 with
        | zero => intro po1 z zn hm ez zl hz; exfalso; omega
        | succ fu37 ih37 =>
          intro po1 z zn hms37 ez zl hz
          refine r_iload dX11_multiply_37 rfl ?_
          refine r_bipush (z := 14) dX11_multiply_39 (by decide) ?_
          refine r_icmp_ge 58 dX11_multiply_41 (by decide) ⟨by omega, by omega⟩ ⟨by decide, by decide⟩ (fun c_41 => ?_) (fun c_41 => ?_)
          · refine r_iconst (z := 0) dX11_multiply_58 ?_
            refine r_istore (L2 := [_, _, _, _, _, _, none, none, none, none, none]) dX11_multiply_59 (nlt rfl) rfl ?_
            have lp61 : ∀ (fu61 : Nat) (po2 : Nat → Int) (i : Int) (n : Nat), (9 - i) < (fu61 : Int) → (i = (n : Int)) → (n ≤ k + 1) → (∀ t, t < 14 → po2 t = sm (mg9 c d l t) n) → G X RX11 cX11_multiply mX11_multiply.rm N 0 0 61 [some (.ref (124)), some (.int (iZ (ri))), some (.int (iZ (yi))), some (.int (iZ (om (ri).toNat))), some (.int (iZ ((l : Int)))), some (.int (iZ (i))), none, none, none, none, none] [] (hs h (138) (aL 14 (po2))) := by
              intro fu61
              induction fu61 with
              | zero => intro po2 i n hm ei nk hpo2; exfalso; omega
              | succ fu61 ih61 =>
                intro po2 i n hms61 ei nk hpo2
                refine r_iload dX11_multiply_61 rfl ?_
                refine r_iload_n dX11_multiply_63 rfl rfl ?_
                refine r_icmp_gt 169 dX11_multiply_64 (by decide) ⟨by omega, by omega⟩ ⟨by omega, by omega⟩ (fun c_64 => ?_) (fun c_64 => ?_)
                · refine r_aload_n dX11_multiply_169 rfl rfl ?_
                  refine gf_X11_7 dX11_multiply_170 (by omega) ((hs_n (by omega)).trans hm0) rfl ?_
                  refine r_bipush (z := 6) dX11_multiply_173 (by decide) ?_
                  refine r_iload_n dX11_multiply_175 rfl rfl ?_
                  refine r_iload dX11_multiply_176 rfl ?_
                  refine r_iadd dX11_multiply_178 ?_
                  refine r_iastore dX11_multiply_179 (by omega) ((hs_n (by omega)).trans hom) (by omega) (by omega) (by decide) ?_
                  refine r_iconst (z := 1) dX11_multiply_180 ?_
                  refine r_istore (L2 := [_, _, _, _, _, _, none, none, none, none, none]) dX11_multiply_181 (nlt rfl) rfl ?_
                  refine r_iconst (z := 1) dX11_multiply_183 ?_
                  refine r_istore (L2 := [_, _, _, _, _, _, _, none, none, none, none]) dX11_multiply_184 (nlt rfl) rfl ?_
                  have n9 : n = k + 1 := by omega
                  rw [n9] at hpo2
                  have hmu : ∀ t, t < 14 → -(po2 t) = mulc c d k l t := fun t ht => by rw [hpo2 t ht]; exact mg9_eq
                  have hpb : ∀ t, t < 14 → -1000000000000 ≤ po2 t ∧ po2 t ≤ 1000000000000 := fun t ht => by
                    have := mg9_bd (c := c) (d := d) (k := k) (l := l) (t := t) (n := k + 1) (Nat.le_refl _) hcb hdb
                    rw [hpo2 t ht]; omega
                  have lp186 : ∀ (fu186 : Nat) (ml3 : Nat → Int) (fit : Int) (u : Int) (w : Nat), (14 - u) < (fu186 : Int) → (u = (w : Int)) → (1 ≤ w) → (w ≤ k + l + 1) → (fit = 0 ∨ fit = 1) → (∀ t, t < 36 → ml3 t = ml t) → (∀ t, 1 ≤ t → t < w → ml3 (36 + t - 1) = mulc c d k l t) → (fit = 1 → ∀ t, 1 ≤ t → t < w → -100000 ≤ mulc c d k l t ∧ mulc c d k l t ≤ 100000) → (fit = 0 → ∃ t, 1 ≤ t ∧ t < w ∧ ¬ (-100000 ≤ mulc c d k l t ∧ mulc c d k l t ≤ 100000)) → G X RX11 cX11_multiply mX11_multiply.rm N 0 0 186 [some (.ref (124)), none, none, some (.int (iZ (om (ri).toNat))), some (.int (iZ ((l : Int)))), some (.int (iZ (fit))), some (.int (iZ (u))), none, none, none, none] [] (hs (hs (hs h (138) (aL 14 (po2))) (125) (aI 7 (uA (om) (6 : Int).toNat ((om (ri).toNat) + (l : Int))))) (126) (aL 42 (ml3))) := by
                    intro fu186
                    induction fu186 with
                    | zero => intro ml3 fit u w hm eu w1 wl f01 hm1 hm2 hf1 hf0; exfalso; omega
                    | succ fu186 ih186 =>
                      intro ml3 fit u w hms186 eu w1 wl f01 hm1 hm2 hf1 hf0
                      refine r_iload dX11_multiply_186 rfl ?_
                      refine r_iload_n dX11_multiply_188 rfl rfl ?_
                      refine r_iload dX11_multiply_189 rfl ?_
                      refine r_iadd dX11_multiply_191 ?_
                      refine r_icmp_gt 250 dX11_multiply_192 (by decide) ⟨by omega, by omega⟩ ⟨by omega, by omega⟩ (fun c_192 => ?_) (fun c_192 => ?_)
                      · refine r_iload dX11_multiply_250 rfl ?_
                        refine r_zreturn hq dX11_multiply_252 rfl (by omega) rfl rfl ?_
                        have hk6 : k + l ≤ 6 := by omega
                        refine hQ fit _ ml3 po2 ⟨fun i hi => uA_n (by show i ≠ 6; omega), hm1, ?_⟩
                        rcases f01 with y | y
                        · refine Or.inl ⟨y, fun z => ?_⟩
                          obtain ⟨t, t1, t2, t3⟩ := hf0 y
                          exact t3 (z.2 t t1 (by omega))
                        · exact Or.inr ⟨y, ⟨hk6, fun t a b => hf1 y t a (by omega)⟩, uA_e.trans (by omega), fun t a b => hm2 t a (by omega)⟩
                      · have e205 : ((36 + u) - 1).toNat = 36 + w - 1 := by omega
                        have hmw : -(po2 u.toNat) = mulc c d k l w := by rw [show u.toNat = w by omega]; exact hmu w (by omega)
                        have pb9 := hpb u.toNat (by omega)
                        refine r_aload_n dX11_multiply_195 rfl rfl ?_
                        refine gf_X11_13 dX11_multiply_196 (by omega) ((hs_n (by omega)).trans ((hs_n (by omega)).trans ((hs_n (by omega)).trans hm0))) rfl ?_
                        refine r_bipush (z := 36) dX11_multiply_199 (by decide) ?_
                        refine r_iload dX11_multiply_201 rfl ?_
                        refine r_iadd dX11_multiply_203 ?_
                        refine r_iconst (z := 1) dX11_multiply_204 ?_
                        refine r_isub dX11_multiply_205 ?_
                        refine r_aload_n dX11_multiply_206 rfl rfl ?_
                        refine gf_X11_54 dX11_multiply_207 (by omega) ((hs_n (by omega)).trans ((hs_n (by omega)).trans ((hs_n (by omega)).trans hm0))) rfl ?_
                        refine r_iload dX11_multiply_210 rfl ?_
                        refine r_laload dX11_multiply_212 (by omega) ((hs_n (by omega)).trans ((hs_n (by omega)).trans hs_e)) (by omega) (by omega) (by decide) ?_
                        refine r_lneg dX11_multiply_213 ?_
                        refine r_lastore dX11_multiply_214 (by omega) hs_e (by omega) (by omega) (by decide) ?_
                        refine g_heap (h2 := (hs (hs (hs h (138) (aL 14 (po2))) (125) (aI 7 (uA (om) (6 : Int).toNat ((om (ri).toNat) + (l : Int))))) (126) (aL 42 (uA (ml3) ((36 + u) - 1).toNat (-(po2 (u).toNat)))))) hs_hs ?_
                        refine r_iload dX11_multiply_215 rfl ?_
                        refine r_if_eq 241 dX11_multiply_217 (by decide) ⟨by omega, by omega⟩ (fun c_217 => ?_) (fun c_217 => ?_)
                        · refine r_iconst (z := 0) dX11_multiply_241 ?_
                          refine r_istore (L2 := [_, none, none, _, _, _, _, none, none, none, none]) dX11_multiply_242 (nlt rfl) rfl ?_
                          refine r_iinc (L2 := [_, none, none, _, _, _, _, none, none, none, none]) dX11_multiply_244 (nlt rfl) rfl rfl ?_
                          refine r_goto 186 dX11_multiply_247 (by decide) ?_
                          exact ih186 (uA (ml3) ((36 + u) - 1).toNat (-(po2 (u).toNat))) (0) (u + 1) ((w + 1)) (by omega) (by omega) (by omega) (by omega) (by omega) (fun t ht => by rw [e205, uA_n (by omega)]; exact hm1 t ht) (fun t a b => by rw [e205]; by_cases z : t = w; (rw [z, uA_e]; exact hmw); rw [uA_n (by omega)]; exact hm2 t a (by omega)) (fun y => by omega) (fun y => by by_cases z : fit = 0; (obtain ⟨t, t1, t2, t3⟩ := hf0 z; exact ⟨t, t1, by omega, t3⟩); exact ⟨w, w1, by omega, fun v => by rw [← hmw] at v; omega⟩)
                        · refine r_aload_n dX11_multiply_220 rfl rfl ?_
                          refine gf_X11_54 dX11_multiply_221 (by omega) ((hs_n (by omega)).trans ((hs_n (by omega)).trans ((hs_n (by omega)).trans hm0))) rfl ?_
                          refine r_iload dX11_multiply_224 rfl ?_
                          refine r_laload dX11_multiply_226 (by omega) ((hs_n (by omega)).trans ((hs_n (by omega)).trans hs_e)) (by omega) (by omega) (by decide) ?_
                          refine r_callS (av := [.long (lZ (po2 (u).toNat))]) dX11_multiply_227 lkX11_size ml_X11_84 stX11_size ⟨Nat.le_of_ble_eq_true rfl, Nat.le_of_ble_eq_true rfl⟩ rfl rfl (nle rfl) ⟨Nat.le_of_ble_eq_true rfl, Nat.le_of_ble_eq_true rfl⟩ (c_X11_size (x := po2 (u).toNat) (by omega) ?_)
                          show G _ _ _ _ _ _ _ 230 _ _ _
                          refine r_ldc2 (z := 100000) dX11_multiply_230 kc_X11_115 ?_
                          refine r_lcmp_gt 241 dX11_multiply_233 dX11_multiply_234 (by decide) ⟨by omega, by omega⟩ ⟨by decide, by decide⟩ (fun c_233 => ?_) (fun c_233 => ?_)
                          · refine r_iconst (z := 0) dX11_multiply_241 ?_
                            refine r_istore (L2 := [_, none, none, _, _, _, _, none, none, none, none]) dX11_multiply_242 (nlt rfl) rfl ?_
                            refine r_iinc (L2 := [_, none, none, _, _, _, _, none, none, none, none]) dX11_multiply_244 (nlt rfl) rfl rfl ?_
                            refine r_goto 186 dX11_multiply_247 (by decide) ?_
                            exact ih186 (uA (ml3) ((36 + u) - 1).toNat (-(po2 (u).toNat))) (0) (u + 1) ((w + 1)) (by omega) (by omega) (by omega) (by omega) (by omega) (fun t ht => by rw [e205, uA_n (by omega)]; exact hm1 t ht) (fun t a b => by rw [e205]; by_cases z : t = w; (rw [z, uA_e]; exact hmw); rw [uA_n (by omega)]; exact hm2 t a (by omega)) (fun y => by omega) (fun y => by by_cases z : fit = 0; (obtain ⟨t, t1, t2, t3⟩ := hf0 z; exact ⟨t, t1, by omega, t3⟩); exact ⟨w, w1, by omega, fun v => by rw [← hmw] at v; omega⟩)
                          · refine r_iconst (z := 1) dX11_multiply_237 ?_
                            refine r_goto 242 dX11_multiply_238 (by decide) ?_
                            refine r_istore (L2 := [_, none, none, _, _, _, _, none, none, none, none]) dX11_multiply_242 (nlt rfl) rfl ?_
                            refine r_iinc (L2 := [_, none, none, _, _, _, _, none, none, none, none]) dX11_multiply_244 (nlt rfl) rfl rfl ?_
                            refine r_goto 186 dX11_multiply_247 (by decide) ?_
                            exact ih186 (uA (ml3) ((36 + u) - 1).toNat (-(po2 (u).toNat))) (1) (u + 1) ((w + 1)) (by omega) (by omega) (by omega) (by omega) (by omega) (fun t ht => by rw [e205, uA_n (by omega)]; exact hm1 t ht) (fun t a b => by rw [e205]; by_cases z : t = w; (rw [z, uA_e]; exact hmw); rw [uA_n (by omega)]; exact hm2 t a (by omega)) (fun _ t a b => by by_cases z : t = w; (rw [z, ← hmw]; omega); exact hf1 (f01.resolve_left c_217) t a (by omega)) (fun y => absurd y (by decide))
                  refine r_mask [true, false, false, true, true, true, true, false, false, false, false] (L2 := [_, none, none, _, _, _, _, none, none, none, none]) rfl ?_
                  refine g_heap (hs_id (c := aL 42 (ml)) ((hs_n (by omega)).trans ((hs_n (by omega)).trans hml))).symm ?_
                  exact lp186 ((14 : Int) + 1).toNat (ml) (1) (1) (1) (by omega) rfl (Nat.le_refl _) (by omega) (by omega) (fun _ _ => rfl) (fun t a b => by omega) (fun _ t a b => by omega) (fun y => by omega)
                · refine r_iconst (z := 0) dX11_multiply_67 ?_
                  refine r_istore (L2 := [_, _, _, _, _, _, _, none, none, none, none]) dX11_multiply_68 (nlt rfl) rfl ?_
                  have lp70 : ∀ (fu70 : Nat) (po3 : Nat → Int) (j : Int) (q : Nat), (9 - j) < (fu70 : Int) → (j = (q : Int)) → (q ≤ l + 1) → (∀ t, t < 14 → po3 t = sm (mg9 c d l t) n + (if n ≤ t ∧ t < n + q then c n * d (t - n) else 0)) → G X RX11 cX11_multiply mX11_multiply.rm N 0 0 70 [some (.ref (124)), some (.int (iZ (ri))), some (.int (iZ (yi))), some (.int (iZ (om (ri).toNat))), some (.int (iZ ((l : Int)))), some (.int (iZ (i))), some (.int (iZ (j))), none, none, none, none] [] (hs h (138) (aL 14 (po3))) := by
                    intro fu70
                    induction fu70 with
                    | zero => intro po3 j q hm ej ql hpo3; exfalso; omega
                    | succ fu70 ih70 =>
                      intro po3 j q hms70 ej ql hpo3
                      refine r_iload dX11_multiply_70 rfl ?_
                      refine r_iload dX11_multiply_72 rfl ?_
                      refine r_icmp_gt 163 dX11_multiply_74 (by decide) ⟨by omega, by omega⟩ ⟨by omega, by omega⟩ (fun c_74 => ?_) (fun c_74 => ?_)
                      · refine r_iinc (L2 := [_, _, _, _, _, _, _, none, none, none, none]) dX11_multiply_163 (nlt rfl) rfl rfl ?_
                        refine r_goto 61 dX11_multiply_166 (by decide) ?_
                        refine r_mask [true, true, true, true, true, true, false, false, false, false, false] (L2 := [_, _, _, _, _, _, none, none, none, none, none]) rfl ?_
                        exact ih61 (po3) (i + 1) ((n + 1)) (by omega) (by omega) (by omega) (fun t ht => by rw [hpo3 t ht, show q = l + 1 by omega]; exact mg9_s)
                      · refine r_iload dX11_multiply_77 rfl ?_
                        refine r_if_ne 86 dX11_multiply_79 (by decide) ⟨by omega, by omega⟩ (fun c_79 => ?_) (fun c_79 => ?_)
                        · refine r_aload_n dX11_multiply_86 rfl rfl ?_
                          refine gf_X11_13 dX11_multiply_87 (by omega) ((hs_n (by omega)).trans hm0) rfl ?_
                          refine r_bipush (z := 6) dX11_multiply_90 (by decide) ?_
                          refine r_iload_n dX11_multiply_92 rfl rfl ?_
                          refine r_imul dX11_multiply_93 ?_
                          refine r_iload dX11_multiply_94 rfl ?_
                          refine r_iadd dX11_multiply_96 ?_
                          refine r_iconst (z := 1) dX11_multiply_97 ?_
                          refine r_isub dX11_multiply_98 ?_
                          refine r_laload dX11_multiply_99 (by omega) ((hs_n (by omega)).trans hml) (by omega) (by omega) (by decide) ?_
                          refine r_lneg dX11_multiply_100 ?_
                          refine r_lstore (L2 := [_, _, _, _, _, _, _, _, none, none, none]) dX11_multiply_101 (nlt rfl) rfl ?_
                          refine r_iload dX11_multiply_103 rfl ?_
                          refine r_if_ne 112 dX11_multiply_105 (by decide) ⟨by omega, by omega⟩ (fun c_105 => ?_) (fun c_105 => ?_)
                          · refine r_iload_n dX11_multiply_112 rfl rfl ?_
                            refine r_if_ge 122 dX11_multiply_113 (by decide) ⟨by omega, by omega⟩ (fun c_113 => ?_) (fun c_113 => ?_)
                            · refine r_aload_n dX11_multiply_122 rfl rfl ?_
                              refine gf_X11_13 dX11_multiply_123 (by omega) ((hs_n (by omega)).trans hm0) rfl ?_
                              refine r_bipush (z := 6) dX11_multiply_126 (by decide) ?_
                              refine r_iload_n dX11_multiply_128 rfl rfl ?_
                              refine r_imul dX11_multiply_129 ?_
                              refine r_iload dX11_multiply_130 rfl ?_
                              refine r_iadd dX11_multiply_132 ?_
                              refine r_iconst (z := 1) dX11_multiply_133 ?_
                              refine r_isub dX11_multiply_134 ?_
                              refine r_laload dX11_multiply_135 (by omega) ((hs_n (by omega)).trans hml) (by omega) (by omega) (by decide) ?_
                              refine r_lneg dX11_multiply_136 ?_
                              refine r_lstore (L2 := [_, _, _, _, _, _, _, _, none, _, none]) dX11_multiply_137 (nlt rfl) rfl ?_
                              have e100 : ml (((6 * ri) + i) - 1).toNat = c n := by rw [show (((6 * ri) + i) - 1).toNat = 6 * r + n - 1 by omega]; exact (hg4 n (by omega) (by omega)).1
                              have ea7 : -(ml (((6 * ri) + i) - 1).toNat) = -(c n) := by rw [e100]
                              have eb9 : -(ml (((6 * yi) + j) - 1).toNat) = -(d q) := by
                                have w := (hy1 (by omega)).2.2 q (by omega) (by omega)
                                rw [← w]; congr 2; omega
                              have cb := hcb n (by omega)
                              have db := hdb q (by omega)
                              have m154 := mulb (A := 100000) (B := 100000) (a := -(ml (((6 * ri) + i) - 1).toNat)) (b := -(ml (((6 * yi) + j) - 1).toNat)) (C := 10000000000) (by omega) (by omega) (by omega) (by omega) (by decide)
                              have mab : -(ml (((6 * ri) + i) - 1).toNat) * -(ml (((6 * yi) + j) - 1).toNat) = c n * d q := mul_nn ea7 eb9
                              have ie : (i + j).toNat = n + q := by omega
                              have pb := mg9_bd (c := c) (d := d) (k := k) (l := l) (t := n + q) (n := n) (by omega) hcb hdb
                              have epo : po3 (i + j).toNat = sm (mg9 c d l (n + q)) n := by rw [ie, hpo3 _ (by omega), if_neg (by omega), Int.add_zero]
                              refine r_aload_n dX11_multiply_139 rfl rfl ?_
                              refine gf_X11_54 dX11_multiply_140 (by omega) ((hs_n (by omega)).trans hm0) rfl ?_
                              refine r_iload dX11_multiply_143 rfl ?_
                              refine r_iload dX11_multiply_145 rfl ?_
                              refine r_iadd dX11_multiply_147 ?_
                              refine r_dup2 dX11_multiply_148 rfl rfl ?_
                              refine r_laload dX11_multiply_149 (by omega) hs_e (by omega) (by omega) (by decide) ?_
                              refine r_lload dX11_multiply_150 rfl ?_
                              refine r_lload dX11_multiply_152 rfl ?_
                              refine r_lmul dX11_multiply_154 ?_
                              refine r_ladd dX11_multiply_155 ?_
                              refine r_lastore dX11_multiply_156 (by omega) hs_e (by omega) (by omega) (by decide) ?_
                              refine g_heap (h2 := (hs h (138) (aL 14 (uA (po3) (i + j).toNat ((po3 (i + j).toNat) + ((-(ml (((6 * ri) + i) - 1).toNat)) * (-(ml (((6 * yi) + j) - 1).toNat)))))))) hs_hs ?_
                              refine r_iinc (L2 := [_, _, _, _, _, _, _, _, none, _, none]) dX11_multiply_157 (nlt rfl) rfl rfl ?_
                              refine r_goto 70 dX11_multiply_160 (by decide) ?_
                              refine r_mask [true, true, true, true, true, true, true, false, false, false, false] (L2 := [_, _, _, _, _, _, _, none, none, none, none]) rfl ?_
                              exact ih70 (uA (po3) (i + j).toNat ((po3 (i + j).toNat) + ((-(ml (((6 * ri) + i) - 1).toNat)) * (-(ml (((6 * yi) + j) - 1).toNat))))) (j + 1) ((q + 1)) (by omega) (by omega) (by omega) (fun t ht => by
                                rw [mab, epo, ie]
                                by_cases w : t = n + q
                                · rw [w, uA_e, if_pos (by omega), show n + q - n = q by omega]
                                · rw [uA_n w, hpo3 t ht]
                                  congr 1
                                  by_cases w1 : n ≤ t ∧ t < n + q
                                  · rw [if_pos w1, if_pos (by omega)]
                                  · rw [if_neg w1, if_neg (by omega)])
                            · refine r_ldc2 (z := -1) dX11_multiply_116 kc_X11_224 ?_
                              refine r_goto 137 dX11_multiply_119 (by decide) ?_
                              refine r_lstore (L2 := [_, _, _, _, _, _, _, _, none, _, none]) dX11_multiply_137 (nlt rfl) rfl ?_
                              have e100 : ml (((6 * ri) + i) - 1).toNat = c n := by rw [show (((6 * ri) + i) - 1).toNat = 6 * r + n - 1 by omega]; exact (hg4 n (by omega) (by omega)).1
                              have ea7 : -(ml (((6 * ri) + i) - 1).toNat) = -(c n) := by rw [e100]
                              have eb9 : (-1) = -(d q) := by
                                have w := hy0 (by omega)
                                rw [show q = 1 by omega, w.2.2]
                              have cb := hcb n (by omega)
                              have db := hdb q (by omega)
                              have m154 := mulb (A := 100000) (B := 100000) (a := -(ml (((6 * ri) + i) - 1).toNat)) (b := (-1)) (C := 10000000000) (by omega) (by omega) (by omega) (by omega) (by decide)
                              have mab : -(ml (((6 * ri) + i) - 1).toNat) * (-1) = c n * d q := mul_nn ea7 eb9
                              have ie : (i + j).toNat = n + q := by omega
                              have pb := mg9_bd (c := c) (d := d) (k := k) (l := l) (t := n + q) (n := n) (by omega) hcb hdb
                              have epo : po3 (i + j).toNat = sm (mg9 c d l (n + q)) n := by rw [ie, hpo3 _ (by omega), if_neg (by omega), Int.add_zero]
                              refine r_aload_n dX11_multiply_139 rfl rfl ?_
                              refine gf_X11_54 dX11_multiply_140 (by omega) ((hs_n (by omega)).trans hm0) rfl ?_
                              refine r_iload dX11_multiply_143 rfl ?_
                              refine r_iload dX11_multiply_145 rfl ?_
                              refine r_iadd dX11_multiply_147 ?_
                              refine r_dup2 dX11_multiply_148 rfl rfl ?_
                              refine r_laload dX11_multiply_149 (by omega) hs_e (by omega) (by omega) (by decide) ?_
                              refine r_lload dX11_multiply_150 rfl ?_
                              refine r_lload dX11_multiply_152 rfl ?_
                              refine r_lmul dX11_multiply_154 ?_
                              refine r_ladd dX11_multiply_155 ?_
                              refine r_lastore dX11_multiply_156 (by omega) hs_e (by omega) (by omega) (by decide) ?_
                              refine g_heap (h2 := (hs h (138) (aL 14 (uA (po3) (i + j).toNat ((po3 (i + j).toNat) + ((-(ml (((6 * ri) + i) - 1).toNat)) * (-1))))))) hs_hs ?_
                              refine r_iinc (L2 := [_, _, _, _, _, _, _, _, none, _, none]) dX11_multiply_157 (nlt rfl) rfl rfl ?_
                              refine r_goto 70 dX11_multiply_160 (by decide) ?_
                              refine r_mask [true, true, true, true, true, true, true, false, false, false, false] (L2 := [_, _, _, _, _, _, _, none, none, none, none]) rfl ?_
                              exact ih70 (uA (po3) (i + j).toNat ((po3 (i + j).toNat) + ((-(ml (((6 * ri) + i) - 1).toNat)) * (-1)))) (j + 1) ((q + 1)) (by omega) (by omega) (by omega) (fun t ht => by
                                rw [mab, epo, ie]
                                by_cases w : t = n + q
                                · rw [w, uA_e, if_pos (by omega), show n + q - n = q by omega]
                                · rw [uA_n w, hpo3 t ht]
                                  congr 1
                                  by_cases w1 : n ≤ t ∧ t < n + q
                                  · rw [if_pos w1, if_pos (by omega)]
                                  · rw [if_neg w1, if_neg (by omega)])
                          · refine r_lconst (z := 1) dX11_multiply_108 (by decide) ?_
                            refine r_goto 137 dX11_multiply_109 (by decide) ?_
                            refine r_lstore (L2 := [_, _, _, _, _, _, _, _, none, _, none]) dX11_multiply_137 (nlt rfl) rfl ?_
                            have e100 : ml (((6 * ri) + i) - 1).toNat = c n := by rw [show (((6 * ri) + i) - 1).toNat = 6 * r + n - 1 by omega]; exact (hg4 n (by omega) (by omega)).1
                            have ea7 : -(ml (((6 * ri) + i) - 1).toNat) = -(c n) := by rw [e100]
                            have eb9 : 1 = -(d q) := by rw [show q = 0 by omega, hd0]; rfl
                            have cb := hcb n (by omega)
                            have db := hdb q (by omega)
                            have m154 := mulb (A := 100000) (B := 100000) (a := -(ml (((6 * ri) + i) - 1).toNat)) (b := 1) (C := 10000000000) (by omega) (by omega) (by omega) (by omega) (by decide)
                            have mab : -(ml (((6 * ri) + i) - 1).toNat) * 1 = c n * d q := mul_nn ea7 eb9
                            have ie : (i + j).toNat = n + q := by omega
                            have pb := mg9_bd (c := c) (d := d) (k := k) (l := l) (t := n + q) (n := n) (by omega) hcb hdb
                            have epo : po3 (i + j).toNat = sm (mg9 c d l (n + q)) n := by rw [ie, hpo3 _ (by omega), if_neg (by omega), Int.add_zero]
                            refine r_aload_n dX11_multiply_139 rfl rfl ?_
                            refine gf_X11_54 dX11_multiply_140 (by omega) ((hs_n (by omega)).trans hm0) rfl ?_
                            refine r_iload dX11_multiply_143 rfl ?_
                            refine r_iload dX11_multiply_145 rfl ?_
                            refine r_iadd dX11_multiply_147 ?_
                            refine r_dup2 dX11_multiply_148 rfl rfl ?_
                            refine r_laload dX11_multiply_149 (by omega) hs_e (by omega) (by omega) (by decide) ?_
                            refine r_lload dX11_multiply_150 rfl ?_
                            refine r_lload dX11_multiply_152 rfl ?_
                            refine r_lmul dX11_multiply_154 ?_
                            refine r_ladd dX11_multiply_155 ?_
                            refine r_lastore dX11_multiply_156 (by omega) hs_e (by omega) (by omega) (by decide) ?_
                            refine g_heap (h2 := (hs h (138) (aL 14 (uA (po3) (i + j).toNat ((po3 (i + j).toNat) + ((-(ml (((6 * ri) + i) - 1).toNat)) * 1)))))) hs_hs ?_
                            refine r_iinc (L2 := [_, _, _, _, _, _, _, _, none, _, none]) dX11_multiply_157 (nlt rfl) rfl rfl ?_
                            refine r_goto 70 dX11_multiply_160 (by decide) ?_
                            refine r_mask [true, true, true, true, true, true, true, false, false, false, false] (L2 := [_, _, _, _, _, _, _, none, none, none, none]) rfl ?_
                            exact ih70 (uA (po3) (i + j).toNat ((po3 (i + j).toNat) + ((-(ml (((6 * ri) + i) - 1).toNat)) * 1))) (j + 1) ((q + 1)) (by omega) (by omega) (by omega) (fun t ht => by
                              rw [mab, epo, ie]
                              by_cases w : t = n + q
                              · rw [w, uA_e, if_pos (by omega), show n + q - n = q by omega]
                              · rw [uA_n w, hpo3 t ht]
                                congr 1
                                by_cases w1 : n ≤ t ∧ t < n + q
                                · rw [if_pos w1, if_pos (by omega)]
                                · rw [if_neg w1, if_neg (by omega)])
                        · refine r_lconst (z := 1) dX11_multiply_82 (by decide) ?_
                          refine r_goto 101 dX11_multiply_83 (by decide) ?_
                          refine r_lstore (L2 := [_, _, _, _, _, _, _, _, none, none, none]) dX11_multiply_101 (nlt rfl) rfl ?_
                          refine r_iload dX11_multiply_103 rfl ?_
                          refine r_if_ne 112 dX11_multiply_105 (by decide) ⟨by omega, by omega⟩ (fun c_105 => ?_) (fun c_105 => ?_)
                          · refine r_iload_n dX11_multiply_112 rfl rfl ?_
                            refine r_if_ge 122 dX11_multiply_113 (by decide) ⟨by omega, by omega⟩ (fun c_113 => ?_) (fun c_113 => ?_)
                            · refine r_aload_n dX11_multiply_122 rfl rfl ?_
                              refine gf_X11_13 dX11_multiply_123 (by omega) ((hs_n (by omega)).trans hm0) rfl ?_
                              refine r_bipush (z := 6) dX11_multiply_126 (by decide) ?_
                              refine r_iload_n dX11_multiply_128 rfl rfl ?_
                              refine r_imul dX11_multiply_129 ?_
                              refine r_iload dX11_multiply_130 rfl ?_
                              refine r_iadd dX11_multiply_132 ?_
                              refine r_iconst (z := 1) dX11_multiply_133 ?_
                              refine r_isub dX11_multiply_134 ?_
                              refine r_laload dX11_multiply_135 (by omega) ((hs_n (by omega)).trans hml) (by omega) (by omega) (by decide) ?_
                              refine r_lneg dX11_multiply_136 ?_
                              refine r_lstore (L2 := [_, _, _, _, _, _, _, _, none, _, none]) dX11_multiply_137 (nlt rfl) rfl ?_
                              have ea7 : 1 = -(c n) := by rw [show n = 0 by omega, hc0]; rfl
                              have eb9 : -(ml (((6 * yi) + j) - 1).toNat) = -(d q) := by
                                have w := (hy1 (by omega)).2.2 q (by omega) (by omega)
                                rw [← w]; congr 2; omega
                              have cb := hcb n (by omega)
                              have db := hdb q (by omega)
                              have m154 := mulb (A := 100000) (B := 100000) (a := 1) (b := -(ml (((6 * yi) + j) - 1).toNat)) (C := 10000000000) (by omega) (by omega) (by omega) (by omega) (by decide)
                              have mab : 1 * -(ml (((6 * yi) + j) - 1).toNat) = c n * d q := mul_nn ea7 eb9
                              have ie : (i + j).toNat = n + q := by omega
                              have pb := mg9_bd (c := c) (d := d) (k := k) (l := l) (t := n + q) (n := n) (by omega) hcb hdb
                              have epo : po3 (i + j).toNat = sm (mg9 c d l (n + q)) n := by rw [ie, hpo3 _ (by omega), if_neg (by omega), Int.add_zero]
                              refine r_aload_n dX11_multiply_139 rfl rfl ?_
                              refine gf_X11_54 dX11_multiply_140 (by omega) ((hs_n (by omega)).trans hm0) rfl ?_
                              refine r_iload dX11_multiply_143 rfl ?_
                              refine r_iload dX11_multiply_145 rfl ?_
                              refine r_iadd dX11_multiply_147 ?_
                              refine r_dup2 dX11_multiply_148 rfl rfl ?_
                              refine r_laload dX11_multiply_149 (by omega) hs_e (by omega) (by omega) (by decide) ?_
                              refine r_lload dX11_multiply_150 rfl ?_
                              refine r_lload dX11_multiply_152 rfl ?_
                              refine r_lmul dX11_multiply_154 ?_
                              refine r_ladd dX11_multiply_155 ?_
                              refine r_lastore dX11_multiply_156 (by omega) hs_e (by omega) (by omega) (by decide) ?_
                              refine g_heap (h2 := (hs h (138) (aL 14 (uA (po3) (i + j).toNat ((po3 (i + j).toNat) + (1 * (-(ml (((6 * yi) + j) - 1).toNat)))))))) hs_hs ?_
                              refine r_iinc (L2 := [_, _, _, _, _, _, _, _, none, _, none]) dX11_multiply_157 (nlt rfl) rfl rfl ?_
                              refine r_goto 70 dX11_multiply_160 (by decide) ?_
                              refine r_mask [true, true, true, true, true, true, true, false, false, false, false] (L2 := [_, _, _, _, _, _, _, none, none, none, none]) rfl ?_
                              exact ih70 (uA (po3) (i + j).toNat ((po3 (i + j).toNat) + (1 * (-(ml (((6 * yi) + j) - 1).toNat))))) (j + 1) ((q + 1)) (by omega) (by omega) (by omega) (fun t ht => by
                                rw [mab, epo, ie]
                                by_cases w : t = n + q
                                · rw [w, uA_e, if_pos (by omega), show n + q - n = q by omega]
                                · rw [uA_n w, hpo3 t ht]
                                  congr 1
                                  by_cases w1 : n ≤ t ∧ t < n + q
                                  · rw [if_pos w1, if_pos (by omega)]
                                  · rw [if_neg w1, if_neg (by omega)])
                            · refine r_ldc2 (z := -1) dX11_multiply_116 kc_X11_224 ?_
                              refine r_goto 137 dX11_multiply_119 (by decide) ?_
                              refine r_lstore (L2 := [_, _, _, _, _, _, _, _, none, _, none]) dX11_multiply_137 (nlt rfl) rfl ?_
                              have ea7 : 1 = -(c n) := by rw [show n = 0 by omega, hc0]; rfl
                              have eb9 : (-1) = -(d q) := by
                                have w := hy0 (by omega)
                                rw [show q = 1 by omega, w.2.2]
                              have cb := hcb n (by omega)
                              have db := hdb q (by omega)
                              have m154 := mulb (A := 100000) (B := 100000) (a := 1) (b := (-1)) (C := 10000000000) (by omega) (by omega) (by omega) (by omega) (by decide)
                              have mab : 1 * (-1) = c n * d q := mul_nn ea7 eb9
                              have ie : (i + j).toNat = n + q := by omega
                              have pb := mg9_bd (c := c) (d := d) (k := k) (l := l) (t := n + q) (n := n) (by omega) hcb hdb
                              have epo : po3 (i + j).toNat = sm (mg9 c d l (n + q)) n := by rw [ie, hpo3 _ (by omega), if_neg (by omega), Int.add_zero]
                              refine r_aload_n dX11_multiply_139 rfl rfl ?_
                              refine gf_X11_54 dX11_multiply_140 (by omega) ((hs_n (by omega)).trans hm0) rfl ?_
                              refine r_iload dX11_multiply_143 rfl ?_
                              refine r_iload dX11_multiply_145 rfl ?_
                              refine r_iadd dX11_multiply_147 ?_
                              refine r_dup2 dX11_multiply_148 rfl rfl ?_
                              refine r_laload dX11_multiply_149 (by omega) hs_e (by omega) (by omega) (by decide) ?_
                              refine r_lload dX11_multiply_150 rfl ?_
                              refine r_lload dX11_multiply_152 rfl ?_
                              refine r_lmul dX11_multiply_154 ?_
                              refine r_ladd dX11_multiply_155 ?_
                              refine r_lastore dX11_multiply_156 (by omega) hs_e (by omega) (by omega) (by decide) ?_
                              refine g_heap (h2 := (hs h (138) (aL 14 (uA (po3) (i + j).toNat ((po3 (i + j).toNat) + (1 * (-1))))))) hs_hs ?_
                              refine r_iinc (L2 := [_, _, _, _, _, _, _, _, none, _, none]) dX11_multiply_157 (nlt rfl) rfl rfl ?_
                              refine r_goto 70 dX11_multiply_160 (by decide) ?_
                              refine r_mask [true, true, true, true, true, true, true, false, false, false, false] (L2 := [_, _, _, _, _, _, _, none, none, none, none]) rfl ?_
                              exact ih70 (uA (po3) (i + j).toNat ((po3 (i + j).toNat) + (1 * (-1)))) (j + 1) ((q + 1)) (by omega) (by omega) (by omega) (fun t ht => by
                                rw [mab, epo, ie]
                                by_cases w : t = n + q
                                · rw [w, uA_e, if_pos (by omega), show n + q - n = q by omega]
                                · rw [uA_n w, hpo3 t ht]
                                  congr 1
                                  by_cases w1 : n ≤ t ∧ t < n + q
                                  · rw [if_pos w1, if_pos (by omega)]
                                  · rw [if_neg w1, if_neg (by omega)])
                          · refine r_lconst (z := 1) dX11_multiply_108 (by decide) ?_
                            refine r_goto 137 dX11_multiply_109 (by decide) ?_
                            refine r_lstore (L2 := [_, _, _, _, _, _, _, _, none, _, none]) dX11_multiply_137 (nlt rfl) rfl ?_
                            have ea7 : 1 = -(c n) := by rw [show n = 0 by omega, hc0]; rfl
                            have eb9 : 1 = -(d q) := by rw [show q = 0 by omega, hd0]; rfl
                            have cb := hcb n (by omega)
                            have db := hdb q (by omega)
                            have m154 := mulb (A := 100000) (B := 100000) (a := 1) (b := 1) (C := 10000000000) (by omega) (by omega) (by omega) (by omega) (by decide)
                            have mab : 1 * 1 = c n * d q := mul_nn ea7 eb9
                            have ie : (i + j).toNat = n + q := by omega
                            have pb := mg9_bd (c := c) (d := d) (k := k) (l := l) (t := n + q) (n := n) (by omega) hcb hdb
                            have epo : po3 (i + j).toNat = sm (mg9 c d l (n + q)) n := by rw [ie, hpo3 _ (by omega), if_neg (by omega), Int.add_zero]
                            refine r_aload_n dX11_multiply_139 rfl rfl ?_
                            refine gf_X11_54 dX11_multiply_140 (by omega) ((hs_n (by omega)).trans hm0) rfl ?_
                            refine r_iload dX11_multiply_143 rfl ?_
                            refine r_iload dX11_multiply_145 rfl ?_
                            refine r_iadd dX11_multiply_147 ?_
                            refine r_dup2 dX11_multiply_148 rfl rfl ?_
                            refine r_laload dX11_multiply_149 (by omega) hs_e (by omega) (by omega) (by decide) ?_
                            refine r_lload dX11_multiply_150 rfl ?_
                            refine r_lload dX11_multiply_152 rfl ?_
                            refine r_lmul dX11_multiply_154 ?_
                            refine r_ladd dX11_multiply_155 ?_
                            refine r_lastore dX11_multiply_156 (by omega) hs_e (by omega) (by omega) (by decide) ?_
                            refine g_heap (h2 := (hs h (138) (aL 14 (uA (po3) (i + j).toNat ((po3 (i + j).toNat) + (1 * 1)))))) hs_hs ?_
                            refine r_iinc (L2 := [_, _, _, _, _, _, _, _, none, _, none]) dX11_multiply_157 (nlt rfl) rfl rfl ?_
                            refine r_goto 70 dX11_multiply_160 (by decide) ?_
                            refine r_mask [true, true, true, true, true, true, true, false, false, false, false] (L2 := [_, _, _, _, _, _, _, none, none, none, none]) rfl ?_
                            exact ih70 (uA (po3) (i + j).toNat ((po3 (i + j).toNat) + (1 * 1))) (j + 1) ((q + 1)) (by omega) (by omega) (by omega) (fun t ht => by
                              rw [mab, epo, ie]
                              by_cases w : t = n + q
                              · rw [w, uA_e, if_pos (by omega), show n + q - n = q by omega]
                              · rw [uA_n w, hpo3 t ht]
                                congr 1
                                by_cases w1 : n ≤ t ∧ t < n + q
                                · rw [if_pos w1, if_pos (by omega)]
                                · rw [if_neg w1, if_neg (by omega)])
                  exact lp70 ((9 : Int) + 1).toNat (po2) (0) (0) (by omega) rfl (by omega) (fun t ht => by rw [if_neg (by omega), Int.add_zero]; exact hpo2 t ht)
            exact lp61 ((9 : Int) + 1).toNat (po1) (0) (0) (by omega) rfl (by omega) (fun t ht => hz t (by omega))
          · refine r_aload_n dX11_multiply_44 rfl rfl ?_
            refine gf_X11_54 dX11_multiply_45 (by omega) ((hs_n (by omega)).trans hm0) rfl ?_
            refine r_iload dX11_multiply_48 rfl ?_
            refine r_lconst (z := 0) dX11_multiply_50 (by decide) ?_
            refine r_lastore dX11_multiply_51 (by omega) hs_e (by omega) (by omega) (by decide) ?_
            refine g_heap (h2 := (hs h (138) (aL 14 (uA (po1) (z).toNat (0))))) hs_hs ?_
            refine r_iinc (L2 := [_, _, _, _, _, _, none, none, none, none, none]) dX11_multiply_52 (nlt rfl) rfl rfl ?_
            refine r_goto 37 dX11_multiply_55 (by decide) ?_
            exact ih37 (uA (po1) (z).toNat (0)) (z + 1) ((zn + 1)) (by omega) (by omega) (by omega) (fun t ht => by rw [show z.toNat = zn by omega]; by_cases w : t = zn; (rw [w, uA_e]); rw [uA_n w]; exact hz t (by omega))
      refine g_heap (hs_id (c := aL 14 (po)) h138).symm ?_
      exact lp37 ((15 : Int) + 1).toNat (po) (0) (0) (by omega) rfl (by decide) (fun t ht => absurd ht (Nat.not_lt_zero t))
    · refine r_iconst (z := 0) dX11_multiply_32 ?_
      refine r_zreturn hq dX11_multiply_33 rfl (by decide) rfl rfl ?_
      have hfin := hQ 0 om ml po ⟨fun _ _ => rfl, fun _ _ => rfl, Or.inl ⟨rfl, fun w => by omega⟩⟩
      rw [hs_id (a := 138) h138] at hfin
      rw [hs_id (a := 125) hom] at hfin
      rw [hs_id (a := 126) hml] at hfin
      exact hfin
