theorem MR.hi {om om2 ml ml2 ms ms2 : Nat → Int} {K : Nat → Nat} {C S : Nat → Nat → Int} (h : MR om ml ms K C S) (h1 : ∀ i, i < 6 → om2 i = om i) (h2 : ∀ j, j < 36 → ml2 j = ml j) (h3 : ∀ j, j < 36 → ms2 j = ms j) : MR om2 ml2 ms2 K C S := fun i hi => by
  obtain ⟨⟨a1, a2, a3, a4, a5⟩, a6⟩ := h i hi
  exact ⟨⟨(h1 i hi).trans a1, a2, a3, fun j x y => ⟨(h2 _ (by omega)).trans (a4 j x y).1, (a4 j x y).2⟩, fun j x => ⟨(h3 _ (by omega)).trans (a5 j x).1, (a5 j x).2⟩⟩, a6⟩
theorem fLg_s (k : Nat) (p : Int) (n : Nat) : fLg k p (n + 1) = if (n : Int) % p = 0 then fLg k p n else if (fLg k p n).1 < (Lf k p n : Int) then ((Lf k p n : Int), 1, (n : Int)) else if (Lf k p n : Int) = (fLg k p n).1 then ((fLg k p n).1, (fLg k p n).2.1 + 1, (fLg k p n).2.2) else fLg k p n := rfl
theorem pw343 {p : Int} {e : Nat} (hp : p = 2 ∨ p = 3 ∨ p = 5 ∨ p = 7) (he : e ≤ 3) : p.toNat ^ e ≤ 343 := by
  have h1 : p.toNat ^ e ≤ 7 ^ e := Nat.pow_le_pow_left (by omega) e
  have h2 : (7 : Nat) ^ e ≤ 7 ^ 3 := Nat.pow_le_pow_right (by decide) he
  omega
theorem fLg_b {k : Nat} {p : Int} (h0 : 0 < k) (hp : p = 2 ∨ p = 3 ∨ p = 5 ∨ p = 7) (hk : k ≤ 3) : ∀ n, 0 ≤ (fLg k p n).1 ∧ (fLg k p n).1 ≤ 343
  | 0 => by simp [fLg]
  | n + 1 => by
    have ih := fLg_b h0 hp hk n
    rw [fLg_s]
    by_cases h1 : (n : Int) % p = 0
    · rw [if_pos h1]; exact ih
    · have h4 := (Lf_spec (code := (n : Int)) h0 hp h1).2
      have h5 := pw343 hp hk
      rw [if_neg h1]
      by_cases h2 : (fLg k p n).1 < (Lf k p n : Int)
      · rw [if_pos h2]; show 0 ≤ (Lf k p n : Int) ∧ (Lf k p n : Int) ≤ 343; omega
      · rw [if_neg h2]
        by_cases h3 : (Lf k p n : Int) = (fLg k p n).1
        · rw [if_pos h3]; exact ih
        · rw [if_neg h3]; exact ih
set_option maxHeartbeats 8000000 in
set_option maxRecDepth 20000 in
theorem c_X11_longest {N : Nat} {h : Hp} {Q : QP} {tb : Nat → Int} {ln : Nat} {K : Nat → Nat} {C S : Nat → Nat → Int} {p pp : Int} {vs : Nat → Int} {sz : Nat} {o w : Int} (hI : MDI h tb ln K C S p vs sz) (hN : 146 ≤ N) (ho : rI o) (hp : rI pp) (hw : rI w) (hQ : ∀ (r : Int) (h2 : Hp), SPlongest o pp w r → MDI h2 tb ln K C S p vs sz → OUTM h h2 → Q (some (.int (iZ r))) N h2) : Runs mX11_longest [.ref (124), .int (iZ (o)), .int (iZ (pp)), .int (iZ (w))] N h Q := by
  obtain ⟨at_, wr, va, em, ta, ro, dg, om, ml, ms, a130, a131, a132, a133, a134, a135, a136, a137, a138, a139, a140, a141, a142, a143, a144, a145, hm0, hom, hml, hms, hbt, hnv, h130, h131, h132, h133, h134, h135, h136, h137, h138, h139, h140, h141, h142, h143, h144, h145, hMR, hlN, hbb, hPr, hs40, hvb⟩ := id hI
  have hl0 : 0 ≤ (ln : Int) := by omega
  have hl : (ln : Int) ≤ 100 := by omega
  have ho1 := ho.1
  have ho2 := ho.2
  have hp1 := hp.1
  have hp2 := hp.2
  have hw1 := hw.1
  have hw2 := hw.2
  refine run_start (own := RX11) rfl (by decide) (nle rfl) rfl (fun X hq hini => ?_)
  show G X RX11 cX11_longest mX11_longest.rm N 0 0 0 [some (.ref (124)), some (.int (iZ (o))), some (.int (iZ (pp))), some (.int (iZ (w))), none, none, none, none, none] [] h
  refine r_iload_n dX11_longest_0 rfl rfl ?_
  refine r_i2l dX11_longest_1 ⟨by omega, by omega⟩ ?_
  refine r_lconst (z := 1) dX11_longest_2 (by decide) ?_
  refine r_ldc2 (z := 3) dX11_longest_3 kc_X11_211 ?_
  refine r_callS (av := [.long (lZ (o)), .long (lZ (1)), .long (lZ (3))]) dX11_longest_6 lkX11_in ml_X11_80 stX11_in ⟨Nat.le_of_ble_eq_true rfl, Nat.le_of_ble_eq_true rfl⟩ rfl rfl (nle rfl) ⟨Nat.le_of_ble_eq_true rfl, Nat.le_of_ble_eq_true rfl⟩ (c_X11_in (x := o) (l := 1) (m := 3) ⟨by omega, by omega⟩ ⟨by decide, by decide⟩ ⟨by decide, by decide⟩ (fun b6 hb6 => ?_))
  show G _ _ _ _ _ _ _ 9 _ _ _
  refine r_if_eq 45 dX11_longest_9 (by decide) (by rcases hb6 with ⟨y, _⟩ | ⟨y, _⟩ <;> exact ⟨by omega, by omega⟩) (fun c_9 => ?_) (fun c_9 => ?_)
  · refine r_iconst (z := -1) dX11_longest_45 ?_
    refine r_ireturn hq dX11_longest_46 rfl rfl rfl ?_
    exact hQ _ h (Or.inl ⟨by intro y; have y9 := y.2.2.1.1; first | omega | (rcases hb27 with ⟨z, _⟩ | ⟨_, z⟩ <;> first | omega | exact z y.2.2.1), rfl⟩) hI (fun _ _ => rfl)
  · refine r_iload_n dX11_longest_12 rfl rfl ?_
    refine r_i2l dX11_longest_13 ⟨by omega, by omega⟩ ?_
    refine r_ldc2 (z := 2) dX11_longest_14 kc_X11_134 ?_
    refine r_ldc2 (z := 7) dX11_longest_17 kc_X11_213 ?_
    refine r_callS (av := [.long (lZ (pp)), .long (lZ (2)), .long (lZ (7))]) dX11_longest_20 lkX11_in ml_X11_80 stX11_in ⟨Nat.le_of_ble_eq_true rfl, Nat.le_of_ble_eq_true rfl⟩ rfl rfl (nle rfl) ⟨Nat.le_of_ble_eq_true rfl, Nat.le_of_ble_eq_true rfl⟩ (c_X11_in (x := pp) (l := 2) (m := 7) ⟨by omega, by omega⟩ ⟨by decide, by decide⟩ ⟨by decide, by decide⟩ (fun b20 hb20 => ?_))
    show G _ _ _ _ _ _ _ 23 _ _ _
    refine r_if_eq 45 dX11_longest_23 (by decide) (by rcases hb20 with ⟨y, _⟩ | ⟨y, _⟩ <;> exact ⟨by omega, by omega⟩) (fun c_23 => ?_) (fun c_23 => ?_)
    · refine r_iconst (z := -1) dX11_longest_45 ?_
      refine r_ireturn hq dX11_longest_46 rfl rfl rfl ?_
      exact hQ _ h (Or.inl ⟨by intro y; have y9 := y.2.2.1.1; first | omega | (rcases hb27 with ⟨z, _⟩ | ⟨_, z⟩ <;> first | omega | exact z y.2.2.1), rfl⟩) hI (fun _ _ => rfl)
    · refine r_iload_n dX11_longest_26 rfl rfl ?_
      refine r_callS (av := [.int (iZ (pp))]) dX11_longest_27 lkX11_isPrime ml_X11_204 stX11_isPrime ⟨Nat.le_of_ble_eq_true rfl, Nat.le_of_ble_eq_true rfl⟩ rfl rfl (nle rfl) ⟨Nat.le_of_ble_eq_true rfl, Nat.le_of_ble_eq_true rfl⟩ (c_X11_isPrime (p := pp) hp (fun b27 hb27 => ?_))
      show G _ _ _ _ _ _ _ 30 _ _ _
      refine r_if_eq 45 dX11_longest_30 (by decide) (by rcases hb27 with ⟨y, _⟩ | ⟨y, _⟩ <;> exact ⟨by omega, by omega⟩) (fun c_30 => ?_) (fun c_30 => ?_)
      · refine r_iconst (z := -1) dX11_longest_45 ?_
        refine r_ireturn hq dX11_longest_46 rfl rfl rfl ?_
        exact hQ _ h (Or.inl ⟨by intro y; have y9 := y.2.2.1.1; first | omega | (rcases hb27 with ⟨z, _⟩ | ⟨_, z⟩ <;> first | omega | exact z y.2.2.1), rfl⟩) hI (fun _ _ => rfl)
      · refine r_iload_n dX11_longest_33 rfl rfl ?_
        refine r_i2l dX11_longest_34 ⟨by omega, by omega⟩ ?_
        refine r_lconst (z := 0) dX11_longest_35 (by decide) ?_
        refine r_ldc2 (z := 4) dX11_longest_36 kc_X11_215 ?_
        refine r_callS (av := [.long (lZ (w)), .long (lZ (0)), .long (lZ (4))]) dX11_longest_39 lkX11_in ml_X11_80 stX11_in ⟨Nat.le_of_ble_eq_true rfl, Nat.le_of_ble_eq_true rfl⟩ rfl rfl (nle rfl) ⟨Nat.le_of_ble_eq_true rfl, Nat.le_of_ble_eq_true rfl⟩ (c_X11_in (x := w) (l := 0) (m := 4) ⟨by omega, by omega⟩ ⟨by decide, by decide⟩ ⟨by decide, by decide⟩ (fun b39 hb39 => ?_))
        show G _ _ _ _ _ _ _ 42 _ _ _
        refine r_if_ne 47 dX11_longest_42 (by decide) (by rcases hb39 with ⟨y, _⟩ | ⟨y, _⟩ <;> exact ⟨by omega, by omega⟩) (fun c_42 => ?_) (fun c_42 => ?_)
        · have hpr : Prm pp := by
            rcases hb27 with ⟨_, y⟩ | ⟨y, _⟩
            · exact y
            · exact absurd y c_30
          have hp7 := prm7 hpr (by omega)
          obtain ⟨k, ek⟩ : ∃ k : Nat, o = (k : Int) := ⟨o.toNat, by omega⟩
          have hk0 : 0 < k := by omega
          refine r_iload_n dX11_longest_47 rfl rfl ?_
          refine r_iconst (z := 1) dX11_longest_48 ?_
          refine r_icmp_le 62 dX11_longest_49 (by decide) hw ⟨by decide, by decide⟩ (fun c_49 => ?_) (fun c_49 => ?_)
          · refine r_aload_n dX11_longest_62 rfl rfl ?_
            refine gf_X11_7 dX11_longest_63 (by omega) hm0 rfl ?_
            refine r_bipush (z := 6) dX11_longest_66 (by decide) ?_
            refine r_iload_n dX11_longest_68 rfl rfl ?_
            refine r_iastore dX11_longest_69 (by omega) hom (by omega) (by omega) (by decide) ?_
            refine r_iload_n dX11_longest_70 rfl rfl ?_
            refine r_istore (L2 := [_, _, _, _, _, none, none, none, none]) dX11_longest_71 (nlt rfl) rfl ?_
            refine r_iconst (z := 0) dX11_longest_73 ?_
            refine r_istore (L2 := [_, _, _, _, _, _, none, none, none]) dX11_longest_74 (nlt rfl) rfl ?_
            have lp76 : ∀ (fu76 : Nat) (ms1 : Nat → Int) (all : Int) (i : Int) (j : Nat), (7 - i) < (fu76 : Int) → (i = (j : Int)) → (j ≤ 6) → (∀ t, t < 36 → ms1 t = ms t) → (∀ t, t < j → ms1 (36 + t) = sto k t) → (all = ((pp.toNat ^ max 1 (min j k) : Nat) : Int)) → G X RX11 cX11_longest mX11_longest.rm N 0 0 76 [some (.ref (124)), some (.int (iZ (o))), some (.int (iZ (pp))), some (.int (iZ (w))), some (.int (iZ (all))), some (.int (iZ (i))), none, none, none] [] (hs (hs h (125) (aI 7 (uA (om) (6 : Int).toNat (o)))) (127) (aL 42 (ms1))) := by
              intro fu76
              induction fu76 with
              | zero => intro ms1 all i j hm ei j6 hms1 hms2 hall; exfalso; omega
              | succ fu76 ih76 =>
                intro ms1 all i j hms76 ei j6 hms1 hms2 hall
                refine r_iload dX11_longest_76 rfl ?_
                refine r_bipush (z := 6) dX11_longest_78 (by decide) ?_
                refine r_icmp_ge 133 dX11_longest_80 (by decide) ⟨by omega, by omega⟩ ⟨by decide, by decide⟩ (fun c_80 => ?_) (fun c_80 => ?_)
                · have j9 : j = 6 := by omega
                  rw [j9, show max 1 (min 6 k) = k by omega] at hall
                  have p343 := pw343 (e := k) hp7 (by omega)
                  have hfb := fLg_b hk0 hp7 (show k ≤ 3 by omega)
                  refine r_iconst (z := 0) dX11_longest_133 ?_
                  refine r_istore (L2 := [_, _, _, _, _, _, none, none, none]) dX11_longest_134 (nlt rfl) rfl ?_
                  refine r_iconst (z := 0) dX11_longest_136 ?_
                  refine r_istore (L2 := [_, _, _, _, _, _, _, none, none]) dX11_longest_137 (nlt rfl) rfl ?_
                  refine r_iconst (z := 0) dX11_longest_139 ?_
                  refine r_istore (L2 := [_, _, _, _, _, _, _, _, none]) dX11_longest_140 (nlt rfl) rfl ?_
                  refine r_iconst (z := 0) dX11_longest_142 ?_
                  refine r_istore (L2 := [_, _, _, _, _, _, _, _, _]) dX11_longest_143 (nlt rfl) rfl ?_
                  have lp145 : ∀ (fu145 : Nat) (ml1 : Nat → Int) (f1 : Nat → Int) (g1 : Nat → Int) (ta1 : Int) (ro1 : Int) (best : Int) (many : Int) (first : Int) (code : Int) (cn : Nat), (344 - code) < (fu145 : Int) → (code = (cn : Int)) → (cn ≤ pp.toNat ^ k) → (best = (fLg k pp cn).1) → (many = (fLg k pp cn).2.1) → (first = (fLg k pp cn).2.2) → (∀ t, t < 36 → ml1 t = ml t) → G X RX11 cX11_longest mX11_longest.rm N 0 0 145 [some (.ref (124)), some (.int (iZ (o))), some (.int (iZ (pp))), some (.int (iZ (w))), some (.int (iZ (all))), some (.int (iZ (best))), some (.int (iZ (many))), some (.int (iZ (first))), some (.int (iZ (code)))] [] (hs (hs (hs (hs (hs (hs h (125) (aI 7 (uA (om) (6 : Int).toNat (o)))) (127) (aL 42 (ms1))) (126) (aL 42 (ml1))) (134) (aL 6 (f1))) (135) (aL 6 (g1))) (124) (MOo ((ln : Int)) (p) ((sz : Int)) (at_) (wr) (va) (em) (ta1) (ro1) (dg))) := by
                    intro fu145
                    induction fu145 with
                    | zero => intro ml1 f1 g1 ta1 ro1 best many first code cn hm ecn cnp eb9 em9 ef9 hml1; exfalso; omega
                    | succ fu145 ih145 =>
                      intro ml1 f1 g1 ta1 ro1 best many first code cn hms145 ecn cnp eb9 em9 ef9 hml1
                      have bb9 := hfb cn
                      have fin8 := fLg_in k pp cn
                      refine r_iload dX11_longest_145 rfl ?_
                      refine r_iload dX11_longest_147 rfl ?_
                      refine r_icmp_ge 222 dX11_longest_149 (by decide) ⟨by omega, by omega⟩ ⟨by omega, by omega⟩ (fun c_149 => ?_) (fun c_149 => ?_)
                      · have fin9 := fLg_in k pp cn
                        refine r_aload_n dX11_longest_222 rfl rfl ?_
                        refine r_iload dX11_longest_223 rfl ?_
                        refine r_iload_n dX11_longest_225 rfl rfl ?_
                        refine r_iload_n dX11_longest_226 rfl rfl ?_
                        refine r_callV (av := [.int (iZ (first)), .int (iZ (o)), .int (iZ (pp))]) dX11_longest_227 lkX11_layCode ml_X11_217 imX11_layCode seX11_layCode (by omega) (rfl : vwCl[11]? = _) ⟨_, hs_e⟩ ⟨Nat.le_of_ble_eq_true rfl, Nat.le_of_ble_eq_true rfl⟩ rfl rfl (nle rfl) ⟨Nat.le_of_ble_eq_true rfl, Nat.le_of_ble_eq_true rfl⟩ (c_X11_layCode (k := k) (p := pp) (ml := ml1) (ln := (ln : Int)) (pr := p) (nm := (sz : Int)) (at_ := at_) (wr := wr) (va := va) (em := em) (ta := ta1) (ro := ro1) (dg := dg) hs_e hN ((hs_n (by omega)).trans ((hs_n (by omega)).trans ((hs_n (by omega)).trans hs_e))) (by omega) hk0 (by omega) (by omega) (by omega) (by omega) (by omega) (fun ml227 hl1227 hl2227 => ?_))
                        refine g_heap (h2 := (hs (hs (hs (hs (hs (hs h (125) (aI 7 (uA (om) (6 : Int).toNat (o)))) (127) (aL 42 (ms1))) (126) (aL 42 (ml227))) (134) (aL 6 (f1))) (135) (aL 6 (g1))) (124) (MOo ((ln : Int)) (p) ((sz : Int)) (at_) (wr) (va) (em) (ta1) (ro1) (dg)))) (hs_put (by omega) (hs_put (by omega) (hs_put (by omega) hs_hs))) ?_
                        show G _ _ _ _ _ _ _ 230 _ _ _
                        refine r_iload_n dX11_longest_230 rfl rfl ?_
                        refine r_if_ne 239 dX11_longest_231 (by decide) hw (fun c_231 => ?_) (fun c_231 => ?_)
                        · refine r_iload_n dX11_longest_239 rfl rfl ?_
                          refine r_iconst (z := 1) dX11_longest_240 ?_
                          refine r_icmp_ne 249 dX11_longest_241 (by decide) hw ⟨by decide, by decide⟩ (fun c_241 => ?_) (fun c_241 => ?_)
                          · refine r_aload_n dX11_longest_249 rfl rfl ?_
                            refine gf_X11_13 dX11_longest_250 (by omega) hs_e rfl ?_
                            refine r_bipush (z := 36) dX11_longest_253 (by decide) ?_
                            refine r_iload_n dX11_longest_255 rfl rfl ?_
                            refine r_iadd dX11_longest_256 ?_
                            refine r_iconst (z := 2) dX11_longest_257 ?_
                            refine r_isub dX11_longest_258 ?_
                            refine r_laload dX11_longest_259 (by omega) ((hs_n (by omega)).trans ((hs_n (by omega)).trans ((hs_n (by omega)).trans hs_e))) (by omega) (by omega) (by decide) ?_
                            refine r_l2i dX11_longest_260 ?_
                            refine r_ireturn hq dX11_longest_261 rfl rfl rfl ?_
                            refine hQ _ _ (Or.inr ⟨by omega, by omega, hpr, by omega, by omega, by omega, Or.inr ⟨by omega, ?_⟩⟩) ⟨_, _, _, _, _, _, _, _, _, _, _, _, _, _, _, _, _, _, _, _, _, _, _, _, _, _, hs_e, ((hs_n (by omega)).trans ((hs_n (by omega)).trans ((hs_n (by omega)).trans ((hs_n (by omega)).trans ((hs_n (by omega)).trans hs_e))))), ((hs_n (by omega)).trans ((hs_n (by omega)).trans ((hs_n (by omega)).trans hs_e))), ((hs_n (by omega)).trans ((hs_n (by omega)).trans ((hs_n (by omega)).trans ((hs_n (by omega)).trans hs_e)))), ((hs_n (by omega)).trans ((hs_n (by omega)).trans ((hs_n (by omega)).trans ((hs_n (by omega)).trans ((hs_n (by omega)).trans ((hs_n (by omega)).trans hbt)))))), ((hs_n (by omega)).trans ((hs_n (by omega)).trans ((hs_n (by omega)).trans ((hs_n (by omega)).trans ((hs_n (by omega)).trans ((hs_n (by omega)).trans hnv)))))), ((hs_n (by omega)).trans ((hs_n (by omega)).trans ((hs_n (by omega)).trans ((hs_n (by omega)).trans ((hs_n (by omega)).trans ((hs_n (by omega)).trans h130)))))), ((hs_n (by omega)).trans ((hs_n (by omega)).trans ((hs_n (by omega)).trans ((hs_n (by omega)).trans ((hs_n (by omega)).trans ((hs_n (by omega)).trans h131)))))), ((hs_n (by omega)).trans ((hs_n (by omega)).trans ((hs_n (by omega)).trans ((hs_n (by omega)).trans ((hs_n (by omega)).trans ((hs_n (by omega)).trans h132)))))), ((hs_n (by omega)).trans ((hs_n (by omega)).trans ((hs_n (by omega)).trans ((hs_n (by omega)).trans ((hs_n (by omega)).trans ((hs_n (by omega)).trans h133)))))), ((hs_n (by omega)).trans ((hs_n (by omega)).trans hs_e)), ((hs_n (by omega)).trans hs_e), ((hs_n (by omega)).trans ((hs_n (by omega)).trans ((hs_n (by omega)).trans ((hs_n (by omega)).trans ((hs_n (by omega)).trans ((hs_n (by omega)).trans h136)))))), ((hs_n (by omega)).trans ((hs_n (by omega)).trans ((hs_n (by omega)).trans ((hs_n (by omega)).trans ((hs_n (by omega)).trans ((hs_n (by omega)).trans h137)))))), ((hs_n (by omega)).trans ((hs_n (by omega)).trans ((hs_n (by omega)).trans ((hs_n (by omega)).trans ((hs_n (by omega)).trans ((hs_n (by omega)).trans h138)))))), ((hs_n (by omega)).trans ((hs_n (by omega)).trans ((hs_n (by omega)).trans ((hs_n (by omega)).trans ((hs_n (by omega)).trans ((hs_n (by omega)).trans h139)))))), ((hs_n (by omega)).trans ((hs_n (by omega)).trans ((hs_n (by omega)).trans ((hs_n (by omega)).trans ((hs_n (by omega)).trans ((hs_n (by omega)).trans h140)))))), ((hs_n (by omega)).trans ((hs_n (by omega)).trans ((hs_n (by omega)).trans ((hs_n (by omega)).trans ((hs_n (by omega)).trans ((hs_n (by omega)).trans h141)))))), ((hs_n (by omega)).trans ((hs_n (by omega)).trans ((hs_n (by omega)).trans ((hs_n (by omega)).trans ((hs_n (by omega)).trans ((hs_n (by omega)).trans h142)))))), ((hs_n (by omega)).trans ((hs_n (by omega)).trans ((hs_n (by omega)).trans ((hs_n (by omega)).trans ((hs_n (by omega)).trans ((hs_n (by omega)).trans h143)))))), ((hs_n (by omega)).trans ((hs_n (by omega)).trans ((hs_n (by omega)).trans ((hs_n (by omega)).trans ((hs_n (by omega)).trans ((hs_n (by omega)).trans h144)))))), ((hs_n (by omega)).trans ((hs_n (by omega)).trans ((hs_n (by omega)).trans ((hs_n (by omega)).trans ((hs_n (by omega)).trans ((hs_n (by omega)).trans h145)))))), (MR.hi hMR (fun i9 h9 => uA_n (by show i9 ≠ 6; omega)) (fun t ht => (hl1227 t ht).trans (hml1 t ht)) hms1), hlN, hbb, hPr, hs40, hvb⟩ (fun a9 h9 => ((hs_n (by omega)).trans ((hs_n (by omega)).trans ((hs_n (by omega)).trans ((hs_n (by omega)).trans ((hs_n (by omega)).trans ((hs_n (by omega)).trans rfl)))))))
                            rw [show o.toNat = k by omega]
                            rw [show cn = pp.toNat ^ k by omega] at eb9 em9 ef9
                            rw [if_neg (by omega), if_neg (by omega), ← ef9, show ((36 + w) - 2).toNat = 36 + (w - 1).toNat - 1 by omega]
                            exact hl2227 _ (by omega) (by omega)
                          · refine r_iload dX11_longest_244 rfl ?_
                            refine r_goto 261 dX11_longest_246 (by decide) ?_
                            refine r_ireturn hq dX11_longest_261 rfl rfl rfl ?_
                            refine hQ _ _ (Or.inr ⟨by omega, by omega, hpr, by omega, by omega, by omega, Or.inr ⟨by omega, ?_⟩⟩) ⟨_, _, _, _, _, _, _, _, _, _, _, _, _, _, _, _, _, _, _, _, _, _, _, _, _, _, hs_e, ((hs_n (by omega)).trans ((hs_n (by omega)).trans ((hs_n (by omega)).trans ((hs_n (by omega)).trans ((hs_n (by omega)).trans hs_e))))), ((hs_n (by omega)).trans ((hs_n (by omega)).trans ((hs_n (by omega)).trans hs_e))), ((hs_n (by omega)).trans ((hs_n (by omega)).trans ((hs_n (by omega)).trans ((hs_n (by omega)).trans hs_e)))), ((hs_n (by omega)).trans ((hs_n (by omega)).trans ((hs_n (by omega)).trans ((hs_n (by omega)).trans ((hs_n (by omega)).trans ((hs_n (by omega)).trans hbt)))))), ((hs_n (by omega)).trans ((hs_n (by omega)).trans ((hs_n (by omega)).trans ((hs_n (by omega)).trans ((hs_n (by omega)).trans ((hs_n (by omega)).trans hnv)))))), ((hs_n (by omega)).trans ((hs_n (by omega)).trans ((hs_n (by omega)).trans ((hs_n (by omega)).trans ((hs_n (by omega)).trans ((hs_n (by omega)).trans h130)))))), ((hs_n (by omega)).trans ((hs_n (by omega)).trans ((hs_n (by omega)).trans ((hs_n (by omega)).trans ((hs_n (by omega)).trans ((hs_n (by omega)).trans h131)))))), ((hs_n (by omega)).trans ((hs_n (by omega)).trans ((hs_n (by omega)).trans ((hs_n (by omega)).trans ((hs_n (by omega)).trans ((hs_n (by omega)).trans h132)))))), ((hs_n (by omega)).trans ((hs_n (by omega)).trans ((hs_n (by omega)).trans ((hs_n (by omega)).trans ((hs_n (by omega)).trans ((hs_n (by omega)).trans h133)))))), ((hs_n (by omega)).trans ((hs_n (by omega)).trans hs_e)), ((hs_n (by omega)).trans hs_e), ((hs_n (by omega)).trans ((hs_n (by omega)).trans ((hs_n (by omega)).trans ((hs_n (by omega)).trans ((hs_n (by omega)).trans ((hs_n (by omega)).trans h136)))))), ((hs_n (by omega)).trans ((hs_n (by omega)).trans ((hs_n (by omega)).trans ((hs_n (by omega)).trans ((hs_n (by omega)).trans ((hs_n (by omega)).trans h137)))))), ((hs_n (by omega)).trans ((hs_n (by omega)).trans ((hs_n (by omega)).trans ((hs_n (by omega)).trans ((hs_n (by omega)).trans ((hs_n (by omega)).trans h138)))))), ((hs_n (by omega)).trans ((hs_n (by omega)).trans ((hs_n (by omega)).trans ((hs_n (by omega)).trans ((hs_n (by omega)).trans ((hs_n (by omega)).trans h139)))))), ((hs_n (by omega)).trans ((hs_n (by omega)).trans ((hs_n (by omega)).trans ((hs_n (by omega)).trans ((hs_n (by omega)).trans ((hs_n (by omega)).trans h140)))))), ((hs_n (by omega)).trans ((hs_n (by omega)).trans ((hs_n (by omega)).trans ((hs_n (by omega)).trans ((hs_n (by omega)).trans ((hs_n (by omega)).trans h141)))))), ((hs_n (by omega)).trans ((hs_n (by omega)).trans ((hs_n (by omega)).trans ((hs_n (by omega)).trans ((hs_n (by omega)).trans ((hs_n (by omega)).trans h142)))))), ((hs_n (by omega)).trans ((hs_n (by omega)).trans ((hs_n (by omega)).trans ((hs_n (by omega)).trans ((hs_n (by omega)).trans ((hs_n (by omega)).trans h143)))))), ((hs_n (by omega)).trans ((hs_n (by omega)).trans ((hs_n (by omega)).trans ((hs_n (by omega)).trans ((hs_n (by omega)).trans ((hs_n (by omega)).trans h144)))))), ((hs_n (by omega)).trans ((hs_n (by omega)).trans ((hs_n (by omega)).trans ((hs_n (by omega)).trans ((hs_n (by omega)).trans ((hs_n (by omega)).trans h145)))))), (MR.hi hMR (fun i9 h9 => uA_n (by show i9 ≠ 6; omega)) (fun t ht => (hl1227 t ht).trans (hml1 t ht)) hms1), hlN, hbb, hPr, hs40, hvb⟩ (fun a9 h9 => ((hs_n (by omega)).trans ((hs_n (by omega)).trans ((hs_n (by omega)).trans ((hs_n (by omega)).trans ((hs_n (by omega)).trans ((hs_n (by omega)).trans rfl)))))))
                            rw [show o.toNat = k by omega]
                            rw [show cn = pp.toNat ^ k by omega] at eb9 em9 ef9
                            rw [if_neg (by omega), if_pos (by omega)]; exact eb9
                        · refine r_iload dX11_longest_234 rfl ?_
                          refine r_goto 261 dX11_longest_236 (by decide) ?_
                          refine r_ireturn hq dX11_longest_261 rfl rfl rfl ?_
                          refine hQ _ _ (Or.inr ⟨by omega, by omega, hpr, by omega, by omega, by omega, Or.inr ⟨by omega, ?_⟩⟩) ⟨_, _, _, _, _, _, _, _, _, _, _, _, _, _, _, _, _, _, _, _, _, _, _, _, _, _, hs_e, ((hs_n (by omega)).trans ((hs_n (by omega)).trans ((hs_n (by omega)).trans ((hs_n (by omega)).trans ((hs_n (by omega)).trans hs_e))))), ((hs_n (by omega)).trans ((hs_n (by omega)).trans ((hs_n (by omega)).trans hs_e))), ((hs_n (by omega)).trans ((hs_n (by omega)).trans ((hs_n (by omega)).trans ((hs_n (by omega)).trans hs_e)))), ((hs_n (by omega)).trans ((hs_n (by omega)).trans ((hs_n (by omega)).trans ((hs_n (by omega)).trans ((hs_n (by omega)).trans ((hs_n (by omega)).trans hbt)))))), ((hs_n (by omega)).trans ((hs_n (by omega)).trans ((hs_n (by omega)).trans ((hs_n (by omega)).trans ((hs_n (by omega)).trans ((hs_n (by omega)).trans hnv)))))), ((hs_n (by omega)).trans ((hs_n (by omega)).trans ((hs_n (by omega)).trans ((hs_n (by omega)).trans ((hs_n (by omega)).trans ((hs_n (by omega)).trans h130)))))), ((hs_n (by omega)).trans ((hs_n (by omega)).trans ((hs_n (by omega)).trans ((hs_n (by omega)).trans ((hs_n (by omega)).trans ((hs_n (by omega)).trans h131)))))), ((hs_n (by omega)).trans ((hs_n (by omega)).trans ((hs_n (by omega)).trans ((hs_n (by omega)).trans ((hs_n (by omega)).trans ((hs_n (by omega)).trans h132)))))), ((hs_n (by omega)).trans ((hs_n (by omega)).trans ((hs_n (by omega)).trans ((hs_n (by omega)).trans ((hs_n (by omega)).trans ((hs_n (by omega)).trans h133)))))), ((hs_n (by omega)).trans ((hs_n (by omega)).trans hs_e)), ((hs_n (by omega)).trans hs_e), ((hs_n (by omega)).trans ((hs_n (by omega)).trans ((hs_n (by omega)).trans ((hs_n (by omega)).trans ((hs_n (by omega)).trans ((hs_n (by omega)).trans h136)))))), ((hs_n (by omega)).trans ((hs_n (by omega)).trans ((hs_n (by omega)).trans ((hs_n (by omega)).trans ((hs_n (by omega)).trans ((hs_n (by omega)).trans h137)))))), ((hs_n (by omega)).trans ((hs_n (by omega)).trans ((hs_n (by omega)).trans ((hs_n (by omega)).trans ((hs_n (by omega)).trans ((hs_n (by omega)).trans h138)))))), ((hs_n (by omega)).trans ((hs_n (by omega)).trans ((hs_n (by omega)).trans ((hs_n (by omega)).trans ((hs_n (by omega)).trans ((hs_n (by omega)).trans h139)))))), ((hs_n (by omega)).trans ((hs_n (by omega)).trans ((hs_n (by omega)).trans ((hs_n (by omega)).trans ((hs_n (by omega)).trans ((hs_n (by omega)).trans h140)))))), ((hs_n (by omega)).trans ((hs_n (by omega)).trans ((hs_n (by omega)).trans ((hs_n (by omega)).trans ((hs_n (by omega)).trans ((hs_n (by omega)).trans h141)))))), ((hs_n (by omega)).trans ((hs_n (by omega)).trans ((hs_n (by omega)).trans ((hs_n (by omega)).trans ((hs_n (by omega)).trans ((hs_n (by omega)).trans h142)))))), ((hs_n (by omega)).trans ((hs_n (by omega)).trans ((hs_n (by omega)).trans ((hs_n (by omega)).trans ((hs_n (by omega)).trans ((hs_n (by omega)).trans h143)))))), ((hs_n (by omega)).trans ((hs_n (by omega)).trans ((hs_n (by omega)).trans ((hs_n (by omega)).trans ((hs_n (by omega)).trans ((hs_n (by omega)).trans h144)))))), ((hs_n (by omega)).trans ((hs_n (by omega)).trans ((hs_n (by omega)).trans ((hs_n (by omega)).trans ((hs_n (by omega)).trans ((hs_n (by omega)).trans h145)))))), (MR.hi hMR (fun i9 h9 => uA_n (by show i9 ≠ 6; omega)) (fun t ht => (hl1227 t ht).trans (hml1 t ht)) hms1), hlN, hbb, hPr, hs40, hvb⟩ (fun a9 h9 => ((hs_n (by omega)).trans ((hs_n (by omega)).trans ((hs_n (by omega)).trans ((hs_n (by omega)).trans ((hs_n (by omega)).trans ((hs_n (by omega)).trans rfl)))))))
                          rw [show o.toNat = k by omega]
                          rw [show cn = pp.toNat ^ k by omega] at eb9 em9 ef9
                          rw [if_pos (by omega)]; exact em9
                      · refine r_iload dX11_longest_152 rfl ?_
                        refine r_iload_n dX11_longest_154 rfl rfl ?_
                        refine r_iremp dX11_longest_155 ⟨by omega, by omega⟩ ⟨by omega, by omega⟩ (by omega) (by omega) ?_
                        have eb_155 := emod_bd (code) (show 0 < pp by omega)
                        refine r_if_eq 216 dX11_longest_156 (by decide) ⟨by omega, by omega⟩ (fun c_156 => ?_) (fun c_156 => ?_)
                        · refine r_iinc (L2 := [_, _, _, _, _, _, _, _, _]) dX11_longest_216 (nlt rfl) rfl rfl ?_
                          refine r_goto 145 dX11_longest_219 (by decide) ?_
                          exact ih145 (ml1) (f1) (g1) (ta1) (ro1) (best) (many) (first) (code + 1) ((cn + 1)) (by omega) (by omega) (by omega) (by rw [fLg_s, if_pos (by rw [← ecn]; exact c_156)]; exact eb9) (by rw [fLg_s, if_pos (by rw [← ecn]; exact c_156)]; exact em9) (by rw [fLg_s, if_pos (by rw [← ecn]; exact c_156)]; exact ef9) hml1
                        · refine r_aload_n dX11_longest_159 rfl rfl ?_
                          refine r_iload dX11_longest_160 rfl ?_
                          refine r_iload_n dX11_longest_162 rfl rfl ?_
                          refine r_iload_n dX11_longest_163 rfl rfl ?_
                          refine r_callV (av := [.int (iZ (code)), .int (iZ (o)), .int (iZ (pp))]) dX11_longest_164 lkX11_layCode ml_X11_217 imX11_layCode seX11_layCode (by omega) (rfl : vwCl[11]? = _) ⟨_, hs_e⟩ ⟨Nat.le_of_ble_eq_true rfl, Nat.le_of_ble_eq_true rfl⟩ rfl rfl (nle rfl) ⟨Nat.le_of_ble_eq_true rfl, Nat.le_of_ble_eq_true rfl⟩ (c_X11_layCode (k := k) (p := pp) (ml := ml1) (ln := (ln : Int)) (pr := p) (nm := (sz : Int)) (at_ := at_) (wr := wr) (va := va) (em := em) (ta := ta1) (ro := ro1) (dg := dg) hs_e hN ((hs_n (by omega)).trans ((hs_n (by omega)).trans ((hs_n (by omega)).trans hs_e))) (by omega) hk0 (by omega) (by omega) (by omega) (by omega) (by omega) (fun ml164 hl1164 hl2164 => ?_))
                          refine g_heap (h2 := (hs (hs (hs (hs (hs (hs h (125) (aI 7 (uA (om) (6 : Int).toNat (o)))) (127) (aL 42 (ms1))) (126) (aL 42 (ml164))) (134) (aL 6 (f1))) (135) (aL 6 (g1))) (124) (MOo ((ln : Int)) (p) ((sz : Int)) (at_) (wr) (va) (em) (ta1) (ro1) (dg)))) (hs_put (by omega) (hs_put (by omega) (hs_put (by omega) hs_hs))) ?_
                          show G _ _ _ _ _ _ _ 167 _ _ _
                          have hg6 : RG (uA om (6 : Int).toNat o) ml164 ms1 6 k (lwd k pp code) (sto k) := by
                            refine ⟨(show uA om 6 o 6 = _ from uA_e).trans ek, hk0, by omega, fun t a b => ⟨hl2164 t a b, ?_⟩, fun t a => ⟨?_, ?_⟩⟩
                            · have := emod_bd (lft pp code (k - t)) (show 0 < pp by omega)
                              show -100000 ≤ lft pp code (k - t) % pp ∧ lft pp code (k - t) % pp ≤ 100000
                              omega
                            · exact hms2 t (by omega)
                            · unfold sto
                              split <;> omega
                          refine r_aload_n dX11_longest_167 rfl rfl ?_
                          refine r_bipush (z := 6) dX11_longest_168 (by decide) ?_
                          refine r_iload_n dX11_longest_170 rfl rfl ?_
                          refine r_callV (av := [.int (iZ (6)), .int (iZ (pp))]) dX11_longest_171 lkX11_layRound ml_X11_188 imX11_layRound seX11_layRound (by omega) (rfl : vwCl[11]? = _) ⟨_, hs_e⟩ ⟨Nat.le_of_ble_eq_true rfl, Nat.le_of_ble_eq_true rfl⟩ rfl rfl (nle rfl) ⟨Nat.le_of_ble_eq_true rfl, Nat.le_of_ble_eq_true rfl⟩ (c_X11_layRound (r := 6) (k := k) (c := (lwd k pp code)) (s := (sto k)) (om := uA (om) (6 : Int).toNat (o)) (ml := ml164) (ms := ms1) (fs := f1) (ff := g1) (m := pp) (ln := (ln : Int)) (pr := p) (nm := (sz : Int)) (at_ := at_) (wr := wr) (va := va) (em := em) (ta := ta1) (ro := ro1) (dg := dg) hs_e hN ((hs_n (by omega)).trans ((hs_n (by omega)).trans ((hs_n (by omega)).trans ((hs_n (by omega)).trans ((hs_n (by omega)).trans hs_e))))) ((hs_n (by omega)).trans ((hs_n (by omega)).trans ((hs_n (by omega)).trans hs_e))) ((hs_n (by omega)).trans ((hs_n (by omega)).trans ((hs_n (by omega)).trans ((hs_n (by omega)).trans hs_e)))) hg6 (by omega) (by omega) ((hs_n (by omega)).trans ((hs_n (by omega)).trans hs_e)) ((hs_n (by omega)).trans hs_e) (by omega) (by omega) (fun ok171 ta171 ro171 fs171 ff171 hok171 hR171 => ?_))
                          refine g_heap (h2 := (hs (hs (hs (hs (hs (hs h (125) (aI 7 (uA (om) (6 : Int).toNat (o)))) (127) (aL 42 (ms1))) (126) (aL 42 (ml164))) (134) (aL 6 (fs171))) (135) (aL 6 (ff171))) (124) (MOo ((ln : Int)) (p) ((sz : Int)) (at_) (wr) (va) (em) (ta171) (ro171) (dg)))) ((congrArg (fun x9 => hs x9 (124) (MOo ((ln : Int)) (p) ((sz : Int)) (at_) (wr) (va) (em) (ta171) (ro171) (dg))) ((congrArg (fun x9 => hs x9 (135) (aL 6 (ff171))) (hs_put (by omega) (hs_put (by omega) hs_hs))).trans (hs_put (by omega) hs_hs))).trans hs_hs) ?_
                          show G _ _ _ _ _ _ _ 174 _ _ _
                          have hLs := Lf_spec (code := code) hk0 hp7 c_156
                          have hro : ro171 = (Lf k pp cn : Int) := by
                            rw [← ecn]
                            rcases hR171 with ⟨_, un, l9, y1, y2, y3, y4⟩ | ⟨_, y⟩
                            · rw [y4, (y1.one hLs.1).2]
                            · have := y 0 _ hLs.1
                              omega
                          have hf9 := hfb cn
                          have hl9 : (Lf k pp cn : Int) ≤ 343 := by rw [← ecn]; omega
                          refine r_pop dX11_longest_174 rfl ?_
                          refine r_aload_n dX11_longest_175 rfl rfl ?_
                          refine gf_X11_175 dX11_longest_176 (by omega) hs_e rfl ?_
                          refine r_iload dX11_longest_179 rfl ?_
                          refine r_icmp_le 197 dX11_longest_181 (by decide) ⟨by omega, by omega⟩ ⟨by omega, by omega⟩ (fun c_181 => ?_) (fun c_181 => ?_)
                          · refine r_iload dX11_longest_197 rfl ?_
                            refine r_aload_n dX11_longest_199 rfl rfl ?_
                            refine gf_X11_175 dX11_longest_200 (by omega) hs_e rfl ?_
                            refine r_iload dX11_longest_203 rfl ?_
                            refine r_icmp_ne 212 dX11_longest_205 (by decide) ⟨by omega, by omega⟩ ⟨by omega, by omega⟩ (fun c_205 => ?_) (fun c_205 => ?_)
                            · refine r_iconst (z := 0) dX11_longest_212 ?_
                              refine r_iadd dX11_longest_213 ?_
                              refine r_istore (L2 := [_, _, _, _, _, _, _, _, _]) dX11_longest_214 (nlt rfl) rfl ?_
                              refine r_iinc (L2 := [_, _, _, _, _, _, _, _, _]) dX11_longest_216 (nlt rfl) rfl rfl ?_
                              refine r_goto 145 dX11_longest_219 (by decide) ?_
                              exact ih145 (ml164) (fs171) (ff171) (ta171) (ro171) (best) (many + 0) (first) (code + 1) ((cn + 1)) (by omega) (by omega) (by omega) (by rw [fLg_s]; rw [if_neg (by rw [← ecn]; exact c_156)]; rw [if_neg (by omega), if_neg (by omega)]; exact eb9) (by rw [fLg_s]; rw [if_neg (by rw [← ecn]; exact c_156)]; rw [if_neg (by omega), if_neg (by omega)]; rw [← em9]; omega) (by rw [fLg_s]; rw [if_neg (by rw [← ecn]; exact c_156)]; rw [if_neg (by omega), if_neg (by omega)]; exact ef9) (fun t ht => (hl1164 t ht).trans (hml1 t ht))
                            · refine r_iconst (z := 1) dX11_longest_208 ?_
                              refine r_goto 213 dX11_longest_209 (by decide) ?_
                              refine r_iadd dX11_longest_213 ?_
                              refine r_istore (L2 := [_, _, _, _, _, _, _, _, _]) dX11_longest_214 (nlt rfl) rfl ?_
                              refine r_iinc (L2 := [_, _, _, _, _, _, _, _, _]) dX11_longest_216 (nlt rfl) rfl rfl ?_
                              refine r_goto 145 dX11_longest_219 (by decide) ?_
                              exact ih145 (ml164) (fs171) (ff171) (ta171) (ro171) (best) (many + 1) (first) (code + 1) ((cn + 1)) (by omega) (by omega) (by omega) (by rw [fLg_s]; rw [if_neg (by rw [← ecn]; exact c_156)]; rw [if_neg (by omega), if_pos (by omega)]; exact eb9) (by rw [fLg_s]; rw [if_neg (by rw [← ecn]; exact c_156)]; rw [if_neg (by omega), if_pos (by omega)]; show many + 1 = _; rw [em9]) (by rw [fLg_s]; rw [if_neg (by rw [← ecn]; exact c_156)]; rw [if_neg (by omega), if_pos (by omega)]; exact ef9) (fun t ht => (hl1164 t ht).trans (hml1 t ht))
                          · refine r_aload_n dX11_longest_184 rfl rfl ?_
                            refine gf_X11_175 dX11_longest_185 (by omega) hs_e rfl ?_
                            refine r_istore (L2 := [_, _, _, _, _, _, _, _, _]) dX11_longest_188 (nlt rfl) rfl ?_
                            refine r_iconst (z := 0) dX11_longest_190 ?_
                            refine r_istore (L2 := [_, _, _, _, _, _, _, _, _]) dX11_longest_191 (nlt rfl) rfl ?_
                            refine r_iload dX11_longest_193 rfl ?_
                            refine r_istore (L2 := [_, _, _, _, _, _, _, _, _]) dX11_longest_195 (nlt rfl) rfl ?_
                            refine r_iload dX11_longest_197 rfl ?_
                            refine r_aload_n dX11_longest_199 rfl rfl ?_
                            refine gf_X11_175 dX11_longest_200 (by omega) hs_e rfl ?_
                            refine r_iload dX11_longest_203 rfl ?_
                            refine r_icmp_ne 212 dX11_longest_205 (by decide) ⟨by omega, by omega⟩ ⟨by omega, by omega⟩ (fun c_205 => ?_) (fun c_205 => ?_)
                            · refine r_iconst (z := 0) dX11_longest_212 ?_
                              refine r_iadd dX11_longest_213 ?_
                              refine r_istore (L2 := [_, _, _, _, _, _, _, _, _]) dX11_longest_214 (nlt rfl) rfl ?_
                              refine r_iinc (L2 := [_, _, _, _, _, _, _, _, _]) dX11_longest_216 (nlt rfl) rfl rfl ?_
                              refine r_goto 145 dX11_longest_219 (by decide) ?_
                              exact ih145 (ml164) (fs171) (ff171) (ta171) (ro171) (ro171) (0 + 0) (code) (code + 1) ((cn + 1)) (by omega) (by omega) (by omega) (by exfalso; omega) (by exfalso; omega) (by exfalso; omega) (fun t ht => (hl1164 t ht).trans (hml1 t ht))
                            · refine r_iconst (z := 1) dX11_longest_208 ?_
                              refine r_goto 213 dX11_longest_209 (by decide) ?_
                              refine r_iadd dX11_longest_213 ?_
                              refine r_istore (L2 := [_, _, _, _, _, _, _, _, _]) dX11_longest_214 (nlt rfl) rfl ?_
                              refine r_iinc (L2 := [_, _, _, _, _, _, _, _, _]) dX11_longest_216 (nlt rfl) rfl rfl ?_
                              refine r_goto 145 dX11_longest_219 (by decide) ?_
                              exact ih145 (ml164) (fs171) (ff171) (ta171) (ro171) (ro171) (0 + 1) (code) (code + 1) ((cn + 1)) (by omega) (by omega) (by omega) (by rw [fLg_s]; rw [if_neg (by rw [← ecn]; exact c_156)]; rw [if_pos (by omega)]; exact hro) (by rw [fLg_s]; rw [if_neg (by rw [← ecn]; exact c_156)]; rw [if_pos (by omega)]; rfl) (by rw [fLg_s]; rw [if_neg (by rw [← ecn]; exact c_156)]; rw [if_pos (by omega)]; exact ecn) (fun t ht => (hl1164 t ht).trans (hml1 t ht))
                  refine g_heap (hs_id (c := aL 42 (ml)) ((hs_n (by omega)).trans ((hs_n (by omega)).trans hml))).symm ?_
                  refine g_heap (hs_id (c := aL 6 (a134)) ((hs_n (by omega)).trans ((hs_n (by omega)).trans ((hs_n (by omega)).trans h134)))).symm ?_
                  refine g_heap (hs_id (c := aL 6 (a135)) ((hs_n (by omega)).trans ((hs_n (by omega)).trans ((hs_n (by omega)).trans ((hs_n (by omega)).trans h135))))).symm ?_
                  refine g_heap (hs_id (c := MOo ((ln : Int)) (p) ((sz : Int)) (at_) (wr) (va) (em) (ta) (ro) (dg)) ((hs_n (by omega)).trans ((hs_n (by omega)).trans ((hs_n (by omega)).trans ((hs_n (by omega)).trans ((hs_n (by omega)).trans hm0)))))).symm ?_
                  exact lp145 ((344 : Int) + 1).toNat (ml) (a134) (a135) (ta) (ro) (0) (0) (0) (0) (0) (by omega) rfl (Nat.zero_le _) rfl rfl rfl (fun t _ => rfl)
                · have e105 : (36 + i).toNat = 36 + j := by omega
                  refine r_aload_n dX11_longest_83 rfl rfl ?_
                  refine gf_X11_17 dX11_longest_84 (by omega) ((hs_n (by omega)).trans ((hs_n (by omega)).trans hm0)) rfl ?_
                  refine r_bipush (z := 36) dX11_longest_87 (by decide) ?_
                  refine r_iload dX11_longest_89 rfl ?_
                  refine r_iadd dX11_longest_91 ?_
                  refine r_iload dX11_longest_92 rfl ?_
                  refine r_iload_n dX11_longest_94 rfl rfl ?_
                  refine r_iconst (z := 1) dX11_longest_95 ?_
                  refine r_isub dX11_longest_96 ?_
                  refine r_icmp_ne 104 dX11_longest_97 (by decide) ⟨by omega, by omega⟩ ⟨by omega, by omega⟩ (fun c_97 => ?_) (fun c_97 => ?_)
                  · refine r_lconst (z := 0) dX11_longest_104 (by decide) ?_
                    refine r_lastore dX11_longest_105 (by omega) hs_e (by omega) (by omega) (by decide) ?_
                    refine g_heap (h2 := (hs (hs h (125) (aI 7 (uA (om) (6 : Int).toNat (o)))) (127) (aL 42 (uA (ms1) (36 + i).toNat (0))))) hs_hs ?_
                    refine r_iload dX11_longest_106 rfl ?_
                    refine r_iload dX11_longest_108 rfl ?_
                    refine r_if_le 123 dX11_longest_110 (by decide) ⟨by omega, by omega⟩ (fun c_110 => ?_) (fun c_110 => ?_)
                    · refine r_iconst (z := 1) dX11_longest_123 ?_
                      refine r_imul dX11_longest_124 ?_
                      refine r_istore (L2 := [_, _, _, _, _, _, none, none, none]) dX11_longest_125 (nlt rfl) rfl ?_
                      refine r_iinc (L2 := [_, _, _, _, _, _, none, none, none]) dX11_longest_127 (nlt rfl) rfl rfl ?_
                      refine r_goto 76 dX11_longest_130 (by decide) ?_
                      exact ih76 (uA (ms1) (36 + i).toNat (0)) (all * 1) (i + 1) ((j + 1)) (by omega) (by omega) (by omega) (fun t ht => by rw [e105, uA_n (by omega)]; exact hms1 t ht) (fun t ht => by rw [e105]; by_cases z : t = j; (rw [z, uA_e]; unfold sto; rw [if_neg (by omega)]); rw [uA_n (by omega)]; exact hms2 t (by omega)) (by rw [hall, show max 1 (min (j + 1) k) = max 1 (min j k) by omega, Int.mul_one])
                    · refine r_iload dX11_longest_113 rfl ?_
                      refine r_iload_n dX11_longest_115 rfl rfl ?_
                      refine r_icmp_ge 123 dX11_longest_116 (by decide) ⟨by omega, by omega⟩ ⟨by omega, by omega⟩ (fun c_116 => ?_) (fun c_116 => ?_)
                      · refine r_iconst (z := 1) dX11_longest_123 ?_
                        refine r_imul dX11_longest_124 ?_
                        refine r_istore (L2 := [_, _, _, _, _, _, none, none, none]) dX11_longest_125 (nlt rfl) rfl ?_
                        refine r_iinc (L2 := [_, _, _, _, _, _, none, none, none]) dX11_longest_127 (nlt rfl) rfl rfl ?_
                        refine r_goto 76 dX11_longest_130 (by decide) ?_
                        exact ih76 (uA (ms1) (36 + i).toNat (0)) (all * 1) (i + 1) ((j + 1)) (by omega) (by omega) (by omega) (fun t ht => by rw [e105, uA_n (by omega)]; exact hms1 t ht) (fun t ht => by rw [e105]; by_cases z : t = j; (rw [z, uA_e]; unfold sto; rw [if_neg (by omega)]); rw [uA_n (by omega)]; exact hms2 t (by omega)) (by rw [hall, show max 1 (min (j + 1) k) = max 1 (min j k) by omega, Int.mul_one])
                      · refine r_iload_n dX11_longest_119 rfl rfl ?_
                        refine r_goto 124 dX11_longest_120 (by decide) ?_
                        refine r_imul dX11_longest_124 ?_
                        refine r_istore (L2 := [_, _, _, _, _, _, none, none, none]) dX11_longest_125 (nlt rfl) rfl ?_
                        refine r_iinc (L2 := [_, _, _, _, _, _, none, none, none]) dX11_longest_127 (nlt rfl) rfl rfl ?_
                        refine r_goto 76 dX11_longest_130 (by decide) ?_
                        exact ih76 (uA (ms1) (36 + i).toNat (0)) (all * pp) (i + 1) ((j + 1)) (by omega) (by omega) (by omega) (fun t ht => by rw [e105, uA_n (by omega)]; exact hms1 t ht) (fun t ht => by rw [e105]; by_cases z : t = j; (rw [z, uA_e]; unfold sto; rw [if_neg (by omega)]); rw [uA_n (by omega)]; exact hms2 t (by omega)) (by rw [hall, show max 1 (min (j + 1) k) = max 1 (min j k) + 1 by omega, Nat.pow_succ, Int.natCast_mul]; congr 1; omega)
                  · refine r_lconst (z := 1) dX11_longest_100 (by decide) ?_
                    refine r_goto 105 dX11_longest_101 (by decide) ?_
                    refine r_lastore dX11_longest_105 (by omega) hs_e (by omega) (by omega) (by decide) ?_
                    refine g_heap (h2 := (hs (hs h (125) (aI 7 (uA (om) (6 : Int).toNat (o)))) (127) (aL 42 (uA (ms1) (36 + i).toNat (1))))) hs_hs ?_
                    refine r_iload dX11_longest_106 rfl ?_
                    refine r_iload dX11_longest_108 rfl ?_
                    refine r_if_le 123 dX11_longest_110 (by decide) ⟨by omega, by omega⟩ (fun c_110 => ?_) (fun c_110 => ?_)
                    · refine r_iconst (z := 1) dX11_longest_123 ?_
                      refine r_imul dX11_longest_124 ?_
                      refine r_istore (L2 := [_, _, _, _, _, _, none, none, none]) dX11_longest_125 (nlt rfl) rfl ?_
                      refine r_iinc (L2 := [_, _, _, _, _, _, none, none, none]) dX11_longest_127 (nlt rfl) rfl rfl ?_
                      refine r_goto 76 dX11_longest_130 (by decide) ?_
                      exact ih76 (uA (ms1) (36 + i).toNat (1)) (all * 1) (i + 1) ((j + 1)) (by omega) (by omega) (by omega) (fun t ht => by rw [e105, uA_n (by omega)]; exact hms1 t ht) (fun t ht => by rw [e105]; by_cases z : t = j; (rw [z, uA_e]; unfold sto; rw [if_pos (by omega)]); rw [uA_n (by omega)]; exact hms2 t (by omega)) (by rw [hall, show max 1 (min (j + 1) k) = max 1 (min j k) by omega, Int.mul_one])
                    · refine r_iload dX11_longest_113 rfl ?_
                      refine r_iload_n dX11_longest_115 rfl rfl ?_
                      refine r_icmp_ge 123 dX11_longest_116 (by decide) ⟨by omega, by omega⟩ ⟨by omega, by omega⟩ (fun c_116 => ?_) (fun c_116 => ?_)
                      · refine r_iconst (z := 1) dX11_longest_123 ?_
                        refine r_imul dX11_longest_124 ?_
                        refine r_istore (L2 := [_, _, _, _, _, _, none, none, none]) dX11_longest_125 (nlt rfl) rfl ?_
                        refine r_iinc (L2 := [_, _, _, _, _, _, none, none, none]) dX11_longest_127 (nlt rfl) rfl rfl ?_
                        refine r_goto 76 dX11_longest_130 (by decide) ?_
                        exact ih76 (uA (ms1) (36 + i).toNat (1)) (all * 1) (i + 1) ((j + 1)) (by omega) (by omega) (by omega) (fun t ht => by rw [e105, uA_n (by omega)]; exact hms1 t ht) (fun t ht => by rw [e105]; by_cases z : t = j; (rw [z, uA_e]; unfold sto; rw [if_pos (by omega)]); rw [uA_n (by omega)]; exact hms2 t (by omega)) (by rw [hall, show max 1 (min (j + 1) k) = max 1 (min j k) by omega, Int.mul_one])
                      · refine r_iload_n dX11_longest_119 rfl rfl ?_
                        refine r_goto 124 dX11_longest_120 (by decide) ?_
                        refine r_imul dX11_longest_124 ?_
                        refine r_istore (L2 := [_, _, _, _, _, _, none, none, none]) dX11_longest_125 (nlt rfl) rfl ?_
                        refine r_iinc (L2 := [_, _, _, _, _, _, none, none, none]) dX11_longest_127 (nlt rfl) rfl rfl ?_
                        refine r_goto 76 dX11_longest_130 (by decide) ?_
                        exact ih76 (uA (ms1) (36 + i).toNat (1)) (all * pp) (i + 1) ((j + 1)) (by omega) (by omega) (by omega) (fun t ht => by rw [e105, uA_n (by omega)]; exact hms1 t ht) (fun t ht => by rw [e105]; by_cases z : t = j; (rw [z, uA_e]; unfold sto; rw [if_pos (by omega)]); rw [uA_n (by omega)]; exact hms2 t (by omega)) (by rw [hall, show max 1 (min (j + 1) k) = max 1 (min j k) + 1 by omega, Nat.pow_succ, Int.natCast_mul]; congr 1; omega)
            refine g_heap (hs_id (c := aL 42 (ms)) ((hs_n (by omega)).trans hms)).symm ?_
            exact lp76 ((7 : Int) + 1).toNat (ms) (pp) (0) (0) (by omega) rfl (by decide) (fun t _ => rfl) (fun t ht => absurd ht (Nat.not_lt_zero t)) (by rw [show max 1 (min 0 k) = 1 by omega, Nat.pow_one]; omega)
          · refine r_iload_n dX11_longest_52 rfl rfl ?_
            refine r_iconst (z := 1) dX11_longest_53 ?_
            refine r_isub dX11_longest_54 ?_
            refine r_iload_n dX11_longest_55 rfl rfl ?_
            refine r_icmp_le 62 dX11_longest_56 (by decide) ⟨by omega, by omega⟩ ⟨by omega, by omega⟩ (fun c_56 => ?_) (fun c_56 => ?_)
            · refine r_aload_n dX11_longest_62 rfl rfl ?_
              refine gf_X11_7 dX11_longest_63 (by omega) hm0 rfl ?_
              refine r_bipush (z := 6) dX11_longest_66 (by decide) ?_
              refine r_iload_n dX11_longest_68 rfl rfl ?_
              refine r_iastore dX11_longest_69 (by omega) hom (by omega) (by omega) (by decide) ?_
              refine r_iload_n dX11_longest_70 rfl rfl ?_
              refine r_istore (L2 := [_, _, _, _, _, none, none, none, none]) dX11_longest_71 (nlt rfl) rfl ?_
              refine r_iconst (z := 0) dX11_longest_73 ?_
              refine r_istore (L2 := [_, _, _, _, _, _, none, none, none]) dX11_longest_74 (nlt rfl) rfl ?_
              have lp76 : ∀ (fu76 : Nat) (ms1 : Nat → Int) (all : Int) (i : Int) (j : Nat), (7 - i) < (fu76 : Int) → (i = (j : Int)) → (j ≤ 6) → (∀ t, t < 36 → ms1 t = ms t) → (∀ t, t < j → ms1 (36 + t) = sto k t) → (all = ((pp.toNat ^ max 1 (min j k) : Nat) : Int)) → G X RX11 cX11_longest mX11_longest.rm N 0 0 76 [some (.ref (124)), some (.int (iZ (o))), some (.int (iZ (pp))), some (.int (iZ (w))), some (.int (iZ (all))), some (.int (iZ (i))), none, none, none] [] (hs (hs h (125) (aI 7 (uA (om) (6 : Int).toNat (o)))) (127) (aL 42 (ms1))) := by
                intro fu76
                induction fu76 with
                | zero => intro ms1 all i j hm ei j6 hms1 hms2 hall; exfalso; omega
                | succ fu76 ih76 =>
                  intro ms1 all i j hms76 ei j6 hms1 hms2 hall
                  refine r_iload dX11_longest_76 rfl ?_
                  refine r_bipush (z := 6) dX11_longest_78 (by decide) ?_
                  refine r_icmp_ge 133 dX11_longest_80 (by decide) ⟨by omega, by omega⟩ ⟨by decide, by decide⟩ (fun c_80 => ?_) (fun c_80 => ?_)
                  · have j9 : j = 6 := by omega
                    rw [j9, show max 1 (min 6 k) = k by omega] at hall
                    have p343 := pw343 (e := k) hp7 (by omega)
                    have hfb := fLg_b hk0 hp7 (show k ≤ 3 by omega)
                    refine r_iconst (z := 0) dX11_longest_133 ?_
                    refine r_istore (L2 := [_, _, _, _, _, _, none, none, none]) dX11_longest_134 (nlt rfl) rfl ?_
                    refine r_iconst (z := 0) dX11_longest_136 ?_
                    refine r_istore (L2 := [_, _, _, _, _, _, _, none, none]) dX11_longest_137 (nlt rfl) rfl ?_
                    refine r_iconst (z := 0) dX11_longest_139 ?_
                    refine r_istore (L2 := [_, _, _, _, _, _, _, _, none]) dX11_longest_140 (nlt rfl) rfl ?_
                    refine r_iconst (z := 0) dX11_longest_142 ?_
                    refine r_istore (L2 := [_, _, _, _, _, _, _, _, _]) dX11_longest_143 (nlt rfl) rfl ?_
                    have lp145 : ∀ (fu145 : Nat) (ml1 : Nat → Int) (f1 : Nat → Int) (g1 : Nat → Int) (ta1 : Int) (ro1 : Int) (best : Int) (many : Int) (first : Int) (code : Int) (cn : Nat), (344 - code) < (fu145 : Int) → (code = (cn : Int)) → (cn ≤ pp.toNat ^ k) → (best = (fLg k pp cn).1) → (many = (fLg k pp cn).2.1) → (first = (fLg k pp cn).2.2) → (∀ t, t < 36 → ml1 t = ml t) → G X RX11 cX11_longest mX11_longest.rm N 0 0 145 [some (.ref (124)), some (.int (iZ (o))), some (.int (iZ (pp))), some (.int (iZ (w))), some (.int (iZ (all))), some (.int (iZ (best))), some (.int (iZ (many))), some (.int (iZ (first))), some (.int (iZ (code)))] [] (hs (hs (hs (hs (hs (hs h (125) (aI 7 (uA (om) (6 : Int).toNat (o)))) (127) (aL 42 (ms1))) (126) (aL 42 (ml1))) (134) (aL 6 (f1))) (135) (aL 6 (g1))) (124) (MOo ((ln : Int)) (p) ((sz : Int)) (at_) (wr) (va) (em) (ta1) (ro1) (dg))) := by
                      intro fu145
                      induction fu145 with
                      | zero => intro ml1 f1 g1 ta1 ro1 best many first code cn hm ecn cnp eb9 em9 ef9 hml1; exfalso; omega
                      | succ fu145 ih145 =>
                        intro ml1 f1 g1 ta1 ro1 best many first code cn hms145 ecn cnp eb9 em9 ef9 hml1
                        have bb9 := hfb cn
                        have fin8 := fLg_in k pp cn
                        refine r_iload dX11_longest_145 rfl ?_
                        refine r_iload dX11_longest_147 rfl ?_
                        refine r_icmp_ge 222 dX11_longest_149 (by decide) ⟨by omega, by omega⟩ ⟨by omega, by omega⟩ (fun c_149 => ?_) (fun c_149 => ?_)
                        · have fin9 := fLg_in k pp cn
                          refine r_aload_n dX11_longest_222 rfl rfl ?_
                          refine r_iload dX11_longest_223 rfl ?_
                          refine r_iload_n dX11_longest_225 rfl rfl ?_
                          refine r_iload_n dX11_longest_226 rfl rfl ?_
                          refine r_callV (av := [.int (iZ (first)), .int (iZ (o)), .int (iZ (pp))]) dX11_longest_227 lkX11_layCode ml_X11_217 imX11_layCode seX11_layCode (by omega) (rfl : vwCl[11]? = _) ⟨_, hs_e⟩ ⟨Nat.le_of_ble_eq_true rfl, Nat.le_of_ble_eq_true rfl⟩ rfl rfl (nle rfl) ⟨Nat.le_of_ble_eq_true rfl, Nat.le_of_ble_eq_true rfl⟩ (c_X11_layCode (k := k) (p := pp) (ml := ml1) (ln := (ln : Int)) (pr := p) (nm := (sz : Int)) (at_ := at_) (wr := wr) (va := va) (em := em) (ta := ta1) (ro := ro1) (dg := dg) hs_e hN ((hs_n (by omega)).trans ((hs_n (by omega)).trans ((hs_n (by omega)).trans hs_e))) (by omega) hk0 (by omega) (by omega) (by omega) (by omega) (by omega) (fun ml227 hl1227 hl2227 => ?_))
                          refine g_heap (h2 := (hs (hs (hs (hs (hs (hs h (125) (aI 7 (uA (om) (6 : Int).toNat (o)))) (127) (aL 42 (ms1))) (126) (aL 42 (ml227))) (134) (aL 6 (f1))) (135) (aL 6 (g1))) (124) (MOo ((ln : Int)) (p) ((sz : Int)) (at_) (wr) (va) (em) (ta1) (ro1) (dg)))) (hs_put (by omega) (hs_put (by omega) (hs_put (by omega) hs_hs))) ?_
                          show G _ _ _ _ _ _ _ 230 _ _ _
                          refine r_iload_n dX11_longest_230 rfl rfl ?_
                          refine r_if_ne 239 dX11_longest_231 (by decide) hw (fun c_231 => ?_) (fun c_231 => ?_)
                          · refine r_iload_n dX11_longest_239 rfl rfl ?_
                            refine r_iconst (z := 1) dX11_longest_240 ?_
                            refine r_icmp_ne 249 dX11_longest_241 (by decide) hw ⟨by decide, by decide⟩ (fun c_241 => ?_) (fun c_241 => ?_)
                            · refine r_aload_n dX11_longest_249 rfl rfl ?_
                              refine gf_X11_13 dX11_longest_250 (by omega) hs_e rfl ?_
                              refine r_bipush (z := 36) dX11_longest_253 (by decide) ?_
                              refine r_iload_n dX11_longest_255 rfl rfl ?_
                              refine r_iadd dX11_longest_256 ?_
                              refine r_iconst (z := 2) dX11_longest_257 ?_
                              refine r_isub dX11_longest_258 ?_
                              refine r_laload dX11_longest_259 (by omega) ((hs_n (by omega)).trans ((hs_n (by omega)).trans ((hs_n (by omega)).trans hs_e))) (by omega) (by omega) (by decide) ?_
                              refine r_l2i dX11_longest_260 ?_
                              refine r_ireturn hq dX11_longest_261 rfl rfl rfl ?_
                              refine hQ _ _ (Or.inr ⟨by omega, by omega, hpr, by omega, by omega, by omega, Or.inr ⟨by omega, ?_⟩⟩) ⟨_, _, _, _, _, _, _, _, _, _, _, _, _, _, _, _, _, _, _, _, _, _, _, _, _, _, hs_e, ((hs_n (by omega)).trans ((hs_n (by omega)).trans ((hs_n (by omega)).trans ((hs_n (by omega)).trans ((hs_n (by omega)).trans hs_e))))), ((hs_n (by omega)).trans ((hs_n (by omega)).trans ((hs_n (by omega)).trans hs_e))), ((hs_n (by omega)).trans ((hs_n (by omega)).trans ((hs_n (by omega)).trans ((hs_n (by omega)).trans hs_e)))), ((hs_n (by omega)).trans ((hs_n (by omega)).trans ((hs_n (by omega)).trans ((hs_n (by omega)).trans ((hs_n (by omega)).trans ((hs_n (by omega)).trans hbt)))))), ((hs_n (by omega)).trans ((hs_n (by omega)).trans ((hs_n (by omega)).trans ((hs_n (by omega)).trans ((hs_n (by omega)).trans ((hs_n (by omega)).trans hnv)))))), ((hs_n (by omega)).trans ((hs_n (by omega)).trans ((hs_n (by omega)).trans ((hs_n (by omega)).trans ((hs_n (by omega)).trans ((hs_n (by omega)).trans h130)))))), ((hs_n (by omega)).trans ((hs_n (by omega)).trans ((hs_n (by omega)).trans ((hs_n (by omega)).trans ((hs_n (by omega)).trans ((hs_n (by omega)).trans h131)))))), ((hs_n (by omega)).trans ((hs_n (by omega)).trans ((hs_n (by omega)).trans ((hs_n (by omega)).trans ((hs_n (by omega)).trans ((hs_n (by omega)).trans h132)))))), ((hs_n (by omega)).trans ((hs_n (by omega)).trans ((hs_n (by omega)).trans ((hs_n (by omega)).trans ((hs_n (by omega)).trans ((hs_n (by omega)).trans h133)))))), ((hs_n (by omega)).trans ((hs_n (by omega)).trans hs_e)), ((hs_n (by omega)).trans hs_e), ((hs_n (by omega)).trans ((hs_n (by omega)).trans ((hs_n (by omega)).trans ((hs_n (by omega)).trans ((hs_n (by omega)).trans ((hs_n (by omega)).trans h136)))))), ((hs_n (by omega)).trans ((hs_n (by omega)).trans ((hs_n (by omega)).trans ((hs_n (by omega)).trans ((hs_n (by omega)).trans ((hs_n (by omega)).trans h137)))))), ((hs_n (by omega)).trans ((hs_n (by omega)).trans ((hs_n (by omega)).trans ((hs_n (by omega)).trans ((hs_n (by omega)).trans ((hs_n (by omega)).trans h138)))))), ((hs_n (by omega)).trans ((hs_n (by omega)).trans ((hs_n (by omega)).trans ((hs_n (by omega)).trans ((hs_n (by omega)).trans ((hs_n (by omega)).trans h139)))))), ((hs_n (by omega)).trans ((hs_n (by omega)).trans ((hs_n (by omega)).trans ((hs_n (by omega)).trans ((hs_n (by omega)).trans ((hs_n (by omega)).trans h140)))))), ((hs_n (by omega)).trans ((hs_n (by omega)).trans ((hs_n (by omega)).trans ((hs_n (by omega)).trans ((hs_n (by omega)).trans ((hs_n (by omega)).trans h141)))))), ((hs_n (by omega)).trans ((hs_n (by omega)).trans ((hs_n (by omega)).trans ((hs_n (by omega)).trans ((hs_n (by omega)).trans ((hs_n (by omega)).trans h142)))))), ((hs_n (by omega)).trans ((hs_n (by omega)).trans ((hs_n (by omega)).trans ((hs_n (by omega)).trans ((hs_n (by omega)).trans ((hs_n (by omega)).trans h143)))))), ((hs_n (by omega)).trans ((hs_n (by omega)).trans ((hs_n (by omega)).trans ((hs_n (by omega)).trans ((hs_n (by omega)).trans ((hs_n (by omega)).trans h144)))))), ((hs_n (by omega)).trans ((hs_n (by omega)).trans ((hs_n (by omega)).trans ((hs_n (by omega)).trans ((hs_n (by omega)).trans ((hs_n (by omega)).trans h145)))))), (MR.hi hMR (fun i9 h9 => uA_n (by show i9 ≠ 6; omega)) (fun t ht => (hl1227 t ht).trans (hml1 t ht)) hms1), hlN, hbb, hPr, hs40, hvb⟩ (fun a9 h9 => ((hs_n (by omega)).trans ((hs_n (by omega)).trans ((hs_n (by omega)).trans ((hs_n (by omega)).trans ((hs_n (by omega)).trans ((hs_n (by omega)).trans rfl)))))))
                              rw [show o.toNat = k by omega]
                              rw [show cn = pp.toNat ^ k by omega] at eb9 em9 ef9
                              rw [if_neg (by omega), if_neg (by omega), ← ef9, show ((36 + w) - 2).toNat = 36 + (w - 1).toNat - 1 by omega]
                              exact hl2227 _ (by omega) (by omega)
                            · refine r_iload dX11_longest_244 rfl ?_
                              refine r_goto 261 dX11_longest_246 (by decide) ?_
                              refine r_ireturn hq dX11_longest_261 rfl rfl rfl ?_
                              refine hQ _ _ (Or.inr ⟨by omega, by omega, hpr, by omega, by omega, by omega, Or.inr ⟨by omega, ?_⟩⟩) ⟨_, _, _, _, _, _, _, _, _, _, _, _, _, _, _, _, _, _, _, _, _, _, _, _, _, _, hs_e, ((hs_n (by omega)).trans ((hs_n (by omega)).trans ((hs_n (by omega)).trans ((hs_n (by omega)).trans ((hs_n (by omega)).trans hs_e))))), ((hs_n (by omega)).trans ((hs_n (by omega)).trans ((hs_n (by omega)).trans hs_e))), ((hs_n (by omega)).trans ((hs_n (by omega)).trans ((hs_n (by omega)).trans ((hs_n (by omega)).trans hs_e)))), ((hs_n (by omega)).trans ((hs_n (by omega)).trans ((hs_n (by omega)).trans ((hs_n (by omega)).trans ((hs_n (by omega)).trans ((hs_n (by omega)).trans hbt)))))), ((hs_n (by omega)).trans ((hs_n (by omega)).trans ((hs_n (by omega)).trans ((hs_n (by omega)).trans ((hs_n (by omega)).trans ((hs_n (by omega)).trans hnv)))))), ((hs_n (by omega)).trans ((hs_n (by omega)).trans ((hs_n (by omega)).trans ((hs_n (by omega)).trans ((hs_n (by omega)).trans ((hs_n (by omega)).trans h130)))))), ((hs_n (by omega)).trans ((hs_n (by omega)).trans ((hs_n (by omega)).trans ((hs_n (by omega)).trans ((hs_n (by omega)).trans ((hs_n (by omega)).trans h131)))))), ((hs_n (by omega)).trans ((hs_n (by omega)).trans ((hs_n (by omega)).trans ((hs_n (by omega)).trans ((hs_n (by omega)).trans ((hs_n (by omega)).trans h132)))))), ((hs_n (by omega)).trans ((hs_n (by omega)).trans ((hs_n (by omega)).trans ((hs_n (by omega)).trans ((hs_n (by omega)).trans ((hs_n (by omega)).trans h133)))))), ((hs_n (by omega)).trans ((hs_n (by omega)).trans hs_e)), ((hs_n (by omega)).trans hs_e), ((hs_n (by omega)).trans ((hs_n (by omega)).trans ((hs_n (by omega)).trans ((hs_n (by omega)).trans ((hs_n (by omega)).trans ((hs_n (by omega)).trans h136)))))), ((hs_n (by omega)).trans ((hs_n (by omega)).trans ((hs_n (by omega)).trans ((hs_n (by omega)).trans ((hs_n (by omega)).trans ((hs_n (by omega)).trans h137)))))), ((hs_n (by omega)).trans ((hs_n (by omega)).trans ((hs_n (by omega)).trans ((hs_n (by omega)).trans ((hs_n (by omega)).trans ((hs_n (by omega)).trans h138)))))), ((hs_n (by omega)).trans ((hs_n (by omega)).trans ((hs_n (by omega)).trans ((hs_n (by omega)).trans ((hs_n (by omega)).trans ((hs_n (by omega)).trans h139)))))), ((hs_n (by omega)).trans ((hs_n (by omega)).trans ((hs_n (by omega)).trans ((hs_n (by omega)).trans ((hs_n (by omega)).trans ((hs_n (by omega)).trans h140)))))), ((hs_n (by omega)).trans ((hs_n (by omega)).trans ((hs_n (by omega)).trans ((hs_n (by omega)).trans ((hs_n (by omega)).trans ((hs_n (by omega)).trans h141)))))), ((hs_n (by omega)).trans ((hs_n (by omega)).trans ((hs_n (by omega)).trans ((hs_n (by omega)).trans ((hs_n (by omega)).trans ((hs_n (by omega)).trans h142)))))), ((hs_n (by omega)).trans ((hs_n (by omega)).trans ((hs_n (by omega)).trans ((hs_n (by omega)).trans ((hs_n (by omega)).trans ((hs_n (by omega)).trans h143)))))), ((hs_n (by omega)).trans ((hs_n (by omega)).trans ((hs_n (by omega)).trans ((hs_n (by omega)).trans ((hs_n (by omega)).trans ((hs_n (by omega)).trans h144)))))), ((hs_n (by omega)).trans ((hs_n (by omega)).trans ((hs_n (by omega)).trans ((hs_n (by omega)).trans ((hs_n (by omega)).trans ((hs_n (by omega)).trans h145)))))), (MR.hi hMR (fun i9 h9 => uA_n (by show i9 ≠ 6; omega)) (fun t ht => (hl1227 t ht).trans (hml1 t ht)) hms1), hlN, hbb, hPr, hs40, hvb⟩ (fun a9 h9 => ((hs_n (by omega)).trans ((hs_n (by omega)).trans ((hs_n (by omega)).trans ((hs_n (by omega)).trans ((hs_n (by omega)).trans ((hs_n (by omega)).trans rfl)))))))
                              rw [show o.toNat = k by omega]
                              rw [show cn = pp.toNat ^ k by omega] at eb9 em9 ef9
                              rw [if_neg (by omega), if_pos (by omega)]; exact eb9
                          · refine r_iload dX11_longest_234 rfl ?_
                            refine r_goto 261 dX11_longest_236 (by decide) ?_
                            refine r_ireturn hq dX11_longest_261 rfl rfl rfl ?_
                            refine hQ _ _ (Or.inr ⟨by omega, by omega, hpr, by omega, by omega, by omega, Or.inr ⟨by omega, ?_⟩⟩) ⟨_, _, _, _, _, _, _, _, _, _, _, _, _, _, _, _, _, _, _, _, _, _, _, _, _, _, hs_e, ((hs_n (by omega)).trans ((hs_n (by omega)).trans ((hs_n (by omega)).trans ((hs_n (by omega)).trans ((hs_n (by omega)).trans hs_e))))), ((hs_n (by omega)).trans ((hs_n (by omega)).trans ((hs_n (by omega)).trans hs_e))), ((hs_n (by omega)).trans ((hs_n (by omega)).trans ((hs_n (by omega)).trans ((hs_n (by omega)).trans hs_e)))), ((hs_n (by omega)).trans ((hs_n (by omega)).trans ((hs_n (by omega)).trans ((hs_n (by omega)).trans ((hs_n (by omega)).trans ((hs_n (by omega)).trans hbt)))))), ((hs_n (by omega)).trans ((hs_n (by omega)).trans ((hs_n (by omega)).trans ((hs_n (by omega)).trans ((hs_n (by omega)).trans ((hs_n (by omega)).trans hnv)))))), ((hs_n (by omega)).trans ((hs_n (by omega)).trans ((hs_n (by omega)).trans ((hs_n (by omega)).trans ((hs_n (by omega)).trans ((hs_n (by omega)).trans h130)))))), ((hs_n (by omega)).trans ((hs_n (by omega)).trans ((hs_n (by omega)).trans ((hs_n (by omega)).trans ((hs_n (by omega)).trans ((hs_n (by omega)).trans h131)))))), ((hs_n (by omega)).trans ((hs_n (by omega)).trans ((hs_n (by omega)).trans ((hs_n (by omega)).trans ((hs_n (by omega)).trans ((hs_n (by omega)).trans h132)))))), ((hs_n (by omega)).trans ((hs_n (by omega)).trans ((hs_n (by omega)).trans ((hs_n (by omega)).trans ((hs_n (by omega)).trans ((hs_n (by omega)).trans h133)))))), ((hs_n (by omega)).trans ((hs_n (by omega)).trans hs_e)), ((hs_n (by omega)).trans hs_e), ((hs_n (by omega)).trans ((hs_n (by omega)).trans ((hs_n (by omega)).trans ((hs_n (by omega)).trans ((hs_n (by omega)).trans ((hs_n (by omega)).trans h136)))))), ((hs_n (by omega)).trans ((hs_n (by omega)).trans ((hs_n (by omega)).trans ((hs_n (by omega)).trans ((hs_n (by omega)).trans ((hs_n (by omega)).trans h137)))))), ((hs_n (by omega)).trans ((hs_n (by omega)).trans ((hs_n (by omega)).trans ((hs_n (by omega)).trans ((hs_n (by omega)).trans ((hs_n (by omega)).trans h138)))))), ((hs_n (by omega)).trans ((hs_n (by omega)).trans ((hs_n (by omega)).trans ((hs_n (by omega)).trans ((hs_n (by omega)).trans ((hs_n (by omega)).trans h139)))))), ((hs_n (by omega)).trans ((hs_n (by omega)).trans ((hs_n (by omega)).trans ((hs_n (by omega)).trans ((hs_n (by omega)).trans ((hs_n (by omega)).trans h140)))))), ((hs_n (by omega)).trans ((hs_n (by omega)).trans ((hs_n (by omega)).trans ((hs_n (by omega)).trans ((hs_n (by omega)).trans ((hs_n (by omega)).trans h141)))))), ((hs_n (by omega)).trans ((hs_n (by omega)).trans ((hs_n (by omega)).trans ((hs_n (by omega)).trans ((hs_n (by omega)).trans ((hs_n (by omega)).trans h142)))))), ((hs_n (by omega)).trans ((hs_n (by omega)).trans ((hs_n (by omega)).trans ((hs_n (by omega)).trans ((hs_n (by omega)).trans ((hs_n (by omega)).trans h143)))))), ((hs_n (by omega)).trans ((hs_n (by omega)).trans ((hs_n (by omega)).trans ((hs_n (by omega)).trans ((hs_n (by omega)).trans ((hs_n (by omega)).trans h144)))))), ((hs_n (by omega)).trans ((hs_n (by omega)).trans ((hs_n (by omega)).trans ((hs_n (by omega)).trans ((hs_n (by omega)).trans ((hs_n (by omega)).trans h145)))))), (MR.hi hMR (fun i9 h9 => uA_n (by show i9 ≠ 6; omega)) (fun t ht => (hl1227 t ht).trans (hml1 t ht)) hms1), hlN, hbb, hPr, hs40, hvb⟩ (fun a9 h9 => ((hs_n (by omega)).trans ((hs_n (by omega)).trans ((hs_n (by omega)).trans ((hs_n (by omega)).trans ((hs_n (by omega)).trans ((hs_n (by omega)).trans rfl)))))))
                            rw [show o.toNat = k by omega]
                            rw [show cn = pp.toNat ^ k by omega] at eb9 em9 ef9
                            rw [if_pos (by omega)]; exact em9
                        · refine r_iload dX11_longest_152 rfl ?_
                          refine r_iload_n dX11_longest_154 rfl rfl ?_
                          refine r_iremp dX11_longest_155 ⟨by omega, by omega⟩ ⟨by omega, by omega⟩ (by omega) (by omega) ?_
                          have eb_155 := emod_bd (code) (show 0 < pp by omega)
                          refine r_if_eq 216 dX11_longest_156 (by decide) ⟨by omega, by omega⟩ (fun c_156 => ?_) (fun c_156 => ?_)
                          · refine r_iinc (L2 := [_, _, _, _, _, _, _, _, _]) dX11_longest_216 (nlt rfl) rfl rfl ?_
                            refine r_goto 145 dX11_longest_219 (by decide) ?_
                            exact ih145 (ml1) (f1) (g1) (ta1) (ro1) (best) (many) (first) (code + 1) ((cn + 1)) (by omega) (by omega) (by omega) (by rw [fLg_s, if_pos (by rw [← ecn]; exact c_156)]; exact eb9) (by rw [fLg_s, if_pos (by rw [← ecn]; exact c_156)]; exact em9) (by rw [fLg_s, if_pos (by rw [← ecn]; exact c_156)]; exact ef9) hml1
                          · refine r_aload_n dX11_longest_159 rfl rfl ?_
                            refine r_iload dX11_longest_160 rfl ?_
                            refine r_iload_n dX11_longest_162 rfl rfl ?_
                            refine r_iload_n dX11_longest_163 rfl rfl ?_
                            refine r_callV (av := [.int (iZ (code)), .int (iZ (o)), .int (iZ (pp))]) dX11_longest_164 lkX11_layCode ml_X11_217 imX11_layCode seX11_layCode (by omega) (rfl : vwCl[11]? = _) ⟨_, hs_e⟩ ⟨Nat.le_of_ble_eq_true rfl, Nat.le_of_ble_eq_true rfl⟩ rfl rfl (nle rfl) ⟨Nat.le_of_ble_eq_true rfl, Nat.le_of_ble_eq_true rfl⟩ (c_X11_layCode (k := k) (p := pp) (ml := ml1) (ln := (ln : Int)) (pr := p) (nm := (sz : Int)) (at_ := at_) (wr := wr) (va := va) (em := em) (ta := ta1) (ro := ro1) (dg := dg) hs_e hN ((hs_n (by omega)).trans ((hs_n (by omega)).trans ((hs_n (by omega)).trans hs_e))) (by omega) hk0 (by omega) (by omega) (by omega) (by omega) (by omega) (fun ml164 hl1164 hl2164 => ?_))
                            refine g_heap (h2 := (hs (hs (hs (hs (hs (hs h (125) (aI 7 (uA (om) (6 : Int).toNat (o)))) (127) (aL 42 (ms1))) (126) (aL 42 (ml164))) (134) (aL 6 (f1))) (135) (aL 6 (g1))) (124) (MOo ((ln : Int)) (p) ((sz : Int)) (at_) (wr) (va) (em) (ta1) (ro1) (dg)))) (hs_put (by omega) (hs_put (by omega) (hs_put (by omega) hs_hs))) ?_
                            show G _ _ _ _ _ _ _ 167 _ _ _
                            have hg6 : RG (uA om (6 : Int).toNat o) ml164 ms1 6 k (lwd k pp code) (sto k) := by
                              refine ⟨(show uA om 6 o 6 = _ from uA_e).trans ek, hk0, by omega, fun t a b => ⟨hl2164 t a b, ?_⟩, fun t a => ⟨?_, ?_⟩⟩
                              · have := emod_bd (lft pp code (k - t)) (show 0 < pp by omega)
                                show -100000 ≤ lft pp code (k - t) % pp ∧ lft pp code (k - t) % pp ≤ 100000
                                omega
                              · exact hms2 t (by omega)
                              · unfold sto
                                split <;> omega
                            refine r_aload_n dX11_longest_167 rfl rfl ?_
                            refine r_bipush (z := 6) dX11_longest_168 (by decide) ?_
                            refine r_iload_n dX11_longest_170 rfl rfl ?_
                            refine r_callV (av := [.int (iZ (6)), .int (iZ (pp))]) dX11_longest_171 lkX11_layRound ml_X11_188 imX11_layRound seX11_layRound (by omega) (rfl : vwCl[11]? = _) ⟨_, hs_e⟩ ⟨Nat.le_of_ble_eq_true rfl, Nat.le_of_ble_eq_true rfl⟩ rfl rfl (nle rfl) ⟨Nat.le_of_ble_eq_true rfl, Nat.le_of_ble_eq_true rfl⟩ (c_X11_layRound (r := 6) (k := k) (c := (lwd k pp code)) (s := (sto k)) (om := uA (om) (6 : Int).toNat (o)) (ml := ml164) (ms := ms1) (fs := f1) (ff := g1) (m := pp) (ln := (ln : Int)) (pr := p) (nm := (sz : Int)) (at_ := at_) (wr := wr) (va := va) (em := em) (ta := ta1) (ro := ro1) (dg := dg) hs_e hN ((hs_n (by omega)).trans ((hs_n (by omega)).trans ((hs_n (by omega)).trans ((hs_n (by omega)).trans ((hs_n (by omega)).trans hs_e))))) ((hs_n (by omega)).trans ((hs_n (by omega)).trans ((hs_n (by omega)).trans hs_e))) ((hs_n (by omega)).trans ((hs_n (by omega)).trans ((hs_n (by omega)).trans ((hs_n (by omega)).trans hs_e)))) hg6 (by omega) (by omega) ((hs_n (by omega)).trans ((hs_n (by omega)).trans hs_e)) ((hs_n (by omega)).trans hs_e) (by omega) (by omega) (fun ok171 ta171 ro171 fs171 ff171 hok171 hR171 => ?_))
                            refine g_heap (h2 := (hs (hs (hs (hs (hs (hs h (125) (aI 7 (uA (om) (6 : Int).toNat (o)))) (127) (aL 42 (ms1))) (126) (aL 42 (ml164))) (134) (aL 6 (fs171))) (135) (aL 6 (ff171))) (124) (MOo ((ln : Int)) (p) ((sz : Int)) (at_) (wr) (va) (em) (ta171) (ro171) (dg)))) ((congrArg (fun x9 => hs x9 (124) (MOo ((ln : Int)) (p) ((sz : Int)) (at_) (wr) (va) (em) (ta171) (ro171) (dg))) ((congrArg (fun x9 => hs x9 (135) (aL 6 (ff171))) (hs_put (by omega) (hs_put (by omega) hs_hs))).trans (hs_put (by omega) hs_hs))).trans hs_hs) ?_
                            show G _ _ _ _ _ _ _ 174 _ _ _
                            have hLs := Lf_spec (code := code) hk0 hp7 c_156
                            have hro : ro171 = (Lf k pp cn : Int) := by
                              rw [← ecn]
                              rcases hR171 with ⟨_, un, l9, y1, y2, y3, y4⟩ | ⟨_, y⟩
                              · rw [y4, (y1.one hLs.1).2]
                              · have := y 0 _ hLs.1
                                omega
                            have hf9 := hfb cn
                            have hl9 : (Lf k pp cn : Int) ≤ 343 := by rw [← ecn]; omega
                            refine r_pop dX11_longest_174 rfl ?_
                            refine r_aload_n dX11_longest_175 rfl rfl ?_
                            refine gf_X11_175 dX11_longest_176 (by omega) hs_e rfl ?_
                            refine r_iload dX11_longest_179 rfl ?_
                            refine r_icmp_le 197 dX11_longest_181 (by decide) ⟨by omega, by omega⟩ ⟨by omega, by omega⟩ (fun c_181 => ?_) (fun c_181 => ?_)
                            · refine r_iload dX11_longest_197 rfl ?_
                              refine r_aload_n dX11_longest_199 rfl rfl ?_
                              refine gf_X11_175 dX11_longest_200 (by omega) hs_e rfl ?_
                              refine r_iload dX11_longest_203 rfl ?_
                              refine r_icmp_ne 212 dX11_longest_205 (by decide) ⟨by omega, by omega⟩ ⟨by omega, by omega⟩ (fun c_205 => ?_) (fun c_205 => ?_)
                              · refine r_iconst (z := 0) dX11_longest_212 ?_
                                refine r_iadd dX11_longest_213 ?_
                                refine r_istore (L2 := [_, _, _, _, _, _, _, _, _]) dX11_longest_214 (nlt rfl) rfl ?_
                                refine r_iinc (L2 := [_, _, _, _, _, _, _, _, _]) dX11_longest_216 (nlt rfl) rfl rfl ?_
                                refine r_goto 145 dX11_longest_219 (by decide) ?_
                                exact ih145 (ml164) (fs171) (ff171) (ta171) (ro171) (best) (many + 0) (first) (code + 1) ((cn + 1)) (by omega) (by omega) (by omega) (by rw [fLg_s]; rw [if_neg (by rw [← ecn]; exact c_156)]; rw [if_neg (by omega), if_neg (by omega)]; exact eb9) (by rw [fLg_s]; rw [if_neg (by rw [← ecn]; exact c_156)]; rw [if_neg (by omega), if_neg (by omega)]; rw [← em9]; omega) (by rw [fLg_s]; rw [if_neg (by rw [← ecn]; exact c_156)]; rw [if_neg (by omega), if_neg (by omega)]; exact ef9) (fun t ht => (hl1164 t ht).trans (hml1 t ht))
                              · refine r_iconst (z := 1) dX11_longest_208 ?_
                                refine r_goto 213 dX11_longest_209 (by decide) ?_
                                refine r_iadd dX11_longest_213 ?_
                                refine r_istore (L2 := [_, _, _, _, _, _, _, _, _]) dX11_longest_214 (nlt rfl) rfl ?_
                                refine r_iinc (L2 := [_, _, _, _, _, _, _, _, _]) dX11_longest_216 (nlt rfl) rfl rfl ?_
                                refine r_goto 145 dX11_longest_219 (by decide) ?_
                                exact ih145 (ml164) (fs171) (ff171) (ta171) (ro171) (best) (many + 1) (first) (code + 1) ((cn + 1)) (by omega) (by omega) (by omega) (by rw [fLg_s]; rw [if_neg (by rw [← ecn]; exact c_156)]; rw [if_neg (by omega), if_pos (by omega)]; exact eb9) (by rw [fLg_s]; rw [if_neg (by rw [← ecn]; exact c_156)]; rw [if_neg (by omega), if_pos (by omega)]; show many + 1 = _; rw [em9]) (by rw [fLg_s]; rw [if_neg (by rw [← ecn]; exact c_156)]; rw [if_neg (by omega), if_pos (by omega)]; exact ef9) (fun t ht => (hl1164 t ht).trans (hml1 t ht))
                            · refine r_aload_n dX11_longest_184 rfl rfl ?_
                              refine gf_X11_175 dX11_longest_185 (by omega) hs_e rfl ?_
                              refine r_istore (L2 := [_, _, _, _, _, _, _, _, _]) dX11_longest_188 (nlt rfl) rfl ?_
                              refine r_iconst (z := 0) dX11_longest_190 ?_
                              refine r_istore (L2 := [_, _, _, _, _, _, _, _, _]) dX11_longest_191 (nlt rfl) rfl ?_
                              refine r_iload dX11_longest_193 rfl ?_
                              refine r_istore (L2 := [_, _, _, _, _, _, _, _, _]) dX11_longest_195 (nlt rfl) rfl ?_
                              refine r_iload dX11_longest_197 rfl ?_
                              refine r_aload_n dX11_longest_199 rfl rfl ?_
                              refine gf_X11_175 dX11_longest_200 (by omega) hs_e rfl ?_
                              refine r_iload dX11_longest_203 rfl ?_
                              refine r_icmp_ne 212 dX11_longest_205 (by decide) ⟨by omega, by omega⟩ ⟨by omega, by omega⟩ (fun c_205 => ?_) (fun c_205 => ?_)
                              · refine r_iconst (z := 0) dX11_longest_212 ?_
                                refine r_iadd dX11_longest_213 ?_
                                refine r_istore (L2 := [_, _, _, _, _, _, _, _, _]) dX11_longest_214 (nlt rfl) rfl ?_
                                refine r_iinc (L2 := [_, _, _, _, _, _, _, _, _]) dX11_longest_216 (nlt rfl) rfl rfl ?_
                                refine r_goto 145 dX11_longest_219 (by decide) ?_
                                exact ih145 (ml164) (fs171) (ff171) (ta171) (ro171) (ro171) (0 + 0) (code) (code + 1) ((cn + 1)) (by omega) (by omega) (by omega) (by exfalso; omega) (by exfalso; omega) (by exfalso; omega) (fun t ht => (hl1164 t ht).trans (hml1 t ht))
                              · refine r_iconst (z := 1) dX11_longest_208 ?_
                                refine r_goto 213 dX11_longest_209 (by decide) ?_
                                refine r_iadd dX11_longest_213 ?_
                                refine r_istore (L2 := [_, _, _, _, _, _, _, _, _]) dX11_longest_214 (nlt rfl) rfl ?_
                                refine r_iinc (L2 := [_, _, _, _, _, _, _, _, _]) dX11_longest_216 (nlt rfl) rfl rfl ?_
                                refine r_goto 145 dX11_longest_219 (by decide) ?_
                                exact ih145 (ml164) (fs171) (ff171) (ta171) (ro171) (ro171) (0 + 1) (code) (code + 1) ((cn + 1)) (by omega) (by omega) (by omega) (by rw [fLg_s]; rw [if_neg (by rw [← ecn]; exact c_156)]; rw [if_pos (by omega)]; exact hro) (by rw [fLg_s]; rw [if_neg (by rw [← ecn]; exact c_156)]; rw [if_pos (by omega)]; rfl) (by rw [fLg_s]; rw [if_neg (by rw [← ecn]; exact c_156)]; rw [if_pos (by omega)]; exact ecn) (fun t ht => (hl1164 t ht).trans (hml1 t ht))
                    refine g_heap (hs_id (c := aL 42 (ml)) ((hs_n (by omega)).trans ((hs_n (by omega)).trans hml))).symm ?_
                    refine g_heap (hs_id (c := aL 6 (a134)) ((hs_n (by omega)).trans ((hs_n (by omega)).trans ((hs_n (by omega)).trans h134)))).symm ?_
                    refine g_heap (hs_id (c := aL 6 (a135)) ((hs_n (by omega)).trans ((hs_n (by omega)).trans ((hs_n (by omega)).trans ((hs_n (by omega)).trans h135))))).symm ?_
                    refine g_heap (hs_id (c := MOo ((ln : Int)) (p) ((sz : Int)) (at_) (wr) (va) (em) (ta) (ro) (dg)) ((hs_n (by omega)).trans ((hs_n (by omega)).trans ((hs_n (by omega)).trans ((hs_n (by omega)).trans ((hs_n (by omega)).trans hm0)))))).symm ?_
                    exact lp145 ((344 : Int) + 1).toNat (ml) (a134) (a135) (ta) (ro) (0) (0) (0) (0) (0) (by omega) rfl (Nat.zero_le _) rfl rfl rfl (fun t _ => rfl)
                  · have e105 : (36 + i).toNat = 36 + j := by omega
                    refine r_aload_n dX11_longest_83 rfl rfl ?_
                    refine gf_X11_17 dX11_longest_84 (by omega) ((hs_n (by omega)).trans ((hs_n (by omega)).trans hm0)) rfl ?_
                    refine r_bipush (z := 36) dX11_longest_87 (by decide) ?_
                    refine r_iload dX11_longest_89 rfl ?_
                    refine r_iadd dX11_longest_91 ?_
                    refine r_iload dX11_longest_92 rfl ?_
                    refine r_iload_n dX11_longest_94 rfl rfl ?_
                    refine r_iconst (z := 1) dX11_longest_95 ?_
                    refine r_isub dX11_longest_96 ?_
                    refine r_icmp_ne 104 dX11_longest_97 (by decide) ⟨by omega, by omega⟩ ⟨by omega, by omega⟩ (fun c_97 => ?_) (fun c_97 => ?_)
                    · refine r_lconst (z := 0) dX11_longest_104 (by decide) ?_
                      refine r_lastore dX11_longest_105 (by omega) hs_e (by omega) (by omega) (by decide) ?_
                      refine g_heap (h2 := (hs (hs h (125) (aI 7 (uA (om) (6 : Int).toNat (o)))) (127) (aL 42 (uA (ms1) (36 + i).toNat (0))))) hs_hs ?_
                      refine r_iload dX11_longest_106 rfl ?_
                      refine r_iload dX11_longest_108 rfl ?_
                      refine r_if_le 123 dX11_longest_110 (by decide) ⟨by omega, by omega⟩ (fun c_110 => ?_) (fun c_110 => ?_)
                      · refine r_iconst (z := 1) dX11_longest_123 ?_
                        refine r_imul dX11_longest_124 ?_
                        refine r_istore (L2 := [_, _, _, _, _, _, none, none, none]) dX11_longest_125 (nlt rfl) rfl ?_
                        refine r_iinc (L2 := [_, _, _, _, _, _, none, none, none]) dX11_longest_127 (nlt rfl) rfl rfl ?_
                        refine r_goto 76 dX11_longest_130 (by decide) ?_
                        exact ih76 (uA (ms1) (36 + i).toNat (0)) (all * 1) (i + 1) ((j + 1)) (by omega) (by omega) (by omega) (fun t ht => by rw [e105, uA_n (by omega)]; exact hms1 t ht) (fun t ht => by rw [e105]; by_cases z : t = j; (rw [z, uA_e]; unfold sto; rw [if_neg (by omega)]); rw [uA_n (by omega)]; exact hms2 t (by omega)) (by rw [hall, show max 1 (min (j + 1) k) = max 1 (min j k) by omega, Int.mul_one])
                      · refine r_iload dX11_longest_113 rfl ?_
                        refine r_iload_n dX11_longest_115 rfl rfl ?_
                        refine r_icmp_ge 123 dX11_longest_116 (by decide) ⟨by omega, by omega⟩ ⟨by omega, by omega⟩ (fun c_116 => ?_) (fun c_116 => ?_)
                        · refine r_iconst (z := 1) dX11_longest_123 ?_
                          refine r_imul dX11_longest_124 ?_
                          refine r_istore (L2 := [_, _, _, _, _, _, none, none, none]) dX11_longest_125 (nlt rfl) rfl ?_
                          refine r_iinc (L2 := [_, _, _, _, _, _, none, none, none]) dX11_longest_127 (nlt rfl) rfl rfl ?_
                          refine r_goto 76 dX11_longest_130 (by decide) ?_
                          exact ih76 (uA (ms1) (36 + i).toNat (0)) (all * 1) (i + 1) ((j + 1)) (by omega) (by omega) (by omega) (fun t ht => by rw [e105, uA_n (by omega)]; exact hms1 t ht) (fun t ht => by rw [e105]; by_cases z : t = j; (rw [z, uA_e]; unfold sto; rw [if_neg (by omega)]); rw [uA_n (by omega)]; exact hms2 t (by omega)) (by rw [hall, show max 1 (min (j + 1) k) = max 1 (min j k) by omega, Int.mul_one])
                        · refine r_iload_n dX11_longest_119 rfl rfl ?_
                          refine r_goto 124 dX11_longest_120 (by decide) ?_
                          refine r_imul dX11_longest_124 ?_
                          refine r_istore (L2 := [_, _, _, _, _, _, none, none, none]) dX11_longest_125 (nlt rfl) rfl ?_
                          refine r_iinc (L2 := [_, _, _, _, _, _, none, none, none]) dX11_longest_127 (nlt rfl) rfl rfl ?_
                          refine r_goto 76 dX11_longest_130 (by decide) ?_
                          exact ih76 (uA (ms1) (36 + i).toNat (0)) (all * pp) (i + 1) ((j + 1)) (by omega) (by omega) (by omega) (fun t ht => by rw [e105, uA_n (by omega)]; exact hms1 t ht) (fun t ht => by rw [e105]; by_cases z : t = j; (rw [z, uA_e]; unfold sto; rw [if_neg (by omega)]); rw [uA_n (by omega)]; exact hms2 t (by omega)) (by rw [hall, show max 1 (min (j + 1) k) = max 1 (min j k) + 1 by omega, Nat.pow_succ, Int.natCast_mul]; congr 1; omega)
                    · refine r_lconst (z := 1) dX11_longest_100 (by decide) ?_
                      refine r_goto 105 dX11_longest_101 (by decide) ?_
                      refine r_lastore dX11_longest_105 (by omega) hs_e (by omega) (by omega) (by decide) ?_
                      refine g_heap (h2 := (hs (hs h (125) (aI 7 (uA (om) (6 : Int).toNat (o)))) (127) (aL 42 (uA (ms1) (36 + i).toNat (1))))) hs_hs ?_
                      refine r_iload dX11_longest_106 rfl ?_
                      refine r_iload dX11_longest_108 rfl ?_
                      refine r_if_le 123 dX11_longest_110 (by decide) ⟨by omega, by omega⟩ (fun c_110 => ?_) (fun c_110 => ?_)
                      · refine r_iconst (z := 1) dX11_longest_123 ?_
                        refine r_imul dX11_longest_124 ?_
                        refine r_istore (L2 := [_, _, _, _, _, _, none, none, none]) dX11_longest_125 (nlt rfl) rfl ?_
                        refine r_iinc (L2 := [_, _, _, _, _, _, none, none, none]) dX11_longest_127 (nlt rfl) rfl rfl ?_
                        refine r_goto 76 dX11_longest_130 (by decide) ?_
                        exact ih76 (uA (ms1) (36 + i).toNat (1)) (all * 1) (i + 1) ((j + 1)) (by omega) (by omega) (by omega) (fun t ht => by rw [e105, uA_n (by omega)]; exact hms1 t ht) (fun t ht => by rw [e105]; by_cases z : t = j; (rw [z, uA_e]; unfold sto; rw [if_pos (by omega)]); rw [uA_n (by omega)]; exact hms2 t (by omega)) (by rw [hall, show max 1 (min (j + 1) k) = max 1 (min j k) by omega, Int.mul_one])
                      · refine r_iload dX11_longest_113 rfl ?_
                        refine r_iload_n dX11_longest_115 rfl rfl ?_
                        refine r_icmp_ge 123 dX11_longest_116 (by decide) ⟨by omega, by omega⟩ ⟨by omega, by omega⟩ (fun c_116 => ?_) (fun c_116 => ?_)
                        · refine r_iconst (z := 1) dX11_longest_123 ?_
                          refine r_imul dX11_longest_124 ?_
                          refine r_istore (L2 := [_, _, _, _, _, _, none, none, none]) dX11_longest_125 (nlt rfl) rfl ?_
                          refine r_iinc (L2 := [_, _, _, _, _, _, none, none, none]) dX11_longest_127 (nlt rfl) rfl rfl ?_
                          refine r_goto 76 dX11_longest_130 (by decide) ?_
                          exact ih76 (uA (ms1) (36 + i).toNat (1)) (all * 1) (i + 1) ((j + 1)) (by omega) (by omega) (by omega) (fun t ht => by rw [e105, uA_n (by omega)]; exact hms1 t ht) (fun t ht => by rw [e105]; by_cases z : t = j; (rw [z, uA_e]; unfold sto; rw [if_pos (by omega)]); rw [uA_n (by omega)]; exact hms2 t (by omega)) (by rw [hall, show max 1 (min (j + 1) k) = max 1 (min j k) by omega, Int.mul_one])
                        · refine r_iload_n dX11_longest_119 rfl rfl ?_
                          refine r_goto 124 dX11_longest_120 (by decide) ?_
                          refine r_imul dX11_longest_124 ?_
                          refine r_istore (L2 := [_, _, _, _, _, _, none, none, none]) dX11_longest_125 (nlt rfl) rfl ?_
                          refine r_iinc (L2 := [_, _, _, _, _, _, none, none, none]) dX11_longest_127 (nlt rfl) rfl rfl ?_
                          refine r_goto 76 dX11_longest_130 (by decide) ?_
                          exact ih76 (uA (ms1) (36 + i).toNat (1)) (all * pp) (i + 1) ((j + 1)) (by omega) (by omega) (by omega) (fun t ht => by rw [e105, uA_n (by omega)]; exact hms1 t ht) (fun t ht => by rw [e105]; by_cases z : t = j; (rw [z, uA_e]; unfold sto; rw [if_pos (by omega)]); rw [uA_n (by omega)]; exact hms2 t (by omega)) (by rw [hall, show max 1 (min (j + 1) k) = max 1 (min j k) + 1 by omega, Nat.pow_succ, Int.natCast_mul]; congr 1; omega)
              refine g_heap (hs_id (c := aL 42 (ms)) ((hs_n (by omega)).trans hms)).symm ?_
              exact lp76 ((7 : Int) + 1).toNat (ms) (pp) (0) (0) (by omega) rfl (by decide) (fun t _ => rfl) (fun t ht => absurd ht (Nat.not_lt_zero t)) (by rw [show max 1 (min 0 k) = 1 by omega, Nat.pow_one]; omega)
            · refine r_bipush (z := -4) dX11_longest_59 (by decide) ?_
              refine r_ireturn hq dX11_longest_61 rfl rfl rfl ?_
              exact hQ _ h (Or.inr ⟨by omega, by omega, hpr, by omega, by omega, by omega, Or.inl ⟨by omega, rfl⟩⟩) hI (fun _ _ => rfl)
        · refine r_iconst (z := -1) dX11_longest_45 ?_
          refine r_ireturn hq dX11_longest_46 rfl rfl rfl ?_
          exact hQ _ h (Or.inl ⟨by intro y; have y9 := y.2.2.1.1; first | omega | (rcases hb27 with ⟨z, _⟩ | ⟨_, z⟩ <;> first | omega | exact z y.2.2.1), rfl⟩) hI (fun _ _ => rfl)
