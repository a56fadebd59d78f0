set_option maxHeartbeats 2000000 in
set_option maxRecDepth 20000 in
theorem c_X11_leastOf {N : Nat} {h : Hp} {Q : QP} {ln p at_ wr va em ta ro dg : Int} {vs l0 f0 : Nat → Int} {sz : Nat} (hm0 : h 124 = MOo ln p (sz : Int) at_ wr va em ta ro dg) (hN : 146 ≤ N) (hnv : h 129 = aI 40 vs) (h136 : h 136 = aL 1700 l0) (h137 : h 137 = aL 41 f0) (hs40 : sz ≤ 40) (hvb : ∀ i, i < sz → 0 ≤ vs i ∧ vs i < p) (hPr : Prm p) (hQ : ∀ (sp : Nat) (li2 fo2 : Nat → Int), LEAST p vs sz sp → LAWR p vs sz sp (fun t => fo2 (sp - t)) → (∀ u, u < sp → 0 ≤ fo2 u ∧ fo2 u < p) → Q (some (.int (iZ (sp : Int)))) N (hs (hs h 136 (aL 1700 li2)) 137 (aL 41 fo2))) : Runs mX11_leastOf [.ref (124)] N h Q := by
  refine run_start (own := RX11) rfl (by decide) (nle rfl) rfl (fun X hq hini => ?_)
  show G X RX11 cX11_leastOf mX11_leastOf.rm N 0 0 0 [some (.ref (124)), none] [] h
  refine r_iconst (z := 0) dX11_leastOf_0 ?_
  refine r_istore_n (L2 := [_, _]) dX11_leastOf_1 rfl (nlt rfl) rfl ?_
  have lp2 : ∀ (fu2 : Nat) (l1 : Nat → Int) (f1 : Nat → Int) (i : Int) (n : Nat), (42 - i) < (fu2 : Int) → (i = (n : Int)) → (n ≤ sz) → (∀ t, t < n → ¬ SOLb p vs sz t) → G X RX11 cX11_leastOf mX11_leastOf.rm N 0 0 2 [some (.ref (124)), some (.int (iZ (i)))] [] (hs (hs h (136) (aL 1700 (l1))) (137) (aL 41 (f1))) := by
    intro fu2
    induction fu2 with
    | zero => intro l1 f1 i n hm ei nl hno; exfalso; omega
    | succ fu2 ih2 =>
      intro l1 f1 i n hms2 ei nl hno
      refine r_aload_n dX11_leastOf_2 rfl rfl ?_
      refine r_iload_n dX11_leastOf_3 rfl rfl ?_
      refine r_callV (av := [.int (iZ (i))]) dX11_leastOf_4 lkX11_solve ml_X11_226 imX11_solve seX11_solve (by omega) (rfl : vwCl[11]? = _) ⟨_, ((hs_n (by omega)).trans ((hs_n (by omega)).trans hm0))⟩ ⟨Nat.le_of_ble_eq_true rfl, Nat.le_of_ble_eq_true rfl⟩ rfl rfl (nle rfl) ⟨Nat.le_of_ble_eq_true rfl, Nat.le_of_ble_eq_true rfl⟩ (c_X11_solve (vs := vs) (sz := sz) (sp := n) (spi := i) ((hs_n (by omega)).trans ((hs_n (by omega)).trans hm0)) hN ((hs_n (by omega)).trans ((hs_n (by omega)).trans hnv)) ((hs_n (by omega)).trans hs_e) hs_e hs40 hvb hPr ei (by omega) (fun b4 li4 fo4 hb4 => ?_))
      refine g_heap (h2 := (hs (hs h (136) (aL 1700 (li4))) (137) (aL 41 (fo4)))) ((congrArg (fun x9 => hs x9 (137) (aL 41 (fo4))) (hs_put (by omega) hs_hs)).trans hs_hs) ?_
      show G _ _ _ _ _ _ _ 7 _ _ _
      refine r_if_ne 16 dX11_leastOf_7 (by decide) (by rcases hb4 with ⟨y, _⟩ | ⟨y, _⟩ <;> exact ⟨by omega, by omega⟩) (fun c_7 => ?_) (fun c_7 => ?_)
      · obtain ⟨y1, y2, y3⟩ : SOLb p vs sz n ∧ LAWR p vs sz n (fun t => fo4 (n - t)) ∧ ∀ u, u < n → 0 ≤ fo4 u ∧ fo4 u < p := by
          rcases hb4 with ⟨y, _⟩ | ⟨_, y⟩
          · exact absurd y c_7
          · exact y
        refine r_iload_n dX11_leastOf_16 rfl rfl ?_
        refine r_ireturn hq dX11_leastOf_17 rfl rfl rfl ?_
        rw [ei]
        exact hQ n _ _ ⟨nl, hno, y1⟩ y2 y3
      · have hb9 : ¬ SOLb p vs sz n := by
          rcases hb4 with ⟨_, y⟩ | ⟨y, _⟩
          · exact y
          · omega
        refine r_iinc (L2 := [_, _]) dX11_leastOf_10 (nlt rfl) rfl rfl ?_
        refine r_goto 2 dX11_leastOf_13 (by decide) ?_
        exact ih2 (li4) (fo4) (i + 1) ((n + 1)) (by omega) (by omega) (by by_cases w : n = sz; (rw [w] at hb9; exact absurd SOLb_end hb9); omega) (fun t ht => by by_cases w : t = n; (rw [w]; exact hb9); exact hno t (by omega))
  refine g_heap (hs_id (c := aL 1700 (l0)) h136).symm ?_
  refine g_heap (hs_id (c := aL 41 (f0)) ((hs_n (by omega)).trans h137)).symm ?_
  exact lp2 ((42 : Int) + 1).toNat (l0) (f0) (0) (0) (by omega) rfl (Nat.zero_le _) (fun t ht => absurd ht (Nat.not_lt_zero t))
set_option maxHeartbeats 2000000 in
set_option maxRecDepth 20000 in
theorem c_X11_least {N : Nat} {h : Hp} {Q : QP} {tb : Nat → Int} {ln : Nat} {K : Nat → Nat} {C S : Nat → Nat → Int} {p : Int} {vs : Nat → Int} {sz : Nat} {i : Int} (hI : MDI h tb ln K C S p vs sz) (hN : 146 ≤ N) (hi : rI i) (hQ : ∀ (r : Int) (h2 : Hp), SPleast i p vs sz r → MDI h2 tb ln K C S p vs sz → OUTM h h2 → Q (some (.int (iZ r))) N h2) : Runs mX11_least [.ref (124), .int (iZ (i))] N h Q := by
  obtain ⟨at_, wr, va, em, ta, ro, dg, om, ml, ms, a130, a131, a132, a133, a134, a135, a136, a137, a138, a139, a140, a141, a142, a143, a144, a145, hm0, hom, hml, hms, hbt, hnv, h130, h131, h132, h133, h134, h135, h136, h137, h138, h139, h140, h141, h142, h143, h144, h145, hMR, hlN, hbb, hPr, hs40, hvb⟩ := id hI
  have hl0 : 0 ≤ (ln : Int) := by omega
  have hl : (ln : Int) ≤ 100 := by omega
  have hi1 := hi.1
  have hi2 := hi.2
  refine run_start (own := RX11) rfl (by decide) (nle rfl) rfl (fun X hq hini => ?_)
  show G X RX11 cX11_least mX11_least.rm N 0 0 0 [some (.ref (124)), some (.int (iZ (i))), none] [] h
  refine r_iload_n dX11_least_0 rfl rfl ?_
  refine r_if_ge 6 dX11_least_1 (by decide) hi (fun c_1 => ?_) (fun c_1 => ?_)
  · refine r_aload_n dX11_least_6 rfl rfl ?_
    refine r_callV (av := []) dX11_least_7 lkX11_leastOf ml_X11_229 imX11_leastOf seX11_leastOf (by omega) (rfl : vwCl[11]? = _) ⟨_, hm0⟩ ⟨Nat.le_of_ble_eq_true rfl, Nat.le_of_ble_eq_true rfl⟩ rfl rfl (nle rfl) ⟨Nat.le_of_ble_eq_true rfl, Nat.le_of_ble_eq_true rfl⟩ (c_X11_leastOf (vs := vs) (sz := sz) hm0 hN hnv h136 h137 hs40 hvb hPr (fun sp li7 fo7 hLE hLW hlb => ?_))
    show G _ _ _ _ _ _ _ 10 _ _ _
    have hsp : sp ≤ sz := hLE.1
    have hp97 := hPr.2.1
    refine r_istore_n (L2 := [_, _, _]) dX11_least_10 rfl (nlt rfl) rfl ?_
    refine r_iload_n dX11_least_11 rfl rfl ?_
    refine r_if_ne 19 dX11_least_12 (by decide) ⟨by omega, by omega⟩ (fun c_12 => ?_) (fun c_12 => ?_)
    · refine r_iload_n dX11_least_19 rfl rfl ?_
      refine r_iload_n dX11_least_20 rfl rfl ?_
      refine r_icmp_le 29 dX11_least_21 (by decide) ⟨by omega, by omega⟩ ⟨by omega, by omega⟩ (fun c_21 => ?_) (fun c_21 => ?_)
      · have hlb9 := hlb ((sp : Int) - i).toNat (by omega)
        refine r_aload_n dX11_least_29 rfl rfl ?_
        refine gf_X11_51 dX11_least_30 (by omega) ((hs_n (by omega)).trans ((hs_n (by omega)).trans hm0)) rfl ?_
        refine r_iload_n dX11_least_33 rfl rfl ?_
        refine r_iload_n dX11_least_34 rfl rfl ?_
        refine r_isub dX11_least_35 ?_
        refine r_laload dX11_least_36 (by omega) hs_e (by omega) (by omega) (by decide) ?_
        refine r_l2i dX11_least_37 ?_
        refine r_ireturn hq dX11_least_38 rfl rfl rfl ?_
        refine hQ _ _ (Or.inr ⟨by omega, sp, _, hLE, hLW, Or.inr (Or.inr ⟨by omega, by omega, by show _ = fo7 (sp - i.toNat); congr 1; omega⟩)⟩) ⟨_, _, _, _, _, _, _, _, _, _, _, _, _, _, _, _, _, _, _, _, _, _, _, _, _, _, ((hs_n (by omega)).trans ((hs_n (by omega)).trans hm0)), ((hs_n (by omega)).trans ((hs_n (by omega)).trans hom)), ((hs_n (by omega)).trans ((hs_n (by omega)).trans hml)), ((hs_n (by omega)).trans ((hs_n (by omega)).trans hms)), ((hs_n (by omega)).trans ((hs_n (by omega)).trans hbt)), ((hs_n (by omega)).trans ((hs_n (by omega)).trans hnv)), ((hs_n (by omega)).trans ((hs_n (by omega)).trans h130)), ((hs_n (by omega)).trans ((hs_n (by omega)).trans h131)), ((hs_n (by omega)).trans ((hs_n (by omega)).trans h132)), ((hs_n (by omega)).trans ((hs_n (by omega)).trans h133)), ((hs_n (by omega)).trans ((hs_n (by omega)).trans h134)), ((hs_n (by omega)).trans ((hs_n (by omega)).trans h135)), ((hs_n (by omega)).trans hs_e), hs_e, ((hs_n (by omega)).trans ((hs_n (by omega)).trans h138)), ((hs_n (by omega)).trans ((hs_n (by omega)).trans h139)), ((hs_n (by omega)).trans ((hs_n (by omega)).trans h140)), ((hs_n (by omega)).trans ((hs_n (by omega)).trans h141)), ((hs_n (by omega)).trans ((hs_n (by omega)).trans h142)), ((hs_n (by omega)).trans ((hs_n (by omega)).trans h143)), ((hs_n (by omega)).trans ((hs_n (by omega)).trans h144)), ((hs_n (by omega)).trans ((hs_n (by omega)).trans h145)), hMR, hlN, hbb, hPr, hs40, hvb⟩ (fun a9 h9 => ((hs_n (by omega)).trans ((hs_n (by omega)).trans rfl)))
      · refine r_bipush (z := -4) dX11_least_24 (by decide) ?_
        refine r_goto 38 dX11_least_26 (by decide) ?_
        refine r_ireturn hq dX11_least_38 rfl rfl rfl ?_
        refine hQ _ _ (Or.inr ⟨by omega, sp, _, hLE, hLW, Or.inl ⟨by omega, rfl⟩⟩) ⟨_, _, _, _, _, _, _, _, _, _, _, _, _, _, _, _, _, _, _, _, _, _, _, _, _, _, ((hs_n (by omega)).trans ((hs_n (by omega)).trans hm0)), ((hs_n (by omega)).trans ((hs_n (by omega)).trans hom)), ((hs_n (by omega)).trans ((hs_n (by omega)).trans hml)), ((hs_n (by omega)).trans ((hs_n (by omega)).trans hms)), ((hs_n (by omega)).trans ((hs_n (by omega)).trans hbt)), ((hs_n (by omega)).trans ((hs_n (by omega)).trans hnv)), ((hs_n (by omega)).trans ((hs_n (by omega)).trans h130)), ((hs_n (by omega)).trans ((hs_n (by omega)).trans h131)), ((hs_n (by omega)).trans ((hs_n (by omega)).trans h132)), ((hs_n (by omega)).trans ((hs_n (by omega)).trans h133)), ((hs_n (by omega)).trans ((hs_n (by omega)).trans h134)), ((hs_n (by omega)).trans ((hs_n (by omega)).trans h135)), ((hs_n (by omega)).trans hs_e), hs_e, ((hs_n (by omega)).trans ((hs_n (by omega)).trans h138)), ((hs_n (by omega)).trans ((hs_n (by omega)).trans h139)), ((hs_n (by omega)).trans ((hs_n (by omega)).trans h140)), ((hs_n (by omega)).trans ((hs_n (by omega)).trans h141)), ((hs_n (by omega)).trans ((hs_n (by omega)).trans h142)), ((hs_n (by omega)).trans ((hs_n (by omega)).trans h143)), ((hs_n (by omega)).trans ((hs_n (by omega)).trans h144)), ((hs_n (by omega)).trans ((hs_n (by omega)).trans h145)), hMR, hlN, hbb, hPr, hs40, hvb⟩ (fun a9 h9 => ((hs_n (by omega)).trans ((hs_n (by omega)).trans rfl)))
    · refine r_iload_n dX11_least_15 rfl rfl ?_
      refine r_goto 38 dX11_least_16 (by decide) ?_
      refine r_ireturn hq dX11_least_38 rfl rfl rfl ?_
      refine hQ _ _ (Or.inr ⟨by omega, sp, _, hLE, hLW, Or.inr (Or.inl ⟨by omega, rfl⟩)⟩) ⟨_, _, _, _, _, _, _, _, _, _, _, _, _, _, _, _, _, _, _, _, _, _, _, _, _, _, ((hs_n (by omega)).trans ((hs_n (by omega)).trans hm0)), ((hs_n (by omega)).trans ((hs_n (by omega)).trans hom)), ((hs_n (by omega)).trans ((hs_n (by omega)).trans hml)), ((hs_n (by omega)).trans ((hs_n (by omega)).trans hms)), ((hs_n (by omega)).trans ((hs_n (by omega)).trans hbt)), ((hs_n (by omega)).trans ((hs_n (by omega)).trans hnv)), ((hs_n (by omega)).trans ((hs_n (by omega)).trans h130)), ((hs_n (by omega)).trans ((hs_n (by omega)).trans h131)), ((hs_n (by omega)).trans ((hs_n (by omega)).trans h132)), ((hs_n (by omega)).trans ((hs_n (by omega)).trans h133)), ((hs_n (by omega)).trans ((hs_n (by omega)).trans h134)), ((hs_n (by omega)).trans ((hs_n (by omega)).trans h135)), ((hs_n (by omega)).trans hs_e), hs_e, ((hs_n (by omega)).trans ((hs_n (by omega)).trans h138)), ((hs_n (by omega)).trans ((hs_n (by omega)).trans h139)), ((hs_n (by omega)).trans ((hs_n (by omega)).trans h140)), ((hs_n (by omega)).trans ((hs_n (by omega)).trans h141)), ((hs_n (by omega)).trans ((hs_n (by omega)).trans h142)), ((hs_n (by omega)).trans ((hs_n (by omega)).trans h143)), ((hs_n (by omega)).trans ((hs_n (by omega)).trans h144)), ((hs_n (by omega)).trans ((hs_n (by omega)).trans h145)), hMR, hlN, hbb, hPr, hs40, hvb⟩ (fun a9 h9 => ((hs_n (by omega)).trans ((hs_n (by omega)).trans rfl)))
  · refine r_iconst (z := -1) dX11_least_4 ?_
    refine r_ireturn hq dX11_least_5 rfl rfl rfl ?_
    exact hQ _ h (Or.inl ⟨by omega, rfl⟩) hI (fun _ _ => rfl)
set_option maxHeartbeats 4000000 in
set_option maxRecDepth 20000 in
theorem c_X11_next {N : Nat} {h : Hp} {Q : QP} {tb : Nat → Int} {ln : Nat} {K : Nat → Nat} {C S : Nat → Nat → Int} {p : Int} {vs : Nat → Int} {sz : Nat} (hI : MDI h tb ln K C S p vs sz) (hN : 146 ≤ N) (hQ : ∀ (r : Int) (h2 : Hp), SPnext p vs sz r → MDI h2 tb ln K C S p vs sz → OUTM h h2 → Q (some (.int (iZ r))) N h2) : Runs mX11_next [.ref (124)] N h Q := by
  obtain ⟨at_, wr, va, em, ta, ro, dg, om, ml, ms, a130, a131, a132, a133, a134, a135, a136, a137, a138, a139, a140, a141, a142, a143, a144, a145, hm0, hom, hml, hms, hbt, hnv, h130, h131, h132, h133, h134, h135, h136, h137, h138, h139, h140, h141, h142, h143, h144, h145, hMR, hlN, hbb, hPr, hs40, hvb⟩ := id hI
  have hl0 : 0 ≤ (ln : Int) := by omega
  have hl : (ln : Int) ≤ 100 := by omega
  refine run_start (own := RX11) rfl (by decide) (nle rfl) rfl (fun X hq hini => ?_)
  show G X RX11 cX11_next mX11_next.rm N 0 0 0 [some (.ref (124)), none, none, none, none] [] h
  refine r_aload_n dX11_next_0 rfl rfl ?_
  refine gf_X11_221 dX11_next_1 (by omega) hm0 rfl ?_
  refine r_if_ne 10 dX11_next_4 (by decide) ⟨by omega, by omega⟩ (fun c_4 => ?_) (fun c_4 => ?_)
  · refine r_aload_n dX11_next_10 rfl rfl ?_
    refine r_callV (av := []) dX11_next_11 lkX11_leastOf ml_X11_229 imX11_leastOf seX11_leastOf (by omega) (rfl : vwCl[11]? = _) ⟨_, hm0⟩ ⟨Nat.le_of_ble_eq_true rfl, Nat.le_of_ble_eq_true rfl⟩ rfl rfl (nle rfl) ⟨Nat.le_of_ble_eq_true rfl, Nat.le_of_ble_eq_true rfl⟩ (c_X11_leastOf (vs := vs) (sz := sz) hm0 hN hnv h136 h137 hs40 hvb hPr (fun sp li11 fo11 hLE hLW hlb => ?_))
    show G _ _ _ _ _ _ _ 14 _ _ _
    have hsp : sp ≤ sz := hLE.1
    have hp97 := hPr.2.1
    have hp2 := hPr.1
    refine r_istore_n (L2 := [_, _, none, none, none]) dX11_next_14 rfl (nlt rfl) rfl ?_
    refine r_lconst (z := 0) dX11_next_15 (by decide) ?_
    refine r_lstore_n (L2 := [_, _, _, none, none]) dX11_next_16 rfl (nlt rfl) rfl ?_
    refine r_iconst (z := 1) dX11_next_17 ?_
    refine r_istore (L2 := [_, _, _, none, _]) dX11_next_18 (nlt rfl) rfl ?_
    have lp20 : ∀ (fu20 : Nat) (a : Int) (i : Int) (n : Nat), (42 - i) < (fu20 : Int) → (i = (n : Int) + 1) → (n ≤ sp) → (a = sm (fun t => fo11 (sp - (t + 1)) * vs (sz - 1 - t)) n) → (0 ≤ a) → (a ≤ 9409 * (n : Int)) → G X RX11 cX11_next mX11_next.rm N 0 0 20 [some (.ref (124)), some (.int (iZ ((sp : Int)))), some (.long (lZ (a))), none, some (.int (iZ (i)))] [] (hs (hs h (136) (aL 1700 (li11))) (137) (aL 41 (fo11))) := by
      intro fu20
      induction fu20 with
      | zero => intro a i n hm ei nl ea a0 am; exfalso; omega
      | succ fu20 ih20 =>
        intro a i n hms20 ei nl ea a0 am
        refine r_iload dX11_next_20 rfl ?_
        refine r_iload_n dX11_next_22 rfl rfl ?_
        refine r_icmp_gt 58 dX11_next_23 (by decide) ⟨by omega, by omega⟩ ⟨by omega, by omega⟩ (fun c_23 => ?_) (fun c_23 => ?_)
        · have hsn : n = sp := by omega
          rw [hsn] at ea
          refine r_lload_n dX11_next_58 rfl rfl ?_
          refine r_aload_n dX11_next_59 rfl rfl ?_
          refine gf_X11_23 dX11_next_60 (by omega) ((hs_n (by omega)).trans ((hs_n (by omega)).trans hm0)) rfl ?_
          refine r_i2l dX11_next_63 ⟨by omega, by omega⟩ ?_
          refine r_lremp dX11_next_64 ⟨by omega, by omega⟩ ⟨by omega, by omega⟩ (by omega) (by omega) ?_
          have eb_64 := emod_bd (a) (show 0 < p by omega)
          refine r_l2i dX11_next_65 ?_
          refine r_ireturn hq dX11_next_66 rfl rfl rfl ?_
          refine hQ _ _ (Or.inr ⟨by omega, sp, _, hLE, hLW, by rw [ea]⟩) ⟨_, _, _, _, _, _, _, _, _, _, _, _, _, _, _, _, _, _, _, _, _, _, _, _, _, _, ((hs_n (by omega)).trans ((hs_n (by omega)).trans hm0)), ((hs_n (by omega)).trans ((hs_n (by omega)).trans hom)), ((hs_n (by omega)).trans ((hs_n (by omega)).trans hml)), ((hs_n (by omega)).trans ((hs_n (by omega)).trans hms)), ((hs_n (by omega)).trans ((hs_n (by omega)).trans hbt)), ((hs_n (by omega)).trans ((hs_n (by omega)).trans hnv)), ((hs_n (by omega)).trans ((hs_n (by omega)).trans h130)), ((hs_n (by omega)).trans ((hs_n (by omega)).trans h131)), ((hs_n (by omega)).trans ((hs_n (by omega)).trans h132)), ((hs_n (by omega)).trans ((hs_n (by omega)).trans h133)), ((hs_n (by omega)).trans ((hs_n (by omega)).trans h134)), ((hs_n (by omega)).trans ((hs_n (by omega)).trans h135)), ((hs_n (by omega)).trans hs_e), hs_e, ((hs_n (by omega)).trans ((hs_n (by omega)).trans h138)), ((hs_n (by omega)).trans ((hs_n (by omega)).trans h139)), ((hs_n (by omega)).trans ((hs_n (by omega)).trans h140)), ((hs_n (by omega)).trans ((hs_n (by omega)).trans h141)), ((hs_n (by omega)).trans ((hs_n (by omega)).trans h142)), ((hs_n (by omega)).trans ((hs_n (by omega)).trans h143)), ((hs_n (by omega)).trans ((hs_n (by omega)).trans h144)), ((hs_n (by omega)).trans ((hs_n (by omega)).trans h145)), hMR, hlN, hbb, hPr, hs40, hvb⟩ (fun a9 h9 => ((hs_n (by omega)).trans ((hs_n (by omega)).trans rfl)))
        · have b35 := hlb ((sp : Int) - i).toNat (by omega)
          have b47 := hvb ((sz : Int) - i).toNat (by omega)
          have e35 : fo11 ((sp : Int) - i).toNat = fo11 (sp - (n + 1)) := by congr 1; omega
          have e47 : vs ((sz : Int) - i).toNat = vs (sz - 1 - n) := by congr 1; omega
          have m49 := mulb (A := 97) (B := 97) (a := fo11 ((sp : Int) - i).toNat) (b := vs ((sz : Int) - i).toNat) (C := 9409) (by omega) (by omega) (by omega) (by omega) (by decide)
          have m48 := Int.mul_nonneg b35.1 b47.1
          refine r_lload_n dX11_next_26 rfl rfl ?_
          refine r_aload_n dX11_next_27 rfl rfl ?_
          refine gf_X11_51 dX11_next_28 (by omega) ((hs_n (by omega)).trans ((hs_n (by omega)).trans hm0)) rfl ?_
          refine r_iload_n dX11_next_31 rfl rfl ?_
          refine r_iload dX11_next_32 rfl ?_
          refine r_isub dX11_next_34 ?_
          refine r_laload dX11_next_35 (by omega) hs_e (by omega) (by omega) (by decide) ?_
          refine r_aload_n dX11_next_36 rfl rfl ?_
          refine gf_X11_27 dX11_next_37 (by omega) ((hs_n (by omega)).trans ((hs_n (by omega)).trans hm0)) rfl ?_
          refine r_aload_n dX11_next_40 rfl rfl ?_
          refine gf_X11_221 dX11_next_41 (by omega) ((hs_n (by omega)).trans ((hs_n (by omega)).trans hm0)) rfl ?_
          refine r_iload dX11_next_44 rfl ?_
          refine r_isub dX11_next_46 ?_
          refine r_iaload dX11_next_47 (by omega) ((hs_n (by omega)).trans ((hs_n (by omega)).trans hnv)) (by omega) (by omega) (by decide) ?_
          refine r_i2l dX11_next_48 ⟨by omega, by omega⟩ ?_
          refine r_lmul dX11_next_49 ?_
          refine r_ladd dX11_next_50 ?_
          refine r_lstore_n (L2 := [_, _, _, none, _]) dX11_next_51 rfl (nlt rfl) rfl ?_
          refine r_iinc (L2 := [_, _, _, none, _]) dX11_next_52 (nlt rfl) rfl rfl ?_
          refine r_goto 20 dX11_next_55 (by decide) ?_
          exact ih20 (a + ((fo11 ((sp : Int) - i).toNat) * (vs ((sz : Int) - i).toNat))) (i + 1) ((n + 1)) (by omega) (by omega) (by omega) (by rw [sm_s, ← e35, ← e47, ← ea]) (by omega) (by omega)
    exact lp20 ((42 : Int) + 1).toNat (0) (1) (0) (by omega) (by omega) (Nat.zero_le _) rfl (by omega) (by omega)
  · refine r_bipush (z := -4) dX11_next_7 (by decide) ?_
    refine r_ireturn hq dX11_next_9 rfl rfl rfl ?_
    exact hQ _ h (Or.inl ⟨by omega, rfl⟩) hI (fun _ _ => rfl)
