set_option maxHeartbeats 2000000 in
set_option maxRecDepth 20000 in
theorem c_X11_isPart {N : Nat} {h : Hp} {Q : QP} {a w : Int} (ha : -100000000000000000 ≤ a ∧ a ≤ 100000000000000000) (hw : -100000000000000000 ≤ w ∧ w ≤ 100000000000000000) (hQ : ∀ b : Int, (b = 1 ∧ Part a w ∨ b = 0 ∧ ¬ Part a w) → Q (some (.int (iZ b))) N h) : Runs mX11_isPart [.long (lZ (a)), .long (lZ (w))] N h Q := by
  refine run_start (own := RX11) rfl (by decide) (nle rfl) rfl (fun X hq hini => ?_)
  show G X RX11 cX11_isPart mX11_isPart.rm N 0 0 0 [some (.long (lZ (a))), none, some (.long (lZ (w))), none] [] h
  refine r_lload_n dX11_isPart_0 rfl rfl ?_
  refine r_lconst (z := 0) dX11_isPart_1 (by decide) ?_
  refine r_lcmp_ne 20 dX11_isPart_2 dX11_isPart_3 (by decide) ⟨by omega, by omega⟩ ⟨by decide, by decide⟩ (fun c_2 => ?_) (fun c_2 => ?_)
  · refine r_lload_n dX11_isPart_20 rfl rfl ?_
    refine r_lload_n dX11_isPart_21 rfl rfl ?_
    have tz := tmod_zero (a := a) (b := w)
    refine r_lrem dX11_isPart_22 ⟨by omega, by omega⟩ ⟨by omega, by omega⟩ (by omega) (by omega) ?_
    refine r_lconst (z := 0) dX11_isPart_23 (by decide) ?_
    have tz := tmod_zero (a := a) (b := w)
    have tb : -100000000000000000 ≤ w.tmod a ∧ w.tmod a ≤ 100000000000000000 := by
      have h1 := Int.natAbs_tmod w a
      have h2 := Nat.mod_le w.natAbs a.natAbs
      omega
    refine r_lcmp_ne 32 dX11_isPart_24 dX11_isPart_25 (by decide) ⟨by omega, by omega⟩ ⟨by decide, by decide⟩ (fun c_24 => ?_) (fun c_24 => ?_)
    · refine r_iconst (z := 0) dX11_isPart_32 ?_
      refine r_zreturn hq dX11_isPart_33 rfl (by decide) rfl rfl ?_
      exact hQ _ (Or.inr ⟨rfl, fun q => by have := q.1; have := q.2; omega⟩)
    · refine r_iconst (z := 1) dX11_isPart_28 ?_
      refine r_goto 33 dX11_isPart_29 (by decide) ?_
      refine r_zreturn hq dX11_isPart_33 rfl (by decide) rfl rfl ?_
      exact hQ _ (Or.inl ⟨rfl, fun _ => by omega, fun _ => by omega⟩)
  · refine r_lload_n dX11_isPart_6 rfl rfl ?_
    refine r_lconst (z := 0) dX11_isPart_7 (by decide) ?_
    refine r_lcmp_ne 16 dX11_isPart_8 dX11_isPart_9 (by decide) ⟨by omega, by omega⟩ ⟨by decide, by decide⟩ (fun c_8 => ?_) (fun c_8 => ?_)
    · refine r_iconst (z := 0) dX11_isPart_16 ?_
      refine r_goto 33 dX11_isPart_17 (by decide) ?_
      refine r_zreturn hq dX11_isPart_33 rfl (by decide) rfl rfl ?_
      exact hQ _ (Or.inr ⟨rfl, fun q => by have := q.1; have := q.2; omega⟩)
    · refine r_iconst (z := 1) dX11_isPart_12 ?_
      refine r_goto 33 dX11_isPart_13 (by decide) ?_
      refine r_zreturn hq dX11_isPart_33 rfl (by decide) rfl rfl ?_
      exact hQ _ (Or.inl ⟨rfl, fun _ => by omega, fun _ => by omega⟩)
set_option maxHeartbeats 2000000 in
set_option maxRecDepth 20000 in
theorem c_X11_common {N : Nat} {h : Hp} {Q : QP} {a b : Int} (ha : 0 ≤ a ∧ a ≤ 40) (hb : 0 ≤ b ∧ b ≤ 40) (hQ : Q (some (.int (iZ ((Int.gcd a b : Nat) : Int)))) N h) : Runs mX11_common [.int (iZ (a)), .int (iZ (b))] N h Q := by
  refine run_start (own := RX11) rfl (by decide) (nle rfl) rfl (fun X hq hini => ?_)
  show G X RX11 cX11_common mX11_common.rm N 0 0 0 [some (.int (iZ (a))), some (.int (iZ (b)))] [] h
  refine r_iload_n dX11_common_0 rfl rfl ?_
  refine r_i2l dX11_common_1 ⟨by omega, by omega⟩ ?_
  refine r_iload_n dX11_common_2 rfl rfl ?_
  refine r_i2l dX11_common_3 ⟨by omega, by omega⟩ ?_
  refine r_callS (av := [.long (lZ (a)), .long (lZ (b))]) dX11_common_4 lkX11_shared ml_X11_196 stX11_shared ⟨Nat.le_of_ble_eq_true rfl, Nat.le_of_ble_eq_true rfl⟩ rfl rfl (nle rfl) ⟨Nat.le_of_ble_eq_true rfl, Nat.le_of_ble_eq_true rfl⟩ (c_X11_shared (x := a) (y := b) (by omega) (by omega) ?_)
  show G _ _ _ _ _ _ _ 7 _ _ _
  refine r_l2i dX11_common_7 ?_
  refine r_ireturn hq dX11_common_8 rfl rfl rfl ?_
  exact hQ
set_option maxHeartbeats 4000000 in
set_option maxRecDepth 20000 in
theorem c_X11_dividing {N : Nat} {h : Hp} {Q : QP} {tb : Nat → Int} {ln : Nat} {K : Nat → Nat} {C S : Nat → Nat → Int} {p : Int} {vs : Nat → Int} {sz : Nat} {i b n : Int} (hI : MDI h tb ln K C S p vs sz) (hN : 146 ≤ N) (hi : rI i) (hb : b = 0 ∨ b = 1) (hn : rI n) (hQ : ∀ (r : Int) (h2 : Hp), SPdiv i b n K C S r → MDI h2 tb ln K C S p vs sz → OUTM h h2 → Q (some (.int (iZ r))) N h2) : Runs mX11_dividing [.ref (124), .int (iZ (i)), .int (iZ (b)), .int (iZ (n))] N h Q := by
  obtain ⟨at_, wr, va, em, ta, ro, dg, om, ml, ms, a130, a131, a132, a133, a134, a135, a136, a137, a138, a139, a140, a141, a142, a143, a144, a145, hm0, hom, hml, hms, hbt, hnv, h130, h131, h132, h133, h134, h135, h136, h137, h138, h139, h140, h141, h142, h143, h144, h145, hMR, hlN, hbb, hPr, hs40, hvb⟩ := id hI
  have hl0 : 0 ≤ (ln : Int) := by omega
  have hl : (ln : Int) ≤ 100 := by omega
  have hn1 := hn.1
  have hn2 := hn.2
  refine run_start (own := RX11) rfl (by decide) (nle rfl) rfl (fun X hq hini => ?_)
  show G X RX11 cX11_dividing mX11_dividing.rm N 0 0 0 [some (.ref (124)), some (.int (iZ (i))), some (.int (iZ (b))), some (.int (iZ (n))), none, none, none] [] h
  refine r_iload_n dX11_dividing_0 rfl rfl ?_
  refine r_callS (av := [.int (iZ (i))]) dX11_dividing_1 lkX11_isReg ml_X11_127 stX11_isReg ⟨Nat.le_of_ble_eq_true rfl, Nat.le_of_ble_eq_true rfl⟩ rfl rfl (nle rfl) ⟨Nat.le_of_ble_eq_true rfl, Nat.le_of_ble_eq_true rfl⟩ (c_X11_isReg (x := i) hi (fun b1 hb1 => ?_))
  show G _ _ _ _ _ _ _ 4 _ _ _
  refine r_if_eq 21 dX11_dividing_4 (by decide) (by rcases hb1 with ⟨y, _⟩ | ⟨y, _⟩ <;> exact ⟨by omega, by omega⟩) (fun c_4 => ?_) (fun c_4 => ?_)
  · refine r_iconst (z := -1) dX11_dividing_21 ?_
    refine r_ireturn hq dX11_dividing_22 rfl rfl rfl ?_
    exact hQ _ h (Or.inl ⟨by omega, rfl⟩) hI (fun _ _ => rfl)
  · refine r_iload_n dX11_dividing_7 rfl rfl ?_
    refine r_i2l dX11_dividing_8 ⟨by omega, by omega⟩ ?_
    refine r_ldc2 (z := 2) dX11_dividing_9 kc_X11_134 ?_
    refine r_ldc2 (z := 40) dX11_dividing_12 kc_X11_284 ?_
    refine r_callS (av := [.long (lZ (n)), .long (lZ (2)), .long (lZ (40))]) dX11_dividing_15 lkX11_in ml_X11_80 stX11_in ⟨Nat.le_of_ble_eq_true rfl, Nat.le_of_ble_eq_true rfl⟩ rfl rfl (nle rfl) ⟨Nat.le_of_ble_eq_true rfl, Nat.le_of_ble_eq_true rfl⟩ (c_X11_in (x := n) (l := 2) (m := 40) ⟨by omega, by omega⟩ ⟨by decide, by decide⟩ ⟨by decide, by decide⟩ (fun b15 hb15 => ?_))
    show G _ _ _ _ _ _ _ 18 _ _ _
    refine r_if_ne 23 dX11_dividing_18 (by decide) (by rcases hb15 with ⟨y, _⟩ | ⟨y, _⟩ <;> exact ⟨by omega, by omega⟩) (fun c_18 => ?_) (fun c_18 => ?_)
    · refine r_aload_n dX11_dividing_23 rfl rfl ?_
      refine r_iload_n dX11_dividing_24 rfl rfl ?_
      refine r_iload_n dX11_dividing_25 rfl rfl ?_
      refine r_callV (av := [.int (iZ (i)), .int (iZ (n))]) dX11_dividing_26 lkX11_layExact ml_X11_150 imX11_layExact seX11_layExact (by omega) (rfl : vwCl[11]? = _) ⟨_, hm0⟩ ⟨Nat.le_of_ble_eq_true rfl, Nat.le_of_ble_eq_true rfl⟩ rfl rfl (nle rfl) ⟨Nat.le_of_ble_eq_true rfl, Nat.le_of_ble_eq_true rfl⟩ (c_X11_layExact (r := i.toNat) (k := K i.toNat) (c := C i.toNat) (s := S i.toNat) (last := n.toNat) (om := om) (ml := ml) (ms := ms) (ex0 := a130) (ln := (ln : Int)) (pr := p) (nm := (sz : Int)) (at_ := at_) (wr := wr) (va := va) (em := em) (ta := ta) (ro := ro) (dg := dg) hm0 hN hom hml hms h130 (hMR i.toNat (by omega)).1 (by omega) (by omega) (by omega) (by omega) (fun t26 X26 hT26 hX26 => ?_))
      show G _ _ _ _ _ _ _ 29 _ _ _
      refine r_iload_n dX11_dividing_29 rfl rfl ?_
      refine r_icmp_gt 36 dX11_dividing_30 (by decide) (by have := hT26.1; exact ⟨by omega, by omega⟩) ⟨by omega, by omega⟩ (fun c_30 => ?_) (fun c_30 => ?_)
      · refine r_iconst (z := 2) dX11_dividing_36 ?_
        refine r_istore (L2 := [_, _, _, _, _, none, none]) dX11_dividing_37 (nlt rfl) rfl ?_
        have lp39 : ∀ (fu39 : Nat) (j : Int) (jn : Nat), (43 - j) < (fu39 : Int) → (j = (jn : Int)) → (2 ≤ jn) → (j ≤ n + 1) → (∀ j3 i3 : Nat, 2 ≤ j3 → j3 < jn → 1 ≤ i3 → i3 < j3 → DVok b (ex (K i.toNat) (C i.toNat) (S i.toNat)) i3 j3) → G X RX11 cX11_dividing mX11_dividing.rm N 0 0 39 [some (.ref (124)), some (.int (iZ (i))), some (.int (iZ (b))), some (.int (iZ (n))), some (.int (iZ (j))), none, none] [] (hs (hs h (124) (MOo ((ln : Int)) (p) ((sz : Int)) (at_) (wr) (va) ((t26 : Int)) (ta) (ro) (dg))) (130) (aL 2001 (X26))) := by
          intro fu39
          induction fu39 with
          | zero => intro j jn hm ejn j2 jl hj3; exfalso; omega
          | succ fu39 ih39 =>
            intro j jn hms39 ejn j2 jl hj3
            refine r_iload dX11_dividing_39 rfl ?_
            refine r_iload_n dX11_dividing_41 rfl rfl ?_
            refine r_icmp_gt 164 dX11_dividing_42 (by decide) ⟨by omega, by omega⟩ ⟨by omega, by omega⟩ (fun c_42 => ?_) (fun c_42 => ?_)
            · refine r_bipush (z := -4) dX11_dividing_164 (by decide) ?_
              refine r_ireturn hq dX11_dividing_166 rfl rfl rfl ?_
              refine hQ _ _ (Or.inr ⟨by omega, by omega, by omega, by omega, t26, hT26, Or.inr ⟨by omega, Or.inr ⟨fun j3 i3 a b c d => hj3 j3 i3 a (by omega) c d, rfl⟩⟩⟩) ⟨_, _, _, _, _, _, _, _, _, _, _, _, _, _, _, _, _, _, _, _, _, _, _, _, _, _, ((hs_n (by omega)).trans hs_e), ((hs_n (by omega)).trans ((hs_n (by omega)).trans hom)), ((hs_n (by omega)).trans ((hs_n (by omega)).trans hml)), ((hs_n (by omega)).trans ((hs_n (by omega)).trans hms)), ((hs_n (by omega)).trans ((hs_n (by omega)).trans hbt)), ((hs_n (by omega)).trans ((hs_n (by omega)).trans hnv)), hs_e, ((hs_n (by omega)).trans ((hs_n (by omega)).trans h131)), ((hs_n (by omega)).trans ((hs_n (by omega)).trans h132)), ((hs_n (by omega)).trans ((hs_n (by omega)).trans h133)), ((hs_n (by omega)).trans ((hs_n (by omega)).trans h134)), ((hs_n (by omega)).trans ((hs_n (by omega)).trans h135)), ((hs_n (by omega)).trans ((hs_n (by omega)).trans h136)), ((hs_n (by omega)).trans ((hs_n (by omega)).trans h137)), ((hs_n (by omega)).trans ((hs_n (by omega)).trans h138)), ((hs_n (by omega)).trans ((hs_n (by omega)).trans h139)), ((hs_n (by omega)).trans ((hs_n (by omega)).trans h140)), ((hs_n (by omega)).trans ((hs_n (by omega)).trans h141)), ((hs_n (by omega)).trans ((hs_n (by omega)).trans h142)), ((hs_n (by omega)).trans ((hs_n (by omega)).trans h143)), ((hs_n (by omega)).trans ((hs_n (by omega)).trans h144)), ((hs_n (by omega)).trans ((hs_n (by omega)).trans h145)), hMR, hlN, hbb, hPr, hs40, hvb⟩ (fun a9 h9 => ((hs_n (by omega)).trans ((hs_n (by omega)).trans rfl)))
            · refine r_iconst (z := 1) dX11_dividing_45 ?_
              refine r_istore (L2 := [_, _, _, _, _, _, none]) dX11_dividing_46 (nlt rfl) rfl ?_
              have lp48 : ∀ (fu48 : Nat) (x : Int) (u : Nat), (43 - x) < (fu48 : Int) → (x = (u : Int)) → (1 ≤ u) → (u ≤ jn) → (∀ i3 : Nat, 1 ≤ i3 → i3 < u → DVok b (ex (K i.toNat) (C i.toNat) (S i.toNat)) i3 jn) → G X RX11 cX11_dividing mX11_dividing.rm N 0 0 48 [some (.ref (124)), some (.int (iZ (i))), some (.int (iZ (b))), some (.int (iZ (n))), some (.int (iZ (j))), some (.int (iZ (x))), none] [] (hs (hs h (124) (MOo ((ln : Int)) (p) ((sz : Int)) (at_) (wr) (va) ((t26 : Int)) (ta) (ro) (dg))) (130) (aL 2001 (X26))) := by
                intro fu48
                induction fu48 with
                | zero => intro x u hm exu u1 ul hi3; exfalso; omega
                | succ fu48 ih48 =>
                  intro x u hms48 exu u1 ul hi3
                  refine r_iload dX11_dividing_48 rfl ?_
                  refine r_iload dX11_dividing_50 rfl ?_
                  refine r_icmp_ge 158 dX11_dividing_52 (by decide) ⟨by omega, by omega⟩ ⟨by omega, by omega⟩ (fun c_52 => ?_) (fun c_52 => ?_)
                  · refine r_iinc (L2 := [_, _, _, _, _, _, none]) dX11_dividing_158 (nlt rfl) rfl rfl ?_
                    refine r_goto 39 dX11_dividing_161 (by decide) ?_
                    refine r_mask [true, true, true, true, true, false, false] (L2 := [_, _, _, _, _, none, none]) rfl ?_
                    exact ih39 (j + 1) ((jn + 1)) (by omega) (by omega) (by omega) (by omega) (fun j3 i3 a b c d => by by_cases z : j3 = jn; (subst z; exact hi3 i3 c (by omega)); exact hj3 j3 i3 a (by omega) c d)
                  · have exu2 : x.toNat = u := by omega
                    have ejn2 : j.toNat = jn := by omega
                    have ea : X26 x.toNat = (ex (K i.toNat) (C i.toNat) (S i.toNat)) u := by rw [exu2]; exact hX26 u (by omega)
                    have eb : X26 j.toNat = (ex (K i.toNat) (C i.toNat) (S i.toNat)) jn := by rw [ejn2]; exact hX26 jn (by omega)
                    have f1 := hT26.2.1 u (by omega)
                    have f2 := hT26.2.1 jn (by omega)
                    rw [← ea] at f1
                    rw [← eb] at f2
                    have f11 := f1.1
                    have f12 := f1.2
                    have f21 := f2.1
                    have f22 := f2.2
                    have emd : j % x = ((jn % u : Nat) : Int) := by rw [ejn, exu]; rfl
                    refine r_iload_n dX11_dividing_55 rfl rfl ?_
                    refine r_if_eq 103 dX11_dividing_56 (by decide) ⟨by omega, by omega⟩ (fun c_56 => ?_) (fun c_56 => ?_)
                    · refine r_iload dX11_dividing_103 rfl ?_
                      refine r_iload dX11_dividing_105 rfl ?_
                      refine r_iremp dX11_dividing_107 ⟨by omega, by omega⟩ ⟨by omega, by omega⟩ (by omega) (by omega) ?_
                      have eb_107 := emod_bd (j) (show 0 < x by omega)
                      refine r_if_ne 131 dX11_dividing_108 (by decide) ⟨by omega, by omega⟩ (fun c_108 => ?_) (fun c_108 => ?_)
                      · refine r_iconst (z := 1) dX11_dividing_131 ?_
                        refine r_goto 136 dX11_dividing_132 (by decide) ?_
                        refine r_istore (L2 := [_, _, _, _, _, _, _]) dX11_dividing_136 (nlt rfl) rfl ?_
                        have hdv : DVok b (ex (K i.toNat) (C i.toNat) (S i.toNat)) u jn := ⟨fun w => by omega, fun _ w => by omega⟩
                        refine r_iload dX11_dividing_138 rfl ?_
                        refine r_if_ne 152 dX11_dividing_140 (by decide) ⟨by decide, by decide⟩ (fun c_140 => ?_) (fun c_140 => by exfalso; omega)
                        refine r_iinc (L2 := [_, _, _, _, _, _, _]) dX11_dividing_152 (nlt rfl) rfl rfl ?_
                        refine r_goto 48 dX11_dividing_155 (by decide) ?_
                        refine r_mask [true, true, true, true, true, true, false] (L2 := [_, _, _, _, _, _, none]) rfl ?_
                        exact ih48 (x + 1) ((u + 1)) (by omega) (by omega) (by omega) (by omega) (fun i3 a b => by by_cases z : i3 = u; (rw [z]; exact hdv); exact hi3 i3 a (by omega))
                      · refine r_aload_n dX11_dividing_111 rfl rfl ?_
                        refine gf_X11_30 dX11_dividing_112 (by omega) ((hs_n (by omega)).trans hs_e) rfl ?_
                        refine r_iload dX11_dividing_115 rfl ?_
                        refine r_laload dX11_dividing_117 (by omega) hs_e (by omega) (by omega) (by decide) ?_
                        refine r_aload_n dX11_dividing_118 rfl rfl ?_
                        refine gf_X11_30 dX11_dividing_119 (by omega) ((hs_n (by omega)).trans hs_e) rfl ?_
                        refine r_iload dX11_dividing_122 rfl ?_
                        refine r_laload dX11_dividing_124 (by omega) hs_e (by omega) (by omega) (by decide) ?_
                        refine r_callS (av := [.long (lZ (X26 (x).toNat)), .long (lZ (X26 (j).toNat))]) dX11_dividing_125 lkX11_isPart ml_X11_289 stX11_isPart ⟨Nat.le_of_ble_eq_true rfl, Nat.le_of_ble_eq_true rfl⟩ rfl rfl (nle rfl) ⟨Nat.le_of_ble_eq_true rfl, Nat.le_of_ble_eq_true rfl⟩ (c_X11_isPart (a := X26 (x).toNat) (w := X26 (j).toNat) (by omega) (by omega) (fun b125 hb125 => ?_))
                        show G _ _ _ _ _ _ _ 128 _ _ _
                        refine r_if_eq 135 dX11_dividing_128 (by decide) (by rcases hb125 with ⟨y, _⟩ | ⟨y, _⟩ <;> exact ⟨by omega, by omega⟩) (fun c_128 => ?_) (fun c_128 => ?_)
                        · refine r_iconst (z := 0) dX11_dividing_135 ?_
                          refine r_istore (L2 := [_, _, _, _, _, _, _]) dX11_dividing_136 (nlt rfl) rfl ?_
                          have hdn : ¬ DVok b (ex (K i.toNat) (C i.toNat) (S i.toNat)) u jn := fun w => by
                            have w2 := w.2 (by omega) (by omega)
                            rw [← ea, ← eb] at w2
                            rcases hb125 with ⟨y, _⟩ | ⟨_, y⟩
                            · omega
                            · exact y w2
                          refine r_iload dX11_dividing_138 rfl ?_
                          refine r_if_ne 152 dX11_dividing_140 (by decide) ⟨by decide, by decide⟩ (fun c_140 => by exfalso; omega) (fun c_140 => ?_)
                          refine r_bipush (z := 100) dX11_dividing_143 (by decide) ?_
                          refine r_iload dX11_dividing_145 rfl ?_
                          refine r_imul dX11_dividing_147 ?_
                          refine r_iload dX11_dividing_148 rfl ?_
                          refine r_iadd dX11_dividing_150 ?_
                          refine r_ireturn hq dX11_dividing_151 rfl rfl rfl ?_
                          refine hQ _ _ (Or.inr ⟨by omega, by omega, by omega, by omega, t26, hT26, Or.inr ⟨by omega, Or.inl ⟨jn, u, by omega, by omega, by omega, by omega, hdn, fun j3 i3 a b c d => by
                            rcases d with d | ⟨d1, d2⟩
                            · exact hj3 j3 i3 a d b c
                            · rw [d1]; exact hi3 i3 b d2, by omega⟩⟩⟩) ⟨_, _, _, _, _, _, _, _, _, _, _, _, _, _, _, _, _, _, _, _, _, _, _, _, _, _, ((hs_n (by omega)).trans hs_e), ((hs_n (by omega)).trans ((hs_n (by omega)).trans hom)), ((hs_n (by omega)).trans ((hs_n (by omega)).trans hml)), ((hs_n (by omega)).trans ((hs_n (by omega)).trans hms)), ((hs_n (by omega)).trans ((hs_n (by omega)).trans hbt)), ((hs_n (by omega)).trans ((hs_n (by omega)).trans hnv)), hs_e, ((hs_n (by omega)).trans ((hs_n (by omega)).trans h131)), ((hs_n (by omega)).trans ((hs_n (by omega)).trans h132)), ((hs_n (by omega)).trans ((hs_n (by omega)).trans h133)), ((hs_n (by omega)).trans ((hs_n (by omega)).trans h134)), ((hs_n (by omega)).trans ((hs_n (by omega)).trans h135)), ((hs_n (by omega)).trans ((hs_n (by omega)).trans h136)), ((hs_n (by omega)).trans ((hs_n (by omega)).trans h137)), ((hs_n (by omega)).trans ((hs_n (by omega)).trans h138)), ((hs_n (by omega)).trans ((hs_n (by omega)).trans h139)), ((hs_n (by omega)).trans ((hs_n (by omega)).trans h140)), ((hs_n (by omega)).trans ((hs_n (by omega)).trans h141)), ((hs_n (by omega)).trans ((hs_n (by omega)).trans h142)), ((hs_n (by omega)).trans ((hs_n (by omega)).trans h143)), ((hs_n (by omega)).trans ((hs_n (by omega)).trans h144)), ((hs_n (by omega)).trans ((hs_n (by omega)).trans h145)), hMR, hlN, hbb, hPr, hs40, hvb⟩ (fun a9 h9 => ((hs_n (by omega)).trans ((hs_n (by omega)).trans rfl)))
                        · refine r_iconst (z := 1) dX11_dividing_131 ?_
                          refine r_goto 136 dX11_dividing_132 (by decide) ?_
                          refine r_istore (L2 := [_, _, _, _, _, _, _]) dX11_dividing_136 (nlt rfl) rfl ?_
                          have hdv : DVok b (ex (K i.toNat) (C i.toNat) (S i.toNat)) u jn := ⟨fun w => by omega, fun _ _ => by
                            rw [← ea, ← eb]
                            rcases hb125 with ⟨_, y⟩ | ⟨y, _⟩
                            · exact y
                            · exact absurd y c_128⟩
                          refine r_iload dX11_dividing_138 rfl ?_
                          refine r_if_ne 152 dX11_dividing_140 (by decide) ⟨by decide, by decide⟩ (fun c_140 => ?_) (fun c_140 => by exfalso; omega)
                          refine r_iinc (L2 := [_, _, _, _, _, _, _]) dX11_dividing_152 (nlt rfl) rfl rfl ?_
                          refine r_goto 48 dX11_dividing_155 (by decide) ?_
                          refine r_mask [true, true, true, true, true, true, false] (L2 := [_, _, _, _, _, _, none]) rfl ?_
                          exact ih48 (x + 1) ((u + 1)) (by omega) (by omega) (by omega) (by omega) (fun i3 a b => by by_cases z : i3 = u; (rw [z]; exact hdv); exact hi3 i3 a (by omega))
                    · have egn : Int.gcd x j = Nat.gcd u jn := by rw [ejn, exu]; rfl
                      have gle : Nat.gcd u jn ≤ jn := Nat.gcd_le_right u (by omega)
                      have egn2 : (((Int.gcd (x) (j) : Nat) : Int)).toNat = Nat.gcd u jn := by rw [egn]; rfl
                      have eg : X26 (((Int.gcd (x) (j) : Nat) : Int)).toNat = (ex (K i.toNat) (C i.toNat) (S i.toNat)) (Nat.gcd u jn) := by rw [egn2]; exact hX26 _ (by omega)
                      have f3 := hT26.2.1 (Nat.gcd u jn) (by omega)
                      rw [← eg] at f3
                      have f31 := f3.1
                      have f32 := f3.2
                      have g73 : ((Int.gcd (X26 x.toNat) (X26 j.toNat) : Nat) : Int) ≤ 100000000000000000 := by
                        by_cases z : X26 x.toNat = 0
                        · rw [z, Int.gcd_zero_left]; omega
                        · have := Int.le_of_dvd (a := ((Int.gcd (X26 x.toNat) (X26 j.toNat) : Nat) : Int)) (b := ((X26 x.toNat).natAbs : Int)) (by omega) (by rw [Int.dvd_natAbs]; exact Int.gcd_dvd_left (X26 x.toNat) (X26 j.toNat))
                          omega
                      refine r_aload_n dX11_dividing_59 rfl rfl ?_
                      refine gf_X11_30 dX11_dividing_60 (by omega) ((hs_n (by omega)).trans hs_e) rfl ?_
                      refine r_iload dX11_dividing_63 rfl ?_
                      refine r_laload dX11_dividing_65 (by omega) hs_e (by omega) (by omega) (by decide) ?_
                      refine r_aload_n dX11_dividing_66 rfl rfl ?_
                      refine gf_X11_30 dX11_dividing_67 (by omega) ((hs_n (by omega)).trans hs_e) rfl ?_
                      refine r_iload dX11_dividing_70 rfl ?_
                      refine r_laload dX11_dividing_72 (by omega) hs_e (by omega) (by omega) (by decide) ?_
                      refine r_callS (av := [.long (lZ (X26 (x).toNat)), .long (lZ (X26 (j).toNat))]) dX11_dividing_73 lkX11_shared ml_X11_196 stX11_shared ⟨Nat.le_of_ble_eq_true rfl, Nat.le_of_ble_eq_true rfl⟩ rfl rfl (nle rfl) ⟨Nat.le_of_ble_eq_true rfl, Nat.le_of_ble_eq_true rfl⟩ (c_X11_shared (x := X26 (x).toNat) (y := X26 (j).toNat) (by omega) (by omega) ?_)
                      show G _ _ _ _ _ _ _ 76 _ _ _
                      refine r_aload_n dX11_dividing_76 rfl rfl ?_
                      refine gf_X11_30 dX11_dividing_77 (by omega) ((hs_n (by omega)).trans hs_e) rfl ?_
                      refine r_iload dX11_dividing_80 rfl ?_
                      refine r_iload dX11_dividing_82 rfl ?_
                      refine r_callS (av := [.int (iZ (x)), .int (iZ (j))]) dX11_dividing_84 lkX11_common ml_X11_286 stX11_common ⟨Nat.le_of_ble_eq_true rfl, Nat.le_of_ble_eq_true rfl⟩ rfl rfl (nle rfl) ⟨Nat.le_of_ble_eq_true rfl, Nat.le_of_ble_eq_true rfl⟩ (c_X11_common (a := x) (b := j) (by omega) (by omega) ?_)
                      show G _ _ _ _ _ _ _ 87 _ _ _
                      refine r_laload dX11_dividing_87 (by omega) hs_e (by omega) (by omega) (by decide) ?_
                      refine r_callS (av := [.long (lZ (X26 (((Int.gcd (x) (j) : Nat) : Int)).toNat))]) dX11_dividing_88 lkX11_size ml_X11_84 stX11_size ⟨Nat.le_of_ble_eq_true rfl, Nat.le_of_ble_eq_true rfl⟩ rfl rfl (nle rfl) ⟨Nat.le_of_ble_eq_true rfl, Nat.le_of_ble_eq_true rfl⟩ (c_X11_size (x := X26 (((Int.gcd (x) (j) : Nat) : Int)).toNat) (by omega) ?_)
                      show G _ _ _ _ _ _ _ 91 _ _ _
                      refine r_lcmp_ne 99 dX11_dividing_91 dX11_dividing_92 (by decide) ⟨by omega, by omega⟩ ⟨by omega, by omega⟩ (fun c_91 => ?_) (fun c_91 => ?_)
                      · refine r_iconst (z := 0) dX11_dividing_99 ?_
                        refine r_goto 136 dX11_dividing_100 (by decide) ?_
                        refine r_istore (L2 := [_, _, _, _, _, _, _]) dX11_dividing_136 (nlt rfl) rfl ?_
                        have hdn : ¬ DVok b (ex (K i.toNat) (C i.toNat) (S i.toNat)) u jn := fun w => by have w2 := w.1 (by omega); rw [← ea, ← eb, ← eg] at w2; have e9 := c_91; omega
                        refine r_iload dX11_dividing_138 rfl ?_
                        refine r_if_ne 152 dX11_dividing_140 (by decide) ⟨by decide, by decide⟩ (fun c_140 => by exfalso; omega) (fun c_140 => ?_)
                        refine r_bipush (z := 100) dX11_dividing_143 (by decide) ?_
                        refine r_iload dX11_dividing_145 rfl ?_
                        refine r_imul dX11_dividing_147 ?_
                        refine r_iload dX11_dividing_148 rfl ?_
                        refine r_iadd dX11_dividing_150 ?_
                        refine r_ireturn hq dX11_dividing_151 rfl rfl rfl ?_
                        refine hQ _ _ (Or.inr ⟨by omega, by omega, by omega, by omega, t26, hT26, Or.inr ⟨by omega, Or.inl ⟨jn, u, by omega, by omega, by omega, by omega, hdn, fun j3 i3 a b c d => by
                          rcases d with d | ⟨d1, d2⟩
                          · exact hj3 j3 i3 a d b c
                          · rw [d1]; exact hi3 i3 b d2, by omega⟩⟩⟩) ⟨_, _, _, _, _, _, _, _, _, _, _, _, _, _, _, _, _, _, _, _, _, _, _, _, _, _, ((hs_n (by omega)).trans hs_e), ((hs_n (by omega)).trans ((hs_n (by omega)).trans hom)), ((hs_n (by omega)).trans ((hs_n (by omega)).trans hml)), ((hs_n (by omega)).trans ((hs_n (by omega)).trans hms)), ((hs_n (by omega)).trans ((hs_n (by omega)).trans hbt)), ((hs_n (by omega)).trans ((hs_n (by omega)).trans hnv)), hs_e, ((hs_n (by omega)).trans ((hs_n (by omega)).trans h131)), ((hs_n (by omega)).trans ((hs_n (by omega)).trans h132)), ((hs_n (by omega)).trans ((hs_n (by omega)).trans h133)), ((hs_n (by omega)).trans ((hs_n (by omega)).trans h134)), ((hs_n (by omega)).trans ((hs_n (by omega)).trans h135)), ((hs_n (by omega)).trans ((hs_n (by omega)).trans h136)), ((hs_n (by omega)).trans ((hs_n (by omega)).trans h137)), ((hs_n (by omega)).trans ((hs_n (by omega)).trans h138)), ((hs_n (by omega)).trans ((hs_n (by omega)).trans h139)), ((hs_n (by omega)).trans ((hs_n (by omega)).trans h140)), ((hs_n (by omega)).trans ((hs_n (by omega)).trans h141)), ((hs_n (by omega)).trans ((hs_n (by omega)).trans h142)), ((hs_n (by omega)).trans ((hs_n (by omega)).trans h143)), ((hs_n (by omega)).trans ((hs_n (by omega)).trans h144)), ((hs_n (by omega)).trans ((hs_n (by omega)).trans h145)), hMR, hlN, hbb, hPr, hs40, hvb⟩ (fun a9 h9 => ((hs_n (by omega)).trans ((hs_n (by omega)).trans rfl)))
                      · refine r_iconst (z := 1) dX11_dividing_95 ?_
                        refine r_goto 136 dX11_dividing_96 (by decide) ?_
                        refine r_istore (L2 := [_, _, _, _, _, _, _]) dX11_dividing_136 (nlt rfl) rfl ?_
                        have hdv : DVok b (ex (K i.toNat) (C i.toNat) (S i.toNat)) u jn := ⟨fun _ => by rw [← ea, ← eb, ← eg]; have e9 := c_91; simp only [exu2, ejn2, egn] at *; omega, fun w => by omega⟩
                        refine r_iload dX11_dividing_138 rfl ?_
                        refine r_if_ne 152 dX11_dividing_140 (by decide) ⟨by decide, by decide⟩ (fun c_140 => ?_) (fun c_140 => by exfalso; omega)
                        refine r_iinc (L2 := [_, _, _, _, _, _, _]) dX11_dividing_152 (nlt rfl) rfl rfl ?_
                        refine r_goto 48 dX11_dividing_155 (by decide) ?_
                        refine r_mask [true, true, true, true, true, true, false] (L2 := [_, _, _, _, _, _, none]) rfl ?_
                        exact ih48 (x + 1) ((u + 1)) (by omega) (by omega) (by omega) (by omega) (fun i3 a b => by by_cases z : i3 = u; (rw [z]; exact hdv); exact hi3 i3 a (by omega))
              exact lp48 ((43 : Int) + 1).toNat (1) (1) (by omega) rfl (by decide) (by omega) (fun i3 a b => by omega)
        exact lp39 ((43 : Int) + 1).toNat (2) (2) (by omega) rfl (by decide) (by omega) (fun j3 i3 a b => by omega)
      · refine r_bipush (z := -5) dX11_dividing_33 (by decide) ?_
        refine r_ireturn hq dX11_dividing_35 rfl rfl rfl ?_
        refine hQ _ _ (Or.inr ⟨by omega, by omega, by omega, by omega, t26, hT26, Or.inl ⟨by omega, rfl⟩⟩) ⟨_, _, _, _, _, _, _, _, _, _, _, _, _, _, _, _, _, _, _, _, _, _, _, _, _, _, ((hs_n (by omega)).trans hs_e), ((hs_n (by omega)).trans ((hs_n (by omega)).trans hom)), ((hs_n (by omega)).trans ((hs_n (by omega)).trans hml)), ((hs_n (by omega)).trans ((hs_n (by omega)).trans hms)), ((hs_n (by omega)).trans ((hs_n (by omega)).trans hbt)), ((hs_n (by omega)).trans ((hs_n (by omega)).trans hnv)), hs_e, ((hs_n (by omega)).trans ((hs_n (by omega)).trans h131)), ((hs_n (by omega)).trans ((hs_n (by omega)).trans h132)), ((hs_n (by omega)).trans ((hs_n (by omega)).trans h133)), ((hs_n (by omega)).trans ((hs_n (by omega)).trans h134)), ((hs_n (by omega)).trans ((hs_n (by omega)).trans h135)), ((hs_n (by omega)).trans ((hs_n (by omega)).trans h136)), ((hs_n (by omega)).trans ((hs_n (by omega)).trans h137)), ((hs_n (by omega)).trans ((hs_n (by omega)).trans h138)), ((hs_n (by omega)).trans ((hs_n (by omega)).trans h139)), ((hs_n (by omega)).trans ((hs_n (by omega)).trans h140)), ((hs_n (by omega)).trans ((hs_n (by omega)).trans h141)), ((hs_n (by omega)).trans ((hs_n (by omega)).trans h142)), ((hs_n (by omega)).trans ((hs_n (by omega)).trans h143)), ((hs_n (by omega)).trans ((hs_n (by omega)).trans h144)), ((hs_n (by omega)).trans ((hs_n (by omega)).trans h145)), hMR, hlN, hbb, hPr, hs40, hvb⟩ (fun a9 h9 => ((hs_n (by omega)).trans ((hs_n (by omega)).trans rfl)))
    · refine r_iconst (z := -1) dX11_dividing_21 ?_
      refine r_ireturn hq dX11_dividing_22 rfl rfl rfl ?_
      exact hQ _ h (Or.inl ⟨by omega, rfl⟩) hI (fun _ _ => rfl)
set_option maxHeartbeats 2000000 in
set_option maxRecDepth 20000 in
theorem c_X11_isRoot {N : Nat} {h : Hp} {Q : QP} {ln pr nm at_ wr va em ta ro dg : Int} {om ml ms : Nat → Int} {c s : Nat → Int} {r k : Nat} {ri x p : Int} (hm0 : h 124 = MOo ln pr nm at_ wr va em ta ro dg) (hN : 146 ≤ N) (hom : h 125 = aI 7 om) (hml : h 126 = aL 42 ml) (hms : h 127 = aL 42 ms) (hg : RG om ml ms r k c s) (hri : ri = (r : Int)) (hr6 : r < 7) (hx0 : 0 ≤ x) (hxp : x < p) (hp2 : 2 ≤ p) (hp97 : p ≤ 97) (hQ : ∀ b : Int, (b = 1 ∧ hv c x p k = 0 ∨ b = 0 ∧ hv c x p k ≠ 0) → Q (some (.int (iZ b))) N h) : Runs mX11_isRoot [.ref (124), .int (iZ (ri)), .int (iZ (p)), .int (iZ (x))] N h Q := by
  obtain ⟨hg1, hg2, hg3, hg4, hg5⟩ := id hg
  have ern : ri.toNat = r := by omega
  have eom : om ri.toNat = (k : Int) := by rw [ern]; exact hg1
  refine run_start (own := RX11) rfl (by decide) (nle rfl) rfl (fun X hq hini => ?_)
  show G X RX11 cX11_isRoot mX11_isRoot.rm N 0 0 0 [some (.ref (124)), some (.int (iZ (ri))), some (.int (iZ (p))), some (.int (iZ (x))), none, none, none] [] h
  refine r_lconst (z := 1) dX11_isRoot_0 (by decide) ?_
  refine r_lstore (L2 := [_, _, _, _, _, none, none]) dX11_isRoot_1 (nlt rfl) rfl ?_
  refine r_iconst (z := 1) dX11_isRoot_3 ?_
  refine r_istore (L2 := [_, _, _, _, _, none, _]) dX11_isRoot_4 (nlt rfl) rfl ?_
  have lp6 : ∀ (fu6 : Nat) (v : Int) (i : Int) (j : Nat), ((k : Int) + 1 - i) < (fu6 : Int) → (i = (j : Int) + 1) → (j ≤ k) → (v = hv c x p j) → G X RX11 cX11_isRoot mX11_isRoot.rm N 0 0 6 [some (.ref (124)), some (.int (iZ (ri))), some (.int (iZ (p))), some (.int (iZ (x))), some (.long (lZ (v))), none, some (.int (iZ (i)))] [] h := by
    intro fu6
    induction fu6 with
    | zero => intro v i j hm ei jk ev; exfalso; omega
    | succ fu6 ih6 =>
      intro v i j hms6 ei jk ev
      have vb := hv_in (c := c) (x := x) hp2 j
      rw [← ev] at vb
      refine r_iload dX11_isRoot_6 rfl ?_
      refine r_aload_n dX11_isRoot_8 rfl rfl ?_
      refine gf_X11_7 dX11_isRoot_9 (by omega) hm0 rfl ?_
      refine r_iload_n dX11_isRoot_12 rfl rfl ?_
      refine r_iaload dX11_isRoot_13 (by omega) hom (by omega) (by omega) (by decide) ?_
      refine r_icmp_gt 50 dX11_isRoot_14 (by decide) ⟨by omega, by omega⟩ ⟨by omega, by omega⟩ (fun c_14 => ?_) (fun c_14 => ?_)
      · have ejk : j = k := by omega
        rw [ejk] at ev
        refine r_lload dX11_isRoot_50 rfl ?_
        refine r_lconst (z := 0) dX11_isRoot_52 (by decide) ?_
        refine r_lcmp_ne 61 dX11_isRoot_53 dX11_isRoot_54 (by decide) ⟨by omega, by omega⟩ ⟨by decide, by decide⟩ (fun c_53 => ?_) (fun c_53 => ?_)
        · refine r_iconst (z := 0) dX11_isRoot_61 ?_
          refine r_zreturn hq dX11_isRoot_62 rfl (by decide) rfl rfl ?_
          exact hQ _ (Or.inr ⟨rfl, by omega⟩)
        · refine r_iconst (z := 1) dX11_isRoot_57 ?_
          refine r_goto 62 dX11_isRoot_58 (by decide) ?_
          refine r_zreturn hq dX11_isRoot_62 rfl (by decide) rfl rfl ?_
          exact hQ _ (Or.inl ⟨rfl, by omega⟩)
      · have m21 := mulb (A := 97) (B := 97) (a := v) (b := x) (C := 9409) (by omega) (by omega) (by omega) (by omega) (by decide)
        have e35 : ml (((6 * ri) + i) - 1).toNat = c (j + 1) := by rw [show (((6 * ri) + i) - 1).toNat = 6 * r + (j + 1) - 1 by omega]; exact (hg4 (j + 1) (by omega) (by omega)).1
        have cb := (hg4 (j + 1) (by omega) (by omega)).2
        rw [← e35] at cb
        refine r_lload dX11_isRoot_17 rfl ?_
        refine r_iload_n dX11_isRoot_19 rfl rfl ?_
        refine r_i2l dX11_isRoot_20 ⟨by omega, by omega⟩ ?_
        refine r_lmul dX11_isRoot_21 ?_
        refine r_aload_n dX11_isRoot_22 rfl rfl ?_
        refine gf_X11_13 dX11_isRoot_23 (by omega) hm0 rfl ?_
        refine r_bipush (z := 6) dX11_isRoot_26 (by decide) ?_
        refine r_iload_n dX11_isRoot_28 rfl rfl ?_
        refine r_imul dX11_isRoot_29 ?_
        refine r_iload dX11_isRoot_30 rfl ?_
        refine r_iadd dX11_isRoot_32 ?_
        refine r_iconst (z := 1) dX11_isRoot_33 ?_
        refine r_isub dX11_isRoot_34 ?_
        refine r_laload dX11_isRoot_35 (by omega) hml (by omega) (by omega) (by decide) ?_
        refine r_lsub dX11_isRoot_36 ?_
        refine r_iload_n dX11_isRoot_37 rfl rfl ?_
        refine r_i2l dX11_isRoot_38 ⟨by omega, by omega⟩ ?_
        refine r_callS (av := [.long (lZ ((v * x) - (ml (((6 * ri) + i) - 1).toNat))), .long (lZ (p))]) dX11_isRoot_39 lkX11_modulo ml_X11_156 stX11_modulo ⟨Nat.le_of_ble_eq_true rfl, Nat.le_of_ble_eq_true rfl⟩ rfl rfl (nle rfl) ⟨Nat.le_of_ble_eq_true rfl, Nat.le_of_ble_eq_true rfl⟩ (c_X11_modulo (x := (v * x) - (ml (((6 * ri) + i) - 1).toNat)) (m := p) (by omega) (by omega) ?_)
        have em_39 := emod_bd ((v * x) - (ml (((6 * ri) + i) - 1).toNat)) (show 0 < p by omega)
        show G _ _ _ _ _ _ _ 42 _ _ _
        refine r_lstore (L2 := [_, _, _, _, _, none, _]) dX11_isRoot_42 (nlt rfl) rfl ?_
        refine r_iinc (L2 := [_, _, _, _, _, none, _]) dX11_isRoot_44 (nlt rfl) rfl rfl ?_
        refine r_goto 6 dX11_isRoot_47 (by decide) ?_
        exact ih6 (((v * x) - (ml (((6 * ri) + i) - 1).toNat)) % p) (i + 1) ((j + 1)) (by omega) (by omega) (by omega) (by rw [e35, ev]; rfl)
  exact lp6 (((k : Int) + 1 : Int) + 1).toNat (1) (1) (0) (by omega) rfl (by omega) rfl
set_option maxHeartbeats 2000000 in
set_option maxRecDepth 20000 in
theorem c_X11_roots {N : Nat} {h : Hp} {Q : QP} {tb : Nat → Int} {ln : Nat} {K : Nat → Nat} {C S : Nat → Nat → Int} {p pp : Int} {vs : Nat → Int} {sz : Nat} {i w : Int} (hI : MDI h tb ln K C S p vs sz) (hN : 146 ≤ N) (hi : rI i) (hp : rI pp) (hw : rI w) (hQ : ∀ (r : Int) (h2 : Hp), SProots i pp w K C r → MDI h2 tb ln K C S p vs sz → OUTM h h2 → Q (some (.int (iZ r))) N h2) : Runs mX11_roots [.ref (124), .int (iZ (i)), .int (iZ (pp)), .int (iZ (w))] N h Q := by
  obtain ⟨at_, wr, va, em, ta, ro, dg, om, ml, ms, a130, a131, a132, a133, a134, a135, a136, a137, a138, a139, a140, a141, a142, a143, a144, a145, hm0, hom, hml, hms, hbt, hnv, h130, h131, h132, h133, h134, h135, h136, h137, h138, h139, h140, h141, h142, h143, h144, h145, hMR, hlN, hbb, hPr, hs40, hvb⟩ := id hI
  have hl0 : 0 ≤ (ln : Int) := by omega
  have hl : (ln : Int) ≤ 100 := by omega
  refine run_start (own := RX11) rfl (by decide) (nle rfl) rfl (fun X hq hini => ?_)
  show G X RX11 cX11_roots mX11_roots.rm N 0 0 0 [some (.ref (124)), some (.int (iZ (i))), some (.int (iZ (pp))), some (.int (iZ (w))), none, none] [] h
  refine r_iload_n dX11_roots_0 rfl rfl ?_
  refine r_callS (av := [.int (iZ (i))]) dX11_roots_1 lkX11_isReg ml_X11_127 stX11_isReg ⟨Nat.le_of_ble_eq_true rfl, Nat.le_of_ble_eq_true rfl⟩ rfl rfl (nle rfl) ⟨Nat.le_of_ble_eq_true rfl, Nat.le_of_ble_eq_true rfl⟩ (c_X11_isReg (x := i) hi (fun b1 hb1 => ?_))
  show G _ _ _ _ _ _ _ 4 _ _ _
  refine r_if_eq 19 dX11_roots_4 (by decide) (by rcases hb1 with ⟨y, _⟩ | ⟨y, _⟩ <;> exact ⟨by omega, by omega⟩) (fun c_4 => ?_) (fun c_4 => ?_)
  · refine r_iconst (z := -1) dX11_roots_19 ?_
    refine r_ireturn hq dX11_roots_20 rfl rfl rfl ?_
    exact hQ _ h (Or.inl ⟨by intro y; first | omega | (rcases hb8 with ⟨z, _⟩ | ⟨_, z⟩ <;> first | omega | exact z y.2.2.1), rfl⟩) hI (fun _ _ => rfl)
  · refine r_iload_n dX11_roots_7 rfl rfl ?_
    refine r_callS (av := [.int (iZ (pp))]) dX11_roots_8 lkX11_isPrime ml_X11_204 stX11_isPrime ⟨Nat.le_of_ble_eq_true rfl, Nat.le_of_ble_eq_true rfl⟩ rfl rfl (nle rfl) ⟨Nat.le_of_ble_eq_true rfl, Nat.le_of_ble_eq_true rfl⟩ (c_X11_isPrime (p := pp) hp (fun b8 hb8 => ?_))
    show G _ _ _ _ _ _ _ 11 _ _ _
    refine r_if_eq 19 dX11_roots_11 (by decide) (by rcases hb8 with ⟨y, _⟩ | ⟨y, _⟩ <;> exact ⟨by omega, by omega⟩) (fun c_11 => ?_) (fun c_11 => ?_)
    · refine r_iconst (z := -1) dX11_roots_19 ?_
      refine r_ireturn hq dX11_roots_20 rfl rfl rfl ?_
      exact hQ _ h (Or.inl ⟨by intro y; first | omega | (rcases hb8 with ⟨z, _⟩ | ⟨_, z⟩ <;> first | omega | exact z y.2.2.1), rfl⟩) hI (fun _ _ => rfl)
    · refine r_iload_n dX11_roots_14 rfl rfl ?_
      refine r_iconst (z := -1) dX11_roots_15 ?_
      refine r_icmp_ge 21 dX11_roots_16 (by decide) hw ⟨by decide, by decide⟩ (fun c_16 => ?_) (fun c_16 => ?_)
      · have hpr : Prm pp := by
          rcases hb8 with ⟨_, y⟩ | ⟨y, _⟩
          · exact y
          · exact absurd y c_11
        have pp2 := hpr.1
        have pp97 := hpr.2.1
        refine r_iconst (z := 0) dX11_roots_21 ?_
        refine r_istore (L2 := [_, _, _, _, _, none]) dX11_roots_22 (nlt rfl) rfl ?_
        refine r_iconst (z := 0) dX11_roots_24 ?_
        refine r_istore (L2 := [_, _, _, _, _, _]) dX11_roots_25 (nlt rfl) rfl ?_
        have lp27 : ∀ (fu27 : Nat) (sn : Int) (x : Int) (j : Nat), (98 - x) < (fu27 : Int) → (x = (j : Int)) → (x ≤ pp) → (sn = (rtC (K i.toNat) (C i.toNat) pp j : Int)) → (w = -1 ∨ sn ≤ w) → G X RX11 cX11_roots mX11_roots.rm N 0 0 27 [some (.ref (124)), some (.int (iZ (i))), some (.int (iZ (pp))), some (.int (iZ (w))), some (.int (iZ (sn))), some (.int (iZ (x)))] [] h := by
          intro fu27
          induction fu27 with
          | zero => intro sn x j hm ex9 xp esn hsw; exfalso; omega
          | succ fu27 ih27 =>
            intro sn x j hms27 ex9 xp esn hsw
            have rle := rtC_le (k := K i.toNat) (c := C i.toNat) (p := pp) j
            refine r_iload dX11_roots_27 rfl ?_
            refine r_iload_n dX11_roots_29 rfl rfl ?_
            refine r_icmp_ge 62 dX11_roots_30 (by decide) ⟨by omega, by omega⟩ ⟨by omega, by omega⟩ (fun c_30 => ?_) (fun c_30 => ?_)
            · refine r_iload_n dX11_roots_62 rfl rfl ?_
              refine r_if_ge 71 dX11_roots_63 (by decide) hw (fun c_63 => ?_) (fun c_63 => ?_)
              · refine r_bipush (z := -4) dX11_roots_71 (by decide) ?_
                refine r_ireturn hq dX11_roots_73 rfl rfl rfl ?_
                have jp : j = pp.toNat := by omega
                rw [jp] at esn
                exact hQ _ h (Or.inr ⟨by omega, by omega, hpr, by omega, Or.inr (Or.inr ⟨by omega, by omega, rfl⟩)⟩) hI (fun _ _ => rfl)
              · refine r_iload dX11_roots_66 rfl ?_
                refine r_goto 73 dX11_roots_68 (by decide) ?_
                refine r_ireturn hq dX11_roots_73 rfl rfl rfl ?_
                have jp : j = pp.toNat := by omega
                rw [jp] at esn
                exact hQ _ h (Or.inr ⟨by omega, by omega, hpr, by omega, Or.inl ⟨by omega, esn⟩⟩) hI (fun _ _ => rfl)
            · refine r_aload_n dX11_roots_33 rfl rfl ?_
              refine r_iload_n dX11_roots_34 rfl rfl ?_
              refine r_iload_n dX11_roots_35 rfl rfl ?_
              refine r_iload dX11_roots_36 rfl ?_
              refine r_callV (av := [.int (iZ (i)), .int (iZ (pp)), .int (iZ (x))]) dX11_roots_38 lkX11_isRoot ml_X11_207 imX11_isRoot seX11_isRoot (by omega) (rfl : vwCl[11]? = _) ⟨_, hm0⟩ ⟨Nat.le_of_ble_eq_true rfl, Nat.le_of_ble_eq_true rfl⟩ rfl rfl (nle rfl) ⟨Nat.le_of_ble_eq_true rfl, Nat.le_of_ble_eq_true rfl⟩ (c_X11_isRoot (r := i.toNat) (k := K i.toNat) (c := C i.toNat) (s := S i.toNat) (om := om) (ml := ml) (ms := ms) (x := x) (p := pp) (ln := (ln : Int)) (pr := p) (nm := (sz : Int)) (at_ := at_) (wr := wr) (va := va) (em := em) (ta := ta) (ro := ro) (dg := dg) hm0 hN hom hml hms (hMR i.toNat (by omega)).1 (by omega) (by omega) (by omega) (by omega) (by omega) (by omega) (fun b38 hb38 => ?_))
              show G _ _ _ _ _ _ _ 41 _ _ _
              refine r_if_eq 56 dX11_roots_41 (by decide) (by rcases hb38 with ⟨y, _⟩ | ⟨y, _⟩ <;> exact ⟨by omega, by omega⟩) (fun c_41 => ?_) (fun c_41 => ?_)
              · have hnz : hv (C i.toNat) (j : Int) pp (K i.toNat) ≠ 0 := by
                  rw [← ex9]
                  rcases hb38 with ⟨y, _⟩ | ⟨_, y⟩
                  · omega
                  · exact y
                have hrs : rtC (K i.toNat) (C i.toNat) pp (j + 1) = rtC (K i.toNat) (C i.toNat) pp j := by
                  show rtC (K i.toNat) (C i.toNat) pp j + _ = _
                  rw [if_neg hnz]; rfl
                refine r_iinc (L2 := [_, _, _, _, _, _]) dX11_roots_56 (nlt rfl) rfl rfl ?_
                refine r_goto 27 dX11_roots_59 (by decide) ?_
                exact ih27 (sn) (x + 1) ((j + 1)) (by omega) (by omega) (by omega) (by rw [hrs]; omega) (by omega)
              · have hz0 : hv (C i.toNat) (j : Int) pp (K i.toNat) = 0 := by
                  rw [← ex9]
                  rcases hb38 with ⟨_, y⟩ | ⟨y, _⟩
                  · exact y
                  · exact absurd y c_41
                refine r_iload dX11_roots_44 rfl ?_
                refine r_iload_n dX11_roots_46 rfl rfl ?_
                refine r_icmp_ne 53 dX11_roots_47 (by decide) ⟨by omega, by omega⟩ hw (fun c_47 => ?_) (fun c_47 => ?_)
                · refine r_iinc (L2 := [_, _, _, _, _, _]) dX11_roots_53 (nlt rfl) rfl rfl ?_
                  have hrs : rtC (K i.toNat) (C i.toNat) pp (j + 1) = rtC (K i.toNat) (C i.toNat) pp j + 1 := by
                    show rtC (K i.toNat) (C i.toNat) pp j + _ = _
                    rw [if_pos hz0]
                  refine r_iinc (L2 := [_, _, _, _, _, _]) dX11_roots_56 (nlt rfl) rfl rfl ?_
                  refine r_goto 27 dX11_roots_59 (by decide) ?_
                  exact ih27 (sn + 1) (x + 1) ((j + 1)) (by omega) (by omega) (by omega) (by rw [hrs]; omega) (by omega)
                · refine r_iload dX11_roots_50 rfl ?_
                  refine r_ireturn hq dX11_roots_52 rfl rfl rfl ?_
                  exact hQ _ h (Or.inr ⟨by omega, by omega, hpr, by omega, Or.inr (Or.inl ⟨by omega, j, by omega, hz0, by omega, by omega⟩)⟩) hI (fun _ _ => rfl)
        exact lp27 ((98 : Int) + 1).toNat (0) (0) (0) (by omega) rfl (by omega) rfl (by show w = -1 ∨ (0 : Int) ≤ w; omega)
      · refine r_iconst (z := -1) dX11_roots_19 ?_
        refine r_ireturn hq dX11_roots_20 rfl rfl rfl ?_
        exact hQ _ h (Or.inl ⟨by intro y; first | omega | (rcases hb8 with ⟨z, _⟩ | ⟨_, z⟩ <;> first | omega | exact z y.2.2.1), rfl⟩) hI (fun _ _ => rfl)
