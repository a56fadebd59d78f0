set_option maxHeartbeats 16000000 in
set_option maxRecDepth 20000 in
theorem c_X11_make {N : Nat} {h : Hp} {Q : QP} {tb : Nat → Int} {ln : Nat} {K : Nat → Nat} {C S : Nat → Nat → Int} {p : Int} {vs : Nat → Int} {sz : Nat} {ti wi xi yi di r : Int} {K2 : Nat → Nat} {C2 S2 : Nat → Nat → Int} (hI : MDI h tb ln K C S p vs sz) (hN : 146 ≤ N) (hti : rI ti) (hwi : rI wi) (hxi : rI xi) (hyi : rI yi) (hdi : rI di) (hsp : SPmake ti wi xi yi di K C S r K2 C2 S2) (hRB : ∀ i, i < 6 → RB (K2 i) (C2 i) (S2 i)) (hQ : ∀ h2 : Hp, MDI h2 tb ln K2 C2 S2 p vs sz → OUTM h h2 → Q (some (.int (iZ r))) N h2) : Runs mX11_make [.ref (124), .int (iZ (ti)), .int (iZ (wi)), .int (iZ (xi)), .int (iZ (yi)), .int (iZ (di))] N h Q := by
  obtain ⟨at_, wr, va, em, ta, ro, dg, om, ml, ms, a130, a131, a132, a133, a134, a135, a136, a137, a138, a139, a140, a141, a142, a143, a144, a145, hm0, hom, hml, hms, hbt, hnv, h130, h131, h132, h133, h134, h135, h136, h137, h138, h139, h140, h141, h142, h143, h144, h145, hMR, hlN, hbb, hPr, hs40, hvb⟩ := id hI
  have hl0 : 0 ≤ (ln : Int) := by omega
  have hl : (ln : Int) ≤ 100 := by omega
  have ht1 := hti.1
  have ht2 := hti.2
  have hw1 := hwi.1
  have hw2 := hwi.2
  have hx1 := hxi.1
  have hx2 := hxi.2
  have hy1 := hyi.1
  have hy2 := hyi.2
  have hd1 := hdi.1
  have hd2 := hdi.2
  refine run_start (own := RX11) rfl (by decide) (nle rfl) rfl (fun X hq hini => ?_)
  show G X RX11 cX11_make mX11_make.rm N 0 0 0 [some (.ref (124)), some (.int (iZ (ti))), some (.int (iZ (wi))), some (.int (iZ (xi))), some (.int (iZ (yi))), some (.int (iZ (di))), none, none] [] h
  refine r_iload_n dX11_make_0 rfl rfl ?_
  refine r_callS (av := [.int (iZ (ti))]) dX11_make_1 lkX11_isReg ml_X11_127 stX11_isReg ⟨Nat.le_of_ble_eq_true rfl, Nat.le_of_ble_eq_true rfl⟩ rfl rfl (nle rfl) ⟨Nat.le_of_ble_eq_true rfl, Nat.le_of_ble_eq_true rfl⟩ (c_X11_isReg (x := ti) hti (fun b1 hb1 => ?_))
  show G _ _ _ _ _ _ _ 4 _ _ _
  refine r_if_eq 43 dX11_make_4 (by decide) (by rcases hb1 with ⟨y, _⟩ | ⟨y, _⟩ <;> exact ⟨by omega, by omega⟩) (fun c_4 => ?_) (fun c_4 => ?_)
  · refine r_iconst (z := 0) dX11_make_43 ?_
    refine r_istore (L2 := [_, _, _, _, _, _, _, none]) dX11_make_44 (nlt rfl) rfl ?_
    refine r_iload dX11_make_46 rfl ?_
    refine r_if_eq 115 dX11_make_48 (by decide) ⟨by decide, by decide⟩ (fun c_48 => ?_) (fun c_48 => by exfalso; omega)
    refine r_iconst (z := 0) dX11_make_115 ?_
    refine r_istore (L2 := [_, _, _, _, _, _, _, none]) dX11_make_116 (nlt rfl) rfl ?_
    refine r_iload dX11_make_118 rfl ?_
    refine r_if_ne 125 dX11_make_120 (by decide) ⟨by decide, by decide⟩ (fun c_120 => by exfalso; omega) (fun c_120 => ?_)
    refine r_iconst (z := -1) dX11_make_123 ?_
    refine r_ireturn hq dX11_make_124 rfl rfl rfl ?_
    rcases hsp with ⟨_, e1, e2, e3, e4⟩ | ⟨w9, _⟩
    · subst e1; subst e2; subst e3; subst e4
      exact hQ h hI (fun _ _ => rfl)
    · exfalso; omega
  · refine r_iload_n dX11_make_7 rfl rfl ?_
    refine r_i2l dX11_make_8 ⟨by omega, by omega⟩ ?_
    refine r_lconst (z := 0) dX11_make_9 (by decide) ?_
    refine r_ldc2 (z := 7) dX11_make_10 kc_X11_213 ?_
    refine r_callS (av := [.long (lZ (wi)), .long (lZ (0)), .long (lZ (7))]) dX11_make_13 lkX11_in ml_X11_80 stX11_in ⟨Nat.le_of_ble_eq_true rfl, Nat.le_of_ble_eq_true rfl⟩ rfl rfl (nle rfl) ⟨Nat.le_of_ble_eq_true rfl, Nat.le_of_ble_eq_true rfl⟩ (c_X11_in (x := wi) (l := 0) (m := 7) ⟨by omega, by omega⟩ ⟨by decide, by decide⟩ ⟨by decide, by decide⟩ (fun b13 hb13 => ?_))
    show G _ _ _ _ _ _ _ 16 _ _ _
    refine r_if_eq 43 dX11_make_16 (by decide) (by rcases hb13 with ⟨y, _⟩ | ⟨y, _⟩ <;> exact ⟨by omega, by omega⟩) (fun c_16 => ?_) (fun c_16 => ?_)
    · refine r_iconst (z := 0) dX11_make_43 ?_
      refine r_istore (L2 := [_, _, _, _, _, _, _, none]) dX11_make_44 (nlt rfl) rfl ?_
      refine r_iload dX11_make_46 rfl ?_
      refine r_if_eq 115 dX11_make_48 (by decide) ⟨by decide, by decide⟩ (fun c_48 => ?_) (fun c_48 => by exfalso; omega)
      refine r_iconst (z := 0) dX11_make_115 ?_
      refine r_istore (L2 := [_, _, _, _, _, _, _, none]) dX11_make_116 (nlt rfl) rfl ?_
      refine r_iload dX11_make_118 rfl ?_
      refine r_if_ne 125 dX11_make_120 (by decide) ⟨by decide, by decide⟩ (fun c_120 => by exfalso; omega) (fun c_120 => ?_)
      refine r_iconst (z := -1) dX11_make_123 ?_
      refine r_ireturn hq dX11_make_124 rfl rfl rfl ?_
      rcases hsp with ⟨_, e1, e2, e3, e4⟩ | ⟨w9, _⟩
      · subst e1; subst e2; subst e3; subst e4
        exact hQ h hI (fun _ _ => rfl)
      · exfalso; omega
    · refine r_iload_n dX11_make_19 rfl rfl ?_
      refine r_callS (av := [.int (iZ (xi))]) dX11_make_20 lkX11_isReg ml_X11_127 stX11_isReg ⟨Nat.le_of_ble_eq_true rfl, Nat.le_of_ble_eq_true rfl⟩ rfl rfl (nle rfl) ⟨Nat.le_of_ble_eq_true rfl, Nat.le_of_ble_eq_true rfl⟩ (c_X11_isReg (x := xi) hxi (fun b20 hb20 => ?_))
      show G _ _ _ _ _ _ _ 23 _ _ _
      refine r_if_eq 43 dX11_make_23 (by decide) (by rcases hb20 with ⟨y, _⟩ | ⟨y, _⟩ <;> exact ⟨by omega, by omega⟩) (fun c_23 => ?_) (fun c_23 => ?_)
      · refine r_iconst (z := 0) dX11_make_43 ?_
        refine r_istore (L2 := [_, _, _, _, _, _, _, none]) dX11_make_44 (nlt rfl) rfl ?_
        refine r_iload dX11_make_46 rfl ?_
        refine r_if_eq 115 dX11_make_48 (by decide) ⟨by decide, by decide⟩ (fun c_48 => ?_) (fun c_48 => by exfalso; omega)
        refine r_iconst (z := 0) dX11_make_115 ?_
        refine r_istore (L2 := [_, _, _, _, _, _, _, none]) dX11_make_116 (nlt rfl) rfl ?_
        refine r_iload dX11_make_118 rfl ?_
        refine r_if_ne 125 dX11_make_120 (by decide) ⟨by decide, by decide⟩ (fun c_120 => by exfalso; omega) (fun c_120 => ?_)
        refine r_iconst (z := -1) dX11_make_123 ?_
        refine r_ireturn hq dX11_make_124 rfl rfl rfl ?_
        rcases hsp with ⟨_, e1, e2, e3, e4⟩ | ⟨w9, _⟩
        · subst e1; subst e2; subst e3; subst e4
          exact hQ h hI (fun _ _ => rfl)
        · exfalso; omega
      · refine r_iload_n dX11_make_26 rfl rfl ?_
        refine r_iconst (z := 3) dX11_make_27 ?_
        refine r_icmp_gt 39 dX11_make_28 (by decide) ⟨by omega, by omega⟩ ⟨by decide, by decide⟩ (fun c_28 => ?_) (fun c_28 => ?_)
        · refine r_iconst (z := 1) dX11_make_39 ?_
          refine r_goto 44 dX11_make_40 (by decide) ?_
          refine r_istore (L2 := [_, _, _, _, _, _, _, none]) dX11_make_44 (nlt rfl) rfl ?_
          refine r_iload dX11_make_46 rfl ?_
          refine r_if_eq 115 dX11_make_48 (by decide) ⟨by decide, by decide⟩ (fun c_48 => by exfalso; omega) (fun c_48 => ?_)
          refine r_iload_n dX11_make_51 rfl rfl ?_
          refine r_iconst (z := 4) dX11_make_52 ?_
          refine r_icmp_ne 71 dX11_make_53 (by decide) ⟨by omega, by omega⟩ ⟨by decide, by decide⟩ (fun c_53 => ?_) (fun c_53 => ?_)
          · refine r_iload_n dX11_make_71 rfl rfl ?_
            refine r_bipush (z := 6) dX11_make_72 (by decide) ?_
            refine r_icmp_ne 90 dX11_make_74 (by decide) ⟨by omega, by omega⟩ ⟨by decide, by decide⟩ (fun c_74 => ?_) (fun c_74 => ?_)
            · refine r_iload_n dX11_make_90 rfl rfl ?_
              refine r_bipush (z := 7) dX11_make_91 (by decide) ?_
              refine r_icmp_ne 111 dX11_make_93 (by decide) ⟨by omega, by omega⟩ ⟨by decide, by decide⟩ (fun c_93 => ?_) (fun c_93 => ?_)
              · refine r_iconst (z := 1) dX11_make_111 ?_
                refine r_goto 116 dX11_make_112 (by decide) ?_
                refine r_istore (L2 := [_, _, _, _, _, _, _, none]) dX11_make_116 (nlt rfl) rfl ?_
                refine r_iload dX11_make_118 rfl ?_
                refine r_if_ne 125 dX11_make_120 (by decide) ⟨by decide, by decide⟩ (fun c_120 => ?_) (fun c_120 => by exfalso; omega)
                refine r_iload_n dX11_make_125 rfl rfl ?_
                rcases (show wi < 0 ∨ 6 < wi ∨ wi = 0 ∨ wi = 1 ∨ wi = 2 ∨ wi = 3 ∨ wi = 4 ∨ wi = 5 ∨ wi = 6 by omega) with hs_126 | hs_126 | hs_126 | hs_126 | hs_126 | hs_126 | hs_126 | hs_126 | hs_126
                · exfalso; omega
                · exfalso; omega
                · exfalso; omega
                · exfalso; omega
                · exfalso; omega
                · exfalso; omega
                · exfalso; omega
                · refine r_tabIn (off := 100) 226 dX11_make_126 ⟨by omega, by omega⟩ (by omega) (by omega) (by rw [hs_126]; rfl) (by decide) ?_
                  refine r_aload_n dX11_make_226 rfl rfl ?_
                  refine r_iload_n dX11_make_227 rfl rfl ?_
                  refine r_callV (av := [.int (iZ (xi))]) dX11_make_228 lkX11_makeSums ml_X11_275 imX11_makeSums seX11_makeSums (by omega) (rfl : vwCl[11]? = _) ⟨_, hm0⟩ ⟨Nat.le_of_ble_eq_true rfl, Nat.le_of_ble_eq_true rfl⟩ rfl rfl (nle rfl) ⟨Nat.le_of_ble_eq_true rfl, Nat.le_of_ble_eq_true rfl⟩ (c_X11_makeSums (c := C xi.toNat) (s := S xi.toNat) (r := xi.toNat) (k := K xi.toNat)  (xi := xi) (ddi := di) hm0 hN hom hml hms h130 h138 h139 h140 h141 h142 (hMR xi.toNat (by omega)).1 (by omega) (by omega) (hMR xi.toNat (by omega)).2  (fun b228 h2 hX => ?_))
                  show G _ _ _ _ _ _ _ 231 _ _ _
                  have hc9 : 0 ≤ ti ∧ ti ≤ 5 ∧ 0 ≤ wi ∧ wi ≤ 7 ∧ 0 ≤ xi ∧ xi ≤ 5 ∧ (wi ≤ 3 → 0 ≤ yi ∧ yi ≤ 5) ∧ (wi = 4 → 2 ≤ di ∧ di ≤ 6) ∧ (wi = 6 → 0 ≤ di ∧ di ≤ 1000) ∧ (wi = 7 → -1000 ≤ di ∧ di ≤ 1000) := ⟨by omega, by omega, by omega, by omega, by omega, by omega, fun _ => by omega, fun _ => by omega, fun _ => by omega, fun _ => by omega⟩
                  obtain ⟨y2, hy6, hya, hyb, hcs⟩ := (hsp.resolve_left (fun w => w.1 hc9)).2
                  obtain rfl : y2 = xi.toNat := hyb (by omega)
                  obtain rfl : wi = 5 := by omega
                  obtain ⟨hko, em2, om2, ml2, ms2, y130, y138, y139, y140, y141, y142, q124, q125, q126, q127, q130, q138, q139, q140, q141, q142, lo1, lo2, lo3, hdj⟩ := hX
                  refine r_istore (L2 := [_, _, _, _, _, _, _, _]) dX11_make_231 (nlt rfl) rfl ?_
                  refine r_goto 257 dX11_make_233 (by decide) ?_
                  refine r_iload dX11_make_257 rfl ?_
                  refine r_if_ne 265 dX11_make_259 (by decide) (by rcases hdj with ⟨y, _⟩ | ⟨y, _⟩ <;> exact ⟨by omega, by omega⟩) (fun c_259 => ?_) (fun c_259 => ?_)
                  · refine r_aload_n dX11_make_265 rfl rfl ?_
                    refine r_iload_n dX11_make_266 rfl rfl ?_
                    refine r_callV (av := [.int (iZ (ti))]) dX11_make_267 lkX11_keep ml_X11_130 imX11_keep seX11_keep (by omega) (rfl : vwCl[11]? = _) ⟨_, q124⟩ ⟨Nat.le_of_ble_eq_true rfl, Nat.le_of_ble_eq_true rfl⟩ rfl rfl (nle rfl) ⟨Nat.le_of_ble_eq_true rfl, Nat.le_of_ble_eq_true rfl⟩ (c_X11_keep (i := ti.toNat) (om := om2) (ml := ml2) (ms := ms2) (ln := (ln : Int)) (pr := p) (nm := (sz : Int)) (at_ := at_) (wr := wr) (va := va) (em := em2) (ta := ta) (ro := ro) (dg := dg) q124 hN q125 q126 q127 (by omega) (by omega) ?_)
                    show G _ _ _ _ _ _ _ 270 _ _ _
                    refine r_aload_n dX11_make_270 rfl rfl ?_
                    refine gf_X11_7 dX11_make_271 (by omega) ((hs_n (by omega)).trans ((hs_n (by omega)).trans ((hs_n (by omega)).trans q124))) rfl ?_
                    refine r_iload_n dX11_make_274 rfl rfl ?_
                    refine r_iaload dX11_make_275 (by omega) ((hs_n (by omega)).trans ((hs_n (by omega)).trans hs_e)) (by omega) (by omega) (by decide) ?_
                    refine r_ireturn hq dX11_make_276 rfl rfl rfl ?_
                    rcases hcs with ⟨n1, _⟩ | ⟨a1, a2, c3, s3, hc3, hs3, e1, e2, e3, e4⟩
                    · rcases hdj with ⟨y, _⟩ | ⟨_, y1, _⟩
                      · exact absurd y (by omega)
                      · exact absurd y1 n1
                    · obtain ⟨h41, h42, h43⟩ : om2 6 = _ ∧ _ ∧ _ := (hdj.resolve_left (fun w => w.2 ⟨a1, a2⟩)).2.2
                      subst e1; subst e2; subst e3; subst e4
                      have hRB2 := hRB ti.toNat (by omega)
                      rw [upK_e, upK_e, upK_e] at hRB2
                      rw [show ((uA om2 ti.toNat (om2 6)) (ti).toNat) = _ from uA_e.trans h41]
                      refine hQ _ ⟨_, _, _, _, _, _, _, _, _, _, _, _, _, _, _, _, _, _, _, _, _, _, _, _, _, _, ((hs_n (by omega)).trans ((hs_n (by omega)).trans ((hs_n (by omega)).trans q124))), ((hs_n (by omega)).trans ((hs_n (by omega)).trans hs_e)), ((hs_n (by omega)).trans hs_e), hs_e, ((hs_n (by omega)).trans ((hs_n (by omega)).trans ((hs_n (by omega)).trans ((hko 128 (by omega)).trans hbt)))), ((hs_n (by omega)).trans ((hs_n (by omega)).trans ((hs_n (by omega)).trans ((hko 129 (by omega)).trans hnv)))), ((hs_n (by omega)).trans ((hs_n (by omega)).trans ((hs_n (by omega)).trans q130))), ((hs_n (by omega)).trans ((hs_n (by omega)).trans ((hs_n (by omega)).trans ((hko 131 (by omega)).trans h131)))), ((hs_n (by omega)).trans ((hs_n (by omega)).trans ((hs_n (by omega)).trans ((hko 132 (by omega)).trans h132)))), ((hs_n (by omega)).trans ((hs_n (by omega)).trans ((hs_n (by omega)).trans ((hko 133 (by omega)).trans h133)))), ((hs_n (by omega)).trans ((hs_n (by omega)).trans ((hs_n (by omega)).trans ((hko 134 (by omega)).trans h134)))), ((hs_n (by omega)).trans ((hs_n (by omega)).trans ((hs_n (by omega)).trans ((hko 135 (by omega)).trans h135)))), ((hs_n (by omega)).trans ((hs_n (by omega)).trans ((hs_n (by omega)).trans ((hko 136 (by omega)).trans h136)))), ((hs_n (by omega)).trans ((hs_n (by omega)).trans ((hs_n (by omega)).trans ((hko 137 (by omega)).trans h137)))), ((hs_n (by omega)).trans ((hs_n (by omega)).trans ((hs_n (by omega)).trans q138))), ((hs_n (by omega)).trans ((hs_n (by omega)).trans ((hs_n (by omega)).trans q139))), ((hs_n (by omega)).trans ((hs_n (by omega)).trans ((hs_n (by omega)).trans q140))), ((hs_n (by omega)).trans ((hs_n (by omega)).trans ((hs_n (by omega)).trans q141))), ((hs_n (by omega)).trans ((hs_n (by omega)).trans ((hs_n (by omega)).trans q142))), ((hs_n (by omega)).trans ((hs_n (by omega)).trans ((hs_n (by omega)).trans ((hko 143 (by omega)).trans h143)))), ((hs_n (by omega)).trans ((hs_n (by omega)).trans ((hs_n (by omega)).trans ((hko 144 (by omega)).trans h144)))), ((hs_n (by omega)).trans ((hs_n (by omega)).trans ((hs_n (by omega)).trans ((hko 145 (by omega)).trans h145)))), (fun i9 hi9 => ?_), hlN, hbb, hPr, hs40, hvb⟩ (fun a9 h9 => (((hs_n (by omega)).trans ((hs_n (by omega)).trans ((hs_n (by omega)).trans rfl)))).trans (hko a9 (Or.inl h9)))
                      by_cases z : i9 = ti.toNat
                      · rw [z, upK_e, upK_e, upK_e]
                        refine ⟨⟨uA_e.trans h41, hRB2.1, hRB2.2.1, fun j a b => ⟨?_, hRB2.2.2.1 j (by have := hRB2.2.1; omega)⟩, fun j a => ⟨?_, hRB2.2.2.2.1 j (by have := hRB2.2.1; omega)⟩⟩, hRB2.2.2.2.2⟩
                        · have := hRB2.2.1
                          unfold kpF
                          rw [if_pos ⟨by omega, by omega⟩, hc3 j a b, ← h42 j a b]
                          congr 1; omega
                        · have := hRB2.2.1
                          unfold kpF
                          rw [if_pos ⟨by omega, by omega⟩, hs3 j a, ← h43 j a]
                          congr 1; omega
                      · rw [upK_n z, upK_n z, upK_n z]
                        have hM9 := hMR i9 hi9
                        have h6 := hM9.1.2.2.1
                        refine ⟨⟨by rw [uA_n z, lo1 i9 hi9]; exact hM9.1.1, hM9.1.2.1, h6, fun j a b => ⟨?_, (hM9.1.2.2.2.1 j a b).2⟩, fun j a => ⟨?_, (hM9.1.2.2.2.2 j a).2⟩⟩, hM9.2⟩
                        · unfold kpF
                          rw [if_neg (by omega), lo2 _ (by omega)]; exact (hM9.1.2.2.2.1 j a b).1
                        · unfold kpF
                          rw [if_neg (by omega), lo3 _ (by omega)]; exact (hM9.1.2.2.2.2 j a).1
                  · refine r_bipush (z := -3) dX11_make_262 (by decide) ?_
                    refine r_ireturn hq dX11_make_264 rfl rfl rfl ?_
                    rcases hcs with ⟨_, e1, e2, e3, e4⟩ | ⟨a1, a2, _⟩
                    · subst e1; subst e2; subst e3; subst e4
                      exact hQ _ ⟨_, _, _, _, _, _, _, _, _, _, _, _, _, _, _, _, _, _, _, _, _, _, _, _, _, _, q124, q125, q126, q127, ((hko 128 (by omega)).trans hbt), ((hko 129 (by omega)).trans hnv), q130, ((hko 131 (by omega)).trans h131), ((hko 132 (by omega)).trans h132), ((hko 133 (by omega)).trans h133), ((hko 134 (by omega)).trans h134), ((hko 135 (by omega)).trans h135), ((hko 136 (by omega)).trans h136), ((hko 137 (by omega)).trans h137), q138, q139, q140, q141, q142, ((hko 143 (by omega)).trans h143), ((hko 144 (by omega)).trans h144), ((hko 145 (by omega)).trans h145), (hMR.hi lo1 lo2 lo3), hlN, hbb, hPr, hs40, hvb⟩ (fun a9 h9 => hko a9 (Or.inl h9))
                    · rcases hdj with ⟨_, y⟩ | ⟨y, _⟩
                      · exact absurd ⟨a1, a2⟩ y
                      · exact absurd y (by omega)
                · exfalso; omega
              · refine r_iload dX11_make_96 rfl ?_
                refine r_i2l dX11_make_98 ⟨by omega, by omega⟩ ?_
                refine r_ldc2 (z := -1000) dX11_make_99 kc_X11_260 ?_
                refine r_ldc2 (z := 1000) dX11_make_102 kc_X11_186 ?_
                refine r_callS (av := [.long (lZ (di)), .long (lZ ((-1000))), .long (lZ (1000))]) dX11_make_105 lkX11_in ml_X11_80 stX11_in ⟨Nat.le_of_ble_eq_true rfl, Nat.le_of_ble_eq_true rfl⟩ rfl rfl (nle rfl) ⟨Nat.le_of_ble_eq_true rfl, Nat.le_of_ble_eq_true rfl⟩ (c_X11_in (x := di) (l := (-1000)) (m := 1000) ⟨by omega, by omega⟩ ⟨by decide, by decide⟩ ⟨by decide, by decide⟩ (fun b105 hb105 => ?_))
                show G _ _ _ _ _ _ _ 108 _ _ _
                refine r_if_eq 115 dX11_make_108 (by decide) (by rcases hb105 with ⟨y, _⟩ | ⟨y, _⟩ <;> exact ⟨by omega, by omega⟩) (fun c_108 => ?_) (fun c_108 => ?_)
                · refine r_iconst (z := 0) dX11_make_115 ?_
                  refine r_istore (L2 := [_, _, _, _, _, _, _, none]) dX11_make_116 (nlt rfl) rfl ?_
                  refine r_iload dX11_make_118 rfl ?_
                  refine r_if_ne 125 dX11_make_120 (by decide) ⟨by decide, by decide⟩ (fun c_120 => by exfalso; omega) (fun c_120 => ?_)
                  refine r_iconst (z := -1) dX11_make_123 ?_
                  refine r_ireturn hq dX11_make_124 rfl rfl rfl ?_
                  rcases hsp with ⟨_, e1, e2, e3, e4⟩ | ⟨w9, _⟩
                  · subst e1; subst e2; subst e3; subst e4
                    exact hQ h hI (fun _ _ => rfl)
                  · exfalso; omega
                · refine r_iconst (z := 1) dX11_make_111 ?_
                  refine r_goto 116 dX11_make_112 (by decide) ?_
                  refine r_istore (L2 := [_, _, _, _, _, _, _, none]) dX11_make_116 (nlt rfl) rfl ?_
                  refine r_iload dX11_make_118 rfl ?_
                  refine r_if_ne 125 dX11_make_120 (by decide) ⟨by decide, by decide⟩ (fun c_120 => ?_) (fun c_120 => by exfalso; omega)
                  refine r_iload_n dX11_make_125 rfl rfl ?_
                  rcases (show wi < 0 ∨ 6 < wi ∨ wi = 0 ∨ wi = 1 ∨ wi = 2 ∨ wi = 3 ∨ wi = 4 ∨ wi = 5 ∨ wi = 6 by omega) with hs_126 | hs_126 | hs_126 | hs_126 | hs_126 | hs_126 | hs_126 | hs_126 | hs_126
                  · exfalso; omega
                  · refine r_tabOut 248 dX11_make_126 ⟨by omega, by omega⟩ (by omega) (by decide) ?_
                    refine r_aload_n dX11_make_248 rfl rfl ?_
                    refine r_iload_n dX11_make_249 rfl rfl ?_
                    refine r_iload dX11_make_250 rfl ?_
                    refine r_callV (av := [.int (iZ (xi)), .int (iZ (di))]) dX11_make_252 lkX11_makeTimes ml_X11_281 imX11_makeTimes seX11_makeTimes (by omega) (rfl : vwCl[11]? = _) ⟨_, hm0⟩ ⟨Nat.le_of_ble_eq_true rfl, Nat.le_of_ble_eq_true rfl⟩ rfl rfl (nle rfl) ⟨Nat.le_of_ble_eq_true rfl, Nat.le_of_ble_eq_true rfl⟩ (c_X11_makeTimes (c := C xi.toNat) (s := S xi.toNat) (r := xi.toNat) (k := K xi.toNat)  (xi := xi) (ddi := di) hm0 hN hom hml hms h130 h138 h139 h140 h141 h142 (hMR xi.toNat (by omega)).1 (by omega) (by omega) (hMR xi.toNat (by omega)).2  (by omega) (by omega) (fun b252 h2 hX => ?_))
                    show G _ _ _ _ _ _ _ 255 _ _ _
                    have hc9 : 0 ≤ ti ∧ ti ≤ 5 ∧ 0 ≤ wi ∧ wi ≤ 7 ∧ 0 ≤ xi ∧ xi ≤ 5 ∧ (wi ≤ 3 → 0 ≤ yi ∧ yi ≤ 5) ∧ (wi = 4 → 2 ≤ di ∧ di ≤ 6) ∧ (wi = 6 → 0 ≤ di ∧ di ≤ 1000) ∧ (wi = 7 → -1000 ≤ di ∧ di ≤ 1000) := ⟨by omega, by omega, by omega, by omega, by omega, by omega, fun _ => by omega, fun _ => by omega, fun _ => by omega, fun _ => by omega⟩
                    obtain ⟨y2, hy6, hya, hyb, hcs⟩ := (hsp.resolve_left (fun w => w.1 hc9)).2
                    obtain rfl : y2 = xi.toNat := hyb (by omega)
                    obtain rfl : wi = 7 := by omega
                    obtain ⟨hko, em2, om2, ml2, ms2, y130, y138, y139, y140, y141, y142, q124, q125, q126, q127, q130, q138, q139, q140, q141, q142, lo1, lo2, lo3, hdj⟩ := hX
                    refine r_istore (L2 := [_, _, _, _, _, _, _, _]) dX11_make_255 (nlt rfl) rfl ?_
                    refine r_iload dX11_make_257 rfl ?_
                    refine r_if_ne 265 dX11_make_259 (by decide) (by rcases hdj with ⟨y, _⟩ | ⟨y, _⟩ <;> exact ⟨by omega, by omega⟩) (fun c_259 => ?_) (fun c_259 => ?_)
                    · refine r_aload_n dX11_make_265 rfl rfl ?_
                      refine r_iload_n dX11_make_266 rfl rfl ?_
                      refine r_callV (av := [.int (iZ (ti))]) dX11_make_267 lkX11_keep ml_X11_130 imX11_keep seX11_keep (by omega) (rfl : vwCl[11]? = _) ⟨_, q124⟩ ⟨Nat.le_of_ble_eq_true rfl, Nat.le_of_ble_eq_true rfl⟩ rfl rfl (nle rfl) ⟨Nat.le_of_ble_eq_true rfl, Nat.le_of_ble_eq_true rfl⟩ (c_X11_keep (i := ti.toNat) (om := om2) (ml := ml2) (ms := ms2) (ln := (ln : Int)) (pr := p) (nm := (sz : Int)) (at_ := at_) (wr := wr) (va := va) (em := em2) (ta := ta) (ro := ro) (dg := dg) q124 hN q125 q126 q127 (by omega) (by omega) ?_)
                      show G _ _ _ _ _ _ _ 270 _ _ _
                      refine r_aload_n dX11_make_270 rfl rfl ?_
                      refine gf_X11_7 dX11_make_271 (by omega) ((hs_n (by omega)).trans ((hs_n (by omega)).trans ((hs_n (by omega)).trans q124))) rfl ?_
                      refine r_iload_n dX11_make_274 rfl rfl ?_
                      refine r_iaload dX11_make_275 (by omega) ((hs_n (by omega)).trans ((hs_n (by omega)).trans hs_e)) (by omega) (by omega) (by decide) ?_
                      refine r_ireturn hq dX11_make_276 rfl rfl rfl ?_
                      rcases hcs with ⟨n1, _⟩ | ⟨a1, a2, c3, s3, hc3, hs3, e1, e2, e3, e4⟩
                      · rcases hdj with ⟨y, _⟩ | ⟨_, y1, _⟩
                        · exact absurd y (by omega)
                        · exact absurd y1 n1
                      · obtain ⟨h41, h42, h43⟩ : om2 6 = _ ∧ _ ∧ _ := (hdj.resolve_left (fun w => w.2 ⟨a1, a2⟩)).2.2
                        subst e1; subst e2; subst e3; subst e4
                        have hRB2 := hRB ti.toNat (by omega)
                        rw [upK_e, upK_e, upK_e] at hRB2
                        rw [show ((uA om2 ti.toNat (om2 6)) (ti).toNat) = _ from uA_e.trans h41]
                        refine hQ _ ⟨_, _, _, _, _, _, _, _, _, _, _, _, _, _, _, _, _, _, _, _, _, _, _, _, _, _, ((hs_n (by omega)).trans ((hs_n (by omega)).trans ((hs_n (by omega)).trans q124))), ((hs_n (by omega)).trans ((hs_n (by omega)).trans hs_e)), ((hs_n (by omega)).trans hs_e), hs_e, ((hs_n (by omega)).trans ((hs_n (by omega)).trans ((hs_n (by omega)).trans ((hko 128 (by omega)).trans hbt)))), ((hs_n (by omega)).trans ((hs_n (by omega)).trans ((hs_n (by omega)).trans ((hko 129 (by omega)).trans hnv)))), ((hs_n (by omega)).trans ((hs_n (by omega)).trans ((hs_n (by omega)).trans q130))), ((hs_n (by omega)).trans ((hs_n (by omega)).trans ((hs_n (by omega)).trans ((hko 131 (by omega)).trans h131)))), ((hs_n (by omega)).trans ((hs_n (by omega)).trans ((hs_n (by omega)).trans ((hko 132 (by omega)).trans h132)))), ((hs_n (by omega)).trans ((hs_n (by omega)).trans ((hs_n (by omega)).trans ((hko 133 (by omega)).trans h133)))), ((hs_n (by omega)).trans ((hs_n (by omega)).trans ((hs_n (by omega)).trans ((hko 134 (by omega)).trans h134)))), ((hs_n (by omega)).trans ((hs_n (by omega)).trans ((hs_n (by omega)).trans ((hko 135 (by omega)).trans h135)))), ((hs_n (by omega)).trans ((hs_n (by omega)).trans ((hs_n (by omega)).trans ((hko 136 (by omega)).trans h136)))), ((hs_n (by omega)).trans ((hs_n (by omega)).trans ((hs_n (by omega)).trans ((hko 137 (by omega)).trans h137)))), ((hs_n (by omega)).trans ((hs_n (by omega)).trans ((hs_n (by omega)).trans q138))), ((hs_n (by omega)).trans ((hs_n (by omega)).trans ((hs_n (by omega)).trans q139))), ((hs_n (by omega)).trans ((hs_n (by omega)).trans ((hs_n (by omega)).trans q140))), ((hs_n (by omega)).trans ((hs_n (by omega)).trans ((hs_n (by omega)).trans q141))), ((hs_n (by omega)).trans ((hs_n (by omega)).trans ((hs_n (by omega)).trans q142))), ((hs_n (by omega)).trans ((hs_n (by omega)).trans ((hs_n (by omega)).trans ((hko 143 (by omega)).trans h143)))), ((hs_n (by omega)).trans ((hs_n (by omega)).trans ((hs_n (by omega)).trans ((hko 144 (by omega)).trans h144)))), ((hs_n (by omega)).trans ((hs_n (by omega)).trans ((hs_n (by omega)).trans ((hko 145 (by omega)).trans h145)))), (fun i9 hi9 => ?_), hlN, hbb, hPr, hs40, hvb⟩ (fun a9 h9 => (((hs_n (by omega)).trans ((hs_n (by omega)).trans ((hs_n (by omega)).trans rfl)))).trans (hko a9 (Or.inl h9)))
                        by_cases z : i9 = ti.toNat
                        · rw [z, upK_e, upK_e, upK_e]
                          refine ⟨⟨uA_e.trans h41, hRB2.1, hRB2.2.1, fun j a b => ⟨?_, hRB2.2.2.1 j (by have := hRB2.2.1; omega)⟩, fun j a => ⟨?_, hRB2.2.2.2.1 j (by have := hRB2.2.1; omega)⟩⟩, hRB2.2.2.2.2⟩
                          · have := hRB2.2.1
                            unfold kpF
                            rw [if_pos ⟨by omega, by omega⟩, hc3 j a b, ← h42 j a b]
                            congr 1; omega
                          · have := hRB2.2.1
                            unfold kpF
                            rw [if_pos ⟨by omega, by omega⟩, hs3 j a, ← h43 j a]
                            congr 1; omega
                        · rw [upK_n z, upK_n z, upK_n z]
                          have hM9 := hMR i9 hi9
                          have h6 := hM9.1.2.2.1
                          refine ⟨⟨by rw [uA_n z, lo1 i9 hi9]; exact hM9.1.1, hM9.1.2.1, h6, fun j a b => ⟨?_, (hM9.1.2.2.2.1 j a b).2⟩, fun j a => ⟨?_, (hM9.1.2.2.2.2 j a).2⟩⟩, hM9.2⟩
                          · unfold kpF
                            rw [if_neg (by omega), lo2 _ (by omega)]; exact (hM9.1.2.2.2.1 j a b).1
                          · unfold kpF
                            rw [if_neg (by omega), lo3 _ (by omega)]; exact (hM9.1.2.2.2.2 j a).1
                    · refine r_bipush (z := -3) dX11_make_262 (by decide) ?_
                      refine r_ireturn hq dX11_make_264 rfl rfl rfl ?_
                      rcases hcs with ⟨_, e1, e2, e3, e4⟩ | ⟨a1, a2, _⟩
                      · subst e1; subst e2; subst e3; subst e4
                        exact hQ _ ⟨_, _, _, _, _, _, _, _, _, _, _, _, _, _, _, _, _, _, _, _, _, _, _, _, _, _, q124, q125, q126, q127, ((hko 128 (by omega)).trans hbt), ((hko 129 (by omega)).trans hnv), q130, ((hko 131 (by omega)).trans h131), ((hko 132 (by omega)).trans h132), ((hko 133 (by omega)).trans h133), ((hko 134 (by omega)).trans h134), ((hko 135 (by omega)).trans h135), ((hko 136 (by omega)).trans h136), ((hko 137 (by omega)).trans h137), q138, q139, q140, q141, q142, ((hko 143 (by omega)).trans h143), ((hko 144 (by omega)).trans h144), ((hko 145 (by omega)).trans h145), (hMR.hi lo1 lo2 lo3), hlN, hbb, hPr, hs40, hvb⟩ (fun a9 h9 => hko a9 (Or.inl h9))
                      · rcases hdj with ⟨_, y⟩ | ⟨y, _⟩
                        · exact absurd ⟨a1, a2⟩ y
                        · exact absurd y (by omega)
                  · exfalso; omega
                  · exfalso; omega
                  · exfalso; omega
                  · exfalso; omega
                  · exfalso; omega
                  · exfalso; omega
                  · exfalso; omega
            · refine r_iload dX11_make_77 rfl ?_
              refine r_i2l dX11_make_79 ⟨by omega, by omega⟩ ?_
              refine r_lconst (z := 0) dX11_make_80 (by decide) ?_
              refine r_ldc2 (z := 1000) dX11_make_81 kc_X11_186 ?_
              refine r_callS (av := [.long (lZ (di)), .long (lZ (0)), .long (lZ (1000))]) dX11_make_84 lkX11_in ml_X11_80 stX11_in ⟨Nat.le_of_ble_eq_true rfl, Nat.le_of_ble_eq_true rfl⟩ rfl rfl (nle rfl) ⟨Nat.le_of_ble_eq_true rfl, Nat.le_of_ble_eq_true rfl⟩ (c_X11_in (x := di) (l := 0) (m := 1000) ⟨by omega, by omega⟩ ⟨by decide, by decide⟩ ⟨by decide, by decide⟩ (fun b84 hb84 => ?_))
              show G _ _ _ _ _ _ _ 87 _ _ _
              refine r_if_eq 115 dX11_make_87 (by decide) (by rcases hb84 with ⟨y, _⟩ | ⟨y, _⟩ <;> exact ⟨by omega, by omega⟩) (fun c_87 => ?_) (fun c_87 => ?_)
              · refine r_iconst (z := 0) dX11_make_115 ?_
                refine r_istore (L2 := [_, _, _, _, _, _, _, none]) dX11_make_116 (nlt rfl) rfl ?_
                refine r_iload dX11_make_118 rfl ?_
                refine r_if_ne 125 dX11_make_120 (by decide) ⟨by decide, by decide⟩ (fun c_120 => by exfalso; omega) (fun c_120 => ?_)
                refine r_iconst (z := -1) dX11_make_123 ?_
                refine r_ireturn hq dX11_make_124 rfl rfl rfl ?_
                rcases hsp with ⟨_, e1, e2, e3, e4⟩ | ⟨w9, _⟩
                · subst e1; subst e2; subst e3; subst e4
                  exact hQ h hI (fun _ _ => rfl)
                · exfalso; omega
              · refine r_iload_n dX11_make_90 rfl rfl ?_
                refine r_bipush (z := 7) dX11_make_91 (by decide) ?_
                refine r_icmp_ne 111 dX11_make_93 (by decide) ⟨by omega, by omega⟩ ⟨by decide, by decide⟩ (fun c_93 => ?_) (fun c_93 => by exfalso; omega)
                refine r_iconst (z := 1) dX11_make_111 ?_
                refine r_goto 116 dX11_make_112 (by decide) ?_
                refine r_istore (L2 := [_, _, _, _, _, _, _, none]) dX11_make_116 (nlt rfl) rfl ?_
                refine r_iload dX11_make_118 rfl ?_
                refine r_if_ne 125 dX11_make_120 (by decide) ⟨by decide, by decide⟩ (fun c_120 => ?_) (fun c_120 => by exfalso; omega)
                refine r_iload_n dX11_make_125 rfl rfl ?_
                rcases (show wi < 0 ∨ 6 < wi ∨ wi = 0 ∨ wi = 1 ∨ wi = 2 ∨ wi = 3 ∨ wi = 4 ∨ wi = 5 ∨ wi = 6 by omega) with hs_126 | hs_126 | hs_126 | hs_126 | hs_126 | hs_126 | hs_126 | hs_126 | hs_126
                · exfalso; omega
                · exfalso; omega
                · exfalso; omega
                · exfalso; omega
                · exfalso; omega
                · exfalso; omega
                · exfalso; omega
                · exfalso; omega
                · refine r_tabIn (off := 110) 236 dX11_make_126 ⟨by omega, by omega⟩ (by omega) (by omega) (by rw [hs_126]; rfl) (by decide) ?_
                  refine r_aload_n dX11_make_236 rfl rfl ?_
                  refine r_iload_n dX11_make_237 rfl rfl ?_
                  refine r_iload dX11_make_238 rfl ?_
                  refine r_callV (av := [.int (iZ (xi)), .int (iZ (di))]) dX11_make_240 lkX11_makeMoved ml_X11_278 imX11_makeMoved seX11_makeMoved (by omega) (rfl : vwCl[11]? = _) ⟨_, hm0⟩ ⟨Nat.le_of_ble_eq_true rfl, Nat.le_of_ble_eq_true rfl⟩ rfl rfl (nle rfl) ⟨Nat.le_of_ble_eq_true rfl, Nat.le_of_ble_eq_true rfl⟩ (c_X11_makeMoved (c := C xi.toNat) (s := S xi.toNat) (r := xi.toNat) (k := K xi.toNat)  (xi := xi) (ddi := di) hm0 hN hom hml hms h130 h138 h139 h140 h141 h142 (hMR xi.toNat (by omega)).1 (by omega) (by omega) (hMR xi.toNat (by omega)).2  (by omega) (by omega) (fun b240 h2 hX => ?_))
                  show G _ _ _ _ _ _ _ 243 _ _ _
                  have hc9 : 0 ≤ ti ∧ ti ≤ 5 ∧ 0 ≤ wi ∧ wi ≤ 7 ∧ 0 ≤ xi ∧ xi ≤ 5 ∧ (wi ≤ 3 → 0 ≤ yi ∧ yi ≤ 5) ∧ (wi = 4 → 2 ≤ di ∧ di ≤ 6) ∧ (wi = 6 → 0 ≤ di ∧ di ≤ 1000) ∧ (wi = 7 → -1000 ≤ di ∧ di ≤ 1000) := ⟨by omega, by omega, by omega, by omega, by omega, by omega, fun _ => by omega, fun _ => by omega, fun _ => by omega, fun _ => by omega⟩
                  obtain ⟨y2, hy6, hya, hyb, hcs⟩ := (hsp.resolve_left (fun w => w.1 hc9)).2
                  obtain rfl : y2 = xi.toNat := hyb (by omega)
                  obtain rfl : wi = 6 := by omega
                  obtain ⟨hko, em2, om2, ml2, ms2, y130, y138, y139, y140, y141, y142, q124, q125, q126, q127, q130, q138, q139, q140, q141, q142, lo1, lo2, lo3, hdj⟩ := hX
                  refine r_istore (L2 := [_, _, _, _, _, _, _, _]) dX11_make_243 (nlt rfl) rfl ?_
                  refine r_goto 257 dX11_make_245 (by decide) ?_
                  refine r_iload dX11_make_257 rfl ?_
                  refine r_if_ne 265 dX11_make_259 (by decide) (by rcases hdj with ⟨y, _⟩ | ⟨y, _⟩ <;> exact ⟨by omega, by omega⟩) (fun c_259 => ?_) (fun c_259 => ?_)
                  · refine r_aload_n dX11_make_265 rfl rfl ?_
                    refine r_iload_n dX11_make_266 rfl rfl ?_
                    refine r_callV (av := [.int (iZ (ti))]) dX11_make_267 lkX11_keep ml_X11_130 imX11_keep seX11_keep (by omega) (rfl : vwCl[11]? = _) ⟨_, q124⟩ ⟨Nat.le_of_ble_eq_true rfl, Nat.le_of_ble_eq_true rfl⟩ rfl rfl (nle rfl) ⟨Nat.le_of_ble_eq_true rfl, Nat.le_of_ble_eq_true rfl⟩ (c_X11_keep (i := ti.toNat) (om := om2) (ml := ml2) (ms := ms2) (ln := (ln : Int)) (pr := p) (nm := (sz : Int)) (at_ := at_) (wr := wr) (va := va) (em := em2) (ta := ta) (ro := ro) (dg := dg) q124 hN q125 q126 q127 (by omega) (by omega) ?_)
                    show G _ _ _ _ _ _ _ 270 _ _ _
                    refine r_aload_n dX11_make_270 rfl rfl ?_
                    refine gf_X11_7 dX11_make_271 (by omega) ((hs_n (by omega)).trans ((hs_n (by omega)).trans ((hs_n (by omega)).trans q124))) rfl ?_
                    refine r_iload_n dX11_make_274 rfl rfl ?_
                    refine r_iaload dX11_make_275 (by omega) ((hs_n (by omega)).trans ((hs_n (by omega)).trans hs_e)) (by omega) (by omega) (by decide) ?_
                    refine r_ireturn hq dX11_make_276 rfl rfl rfl ?_
                    rcases hcs with ⟨n1, _⟩ | ⟨a1, a2, c3, s3, hc3, hs3, e1, e2, e3, e4⟩
                    · rcases hdj with ⟨y, _⟩ | ⟨_, y1, _⟩
                      · exact absurd y (by omega)
                      · exact absurd y1 n1
                    · obtain ⟨h41, h42, h43⟩ : om2 6 = _ ∧ _ ∧ _ := (hdj.resolve_left (fun w => w.2 ⟨a1, a2⟩)).2.2
                      subst e1; subst e2; subst e3; subst e4
                      have hRB2 := hRB ti.toNat (by omega)
                      rw [upK_e, upK_e, upK_e] at hRB2
                      rw [show ((uA om2 ti.toNat (om2 6)) (ti).toNat) = _ from uA_e.trans h41]
                      refine hQ _ ⟨_, _, _, _, _, _, _, _, _, _, _, _, _, _, _, _, _, _, _, _, _, _, _, _, _, _, ((hs_n (by omega)).trans ((hs_n (by omega)).trans ((hs_n (by omega)).trans q124))), ((hs_n (by omega)).trans ((hs_n (by omega)).trans hs_e)), ((hs_n (by omega)).trans hs_e), hs_e, ((hs_n (by omega)).trans ((hs_n (by omega)).trans ((hs_n (by omega)).trans ((hko 128 (by omega)).trans hbt)))), ((hs_n (by omega)).trans ((hs_n (by omega)).trans ((hs_n (by omega)).trans ((hko 129 (by omega)).trans hnv)))), ((hs_n (by omega)).trans ((hs_n (by omega)).trans ((hs_n (by omega)).trans q130))), ((hs_n (by omega)).trans ((hs_n (by omega)).trans ((hs_n (by omega)).trans ((hko 131 (by omega)).trans h131)))), ((hs_n (by omega)).trans ((hs_n (by omega)).trans ((hs_n (by omega)).trans ((hko 132 (by omega)).trans h132)))), ((hs_n (by omega)).trans ((hs_n (by omega)).trans ((hs_n (by omega)).trans ((hko 133 (by omega)).trans h133)))), ((hs_n (by omega)).trans ((hs_n (by omega)).trans ((hs_n (by omega)).trans ((hko 134 (by omega)).trans h134)))), ((hs_n (by omega)).trans ((hs_n (by omega)).trans ((hs_n (by omega)).trans ((hko 135 (by omega)).trans h135)))), ((hs_n (by omega)).trans ((hs_n (by omega)).trans ((hs_n (by omega)).trans ((hko 136 (by omega)).trans h136)))), ((hs_n (by omega)).trans ((hs_n (by omega)).trans ((hs_n (by omega)).trans ((hko 137 (by omega)).trans h137)))), ((hs_n (by omega)).trans ((hs_n (by omega)).trans ((hs_n (by omega)).trans q138))), ((hs_n (by omega)).trans ((hs_n (by omega)).trans ((hs_n (by omega)).trans q139))), ((hs_n (by omega)).trans ((hs_n (by omega)).trans ((hs_n (by omega)).trans q140))), ((hs_n (by omega)).trans ((hs_n (by omega)).trans ((hs_n (by omega)).trans q141))), ((hs_n (by omega)).trans ((hs_n (by omega)).trans ((hs_n (by omega)).trans q142))), ((hs_n (by omega)).trans ((hs_n (by omega)).trans ((hs_n (by omega)).trans ((hko 143 (by omega)).trans h143)))), ((hs_n (by omega)).trans ((hs_n (by omega)).trans ((hs_n (by omega)).trans ((hko 144 (by omega)).trans h144)))), ((hs_n (by omega)).trans ((hs_n (by omega)).trans ((hs_n (by omega)).trans ((hko 145 (by omega)).trans h145)))), (fun i9 hi9 => ?_), hlN, hbb, hPr, hs40, hvb⟩ (fun a9 h9 => (((hs_n (by omega)).trans ((hs_n (by omega)).trans ((hs_n (by omega)).trans rfl)))).trans (hko a9 (Or.inl h9)))
                      by_cases z : i9 = ti.toNat
                      · rw [z, upK_e, upK_e, upK_e]
                        refine ⟨⟨uA_e.trans h41, hRB2.1, hRB2.2.1, fun j a b => ⟨?_, hRB2.2.2.1 j (by have := hRB2.2.1; omega)⟩, fun j a => ⟨?_, hRB2.2.2.2.1 j (by have := hRB2.2.1; omega)⟩⟩, hRB2.2.2.2.2⟩
                        · have := hRB2.2.1
                          unfold kpF
                          rw [if_pos ⟨by omega, by omega⟩, hc3 j a b, ← h42 j a b]
                          congr 1; omega
                        · have := hRB2.2.1
                          unfold kpF
                          rw [if_pos ⟨by omega, by omega⟩, hs3 j a, ← h43 j a]
                          congr 1; omega
                      · rw [upK_n z, upK_n z, upK_n z]
                        have hM9 := hMR i9 hi9
                        have h6 := hM9.1.2.2.1
                        refine ⟨⟨by rw [uA_n z, lo1 i9 hi9]; exact hM9.1.1, hM9.1.2.1, h6, fun j a b => ⟨?_, (hM9.1.2.2.2.1 j a b).2⟩, fun j a => ⟨?_, (hM9.1.2.2.2.2 j a).2⟩⟩, hM9.2⟩
                        · unfold kpF
                          rw [if_neg (by omega), lo2 _ (by omega)]; exact (hM9.1.2.2.2.1 j a b).1
                        · unfold kpF
                          rw [if_neg (by omega), lo3 _ (by omega)]; exact (hM9.1.2.2.2.2 j a).1
                  · refine r_bipush (z := -3) dX11_make_262 (by decide) ?_
                    refine r_ireturn hq dX11_make_264 rfl rfl rfl ?_
                    rcases hcs with ⟨_, e1, e2, e3, e4⟩ | ⟨a1, a2, _⟩
                    · subst e1; subst e2; subst e3; subst e4
                      exact hQ _ ⟨_, _, _, _, _, _, _, _, _, _, _, _, _, _, _, _, _, _, _, _, _, _, _, _, _, _, q124, q125, q126, q127, ((hko 128 (by omega)).trans hbt), ((hko 129 (by omega)).trans hnv), q130, ((hko 131 (by omega)).trans h131), ((hko 132 (by omega)).trans h132), ((hko 133 (by omega)).trans h133), ((hko 134 (by omega)).trans h134), ((hko 135 (by omega)).trans h135), ((hko 136 (by omega)).trans h136), ((hko 137 (by omega)).trans h137), q138, q139, q140, q141, q142, ((hko 143 (by omega)).trans h143), ((hko 144 (by omega)).trans h144), ((hko 145 (by omega)).trans h145), (hMR.hi lo1 lo2 lo3), hlN, hbb, hPr, hs40, hvb⟩ (fun a9 h9 => hko a9 (Or.inl h9))
                    · rcases hdj with ⟨_, y⟩ | ⟨y, _⟩
                      · exact absurd ⟨a1, a2⟩ y
                      · exact absurd y (by omega)
          · refine r_iload dX11_make_56 rfl ?_
            refine r_i2l dX11_make_58 ⟨by omega, by omega⟩ ?_
            refine r_ldc2 (z := 2) dX11_make_59 kc_X11_134 ?_
            refine r_ldc2 (z := 6) dX11_make_62 kc_X11_258 ?_
            refine r_callS (av := [.long (lZ (di)), .long (lZ (2)), .long (lZ (6))]) dX11_make_65 lkX11_in ml_X11_80 stX11_in ⟨Nat.le_of_ble_eq_true rfl, Nat.le_of_ble_eq_true rfl⟩ rfl rfl (nle rfl) ⟨Nat.le_of_ble_eq_true rfl, Nat.le_of_ble_eq_true rfl⟩ (c_X11_in (x := di) (l := 2) (m := 6) ⟨by omega, by omega⟩ ⟨by decide, by decide⟩ ⟨by decide, by decide⟩ (fun b65 hb65 => ?_))
            show G _ _ _ _ _ _ _ 68 _ _ _
            refine r_if_eq 115 dX11_make_68 (by decide) (by rcases hb65 with ⟨y, _⟩ | ⟨y, _⟩ <;> exact ⟨by omega, by omega⟩) (fun c_68 => ?_) (fun c_68 => ?_)
            · refine r_iconst (z := 0) dX11_make_115 ?_
              refine r_istore (L2 := [_, _, _, _, _, _, _, none]) dX11_make_116 (nlt rfl) rfl ?_
              refine r_iload dX11_make_118 rfl ?_
              refine r_if_ne 125 dX11_make_120 (by decide) ⟨by decide, by decide⟩ (fun c_120 => by exfalso; omega) (fun c_120 => ?_)
              refine r_iconst (z := -1) dX11_make_123 ?_
              refine r_ireturn hq dX11_make_124 rfl rfl rfl ?_
              rcases hsp with ⟨_, e1, e2, e3, e4⟩ | ⟨w9, _⟩
              · subst e1; subst e2; subst e3; subst e4
                exact hQ h hI (fun _ _ => rfl)
              · exfalso; omega
            · refine r_iload_n dX11_make_71 rfl rfl ?_
              refine r_bipush (z := 6) dX11_make_72 (by decide) ?_
              refine r_icmp_ne 90 dX11_make_74 (by decide) ⟨by omega, by omega⟩ ⟨by decide, by decide⟩ (fun c_74 => ?_) (fun c_74 => by exfalso; omega)
              refine r_iload_n dX11_make_90 rfl rfl ?_
              refine r_bipush (z := 7) dX11_make_91 (by decide) ?_
              refine r_icmp_ne 111 dX11_make_93 (by decide) ⟨by omega, by omega⟩ ⟨by decide, by decide⟩ (fun c_93 => ?_) (fun c_93 => by exfalso; omega)
              refine r_iconst (z := 1) dX11_make_111 ?_
              refine r_goto 116 dX11_make_112 (by decide) ?_
              refine r_istore (L2 := [_, _, _, _, _, _, _, none]) dX11_make_116 (nlt rfl) rfl ?_
              refine r_iload dX11_make_118 rfl ?_
              refine r_if_ne 125 dX11_make_120 (by decide) ⟨by decide, by decide⟩ (fun c_120 => ?_) (fun c_120 => by exfalso; omega)
              refine r_iload_n dX11_make_125 rfl rfl ?_
              rcases (show wi < 0 ∨ 6 < wi ∨ wi = 0 ∨ wi = 1 ∨ wi = 2 ∨ wi = 3 ∨ wi = 4 ∨ wi = 5 ∨ wi = 6 by omega) with hs_126 | hs_126 | hs_126 | hs_126 | hs_126 | hs_126 | hs_126 | hs_126 | hs_126
              · exfalso; omega
              · exfalso; omega
              · exfalso; omega
              · exfalso; omega
              · exfalso; omega
              · exfalso; omega
              · refine r_tabIn (off := 88) 214 dX11_make_126 ⟨by omega, by omega⟩ (by omega) (by omega) (by rw [hs_126]; rfl) (by decide) ?_
                refine r_aload_n dX11_make_214 rfl rfl ?_
                refine r_iload_n dX11_make_215 rfl rfl ?_
                refine r_iload dX11_make_216 rfl ?_
                refine r_callV (av := [.int (iZ (xi)), .int (iZ (di))]) dX11_make_218 lkX11_makeEach ml_X11_272 imX11_makeEach seX11_makeEach (by omega) (rfl : vwCl[11]? = _) ⟨_, hm0⟩ ⟨Nat.le_of_ble_eq_true rfl, Nat.le_of_ble_eq_true rfl⟩ rfl rfl (nle rfl) ⟨Nat.le_of_ble_eq_true rfl, Nat.le_of_ble_eq_true rfl⟩ (c_X11_makeEach (c := C xi.toNat) (s := S xi.toNat) (r := xi.toNat) (k := K xi.toNat)  (xi := xi) (ddi := di) hm0 hN hom hml hms h130 h138 h139 h140 h141 h142 (hMR xi.toNat (by omega)).1 (by omega) (by omega) (hMR xi.toNat (by omega)).2  (by omega) (by omega) (fun b218 h2 hX => ?_))
                show G _ _ _ _ _ _ _ 221 _ _ _
                have hc9 : 0 ≤ ti ∧ ti ≤ 5 ∧ 0 ≤ wi ∧ wi ≤ 7 ∧ 0 ≤ xi ∧ xi ≤ 5 ∧ (wi ≤ 3 → 0 ≤ yi ∧ yi ≤ 5) ∧ (wi = 4 → 2 ≤ di ∧ di ≤ 6) ∧ (wi = 6 → 0 ≤ di ∧ di ≤ 1000) ∧ (wi = 7 → -1000 ≤ di ∧ di ≤ 1000) := ⟨by omega, by omega, by omega, by omega, by omega, by omega, fun _ => by omega, fun _ => by omega, fun _ => by omega, fun _ => by omega⟩
                obtain ⟨y2, hy6, hya, hyb, hcs⟩ := (hsp.resolve_left (fun w => w.1 hc9)).2
                obtain rfl : y2 = xi.toNat := hyb (by omega)
                obtain rfl : wi = 4 := by omega
                obtain ⟨hko, em2, om2, ml2, ms2, y130, y138, y139, y140, y141, y142, q124, q125, q126, q127, q130, q138, q139, q140, q141, q142, lo1, lo2, lo3, hdj⟩ := hX
                refine r_istore (L2 := [_, _, _, _, _, _, _, _]) dX11_make_221 (nlt rfl) rfl ?_
                refine r_goto 257 dX11_make_223 (by decide) ?_
                refine r_iload dX11_make_257 rfl ?_
                refine r_if_ne 265 dX11_make_259 (by decide) (by rcases hdj with ⟨y, _⟩ | ⟨y, _⟩ <;> exact ⟨by omega, by omega⟩) (fun c_259 => ?_) (fun c_259 => ?_)
                · refine r_aload_n dX11_make_265 rfl rfl ?_
                  refine r_iload_n dX11_make_266 rfl rfl ?_
                  refine r_callV (av := [.int (iZ (ti))]) dX11_make_267 lkX11_keep ml_X11_130 imX11_keep seX11_keep (by omega) (rfl : vwCl[11]? = _) ⟨_, q124⟩ ⟨Nat.le_of_ble_eq_true rfl, Nat.le_of_ble_eq_true rfl⟩ rfl rfl (nle rfl) ⟨Nat.le_of_ble_eq_true rfl, Nat.le_of_ble_eq_true rfl⟩ (c_X11_keep (i := ti.toNat) (om := om2) (ml := ml2) (ms := ms2) (ln := (ln : Int)) (pr := p) (nm := (sz : Int)) (at_ := at_) (wr := wr) (va := va) (em := em2) (ta := ta) (ro := ro) (dg := dg) q124 hN q125 q126 q127 (by omega) (by omega) ?_)
                  show G _ _ _ _ _ _ _ 270 _ _ _
                  refine r_aload_n dX11_make_270 rfl rfl ?_
                  refine gf_X11_7 dX11_make_271 (by omega) ((hs_n (by omega)).trans ((hs_n (by omega)).trans ((hs_n (by omega)).trans q124))) rfl ?_
                  refine r_iload_n dX11_make_274 rfl rfl ?_
                  refine r_iaload dX11_make_275 (by omega) ((hs_n (by omega)).trans ((hs_n (by omega)).trans hs_e)) (by omega) (by omega) (by decide) ?_
                  refine r_ireturn hq dX11_make_276 rfl rfl rfl ?_
                  rcases hcs with ⟨n1, _⟩ | ⟨a1, a2, c3, s3, hc3, hs3, e1, e2, e3, e4⟩
                  · rcases hdj with ⟨y, _⟩ | ⟨_, y1, _⟩
                    · exact absurd y (by omega)
                    · exact absurd y1 n1
                  · obtain ⟨h41, h42, h43⟩ : om2 6 = _ ∧ _ ∧ _ := (hdj.resolve_left (fun w => w.2 ⟨a1, a2⟩)).2.2
                    subst e1; subst e2; subst e3; subst e4
                    have hRB2 := hRB ti.toNat (by omega)
                    rw [upK_e, upK_e, upK_e] at hRB2
                    rw [show ((uA om2 ti.toNat (om2 6)) (ti).toNat) = _ from uA_e.trans h41]
                    refine hQ _ ⟨_, _, _, _, _, _, _, _, _, _, _, _, _, _, _, _, _, _, _, _, _, _, _, _, _, _, ((hs_n (by omega)).trans ((hs_n (by omega)).trans ((hs_n (by omega)).trans q124))), ((hs_n (by omega)).trans ((hs_n (by omega)).trans hs_e)), ((hs_n (by omega)).trans hs_e), hs_e, ((hs_n (by omega)).trans ((hs_n (by omega)).trans ((hs_n (by omega)).trans ((hko 128 (by omega)).trans hbt)))), ((hs_n (by omega)).trans ((hs_n (by omega)).trans ((hs_n (by omega)).trans ((hko 129 (by omega)).trans hnv)))), ((hs_n (by omega)).trans ((hs_n (by omega)).trans ((hs_n (by omega)).trans q130))), ((hs_n (by omega)).trans ((hs_n (by omega)).trans ((hs_n (by omega)).trans ((hko 131 (by omega)).trans h131)))), ((hs_n (by omega)).trans ((hs_n (by omega)).trans ((hs_n (by omega)).trans ((hko 132 (by omega)).trans h132)))), ((hs_n (by omega)).trans ((hs_n (by omega)).trans ((hs_n (by omega)).trans ((hko 133 (by omega)).trans h133)))), ((hs_n (by omega)).trans ((hs_n (by omega)).trans ((hs_n (by omega)).trans ((hko 134 (by omega)).trans h134)))), ((hs_n (by omega)).trans ((hs_n (by omega)).trans ((hs_n (by omega)).trans ((hko 135 (by omega)).trans h135)))), ((hs_n (by omega)).trans ((hs_n (by omega)).trans ((hs_n (by omega)).trans ((hko 136 (by omega)).trans h136)))), ((hs_n (by omega)).trans ((hs_n (by omega)).trans ((hs_n (by omega)).trans ((hko 137 (by omega)).trans h137)))), ((hs_n (by omega)).trans ((hs_n (by omega)).trans ((hs_n (by omega)).trans q138))), ((hs_n (by omega)).trans ((hs_n (by omega)).trans ((hs_n (by omega)).trans q139))), ((hs_n (by omega)).trans ((hs_n (by omega)).trans ((hs_n (by omega)).trans q140))), ((hs_n (by omega)).trans ((hs_n (by omega)).trans ((hs_n (by omega)).trans q141))), ((hs_n (by omega)).trans ((hs_n (by omega)).trans ((hs_n (by omega)).trans q142))), ((hs_n (by omega)).trans ((hs_n (by omega)).trans ((hs_n (by omega)).trans ((hko 143 (by omega)).trans h143)))), ((hs_n (by omega)).trans ((hs_n (by omega)).trans ((hs_n (by omega)).trans ((hko 144 (by omega)).trans h144)))), ((hs_n (by omega)).trans ((hs_n (by omega)).trans ((hs_n (by omega)).trans ((hko 145 (by omega)).trans h145)))), (fun i9 hi9 => ?_), hlN, hbb, hPr, hs40, hvb⟩ (fun a9 h9 => (((hs_n (by omega)).trans ((hs_n (by omega)).trans ((hs_n (by omega)).trans rfl)))).trans (hko a9 (Or.inl h9)))
                    by_cases z : i9 = ti.toNat
                    · rw [z, upK_e, upK_e, upK_e]
                      refine ⟨⟨uA_e.trans h41, hRB2.1, hRB2.2.1, fun j a b => ⟨?_, hRB2.2.2.1 j (by have := hRB2.2.1; omega)⟩, fun j a => ⟨?_, hRB2.2.2.2.1 j (by have := hRB2.2.1; omega)⟩⟩, hRB2.2.2.2.2⟩
                      · have := hRB2.2.1
                        unfold kpF
                        rw [if_pos ⟨by omega, by omega⟩, hc3 j a b, ← h42 j a b]
                        congr 1; omega
                      · have := hRB2.2.1
                        unfold kpF
                        rw [if_pos ⟨by omega, by omega⟩, hs3 j a, ← h43 j a]
                        congr 1; omega
                    · rw [upK_n z, upK_n z, upK_n z]
                      have hM9 := hMR i9 hi9
                      have h6 := hM9.1.2.2.1
                      refine ⟨⟨by rw [uA_n z, lo1 i9 hi9]; exact hM9.1.1, hM9.1.2.1, h6, fun j a b => ⟨?_, (hM9.1.2.2.2.1 j a b).2⟩, fun j a => ⟨?_, (hM9.1.2.2.2.2 j a).2⟩⟩, hM9.2⟩
                      · unfold kpF
                        rw [if_neg (by omega), lo2 _ (by omega)]; exact (hM9.1.2.2.2.1 j a b).1
                      · unfold kpF
                        rw [if_neg (by omega), lo3 _ (by omega)]; exact (hM9.1.2.2.2.2 j a).1
                · refine r_bipush (z := -3) dX11_make_262 (by decide) ?_
                  refine r_ireturn hq dX11_make_264 rfl rfl rfl ?_
                  rcases hcs with ⟨_, e1, e2, e3, e4⟩ | ⟨a1, a2, _⟩
                  · subst e1; subst e2; subst e3; subst e4
                    exact hQ _ ⟨_, _, _, _, _, _, _, _, _, _, _, _, _, _, _, _, _, _, _, _, _, _, _, _, _, _, q124, q125, q126, q127, ((hko 128 (by omega)).trans hbt), ((hko 129 (by omega)).trans hnv), q130, ((hko 131 (by omega)).trans h131), ((hko 132 (by omega)).trans h132), ((hko 133 (by omega)).trans h133), ((hko 134 (by omega)).trans h134), ((hko 135 (by omega)).trans h135), ((hko 136 (by omega)).trans h136), ((hko 137 (by omega)).trans h137), q138, q139, q140, q141, q142, ((hko 143 (by omega)).trans h143), ((hko 144 (by omega)).trans h144), ((hko 145 (by omega)).trans h145), (hMR.hi lo1 lo2 lo3), hlN, hbb, hPr, hs40, hvb⟩ (fun a9 h9 => hko a9 (Or.inl h9))
                  · rcases hdj with ⟨_, y⟩ | ⟨y, _⟩
                    · exact absurd ⟨a1, a2⟩ y
                    · exact absurd y (by omega)
              · exfalso; omega
              · exfalso; omega
        · refine r_iload dX11_make_31 rfl ?_
          refine r_callS (av := [.int (iZ (yi))]) dX11_make_33 lkX11_isReg ml_X11_127 stX11_isReg ⟨Nat.le_of_ble_eq_true rfl, Nat.le_of_ble_eq_true rfl⟩ rfl rfl (nle rfl) ⟨Nat.le_of_ble_eq_true rfl, Nat.le_of_ble_eq_true rfl⟩ (c_X11_isReg (x := yi) hyi (fun b33 hb33 => ?_))
          show G _ _ _ _ _ _ _ 36 _ _ _
          refine r_if_eq 43 dX11_make_36 (by decide) (by rcases hb33 with ⟨y, _⟩ | ⟨y, _⟩ <;> exact ⟨by omega, by omega⟩) (fun c_36 => ?_) (fun c_36 => ?_)
          · refine r_iconst (z := 0) dX11_make_43 ?_
            refine r_istore (L2 := [_, _, _, _, _, _, _, none]) dX11_make_44 (nlt rfl) rfl ?_
            refine r_iload dX11_make_46 rfl ?_
            refine r_if_eq 115 dX11_make_48 (by decide) ⟨by decide, by decide⟩ (fun c_48 => ?_) (fun c_48 => by exfalso; omega)
            refine r_iconst (z := 0) dX11_make_115 ?_
            refine r_istore (L2 := [_, _, _, _, _, _, _, none]) dX11_make_116 (nlt rfl) rfl ?_
            refine r_iload dX11_make_118 rfl ?_
            refine r_if_ne 125 dX11_make_120 (by decide) ⟨by decide, by decide⟩ (fun c_120 => by exfalso; omega) (fun c_120 => ?_)
            refine r_iconst (z := -1) dX11_make_123 ?_
            refine r_ireturn hq dX11_make_124 rfl rfl rfl ?_
            rcases hsp with ⟨_, e1, e2, e3, e4⟩ | ⟨w9, _⟩
            · subst e1; subst e2; subst e3; subst e4
              exact hQ h hI (fun _ _ => rfl)
            · exfalso; omega
          · refine r_iconst (z := 1) dX11_make_39 ?_
            refine r_goto 44 dX11_make_40 (by decide) ?_
            refine r_istore (L2 := [_, _, _, _, _, _, _, none]) dX11_make_44 (nlt rfl) rfl ?_
            refine r_iload dX11_make_46 rfl ?_
            refine r_if_eq 115 dX11_make_48 (by decide) ⟨by decide, by decide⟩ (fun c_48 => by exfalso; omega) (fun c_48 => ?_)
            refine r_iload_n dX11_make_51 rfl rfl ?_
            refine r_iconst (z := 4) dX11_make_52 ?_
            refine r_icmp_ne 71 dX11_make_53 (by decide) ⟨by omega, by omega⟩ ⟨by decide, by decide⟩ (fun c_53 => ?_) (fun c_53 => by exfalso; omega)
            refine r_iload_n dX11_make_71 rfl rfl ?_
            refine r_bipush (z := 6) dX11_make_72 (by decide) ?_
            refine r_icmp_ne 90 dX11_make_74 (by decide) ⟨by omega, by omega⟩ ⟨by decide, by decide⟩ (fun c_74 => ?_) (fun c_74 => by exfalso; omega)
            refine r_iload_n dX11_make_90 rfl rfl ?_
            refine r_bipush (z := 7) dX11_make_91 (by decide) ?_
            refine r_icmp_ne 111 dX11_make_93 (by decide) ⟨by omega, by omega⟩ ⟨by decide, by decide⟩ (fun c_93 => ?_) (fun c_93 => by exfalso; omega)
            refine r_iconst (z := 1) dX11_make_111 ?_
            refine r_goto 116 dX11_make_112 (by decide) ?_
            refine r_istore (L2 := [_, _, _, _, _, _, _, none]) dX11_make_116 (nlt rfl) rfl ?_
            refine r_iload dX11_make_118 rfl ?_
            refine r_if_ne 125 dX11_make_120 (by decide) ⟨by decide, by decide⟩ (fun c_120 => ?_) (fun c_120 => by exfalso; omega)
            refine r_iload_n dX11_make_125 rfl rfl ?_
            rcases (show wi < 0 ∨ 6 < wi ∨ wi = 0 ∨ wi = 1 ∨ wi = 2 ∨ wi = 3 ∨ wi = 4 ∨ wi = 5 ∨ wi = 6 by omega) with hs_126 | hs_126 | hs_126 | hs_126 | hs_126 | hs_126 | hs_126 | hs_126 | hs_126
            · exfalso; omega
            · exfalso; omega
            · refine r_tabIn (off := 42) 168 dX11_make_126 ⟨by omega, by omega⟩ (by omega) (by omega) (by rw [hs_126]; rfl) (by decide) ?_
              refine r_aload_n dX11_make_168 rfl rfl ?_
              refine r_iload_n dX11_make_169 rfl rfl ?_
              refine r_iload dX11_make_170 rfl ?_
              refine r_iload_n dX11_make_172 rfl rfl ?_
              refine r_iconst (z := 1) dX11_make_173 ?_
              refine r_icmp_ne 181 dX11_make_174 (by decide) ⟨by omega, by omega⟩ ⟨by decide, by decide⟩ (fun c_174 => ?_) (fun c_174 => ?_)
              · refine r_iconst (z := 0) dX11_make_181 ?_
                refine r_callV (av := [.int (iZ (xi)), .int (iZ (yi)), .int (iZ (0))]) dX11_make_182 lkX11_makeSum ml_X11_262 imX11_makeSum seX11_makeSum (by omega) (rfl : vwCl[11]? = _) ⟨_, hm0⟩ ⟨Nat.le_of_ble_eq_true rfl, Nat.le_of_ble_eq_true rfl⟩ rfl rfl (nle rfl) ⟨Nat.le_of_ble_eq_true rfl, Nat.le_of_ble_eq_true rfl⟩ (c_X11_makeSum (c := C xi.toNat) (s := S xi.toNat) (r := xi.toNat) (k := K xi.toNat) (d := C yi.toNat) (t := S yi.toNat) (r2 := yi.toNat) (l := K yi.toNat) (yi := yi) (xi := xi) (ddi := di) hm0 hN hom hml hms h130 h138 h139 h140 h141 h142 (hMR xi.toNat (by omega)).1 (by omega) (by omega) (hMR xi.toNat (by omega)).2 (hMR yi.toNat (by omega)).1 (by omega) (by omega) (hMR yi.toNat (by omega)).2 (show ((0 : Int) = 0 ∧ wi = 0) ∨ ((0 : Int) = 1 ∧ wi = 1) by omega) (fun b182 h2 hX => ?_))
                show G _ _ _ _ _ _ _ 185 _ _ _
                have hc9 : 0 ≤ ti ∧ ti ≤ 5 ∧ 0 ≤ wi ∧ wi ≤ 7 ∧ 0 ≤ xi ∧ xi ≤ 5 ∧ (wi ≤ 3 → 0 ≤ yi ∧ yi ≤ 5) ∧ (wi = 4 → 2 ≤ di ∧ di ≤ 6) ∧ (wi = 6 → 0 ≤ di ∧ di ≤ 1000) ∧ (wi = 7 → -1000 ≤ di ∧ di ≤ 1000) := ⟨by omega, by omega, by omega, by omega, by omega, by omega, fun _ => by omega, fun _ => by omega, fun _ => by omega, fun _ => by omega⟩
                obtain ⟨y2, hy6, hya, hyb, hcs⟩ := (hsp.resolve_left (fun w => w.1 hc9)).2
                obtain rfl : y2 = yi.toNat := hya (by omega)
                obtain ⟨hko, em2, om2, ml2, ms2, y130, y138, y139, y140, y141, y142, q124, q125, q126, q127, q130, q138, q139, q140, q141, q142, lo1, lo2, lo3, hdj⟩ := hX
                refine r_istore (L2 := [_, _, _, _, _, _, _, _]) dX11_make_185 (nlt rfl) rfl ?_
                refine r_goto 257 dX11_make_187 (by decide) ?_
                refine r_iload dX11_make_257 rfl ?_
                refine r_if_ne 265 dX11_make_259 (by decide) (by rcases hdj with ⟨y, _⟩ | ⟨y, _⟩ <;> exact ⟨by omega, by omega⟩) (fun c_259 => ?_) (fun c_259 => ?_)
                · refine r_aload_n dX11_make_265 rfl rfl ?_
                  refine r_iload_n dX11_make_266 rfl rfl ?_
                  refine r_callV (av := [.int (iZ (ti))]) dX11_make_267 lkX11_keep ml_X11_130 imX11_keep seX11_keep (by omega) (rfl : vwCl[11]? = _) ⟨_, q124⟩ ⟨Nat.le_of_ble_eq_true rfl, Nat.le_of_ble_eq_true rfl⟩ rfl rfl (nle rfl) ⟨Nat.le_of_ble_eq_true rfl, Nat.le_of_ble_eq_true rfl⟩ (c_X11_keep (i := ti.toNat) (om := om2) (ml := ml2) (ms := ms2) (ln := (ln : Int)) (pr := p) (nm := (sz : Int)) (at_ := at_) (wr := wr) (va := va) (em := em2) (ta := ta) (ro := ro) (dg := dg) q124 hN q125 q126 q127 (by omega) (by omega) ?_)
                  show G _ _ _ _ _ _ _ 270 _ _ _
                  refine r_aload_n dX11_make_270 rfl rfl ?_
                  refine gf_X11_7 dX11_make_271 (by omega) ((hs_n (by omega)).trans ((hs_n (by omega)).trans ((hs_n (by omega)).trans q124))) rfl ?_
                  refine r_iload_n dX11_make_274 rfl rfl ?_
                  refine r_iaload dX11_make_275 (by omega) ((hs_n (by omega)).trans ((hs_n (by omega)).trans hs_e)) (by omega) (by omega) (by decide) ?_
                  refine r_ireturn hq dX11_make_276 rfl rfl rfl ?_
                  rcases hcs with ⟨n1, _⟩ | ⟨a1, a2, c3, s3, hc3, hs3, e1, e2, e3, e4⟩
                  · rcases hdj with ⟨y, _⟩ | ⟨_, y1, _⟩
                    · exact absurd y (by omega)
                    · exact absurd y1 n1
                  · obtain ⟨h41, h42, h43⟩ : om2 6 = _ ∧ _ ∧ _ := (hdj.resolve_left (fun w => w.2 ⟨a1, a2⟩)).2.2
                    subst e1; subst e2; subst e3; subst e4
                    have hRB2 := hRB ti.toNat (by omega)
                    rw [upK_e, upK_e, upK_e] at hRB2
                    rw [show ((uA om2 ti.toNat (om2 6)) (ti).toNat) = _ from uA_e.trans h41]
                    refine hQ _ ⟨_, _, _, _, _, _, _, _, _, _, _, _, _, _, _, _, _, _, _, _, _, _, _, _, _, _, ((hs_n (by omega)).trans ((hs_n (by omega)).trans ((hs_n (by omega)).trans q124))), ((hs_n (by omega)).trans ((hs_n (by omega)).trans hs_e)), ((hs_n (by omega)).trans hs_e), hs_e, ((hs_n (by omega)).trans ((hs_n (by omega)).trans ((hs_n (by omega)).trans ((hko 128 (by omega)).trans hbt)))), ((hs_n (by omega)).trans ((hs_n (by omega)).trans ((hs_n (by omega)).trans ((hko 129 (by omega)).trans hnv)))), ((hs_n (by omega)).trans ((hs_n (by omega)).trans ((hs_n (by omega)).trans q130))), ((hs_n (by omega)).trans ((hs_n (by omega)).trans ((hs_n (by omega)).trans ((hko 131 (by omega)).trans h131)))), ((hs_n (by omega)).trans ((hs_n (by omega)).trans ((hs_n (by omega)).trans ((hko 132 (by omega)).trans h132)))), ((hs_n (by omega)).trans ((hs_n (by omega)).trans ((hs_n (by omega)).trans ((hko 133 (by omega)).trans h133)))), ((hs_n (by omega)).trans ((hs_n (by omega)).trans ((hs_n (by omega)).trans ((hko 134 (by omega)).trans h134)))), ((hs_n (by omega)).trans ((hs_n (by omega)).trans ((hs_n (by omega)).trans ((hko 135 (by omega)).trans h135)))), ((hs_n (by omega)).trans ((hs_n (by omega)).trans ((hs_n (by omega)).trans ((hko 136 (by omega)).trans h136)))), ((hs_n (by omega)).trans ((hs_n (by omega)).trans ((hs_n (by omega)).trans ((hko 137 (by omega)).trans h137)))), ((hs_n (by omega)).trans ((hs_n (by omega)).trans ((hs_n (by omega)).trans q138))), ((hs_n (by omega)).trans ((hs_n (by omega)).trans ((hs_n (by omega)).trans q139))), ((hs_n (by omega)).trans ((hs_n (by omega)).trans ((hs_n (by omega)).trans q140))), ((hs_n (by omega)).trans ((hs_n (by omega)).trans ((hs_n (by omega)).trans q141))), ((hs_n (by omega)).trans ((hs_n (by omega)).trans ((hs_n (by omega)).trans q142))), ((hs_n (by omega)).trans ((hs_n (by omega)).trans ((hs_n (by omega)).trans ((hko 143 (by omega)).trans h143)))), ((hs_n (by omega)).trans ((hs_n (by omega)).trans ((hs_n (by omega)).trans ((hko 144 (by omega)).trans h144)))), ((hs_n (by omega)).trans ((hs_n (by omega)).trans ((hs_n (by omega)).trans ((hko 145 (by omega)).trans h145)))), (fun i9 hi9 => ?_), hlN, hbb, hPr, hs40, hvb⟩ (fun a9 h9 => (((hs_n (by omega)).trans ((hs_n (by omega)).trans ((hs_n (by omega)).trans rfl)))).trans (hko a9 (Or.inl h9)))
                    by_cases z : i9 = ti.toNat
                    · rw [z, upK_e, upK_e, upK_e]
                      refine ⟨⟨uA_e.trans h41, hRB2.1, hRB2.2.1, fun j a b => ⟨?_, hRB2.2.2.1 j (by have := hRB2.2.1; omega)⟩, fun j a => ⟨?_, hRB2.2.2.2.1 j (by have := hRB2.2.1; omega)⟩⟩, hRB2.2.2.2.2⟩
                      · have := hRB2.2.1
                        unfold kpF
                        rw [if_pos ⟨by omega, by omega⟩, hc3 j a b, ← h42 j a b]
                        congr 1; omega
                      · have := hRB2.2.1
                        unfold kpF
                        rw [if_pos ⟨by omega, by omega⟩, hs3 j a, ← h43 j a]
                        congr 1; omega
                    · rw [upK_n z, upK_n z, upK_n z]
                      have hM9 := hMR i9 hi9
                      have h6 := hM9.1.2.2.1
                      refine ⟨⟨by rw [uA_n z, lo1 i9 hi9]; exact hM9.1.1, hM9.1.2.1, h6, fun j a b => ⟨?_, (hM9.1.2.2.2.1 j a b).2⟩, fun j a => ⟨?_, (hM9.1.2.2.2.2 j a).2⟩⟩, hM9.2⟩
                      · unfold kpF
                        rw [if_neg (by omega), lo2 _ (by omega)]; exact (hM9.1.2.2.2.1 j a b).1
                      · unfold kpF
                        rw [if_neg (by omega), lo3 _ (by omega)]; exact (hM9.1.2.2.2.2 j a).1
                · refine r_bipush (z := -3) dX11_make_262 (by decide) ?_
                  refine r_ireturn hq dX11_make_264 rfl rfl rfl ?_
                  rcases hcs with ⟨_, e1, e2, e3, e4⟩ | ⟨a1, a2, _⟩
                  · subst e1; subst e2; subst e3; subst e4
                    exact hQ _ ⟨_, _, _, _, _, _, _, _, _, _, _, _, _, _, _, _, _, _, _, _, _, _, _, _, _, _, q124, q125, q126, q127, ((hko 128 (by omega)).trans hbt), ((hko 129 (by omega)).trans hnv), q130, ((hko 131 (by omega)).trans h131), ((hko 132 (by omega)).trans h132), ((hko 133 (by omega)).trans h133), ((hko 134 (by omega)).trans h134), ((hko 135 (by omega)).trans h135), ((hko 136 (by omega)).trans h136), ((hko 137 (by omega)).trans h137), q138, q139, q140, q141, q142, ((hko 143 (by omega)).trans h143), ((hko 144 (by omega)).trans h144), ((hko 145 (by omega)).trans h145), (hMR.hi lo1 lo2 lo3), hlN, hbb, hPr, hs40, hvb⟩ (fun a9 h9 => hko a9 (Or.inl h9))
                  · rcases hdj with ⟨_, y⟩ | ⟨y, _⟩
                    · exact absurd ⟨a1, a2⟩ y
                    · exact absurd y (by omega)
              · refine r_iconst (z := 1) dX11_make_177 ?_
                refine r_goto 182 dX11_make_178 (by decide) ?_
                refine r_callV (av := [.int (iZ (xi)), .int (iZ (yi)), .int (iZ (1))]) dX11_make_182 lkX11_makeSum ml_X11_262 imX11_makeSum seX11_makeSum (by omega) (rfl : vwCl[11]? = _) ⟨_, hm0⟩ ⟨Nat.le_of_ble_eq_true rfl, Nat.le_of_ble_eq_true rfl⟩ rfl rfl (nle rfl) ⟨Nat.le_of_ble_eq_true rfl, Nat.le_of_ble_eq_true rfl⟩ (c_X11_makeSum (c := C xi.toNat) (s := S xi.toNat) (r := xi.toNat) (k := K xi.toNat) (d := C yi.toNat) (t := S yi.toNat) (r2 := yi.toNat) (l := K yi.toNat) (yi := yi) (xi := xi) (ddi := di) hm0 hN hom hml hms h130 h138 h139 h140 h141 h142 (hMR xi.toNat (by omega)).1 (by omega) (by omega) (hMR xi.toNat (by omega)).2 (hMR yi.toNat (by omega)).1 (by omega) (by omega) (hMR yi.toNat (by omega)).2 (show ((1 : Int) = 0 ∧ wi = 0) ∨ ((1 : Int) = 1 ∧ wi = 1) by omega) (fun b182 h2 hX => ?_))
                show G _ _ _ _ _ _ _ 185 _ _ _
                have hc9 : 0 ≤ ti ∧ ti ≤ 5 ∧ 0 ≤ wi ∧ wi ≤ 7 ∧ 0 ≤ xi ∧ xi ≤ 5 ∧ (wi ≤ 3 → 0 ≤ yi ∧ yi ≤ 5) ∧ (wi = 4 → 2 ≤ di ∧ di ≤ 6) ∧ (wi = 6 → 0 ≤ di ∧ di ≤ 1000) ∧ (wi = 7 → -1000 ≤ di ∧ di ≤ 1000) := ⟨by omega, by omega, by omega, by omega, by omega, by omega, fun _ => by omega, fun _ => by omega, fun _ => by omega, fun _ => by omega⟩
                obtain ⟨y2, hy6, hya, hyb, hcs⟩ := (hsp.resolve_left (fun w => w.1 hc9)).2
                obtain rfl : y2 = yi.toNat := hya (by omega)
                obtain ⟨hko, em2, om2, ml2, ms2, y130, y138, y139, y140, y141, y142, q124, q125, q126, q127, q130, q138, q139, q140, q141, q142, lo1, lo2, lo3, hdj⟩ := hX
                refine r_istore (L2 := [_, _, _, _, _, _, _, _]) dX11_make_185 (nlt rfl) rfl ?_
                refine r_goto 257 dX11_make_187 (by decide) ?_
                refine r_iload dX11_make_257 rfl ?_
                refine r_if_ne 265 dX11_make_259 (by decide) (by rcases hdj with ⟨y, _⟩ | ⟨y, _⟩ <;> exact ⟨by omega, by omega⟩) (fun c_259 => ?_) (fun c_259 => ?_)
                · refine r_aload_n dX11_make_265 rfl rfl ?_
                  refine r_iload_n dX11_make_266 rfl rfl ?_
                  refine r_callV (av := [.int (iZ (ti))]) dX11_make_267 lkX11_keep ml_X11_130 imX11_keep seX11_keep (by omega) (rfl : vwCl[11]? = _) ⟨_, q124⟩ ⟨Nat.le_of_ble_eq_true rfl, Nat.le_of_ble_eq_true rfl⟩ rfl rfl (nle rfl) ⟨Nat.le_of_ble_eq_true rfl, Nat.le_of_ble_eq_true rfl⟩ (c_X11_keep (i := ti.toNat) (om := om2) (ml := ml2) (ms := ms2) (ln := (ln : Int)) (pr := p) (nm := (sz : Int)) (at_ := at_) (wr := wr) (va := va) (em := em2) (ta := ta) (ro := ro) (dg := dg) q124 hN q125 q126 q127 (by omega) (by omega) ?_)
                  show G _ _ _ _ _ _ _ 270 _ _ _
                  refine r_aload_n dX11_make_270 rfl rfl ?_
                  refine gf_X11_7 dX11_make_271 (by omega) ((hs_n (by omega)).trans ((hs_n (by omega)).trans ((hs_n (by omega)).trans q124))) rfl ?_
                  refine r_iload_n dX11_make_274 rfl rfl ?_
                  refine r_iaload dX11_make_275 (by omega) ((hs_n (by omega)).trans ((hs_n (by omega)).trans hs_e)) (by omega) (by omega) (by decide) ?_
                  refine r_ireturn hq dX11_make_276 rfl rfl rfl ?_
                  rcases hcs with ⟨n1, _⟩ | ⟨a1, a2, c3, s3, hc3, hs3, e1, e2, e3, e4⟩
                  · rcases hdj with ⟨y, _⟩ | ⟨_, y1, _⟩
                    · exact absurd y (by omega)
                    · exact absurd y1 n1
                  · obtain ⟨h41, h42, h43⟩ : om2 6 = _ ∧ _ ∧ _ := (hdj.resolve_left (fun w => w.2 ⟨a1, a2⟩)).2.2
                    subst e1; subst e2; subst e3; subst e4
                    have hRB2 := hRB ti.toNat (by omega)
                    rw [upK_e, upK_e, upK_e] at hRB2
                    rw [show ((uA om2 ti.toNat (om2 6)) (ti).toNat) = _ from uA_e.trans h41]
                    refine hQ _ ⟨_, _, _, _, _, _, _, _, _, _, _, _, _, _, _, _, _, _, _, _, _, _, _, _, _, _, ((hs_n (by omega)).trans ((hs_n (by omega)).trans ((hs_n (by omega)).trans q124))), ((hs_n (by omega)).trans ((hs_n (by omega)).trans hs_e)), ((hs_n (by omega)).trans hs_e), hs_e, ((hs_n (by omega)).trans ((hs_n (by omega)).trans ((hs_n (by omega)).trans ((hko 128 (by omega)).trans hbt)))), ((hs_n (by omega)).trans ((hs_n (by omega)).trans ((hs_n (by omega)).trans ((hko 129 (by omega)).trans hnv)))), ((hs_n (by omega)).trans ((hs_n (by omega)).trans ((hs_n (by omega)).trans q130))), ((hs_n (by omega)).trans ((hs_n (by omega)).trans ((hs_n (by omega)).trans ((hko 131 (by omega)).trans h131)))), ((hs_n (by omega)).trans ((hs_n (by omega)).trans ((hs_n (by omega)).trans ((hko 132 (by omega)).trans h132)))), ((hs_n (by omega)).trans ((hs_n (by omega)).trans ((hs_n (by omega)).trans ((hko 133 (by omega)).trans h133)))), ((hs_n (by omega)).trans ((hs_n (by omega)).trans ((hs_n (by omega)).trans ((hko 134 (by omega)).trans h134)))), ((hs_n (by omega)).trans ((hs_n (by omega)).trans ((hs_n (by omega)).trans ((hko 135 (by omega)).trans h135)))), ((hs_n (by omega)).trans ((hs_n (by omega)).trans ((hs_n (by omega)).trans ((hko 136 (by omega)).trans h136)))), ((hs_n (by omega)).trans ((hs_n (by omega)).trans ((hs_n (by omega)).trans ((hko 137 (by omega)).trans h137)))), ((hs_n (by omega)).trans ((hs_n (by omega)).trans ((hs_n (by omega)).trans q138))), ((hs_n (by omega)).trans ((hs_n (by omega)).trans ((hs_n (by omega)).trans q139))), ((hs_n (by omega)).trans ((hs_n (by omega)).trans ((hs_n (by omega)).trans q140))), ((hs_n (by omega)).trans ((hs_n (by omega)).trans ((hs_n (by omega)).trans q141))), ((hs_n (by omega)).trans ((hs_n (by omega)).trans ((hs_n (by omega)).trans q142))), ((hs_n (by omega)).trans ((hs_n (by omega)).trans ((hs_n (by omega)).trans ((hko 143 (by omega)).trans h143)))), ((hs_n (by omega)).trans ((hs_n (by omega)).trans ((hs_n (by omega)).trans ((hko 144 (by omega)).trans h144)))), ((hs_n (by omega)).trans ((hs_n (by omega)).trans ((hs_n (by omega)).trans ((hko 145 (by omega)).trans h145)))), (fun i9 hi9 => ?_), hlN, hbb, hPr, hs40, hvb⟩ (fun a9 h9 => (((hs_n (by omega)).trans ((hs_n (by omega)).trans ((hs_n (by omega)).trans rfl)))).trans (hko a9 (Or.inl h9)))
                    by_cases z : i9 = ti.toNat
                    · rw [z, upK_e, upK_e, upK_e]
                      refine ⟨⟨uA_e.trans h41, hRB2.1, hRB2.2.1, fun j a b => ⟨?_, hRB2.2.2.1 j (by have := hRB2.2.1; omega)⟩, fun j a => ⟨?_, hRB2.2.2.2.1 j (by have := hRB2.2.1; omega)⟩⟩, hRB2.2.2.2.2⟩
                      · have := hRB2.2.1
                        unfold kpF
                        rw [if_pos ⟨by omega, by omega⟩, hc3 j a b, ← h42 j a b]
                        congr 1; omega
                      · have := hRB2.2.1
                        unfold kpF
                        rw [if_pos ⟨by omega, by omega⟩, hs3 j a, ← h43 j a]
                        congr 1; omega
                    · rw [upK_n z, upK_n z, upK_n z]
                      have hM9 := hMR i9 hi9
                      have h6 := hM9.1.2.2.1
                      refine ⟨⟨by rw [uA_n z, lo1 i9 hi9]; exact hM9.1.1, hM9.1.2.1, h6, fun j a b => ⟨?_, (hM9.1.2.2.2.1 j a b).2⟩, fun j a => ⟨?_, (hM9.1.2.2.2.2 j a).2⟩⟩, hM9.2⟩
                      · unfold kpF
                        rw [if_neg (by omega), lo2 _ (by omega)]; exact (hM9.1.2.2.2.1 j a b).1
                      · unfold kpF
                        rw [if_neg (by omega), lo3 _ (by omega)]; exact (hM9.1.2.2.2.2 j a).1
                · refine r_bipush (z := -3) dX11_make_262 (by decide) ?_
                  refine r_ireturn hq dX11_make_264 rfl rfl rfl ?_
                  rcases hcs with ⟨_, e1, e2, e3, e4⟩ | ⟨a1, a2, _⟩
                  · subst e1; subst e2; subst e3; subst e4
                    exact hQ _ ⟨_, _, _, _, _, _, _, _, _, _, _, _, _, _, _, _, _, _, _, _, _, _, _, _, _, _, q124, q125, q126, q127, ((hko 128 (by omega)).trans hbt), ((hko 129 (by omega)).trans hnv), q130, ((hko 131 (by omega)).trans h131), ((hko 132 (by omega)).trans h132), ((hko 133 (by omega)).trans h133), ((hko 134 (by omega)).trans h134), ((hko 135 (by omega)).trans h135), ((hko 136 (by omega)).trans h136), ((hko 137 (by omega)).trans h137), q138, q139, q140, q141, q142, ((hko 143 (by omega)).trans h143), ((hko 144 (by omega)).trans h144), ((hko 145 (by omega)).trans h145), (hMR.hi lo1 lo2 lo3), hlN, hbb, hPr, hs40, hvb⟩ (fun a9 h9 => hko a9 (Or.inl h9))
                  · rcases hdj with ⟨_, y⟩ | ⟨y, _⟩
                    · exact absurd ⟨a1, a2⟩ y
                    · exact absurd y (by omega)
            · refine r_tabIn (off := 42) 168 dX11_make_126 ⟨by omega, by omega⟩ (by omega) (by omega) (by rw [hs_126]; rfl) (by decide) ?_
              refine r_aload_n dX11_make_168 rfl rfl ?_
              refine r_iload_n dX11_make_169 rfl rfl ?_
              refine r_iload dX11_make_170 rfl ?_
              refine r_iload_n dX11_make_172 rfl rfl ?_
              refine r_iconst (z := 1) dX11_make_173 ?_
              refine r_icmp_ne 181 dX11_make_174 (by decide) ⟨by omega, by omega⟩ ⟨by decide, by decide⟩ (fun c_174 => ?_) (fun c_174 => ?_)
              · refine r_iconst (z := 0) dX11_make_181 ?_
                refine r_callV (av := [.int (iZ (xi)), .int (iZ (yi)), .int (iZ (0))]) dX11_make_182 lkX11_makeSum ml_X11_262 imX11_makeSum seX11_makeSum (by omega) (rfl : vwCl[11]? = _) ⟨_, hm0⟩ ⟨Nat.le_of_ble_eq_true rfl, Nat.le_of_ble_eq_true rfl⟩ rfl rfl (nle rfl) ⟨Nat.le_of_ble_eq_true rfl, Nat.le_of_ble_eq_true rfl⟩ (c_X11_makeSum (c := C xi.toNat) (s := S xi.toNat) (r := xi.toNat) (k := K xi.toNat) (d := C yi.toNat) (t := S yi.toNat) (r2 := yi.toNat) (l := K yi.toNat) (yi := yi) (xi := xi) (ddi := di) hm0 hN hom hml hms h130 h138 h139 h140 h141 h142 (hMR xi.toNat (by omega)).1 (by omega) (by omega) (hMR xi.toNat (by omega)).2 (hMR yi.toNat (by omega)).1 (by omega) (by omega) (hMR yi.toNat (by omega)).2 (show ((0 : Int) = 0 ∧ wi = 0) ∨ ((0 : Int) = 1 ∧ wi = 1) by omega) (fun b182 h2 hX => ?_))
                show G _ _ _ _ _ _ _ 185 _ _ _
                have hc9 : 0 ≤ ti ∧ ti ≤ 5 ∧ 0 ≤ wi ∧ wi ≤ 7 ∧ 0 ≤ xi ∧ xi ≤ 5 ∧ (wi ≤ 3 → 0 ≤ yi ∧ yi ≤ 5) ∧ (wi = 4 → 2 ≤ di ∧ di ≤ 6) ∧ (wi = 6 → 0 ≤ di ∧ di ≤ 1000) ∧ (wi = 7 → -1000 ≤ di ∧ di ≤ 1000) := ⟨by omega, by omega, by omega, by omega, by omega, by omega, fun _ => by omega, fun _ => by omega, fun _ => by omega, fun _ => by omega⟩
                obtain ⟨y2, hy6, hya, hyb, hcs⟩ := (hsp.resolve_left (fun w => w.1 hc9)).2
                obtain rfl : y2 = yi.toNat := hya (by omega)
                obtain ⟨hko, em2, om2, ml2, ms2, y130, y138, y139, y140, y141, y142, q124, q125, q126, q127, q130, q138, q139, q140, q141, q142, lo1, lo2, lo3, hdj⟩ := hX
                refine r_istore (L2 := [_, _, _, _, _, _, _, _]) dX11_make_185 (nlt rfl) rfl ?_
                refine r_goto 257 dX11_make_187 (by decide) ?_
                refine r_iload dX11_make_257 rfl ?_
                refine r_if_ne 265 dX11_make_259 (by decide) (by rcases hdj with ⟨y, _⟩ | ⟨y, _⟩ <;> exact ⟨by omega, by omega⟩) (fun c_259 => ?_) (fun c_259 => ?_)
                · refine r_aload_n dX11_make_265 rfl rfl ?_
                  refine r_iload_n dX11_make_266 rfl rfl ?_
                  refine r_callV (av := [.int (iZ (ti))]) dX11_make_267 lkX11_keep ml_X11_130 imX11_keep seX11_keep (by omega) (rfl : vwCl[11]? = _) ⟨_, q124⟩ ⟨Nat.le_of_ble_eq_true rfl, Nat.le_of_ble_eq_true rfl⟩ rfl rfl (nle rfl) ⟨Nat.le_of_ble_eq_true rfl, Nat.le_of_ble_eq_true rfl⟩ (c_X11_keep (i := ti.toNat) (om := om2) (ml := ml2) (ms := ms2) (ln := (ln : Int)) (pr := p) (nm := (sz : Int)) (at_ := at_) (wr := wr) (va := va) (em := em2) (ta := ta) (ro := ro) (dg := dg) q124 hN q125 q126 q127 (by omega) (by omega) ?_)
                  show G _ _ _ _ _ _ _ 270 _ _ _
                  refine r_aload_n dX11_make_270 rfl rfl ?_
                  refine gf_X11_7 dX11_make_271 (by omega) ((hs_n (by omega)).trans ((hs_n (by omega)).trans ((hs_n (by omega)).trans q124))) rfl ?_
                  refine r_iload_n dX11_make_274 rfl rfl ?_
                  refine r_iaload dX11_make_275 (by omega) ((hs_n (by omega)).trans ((hs_n (by omega)).trans hs_e)) (by omega) (by omega) (by decide) ?_
                  refine r_ireturn hq dX11_make_276 rfl rfl rfl ?_
                  rcases hcs with ⟨n1, _⟩ | ⟨a1, a2, c3, s3, hc3, hs3, e1, e2, e3, e4⟩
                  · rcases hdj with ⟨y, _⟩ | ⟨_, y1, _⟩
                    · exact absurd y (by omega)
                    · exact absurd y1 n1
                  · obtain ⟨h41, h42, h43⟩ : om2 6 = _ ∧ _ ∧ _ := (hdj.resolve_left (fun w => w.2 ⟨a1, a2⟩)).2.2
                    subst e1; subst e2; subst e3; subst e4
                    have hRB2 := hRB ti.toNat (by omega)
                    rw [upK_e, upK_e, upK_e] at hRB2
                    rw [show ((uA om2 ti.toNat (om2 6)) (ti).toNat) = _ from uA_e.trans h41]
                    refine hQ _ ⟨_, _, _, _, _, _, _, _, _, _, _, _, _, _, _, _, _, _, _, _, _, _, _, _, _, _, ((hs_n (by omega)).trans ((hs_n (by omega)).trans ((hs_n (by omega)).trans q124))), ((hs_n (by omega)).trans ((hs_n (by omega)).trans hs_e)), ((hs_n (by omega)).trans hs_e), hs_e, ((hs_n (by omega)).trans ((hs_n (by omega)).trans ((hs_n (by omega)).trans ((hko 128 (by omega)).trans hbt)))), ((hs_n (by omega)).trans ((hs_n (by omega)).trans ((hs_n (by omega)).trans ((hko 129 (by omega)).trans hnv)))), ((hs_n (by omega)).trans ((hs_n (by omega)).trans ((hs_n (by omega)).trans q130))), ((hs_n (by omega)).trans ((hs_n (by omega)).trans ((hs_n (by omega)).trans ((hko 131 (by omega)).trans h131)))), ((hs_n (by omega)).trans ((hs_n (by omega)).trans ((hs_n (by omega)).trans ((hko 132 (by omega)).trans h132)))), ((hs_n (by omega)).trans ((hs_n (by omega)).trans ((hs_n (by omega)).trans ((hko 133 (by omega)).trans h133)))), ((hs_n (by omega)).trans ((hs_n (by omega)).trans ((hs_n (by omega)).trans ((hko 134 (by omega)).trans h134)))), ((hs_n (by omega)).trans ((hs_n (by omega)).trans ((hs_n (by omega)).trans ((hko 135 (by omega)).trans h135)))), ((hs_n (by omega)).trans ((hs_n (by omega)).trans ((hs_n (by omega)).trans ((hko 136 (by omega)).trans h136)))), ((hs_n (by omega)).trans ((hs_n (by omega)).trans ((hs_n (by omega)).trans ((hko 137 (by omega)).trans h137)))), ((hs_n (by omega)).trans ((hs_n (by omega)).trans ((hs_n (by omega)).trans q138))), ((hs_n (by omega)).trans ((hs_n (by omega)).trans ((hs_n (by omega)).trans q139))), ((hs_n (by omega)).trans ((hs_n (by omega)).trans ((hs_n (by omega)).trans q140))), ((hs_n (by omega)).trans ((hs_n (by omega)).trans ((hs_n (by omega)).trans q141))), ((hs_n (by omega)).trans ((hs_n (by omega)).trans ((hs_n (by omega)).trans q142))), ((hs_n (by omega)).trans ((hs_n (by omega)).trans ((hs_n (by omega)).trans ((hko 143 (by omega)).trans h143)))), ((hs_n (by omega)).trans ((hs_n (by omega)).trans ((hs_n (by omega)).trans ((hko 144 (by omega)).trans h144)))), ((hs_n (by omega)).trans ((hs_n (by omega)).trans ((hs_n (by omega)).trans ((hko 145 (by omega)).trans h145)))), (fun i9 hi9 => ?_), hlN, hbb, hPr, hs40, hvb⟩ (fun a9 h9 => (((hs_n (by omega)).trans ((hs_n (by omega)).trans ((hs_n (by omega)).trans rfl)))).trans (hko a9 (Or.inl h9)))
                    by_cases z : i9 = ti.toNat
                    · rw [z, upK_e, upK_e, upK_e]
                      refine ⟨⟨uA_e.trans h41, hRB2.1, hRB2.2.1, fun j a b => ⟨?_, hRB2.2.2.1 j (by have := hRB2.2.1; omega)⟩, fun j a => ⟨?_, hRB2.2.2.2.1 j (by have := hRB2.2.1; omega)⟩⟩, hRB2.2.2.2.2⟩
                      · have := hRB2.2.1
                        unfold kpF
                        rw [if_pos ⟨by omega, by omega⟩, hc3 j a b, ← h42 j a b]
                        congr 1; omega
                      · have := hRB2.2.1
                        unfold kpF
                        rw [if_pos ⟨by omega, by omega⟩, hs3 j a, ← h43 j a]
                        congr 1; omega
                    · rw [upK_n z, upK_n z, upK_n z]
                      have hM9 := hMR i9 hi9
                      have h6 := hM9.1.2.2.1
                      refine ⟨⟨by rw [uA_n z, lo1 i9 hi9]; exact hM9.1.1, hM9.1.2.1, h6, fun j a b => ⟨?_, (hM9.1.2.2.2.1 j a b).2⟩, fun j a => ⟨?_, (hM9.1.2.2.2.2 j a).2⟩⟩, hM9.2⟩
                      · unfold kpF
                        rw [if_neg (by omega), lo2 _ (by omega)]; exact (hM9.1.2.2.2.1 j a b).1
                      · unfold kpF
                        rw [if_neg (by omega), lo3 _ (by omega)]; exact (hM9.1.2.2.2.2 j a).1
                · refine r_bipush (z := -3) dX11_make_262 (by decide) ?_
                  refine r_ireturn hq dX11_make_264 rfl rfl rfl ?_
                  rcases hcs with ⟨_, e1, e2, e3, e4⟩ | ⟨a1, a2, _⟩
                  · subst e1; subst e2; subst e3; subst e4
                    exact hQ _ ⟨_, _, _, _, _, _, _, _, _, _, _, _, _, _, _, _, _, _, _, _, _, _, _, _, _, _, q124, q125, q126, q127, ((hko 128 (by omega)).trans hbt), ((hko 129 (by omega)).trans hnv), q130, ((hko 131 (by omega)).trans h131), ((hko 132 (by omega)).trans h132), ((hko 133 (by omega)).trans h133), ((hko 134 (by omega)).trans h134), ((hko 135 (by omega)).trans h135), ((hko 136 (by omega)).trans h136), ((hko 137 (by omega)).trans h137), q138, q139, q140, q141, q142, ((hko 143 (by omega)).trans h143), ((hko 144 (by omega)).trans h144), ((hko 145 (by omega)).trans h145), (hMR.hi lo1 lo2 lo3), hlN, hbb, hPr, hs40, hvb⟩ (fun a9 h9 => hko a9 (Or.inl h9))
                  · rcases hdj with ⟨_, y⟩ | ⟨y, _⟩
                    · exact absurd ⟨a1, a2⟩ y
                    · exact absurd y (by omega)
              · refine r_iconst (z := 1) dX11_make_177 ?_
                refine r_goto 182 dX11_make_178 (by decide) ?_
                refine r_callV (av := [.int (iZ (xi)), .int (iZ (yi)), .int (iZ (1))]) dX11_make_182 lkX11_makeSum ml_X11_262 imX11_makeSum seX11_makeSum (by omega) (rfl : vwCl[11]? = _) ⟨_, hm0⟩ ⟨Nat.le_of_ble_eq_true rfl, Nat.le_of_ble_eq_true rfl⟩ rfl rfl (nle rfl) ⟨Nat.le_of_ble_eq_true rfl, Nat.le_of_ble_eq_true rfl⟩ (c_X11_makeSum (c := C xi.toNat) (s := S xi.toNat) (r := xi.toNat) (k := K xi.toNat) (d := C yi.toNat) (t := S yi.toNat) (r2 := yi.toNat) (l := K yi.toNat) (yi := yi) (xi := xi) (ddi := di) hm0 hN hom hml hms h130 h138 h139 h140 h141 h142 (hMR xi.toNat (by omega)).1 (by omega) (by omega) (hMR xi.toNat (by omega)).2 (hMR yi.toNat (by omega)).1 (by omega) (by omega) (hMR yi.toNat (by omega)).2 (show ((1 : Int) = 0 ∧ wi = 0) ∨ ((1 : Int) = 1 ∧ wi = 1) by omega) (fun b182 h2 hX => ?_))
                show G _ _ _ _ _ _ _ 185 _ _ _
                have hc9 : 0 ≤ ti ∧ ti ≤ 5 ∧ 0 ≤ wi ∧ wi ≤ 7 ∧ 0 ≤ xi ∧ xi ≤ 5 ∧ (wi ≤ 3 → 0 ≤ yi ∧ yi ≤ 5) ∧ (wi = 4 → 2 ≤ di ∧ di ≤ 6) ∧ (wi = 6 → 0 ≤ di ∧ di ≤ 1000) ∧ (wi = 7 → -1000 ≤ di ∧ di ≤ 1000) := ⟨by omega, by omega, by omega, by omega, by omega, by omega, fun _ => by omega, fun _ => by omega, fun _ => by omega, fun _ => by omega⟩
                obtain ⟨y2, hy6, hya, hyb, hcs⟩ := (hsp.resolve_left (fun w => w.1 hc9)).2
                obtain rfl : y2 = yi.toNat := hya (by omega)
                obtain ⟨hko, em2, om2, ml2, ms2, y130, y138, y139, y140, y141, y142, q124, q125, q126, q127, q130, q138, q139, q140, q141, q142, lo1, lo2, lo3, hdj⟩ := hX
                refine r_istore (L2 := [_, _, _, _, _, _, _, _]) dX11_make_185 (nlt rfl) rfl ?_
                refine r_goto 257 dX11_make_187 (by decide) ?_
                refine r_iload dX11_make_257 rfl ?_
                refine r_if_ne 265 dX11_make_259 (by decide) (by rcases hdj with ⟨y, _⟩ | ⟨y, _⟩ <;> exact ⟨by omega, by omega⟩) (fun c_259 => ?_) (fun c_259 => ?_)
                · refine r_aload_n dX11_make_265 rfl rfl ?_
                  refine r_iload_n dX11_make_266 rfl rfl ?_
                  refine r_callV (av := [.int (iZ (ti))]) dX11_make_267 lkX11_keep ml_X11_130 imX11_keep seX11_keep (by omega) (rfl : vwCl[11]? = _) ⟨_, q124⟩ ⟨Nat.le_of_ble_eq_true rfl, Nat.le_of_ble_eq_true rfl⟩ rfl rfl (nle rfl) ⟨Nat.le_of_ble_eq_true rfl, Nat.le_of_ble_eq_true rfl⟩ (c_X11_keep (i := ti.toNat) (om := om2) (ml := ml2) (ms := ms2) (ln := (ln : Int)) (pr := p) (nm := (sz : Int)) (at_ := at_) (wr := wr) (va := va) (em := em2) (ta := ta) (ro := ro) (dg := dg) q124 hN q125 q126 q127 (by omega) (by omega) ?_)
                  show G _ _ _ _ _ _ _ 270 _ _ _
                  refine r_aload_n dX11_make_270 rfl rfl ?_
                  refine gf_X11_7 dX11_make_271 (by omega) ((hs_n (by omega)).trans ((hs_n (by omega)).trans ((hs_n (by omega)).trans q124))) rfl ?_
                  refine r_iload_n dX11_make_274 rfl rfl ?_
                  refine r_iaload dX11_make_275 (by omega) ((hs_n (by omega)).trans ((hs_n (by omega)).trans hs_e)) (by omega) (by omega) (by decide) ?_
                  refine r_ireturn hq dX11_make_276 rfl rfl rfl ?_
                  rcases hcs with ⟨n1, _⟩ | ⟨a1, a2, c3, s3, hc3, hs3, e1, e2, e3, e4⟩
                  · rcases hdj with ⟨y, _⟩ | ⟨_, y1, _⟩
                    · exact absurd y (by omega)
                    · exact absurd y1 n1
                  · obtain ⟨h41, h42, h43⟩ : om2 6 = _ ∧ _ ∧ _ := (hdj.resolve_left (fun w => w.2 ⟨a1, a2⟩)).2.2
                    subst e1; subst e2; subst e3; subst e4
                    have hRB2 := hRB ti.toNat (by omega)
                    rw [upK_e, upK_e, upK_e] at hRB2
                    rw [show ((uA om2 ti.toNat (om2 6)) (ti).toNat) = _ from uA_e.trans h41]
                    refine hQ _ ⟨_, _, _, _, _, _, _, _, _, _, _, _, _, _, _, _, _, _, _, _, _, _, _, _, _, _, ((hs_n (by omega)).trans ((hs_n (by omega)).trans ((hs_n (by omega)).trans q124))), ((hs_n (by omega)).trans ((hs_n (by omega)).trans hs_e)), ((hs_n (by omega)).trans hs_e), hs_e, ((hs_n (by omega)).trans ((hs_n (by omega)).trans ((hs_n (by omega)).trans ((hko 128 (by omega)).trans hbt)))), ((hs_n (by omega)).trans ((hs_n (by omega)).trans ((hs_n (by omega)).trans ((hko 129 (by omega)).trans hnv)))), ((hs_n (by omega)).trans ((hs_n (by omega)).trans ((hs_n (by omega)).trans q130))), ((hs_n (by omega)).trans ((hs_n (by omega)).trans ((hs_n (by omega)).trans ((hko 131 (by omega)).trans h131)))), ((hs_n (by omega)).trans ((hs_n (by omega)).trans ((hs_n (by omega)).trans ((hko 132 (by omega)).trans h132)))), ((hs_n (by omega)).trans ((hs_n (by omega)).trans ((hs_n (by omega)).trans ((hko 133 (by omega)).trans h133)))), ((hs_n (by omega)).trans ((hs_n (by omega)).trans ((hs_n (by omega)).trans ((hko 134 (by omega)).trans h134)))), ((hs_n (by omega)).trans ((hs_n (by omega)).trans ((hs_n (by omega)).trans ((hko 135 (by omega)).trans h135)))), ((hs_n (by omega)).trans ((hs_n (by omega)).trans ((hs_n (by omega)).trans ((hko 136 (by omega)).trans h136)))), ((hs_n (by omega)).trans ((hs_n (by omega)).trans ((hs_n (by omega)).trans ((hko 137 (by omega)).trans h137)))), ((hs_n (by omega)).trans ((hs_n (by omega)).trans ((hs_n (by omega)).trans q138))), ((hs_n (by omega)).trans ((hs_n (by omega)).trans ((hs_n (by omega)).trans q139))), ((hs_n (by omega)).trans ((hs_n (by omega)).trans ((hs_n (by omega)).trans q140))), ((hs_n (by omega)).trans ((hs_n (by omega)).trans ((hs_n (by omega)).trans q141))), ((hs_n (by omega)).trans ((hs_n (by omega)).trans ((hs_n (by omega)).trans q142))), ((hs_n (by omega)).trans ((hs_n (by omega)).trans ((hs_n (by omega)).trans ((hko 143 (by omega)).trans h143)))), ((hs_n (by omega)).trans ((hs_n (by omega)).trans ((hs_n (by omega)).trans ((hko 144 (by omega)).trans h144)))), ((hs_n (by omega)).trans ((hs_n (by omega)).trans ((hs_n (by omega)).trans ((hko 145 (by omega)).trans h145)))), (fun i9 hi9 => ?_), hlN, hbb, hPr, hs40, hvb⟩ (fun a9 h9 => (((hs_n (by omega)).trans ((hs_n (by omega)).trans ((hs_n (by omega)).trans rfl)))).trans (hko a9 (Or.inl h9)))
                    by_cases z : i9 = ti.toNat
                    · rw [z, upK_e, upK_e, upK_e]
                      refine ⟨⟨uA_e.trans h41, hRB2.1, hRB2.2.1, fun j a b => ⟨?_, hRB2.2.2.1 j (by have := hRB2.2.1; omega)⟩, fun j a => ⟨?_, hRB2.2.2.2.1 j (by have := hRB2.2.1; omega)⟩⟩, hRB2.2.2.2.2⟩
                      · have := hRB2.2.1
                        unfold kpF
                        rw [if_pos ⟨by omega, by omega⟩, hc3 j a b, ← h42 j a b]
                        congr 1; omega
                      · have := hRB2.2.1
                        unfold kpF
                        rw [if_pos ⟨by omega, by omega⟩, hs3 j a, ← h43 j a]
                        congr 1; omega
                    · rw [upK_n z, upK_n z, upK_n z]
                      have hM9 := hMR i9 hi9
                      have h6 := hM9.1.2.2.1
                      refine ⟨⟨by rw [uA_n z, lo1 i9 hi9]; exact hM9.1.1, hM9.1.2.1, h6, fun j a b => ⟨?_, (hM9.1.2.2.2.1 j a b).2⟩, fun j a => ⟨?_, (hM9.1.2.2.2.2 j a).2⟩⟩, hM9.2⟩
                      · unfold kpF
                        rw [if_neg (by omega), lo2 _ (by omega)]; exact (hM9.1.2.2.2.1 j a b).1
                      · unfold kpF
                        rw [if_neg (by omega), lo3 _ (by omega)]; exact (hM9.1.2.2.2.2 j a).1
                · refine r_bipush (z := -3) dX11_make_262 (by decide) ?_
                  refine r_ireturn hq dX11_make_264 rfl rfl rfl ?_
                  rcases hcs with ⟨_, e1, e2, e3, e4⟩ | ⟨a1, a2, _⟩
                  · subst e1; subst e2; subst e3; subst e4
                    exact hQ _ ⟨_, _, _, _, _, _, _, _, _, _, _, _, _, _, _, _, _, _, _, _, _, _, _, _, _, _, q124, q125, q126, q127, ((hko 128 (by omega)).trans hbt), ((hko 129 (by omega)).trans hnv), q130, ((hko 131 (by omega)).trans h131), ((hko 132 (by omega)).trans h132), ((hko 133 (by omega)).trans h133), ((hko 134 (by omega)).trans h134), ((hko 135 (by omega)).trans h135), ((hko 136 (by omega)).trans h136), ((hko 137 (by omega)).trans h137), q138, q139, q140, q141, q142, ((hko 143 (by omega)).trans h143), ((hko 144 (by omega)).trans h144), ((hko 145 (by omega)).trans h145), (hMR.hi lo1 lo2 lo3), hlN, hbb, hPr, hs40, hvb⟩ (fun a9 h9 => hko a9 (Or.inl h9))
                  · rcases hdj with ⟨_, y⟩ | ⟨y, _⟩
                    · exact absurd ⟨a1, a2⟩ y
                    · exact absurd y (by omega)
            · refine r_tabIn (off := 64) 190 dX11_make_126 ⟨by omega, by omega⟩ (by omega) (by omega) (by rw [hs_126]; rfl) (by decide) ?_
              refine r_aload_n dX11_make_190 rfl rfl ?_
              refine r_iload_n dX11_make_191 rfl rfl ?_
              refine r_iload dX11_make_192 rfl ?_
              refine r_callV (av := [.int (iZ (xi)), .int (iZ (yi))]) dX11_make_194 lkX11_makeProduct ml_X11_266 imX11_makeProduct seX11_makeProduct (by omega) (rfl : vwCl[11]? = _) ⟨_, hm0⟩ ⟨Nat.le_of_ble_eq_true rfl, Nat.le_of_ble_eq_true rfl⟩ rfl rfl (nle rfl) ⟨Nat.le_of_ble_eq_true rfl, Nat.le_of_ble_eq_true rfl⟩ (c_X11_makeProduct (c := C xi.toNat) (s := S xi.toNat) (r := xi.toNat) (k := K xi.toNat) (d := C yi.toNat) (t := S yi.toNat) (r2 := yi.toNat) (l := K yi.toNat) (yi := yi) (xi := xi) (ddi := di) hm0 hN hom hml hms h130 h138 h139 h140 h141 h142 (hMR xi.toNat (by omega)).1 (by omega) (by omega) (hMR xi.toNat (by omega)).2 (hMR yi.toNat (by omega)).1 (by omega) (by omega) (hMR yi.toNat (by omega)).2 (fun b194 h2 hX => ?_))
              show G _ _ _ _ _ _ _ 197 _ _ _
              have hc9 : 0 ≤ ti ∧ ti ≤ 5 ∧ 0 ≤ wi ∧ wi ≤ 7 ∧ 0 ≤ xi ∧ xi ≤ 5 ∧ (wi ≤ 3 → 0 ≤ yi ∧ yi ≤ 5) ∧ (wi = 4 → 2 ≤ di ∧ di ≤ 6) ∧ (wi = 6 → 0 ≤ di ∧ di ≤ 1000) ∧ (wi = 7 → -1000 ≤ di ∧ di ≤ 1000) := ⟨by omega, by omega, by omega, by omega, by omega, by omega, fun _ => by omega, fun _ => by omega, fun _ => by omega, fun _ => by omega⟩
              obtain ⟨y2, hy6, hya, hyb, hcs⟩ := (hsp.resolve_left (fun w => w.1 hc9)).2
              obtain rfl : y2 = yi.toNat := hya (by omega)
              obtain rfl : wi = 2 := by omega
              obtain ⟨hko, em2, om2, ml2, ms2, y130, y138, y139, y140, y141, y142, q124, q125, q126, q127, q130, q138, q139, q140, q141, q142, lo1, lo2, lo3, hdj⟩ := hX
              refine r_istore (L2 := [_, _, _, _, _, _, _, _]) dX11_make_197 (nlt rfl) rfl ?_
              refine r_goto 257 dX11_make_199 (by decide) ?_
              refine r_iload dX11_make_257 rfl ?_
              refine r_if_ne 265 dX11_make_259 (by decide) (by rcases hdj with ⟨y, _⟩ | ⟨y, _⟩ <;> exact ⟨by omega, by omega⟩) (fun c_259 => ?_) (fun c_259 => ?_)
              · refine r_aload_n dX11_make_265 rfl rfl ?_
                refine r_iload_n dX11_make_266 rfl rfl ?_
                refine r_callV (av := [.int (iZ (ti))]) dX11_make_267 lkX11_keep ml_X11_130 imX11_keep seX11_keep (by omega) (rfl : vwCl[11]? = _) ⟨_, q124⟩ ⟨Nat.le_of_ble_eq_true rfl, Nat.le_of_ble_eq_true rfl⟩ rfl rfl (nle rfl) ⟨Nat.le_of_ble_eq_true rfl, Nat.le_of_ble_eq_true rfl⟩ (c_X11_keep (i := ti.toNat) (om := om2) (ml := ml2) (ms := ms2) (ln := (ln : Int)) (pr := p) (nm := (sz : Int)) (at_ := at_) (wr := wr) (va := va) (em := em2) (ta := ta) (ro := ro) (dg := dg) q124 hN q125 q126 q127 (by omega) (by omega) ?_)
                show G _ _ _ _ _ _ _ 270 _ _ _
                refine r_aload_n dX11_make_270 rfl rfl ?_
                refine gf_X11_7 dX11_make_271 (by omega) ((hs_n (by omega)).trans ((hs_n (by omega)).trans ((hs_n (by omega)).trans q124))) rfl ?_
                refine r_iload_n dX11_make_274 rfl rfl ?_
                refine r_iaload dX11_make_275 (by omega) ((hs_n (by omega)).trans ((hs_n (by omega)).trans hs_e)) (by omega) (by omega) (by decide) ?_
                refine r_ireturn hq dX11_make_276 rfl rfl rfl ?_
                rcases hcs with ⟨n1, _⟩ | ⟨a1, a2, c3, s3, hc3, hs3, e1, e2, e3, e4⟩
                · rcases hdj with ⟨y, _⟩ | ⟨_, y1, _⟩
                  · exact absurd y (by omega)
                  · exact absurd y1 n1
                · obtain ⟨h41, h42, h43⟩ : om2 6 = _ ∧ _ ∧ _ := (hdj.resolve_left (fun w => w.2 ⟨a1, a2⟩)).2.2
                  subst e1; subst e2; subst e3; subst e4
                  have hRB2 := hRB ti.toNat (by omega)
                  rw [upK_e, upK_e, upK_e] at hRB2
                  rw [show ((uA om2 ti.toNat (om2 6)) (ti).toNat) = _ from uA_e.trans h41]
                  refine hQ _ ⟨_, _, _, _, _, _, _, _, _, _, _, _, _, _, _, _, _, _, _, _, _, _, _, _, _, _, ((hs_n (by omega)).trans ((hs_n (by omega)).trans ((hs_n (by omega)).trans q124))), ((hs_n (by omega)).trans ((hs_n (by omega)).trans hs_e)), ((hs_n (by omega)).trans hs_e), hs_e, ((hs_n (by omega)).trans ((hs_n (by omega)).trans ((hs_n (by omega)).trans ((hko 128 (by omega)).trans hbt)))), ((hs_n (by omega)).trans ((hs_n (by omega)).trans ((hs_n (by omega)).trans ((hko 129 (by omega)).trans hnv)))), ((hs_n (by omega)).trans ((hs_n (by omega)).trans ((hs_n (by omega)).trans q130))), ((hs_n (by omega)).trans ((hs_n (by omega)).trans ((hs_n (by omega)).trans ((hko 131 (by omega)).trans h131)))), ((hs_n (by omega)).trans ((hs_n (by omega)).trans ((hs_n (by omega)).trans ((hko 132 (by omega)).trans h132)))), ((hs_n (by omega)).trans ((hs_n (by omega)).trans ((hs_n (by omega)).trans ((hko 133 (by omega)).trans h133)))), ((hs_n (by omega)).trans ((hs_n (by omega)).trans ((hs_n (by omega)).trans ((hko 134 (by omega)).trans h134)))), ((hs_n (by omega)).trans ((hs_n (by omega)).trans ((hs_n (by omega)).trans ((hko 135 (by omega)).trans h135)))), ((hs_n (by omega)).trans ((hs_n (by omega)).trans ((hs_n (by omega)).trans ((hko 136 (by omega)).trans h136)))), ((hs_n (by omega)).trans ((hs_n (by omega)).trans ((hs_n (by omega)).trans ((hko 137 (by omega)).trans h137)))), ((hs_n (by omega)).trans ((hs_n (by omega)).trans ((hs_n (by omega)).trans q138))), ((hs_n (by omega)).trans ((hs_n (by omega)).trans ((hs_n (by omega)).trans q139))), ((hs_n (by omega)).trans ((hs_n (by omega)).trans ((hs_n (by omega)).trans q140))), ((hs_n (by omega)).trans ((hs_n (by omega)).trans ((hs_n (by omega)).trans q141))), ((hs_n (by omega)).trans ((hs_n (by omega)).trans ((hs_n (by omega)).trans q142))), ((hs_n (by omega)).trans ((hs_n (by omega)).trans ((hs_n (by omega)).trans ((hko 143 (by omega)).trans h143)))), ((hs_n (by omega)).trans ((hs_n (by omega)).trans ((hs_n (by omega)).trans ((hko 144 (by omega)).trans h144)))), ((hs_n (by omega)).trans ((hs_n (by omega)).trans ((hs_n (by omega)).trans ((hko 145 (by omega)).trans h145)))), (fun i9 hi9 => ?_), hlN, hbb, hPr, hs40, hvb⟩ (fun a9 h9 => (((hs_n (by omega)).trans ((hs_n (by omega)).trans ((hs_n (by omega)).trans rfl)))).trans (hko a9 (Or.inl h9)))
                  by_cases z : i9 = ti.toNat
                  · rw [z, upK_e, upK_e, upK_e]
                    refine ⟨⟨uA_e.trans h41, hRB2.1, hRB2.2.1, fun j a b => ⟨?_, hRB2.2.2.1 j (by have := hRB2.2.1; omega)⟩, fun j a => ⟨?_, hRB2.2.2.2.1 j (by have := hRB2.2.1; omega)⟩⟩, hRB2.2.2.2.2⟩
                    · have := hRB2.2.1
                      unfold kpF
                      rw [if_pos ⟨by omega, by omega⟩, hc3 j a b, ← h42 j a b]
                      congr 1; omega
                    · have := hRB2.2.1
                      unfold kpF
                      rw [if_pos ⟨by omega, by omega⟩, hs3 j a, ← h43 j a]
                      congr 1; omega
                  · rw [upK_n z, upK_n z, upK_n z]
                    have hM9 := hMR i9 hi9
                    have h6 := hM9.1.2.2.1
                    refine ⟨⟨by rw [uA_n z, lo1 i9 hi9]; exact hM9.1.1, hM9.1.2.1, h6, fun j a b => ⟨?_, (hM9.1.2.2.2.1 j a b).2⟩, fun j a => ⟨?_, (hM9.1.2.2.2.2 j a).2⟩⟩, hM9.2⟩
                    · unfold kpF
                      rw [if_neg (by omega), lo2 _ (by omega)]; exact (hM9.1.2.2.2.1 j a b).1
                    · unfold kpF
                      rw [if_neg (by omega), lo3 _ (by omega)]; exact (hM9.1.2.2.2.2 j a).1
              · refine r_bipush (z := -3) dX11_make_262 (by decide) ?_
                refine r_ireturn hq dX11_make_264 rfl rfl rfl ?_
                rcases hcs with ⟨_, e1, e2, e3, e4⟩ | ⟨a1, a2, _⟩
                · subst e1; subst e2; subst e3; subst e4
                  exact hQ _ ⟨_, _, _, _, _, _, _, _, _, _, _, _, _, _, _, _, _, _, _, _, _, _, _, _, _, _, q124, q125, q126, q127, ((hko 128 (by omega)).trans hbt), ((hko 129 (by omega)).trans hnv), q130, ((hko 131 (by omega)).trans h131), ((hko 132 (by omega)).trans h132), ((hko 133 (by omega)).trans h133), ((hko 134 (by omega)).trans h134), ((hko 135 (by omega)).trans h135), ((hko 136 (by omega)).trans h136), ((hko 137 (by omega)).trans h137), q138, q139, q140, q141, q142, ((hko 143 (by omega)).trans h143), ((hko 144 (by omega)).trans h144), ((hko 145 (by omega)).trans h145), (hMR.hi lo1 lo2 lo3), hlN, hbb, hPr, hs40, hvb⟩ (fun a9 h9 => hko a9 (Or.inl h9))
                · rcases hdj with ⟨_, y⟩ | ⟨y, _⟩
                  · exact absurd ⟨a1, a2⟩ y
                  · exact absurd y (by omega)
            · refine r_tabIn (off := 76) 202 dX11_make_126 ⟨by omega, by omega⟩ (by omega) (by omega) (by rw [hs_126]; rfl) (by decide) ?_
              refine r_aload_n dX11_make_202 rfl rfl ?_
              refine r_iload_n dX11_make_203 rfl rfl ?_
              refine r_iload dX11_make_204 rfl ?_
              refine r_callV (av := [.int (iZ (xi)), .int (iZ (yi))]) dX11_make_206 lkX11_makeFold ml_X11_269 imX11_makeFold seX11_makeFold (by omega) (rfl : vwCl[11]? = _) ⟨_, hm0⟩ ⟨Nat.le_of_ble_eq_true rfl, Nat.le_of_ble_eq_true rfl⟩ rfl rfl (nle rfl) ⟨Nat.le_of_ble_eq_true rfl, Nat.le_of_ble_eq_true rfl⟩ (c_X11_makeFold (c := C xi.toNat) (s := S xi.toNat) (r := xi.toNat) (k := K xi.toNat) (d := C yi.toNat) (t := S yi.toNat) (r2 := yi.toNat) (l := K yi.toNat) (yi := yi) (xi := xi) (ddi := di) hm0 hN hom hml hms h130 h138 h139 h140 h141 h142 (hMR xi.toNat (by omega)).1 (by omega) (by omega) (hMR xi.toNat (by omega)).2 (hMR yi.toNat (by omega)).1 (by omega) (by omega) (hMR yi.toNat (by omega)).2 (fun b206 h2 hX => ?_))
              show G _ _ _ _ _ _ _ 209 _ _ _
              have hc9 : 0 ≤ ti ∧ ti ≤ 5 ∧ 0 ≤ wi ∧ wi ≤ 7 ∧ 0 ≤ xi ∧ xi ≤ 5 ∧ (wi ≤ 3 → 0 ≤ yi ∧ yi ≤ 5) ∧ (wi = 4 → 2 ≤ di ∧ di ≤ 6) ∧ (wi = 6 → 0 ≤ di ∧ di ≤ 1000) ∧ (wi = 7 → -1000 ≤ di ∧ di ≤ 1000) := ⟨by omega, by omega, by omega, by omega, by omega, by omega, fun _ => by omega, fun _ => by omega, fun _ => by omega, fun _ => by omega⟩
              obtain ⟨y2, hy6, hya, hyb, hcs⟩ := (hsp.resolve_left (fun w => w.1 hc9)).2
              obtain rfl : y2 = yi.toNat := hya (by omega)
              obtain rfl : wi = 3 := by omega
              obtain ⟨hko, em2, om2, ml2, ms2, y130, y138, y139, y140, y141, y142, q124, q125, q126, q127, q130, q138, q139, q140, q141, q142, lo1, lo2, lo3, hdj⟩ := hX
              refine r_istore (L2 := [_, _, _, _, _, _, _, _]) dX11_make_209 (nlt rfl) rfl ?_
              refine r_goto 257 dX11_make_211 (by decide) ?_
              refine r_iload dX11_make_257 rfl ?_
              refine r_if_ne 265 dX11_make_259 (by decide) (by rcases hdj with ⟨y, _⟩ | ⟨y, _⟩ <;> exact ⟨by omega, by omega⟩) (fun c_259 => ?_) (fun c_259 => ?_)
              · refine r_aload_n dX11_make_265 rfl rfl ?_
                refine r_iload_n dX11_make_266 rfl rfl ?_
                refine r_callV (av := [.int (iZ (ti))]) dX11_make_267 lkX11_keep ml_X11_130 imX11_keep seX11_keep (by omega) (rfl : vwCl[11]? = _) ⟨_, q124⟩ ⟨Nat.le_of_ble_eq_true rfl, Nat.le_of_ble_eq_true rfl⟩ rfl rfl (nle rfl) ⟨Nat.le_of_ble_eq_true rfl, Nat.le_of_ble_eq_true rfl⟩ (c_X11_keep (i := ti.toNat) (om := om2) (ml := ml2) (ms := ms2) (ln := (ln : Int)) (pr := p) (nm := (sz : Int)) (at_ := at_) (wr := wr) (va := va) (em := em2) (ta := ta) (ro := ro) (dg := dg) q124 hN q125 q126 q127 (by omega) (by omega) ?_)
                show G _ _ _ _ _ _ _ 270 _ _ _
                refine r_aload_n dX11_make_270 rfl rfl ?_
                refine gf_X11_7 dX11_make_271 (by omega) ((hs_n (by omega)).trans ((hs_n (by omega)).trans ((hs_n (by omega)).trans q124))) rfl ?_
                refine r_iload_n dX11_make_274 rfl rfl ?_
                refine r_iaload dX11_make_275 (by omega) ((hs_n (by omega)).trans ((hs_n (by omega)).trans hs_e)) (by omega) (by omega) (by decide) ?_
                refine r_ireturn hq dX11_make_276 rfl rfl rfl ?_
                rcases hcs with ⟨n1, _⟩ | ⟨a1, a2, c3, s3, hc3, hs3, e1, e2, e3, e4⟩
                · rcases hdj with ⟨y, _⟩ | ⟨_, y1, _⟩
                  · exact absurd y (by omega)
                  · exact absurd y1 n1
                · obtain ⟨h41, h42, h43⟩ : om2 6 = _ ∧ _ ∧ _ := (hdj.resolve_left (fun w => w.2 ⟨a1, a2⟩)).2.2
                  subst e1; subst e2; subst e3; subst e4
                  have hRB2 := hRB ti.toNat (by omega)
                  rw [upK_e, upK_e, upK_e] at hRB2
                  rw [show ((uA om2 ti.toNat (om2 6)) (ti).toNat) = _ from uA_e.trans h41]
                  refine hQ _ ⟨_, _, _, _, _, _, _, _, _, _, _, _, _, _, _, _, _, _, _, _, _, _, _, _, _, _, ((hs_n (by omega)).trans ((hs_n (by omega)).trans ((hs_n (by omega)).trans q124))), ((hs_n (by omega)).trans ((hs_n (by omega)).trans hs_e)), ((hs_n (by omega)).trans hs_e), hs_e, ((hs_n (by omega)).trans ((hs_n (by omega)).trans ((hs_n (by omega)).trans ((hko 128 (by omega)).trans hbt)))), ((hs_n (by omega)).trans ((hs_n (by omega)).trans ((hs_n (by omega)).trans ((hko 129 (by omega)).trans hnv)))), ((hs_n (by omega)).trans ((hs_n (by omega)).trans ((hs_n (by omega)).trans q130))), ((hs_n (by omega)).trans ((hs_n (by omega)).trans ((hs_n (by omega)).trans ((hko 131 (by omega)).trans h131)))), ((hs_n (by omega)).trans ((hs_n (by omega)).trans ((hs_n (by omega)).trans ((hko 132 (by omega)).trans h132)))), ((hs_n (by omega)).trans ((hs_n (by omega)).trans ((hs_n (by omega)).trans ((hko 133 (by omega)).trans h133)))), ((hs_n (by omega)).trans ((hs_n (by omega)).trans ((hs_n (by omega)).trans ((hko 134 (by omega)).trans h134)))), ((hs_n (by omega)).trans ((hs_n (by omega)).trans ((hs_n (by omega)).trans ((hko 135 (by omega)).trans h135)))), ((hs_n (by omega)).trans ((hs_n (by omega)).trans ((hs_n (by omega)).trans ((hko 136 (by omega)).trans h136)))), ((hs_n (by omega)).trans ((hs_n (by omega)).trans ((hs_n (by omega)).trans ((hko 137 (by omega)).trans h137)))), ((hs_n (by omega)).trans ((hs_n (by omega)).trans ((hs_n (by omega)).trans q138))), ((hs_n (by omega)).trans ((hs_n (by omega)).trans ((hs_n (by omega)).trans q139))), ((hs_n (by omega)).trans ((hs_n (by omega)).trans ((hs_n (by omega)).trans q140))), ((hs_n (by omega)).trans ((hs_n (by omega)).trans ((hs_n (by omega)).trans q141))), ((hs_n (by omega)).trans ((hs_n (by omega)).trans ((hs_n (by omega)).trans q142))), ((hs_n (by omega)).trans ((hs_n (by omega)).trans ((hs_n (by omega)).trans ((hko 143 (by omega)).trans h143)))), ((hs_n (by omega)).trans ((hs_n (by omega)).trans ((hs_n (by omega)).trans ((hko 144 (by omega)).trans h144)))), ((hs_n (by omega)).trans ((hs_n (by omega)).trans ((hs_n (by omega)).trans ((hko 145 (by omega)).trans h145)))), (fun i9 hi9 => ?_), hlN, hbb, hPr, hs40, hvb⟩ (fun a9 h9 => (((hs_n (by omega)).trans ((hs_n (by omega)).trans ((hs_n (by omega)).trans rfl)))).trans (hko a9 (Or.inl h9)))
                  by_cases z : i9 = ti.toNat
                  · rw [z, upK_e, upK_e, upK_e]
                    refine ⟨⟨uA_e.trans h41, hRB2.1, hRB2.2.1, fun j a b => ⟨?_, hRB2.2.2.1 j (by have := hRB2.2.1; omega)⟩, fun j a => ⟨?_, hRB2.2.2.2.1 j (by have := hRB2.2.1; omega)⟩⟩, hRB2.2.2.2.2⟩
                    · have := hRB2.2.1
                      unfold kpF
                      rw [if_pos ⟨by omega, by omega⟩, hc3 j a b, ← h42 j a b]
                      congr 1; omega
                    · have := hRB2.2.1
                      unfold kpF
                      rw [if_pos ⟨by omega, by omega⟩, hs3 j a, ← h43 j a]
                      congr 1; omega
                  · rw [upK_n z, upK_n z, upK_n z]
                    have hM9 := hMR i9 hi9
                    have h6 := hM9.1.2.2.1
                    refine ⟨⟨by rw [uA_n z, lo1 i9 hi9]; exact hM9.1.1, hM9.1.2.1, h6, fun j a b => ⟨?_, (hM9.1.2.2.2.1 j a b).2⟩, fun j a => ⟨?_, (hM9.1.2.2.2.2 j a).2⟩⟩, hM9.2⟩
                    · unfold kpF
                      rw [if_neg (by omega), lo2 _ (by omega)]; exact (hM9.1.2.2.2.1 j a b).1
                    · unfold kpF
                      rw [if_neg (by omega), lo3 _ (by omega)]; exact (hM9.1.2.2.2.2 j a).1
              · refine r_bipush (z := -3) dX11_make_262 (by decide) ?_
                refine r_ireturn hq dX11_make_264 rfl rfl rfl ?_
                rcases hcs with ⟨_, e1, e2, e3, e4⟩ | ⟨a1, a2, _⟩
                · subst e1; subst e2; subst e3; subst e4
                  exact hQ _ ⟨_, _, _, _, _, _, _, _, _, _, _, _, _, _, _, _, _, _, _, _, _, _, _, _, _, _, q124, q125, q126, q127, ((hko 128 (by omega)).trans hbt), ((hko 129 (by omega)).trans hnv), q130, ((hko 131 (by omega)).trans h131), ((hko 132 (by omega)).trans h132), ((hko 133 (by omega)).trans h133), ((hko 134 (by omega)).trans h134), ((hko 135 (by omega)).trans h135), ((hko 136 (by omega)).trans h136), ((hko 137 (by omega)).trans h137), q138, q139, q140, q141, q142, ((hko 143 (by omega)).trans h143), ((hko 144 (by omega)).trans h144), ((hko 145 (by omega)).trans h145), (hMR.hi lo1 lo2 lo3), hlN, hbb, hPr, hs40, hvb⟩ (fun a9 h9 => hko a9 (Or.inl h9))
                · rcases hdj with ⟨_, y⟩ | ⟨y, _⟩
                  · exact absurd ⟨a1, a2⟩ y
                  · exact absurd y (by omega)
            · exfalso; omega
            · exfalso; omega
            · exfalso; omega
