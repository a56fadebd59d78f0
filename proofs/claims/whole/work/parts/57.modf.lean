set_option maxHeartbeats 2000000 in
set_option maxRecDepth 20000 in
theorem c_X11_start {N : Nat} {h : Hp} {Q : QP} {ln pr nm at_ wr va em ta ro dg : Int} {ms : Nat → Int} {n : Nat} {ni v : Int} (hm0 : h 124 = MOo ln pr nm at_ wr va em ta ro dg) (hN : 146 ≤ N) (hms : h 127 = aL 42 ms) (hn : ni = (n : Int)) (hn6 : n < 6) (hv : -9223372036854775807 ≤ v ∧ v ≤ 9223372036854775807) (hQ : ∀ b : Int, (b = 1 ∧ -1000000 ≤ v ∧ v ≤ 1000000 ∨ b = 0 ∧ ¬ (-1000000 ≤ v ∧ v ≤ 1000000)) → Q (some (.int (iZ b))) N (hs h 127 (aL 42 (uA ms (36 + n) v)))) : Runs mX11_start [.ref (124), .int (iZ (ni)), .long (lZ (v))] N h Q := by
  refine run_start (own := RX11) rfl (by decide) (nle rfl) rfl (fun X hq hini => ?_)
  show G X RX11 cX11_start mX11_start.rm N 0 0 0 [some (.ref (124)), some (.int (iZ (ni))), some (.long (lZ (v))), none] [] h
  refine r_aload_n dX11_start_0 rfl rfl ?_
  refine gf_X11_17 dX11_start_1 (by omega) hm0 rfl ?_
  refine r_bipush (z := 36) dX11_start_4 (by decide) ?_
  refine r_iload_n dX11_start_6 rfl rfl ?_
  refine r_iadd dX11_start_7 ?_
  refine r_lload_n dX11_start_8 rfl rfl ?_
  refine r_lastore dX11_start_9 (by omega) hms (by omega) (by omega) (by decide) ?_
  refine r_lload_n dX11_start_10 rfl rfl ?_
  refine r_callS (av := [.long (lZ (v))]) dX11_start_11 lkX11_size ml_X11_84 stX11_size ⟨Nat.le_of_ble_eq_true rfl, Nat.le_of_ble_eq_true rfl⟩ rfl rfl (nle rfl) ⟨Nat.le_of_ble_eq_true rfl, Nat.le_of_ble_eq_true rfl⟩ (c_X11_size (x := v) (by omega) ?_)
  show G _ _ _ _ _ _ _ 14 _ _ _
  refine r_ldc2 (z := 1000000) dX11_start_14 kc_X11_121 ?_
  refine r_lcmp_gt 25 dX11_start_17 dX11_start_18 (by decide) ⟨by omega, by omega⟩ ⟨by decide, by decide⟩ (fun c_17 => ?_) (fun c_17 => ?_)
  · refine r_iconst (z := 0) dX11_start_25 ?_
    refine r_zreturn hq dX11_start_26 rfl (by decide) rfl rfl ?_
    rw [show (36 + ni).toNat = 36 + n by omega]
    exact hQ _ (by omega)
  · refine r_iconst (z := 1) dX11_start_21 ?_
    refine r_goto 26 dX11_start_22 (by decide) ?_
    refine r_zreturn hq dX11_start_26 rfl (by decide) rfl rfl ?_
    rw [show (36 + ni).toNat = 36 + n by omega]
    exact hQ _ (by omega)
set_option maxHeartbeats 2000000 in
set_option maxRecDepth 20000 in
theorem c_X11_layPowers {N : Nat} {h : Hp} {Q : QP} {ln pr nm at_ wr va em ta ro dg : Int} {om ml ms : Nat → Int} {c s f : Nat → Int} {r k u la : Nat} {ri lai : Int} (hm0 : h 124 = MOo ln pr nm at_ wr va em ta ro dg) (hN : 146 ≤ N) (hom : h 125 = aI 7 om) (hml : h 126 = aL 42 ml) (hms : h 127 = aL 42 ms) (hg : RG om ml ms r k c s) (hri : ri = (r : Int)) (hr6 : r < 7) (hu : u = 139 ∨ u = 140) (hf : h u = aL 37 f) (hla : lai = (la : Int)) (hlM : la ≤ 36) (hQ : ∀ (b : Int) (f2 : Nat → Int), (b = 1 ∧ powB la (pw c k) ∧ (∀ j, 1 ≤ j → j ≤ la → f2 j = pw c k j) ∨ b = 0 ∧ ¬ powB la (pw c k)) → Q (some (.int (iZ b))) N (hs h u (aL 37 f2))) : Runs mX11_layPowers [.ref (124), .int (iZ (ri)), .int (iZ (lai)), .ref (u)] N h Q := by
  obtain ⟨hg1, hg2, hg3, hg4, hg5⟩ := id hg
  have ern : ri.toNat = r := by omega
  have eom : om ri.toNat = (k : Int) := by rw [ern]; exact hg1
  refine run_start (own := RX11) rfl (by decide) (nle rfl) rfl (fun X hq hini => ?_)
  show G X RX11 cX11_layPowers mX11_layPowers.rm N 0 0 0 [some (.ref (124)), some (.int (iZ (ri))), some (.int (iZ (lai))), some (.ref (u)), none, none, none, none, none] [] h
  refine r_aload_n dX11_layPowers_0 rfl rfl ?_
  refine gf_X11_7 dX11_layPowers_1 (by omega) hm0 rfl ?_
  refine r_iload_n dX11_layPowers_4 rfl rfl ?_
  refine r_iaload dX11_layPowers_5 (by omega) hom (by omega) (by omega) (by decide) ?_
  refine r_istore (L2 := [_, _, _, _, _, none, none, none, none]) dX11_layPowers_6 (nlt rfl) rfl ?_
  refine r_iconst (z := 1) dX11_layPowers_8 ?_
  refine r_istore (L2 := [_, _, _, _, _, _, none, none, none]) dX11_layPowers_9 (nlt rfl) rfl ?_
  have lp11 : ∀ (fu11 : Nat) (f1 : Nat → Int) (i : Int) (j : Nat), (40 - i) < (fu11 : Int) → (i = (j : Int)) → (1 ≤ j) → (j ≤ la + 1) → (∀ t, 1 ≤ t → t < j → f1 t = pw c k t) → (∀ t, 1 ≤ t → t < j → -1000000000 ≤ pw c k t ∧ pw c k t ≤ 1000000000) → G X RX11 cX11_layPowers mX11_layPowers.rm N 0 0 11 [some (.ref (124)), some (.int (iZ (ri))), some (.int (iZ (lai))), some (.ref (u)), some (.int (iZ (om (ri).toNat))), some (.int (iZ (i))), none, none, none] [] (hs h (u) (aL 37 (f1))) := by
    intro fu11
    induction fu11 with
    | zero => intro f1 i j hm ei j0 j1 hf1 hB; exfalso; omega
    | succ fu11 ih11 =>
      intro f1 i j hms11 ei j0 j1 hf1 hB
      refine r_iload dX11_layPowers_11 rfl ?_
      refine r_iload_n dX11_layPowers_13 rfl rfl ?_
      refine r_icmp_gt 124 dX11_layPowers_14 (by decide) ⟨by omega, by omega⟩ ⟨by omega, by omega⟩ (fun c_14 => ?_) (fun c_14 => ?_)
      · refine r_iconst (z := 1) dX11_layPowers_124 ?_
        refine r_zreturn hq dX11_layPowers_125 rfl (by decide) rfl rfl ?_
        have j9 : j = la + 1 := by omega
        exact hQ 1 _ (Or.inl ⟨rfl, fun t a b => hB t a (by omega), fun t a b => hf1 t a (by omega)⟩)
      · have ein : i.toNat = j := by omega
        refine r_iload dX11_layPowers_17 rfl ?_
        refine r_iload dX11_layPowers_19 rfl ?_
        refine r_icmp_gt 45 dX11_layPowers_21 (by decide) ⟨by omega, by omega⟩ ⟨by omega, by omega⟩ (fun c_21 => ?_) (fun c_21 => ?_)
        · refine r_lconst (z := 0) dX11_layPowers_45 (by decide) ?_
          refine r_lstore (L2 := [_, _, _, _, _, _, _, none, none]) dX11_layPowers_46 (nlt rfl) rfl ?_
          refine r_iconst (z := 1) dX11_layPowers_48 ?_
          refine r_istore (L2 := [_, _, _, _, _, _, _, none, _]) dX11_layPowers_49 (nlt rfl) rfl ?_
          have lp51 : ∀ (fu51 : Nat) (sum : Int) (w : Int) (v : Nat), (8 - w) < (fu51 : Int) → (w = (v : Int) + 1) → (v ≤ min k (j - 1)) → (sum = (if j ≤ k then (j : Int) * c j else 0) + sm (fun i => c (i + 1) * f1 (j - (i + 1))) v) → (-(600000 + (v : Int) * 100000000000000) ≤ sum) → (sum ≤ 600000 + (v : Int) * 100000000000000) → G X RX11 cX11_layPowers mX11_layPowers.rm N 0 0 51 [some (.ref (124)), some (.int (iZ (ri))), some (.int (iZ (lai))), some (.ref (u)), some (.int (iZ (om (ri).toNat))), some (.int (iZ (i))), some (.long (lZ (sum))), none, some (.int (iZ (w)))] [] (hs h (u) (aL 37 (f1))) := by
            intro fu51
            induction fu51 with
            | zero => intro sum w v hm ew v1 es s0 s1; exfalso; omega
            | succ fu51 ih51 =>
              intro sum w v hms51 ew v1 es s0 s1
              refine r_iload dX11_layPowers_51 rfl ?_
              refine r_iload dX11_layPowers_53 rfl ?_
              refine r_icmp_gt 98 dX11_layPowers_55 (by decide) ⟨by omega, by omega⟩ ⟨by omega, by omega⟩ (fun c_55 => ?_) (fun c_55 => ?_)
              · have v9 : v = min k (j - 1) := by omega
                have hsj : sum = pw c k j := by
                  rw [pw_s j0, ← pwv_cong (f := f1) (fun t a b => hf1 t a b)]
                  unfold pwv
                  rw [es, v9]
                refine r_lload dX11_layPowers_98 rfl ?_
                refine r_callS (av := [.long (lZ (sum))]) dX11_layPowers_100 lkX11_size ml_X11_84 stX11_size ⟨Nat.le_of_ble_eq_true rfl, Nat.le_of_ble_eq_true rfl⟩ rfl rfl (nle rfl) ⟨Nat.le_of_ble_eq_true rfl, Nat.le_of_ble_eq_true rfl⟩ (c_X11_size (x := sum) (by omega) ?_)
                show G _ _ _ _ _ _ _ 103 _ _ _
                refine r_ldc2 (z := 1000000000) dX11_layPowers_103 kc_X11_140 ?_
                refine r_lcmp_le 112 dX11_layPowers_106 dX11_layPowers_107 (by decide) ⟨by omega, by omega⟩ ⟨by decide, by decide⟩ (fun c_106 => ?_) (fun c_106 => ?_)
                · refine r_aload_n dX11_layPowers_112 rfl rfl ?_
                  refine r_iload dX11_layPowers_113 rfl ?_
                  refine r_lload dX11_layPowers_115 rfl ?_
                  refine r_lastore dX11_layPowers_117 (by omega) hs_e (by omega) (by omega) (by decide) ?_
                  refine g_heap (h2 := (hs h (u) (aL 37 (uA (f1) (i).toNat (sum))))) hs_hs ?_
                  refine r_iinc (L2 := [_, _, _, _, _, _, _, none, _]) dX11_layPowers_118 (nlt rfl) rfl rfl ?_
                  refine r_goto 11 dX11_layPowers_121 (by decide) ?_
                  refine r_mask [true, true, true, true, true, true, false, false, false] (L2 := [_, _, _, _, _, _, none, none, none]) rfl ?_
                  exact ih11 (uA (f1) (i).toNat (sum)) (i + 1) ((j + 1)) (by omega) (by omega) (by omega) (by omega) (fun t a b => by rw [ein]; by_cases z : t = j; (rw [z, uA_e]; exact hsj); rw [uA_n z]; exact hf1 t a (by omega)) (fun t a b => by by_cases z : t = j; (rw [z, ← hsj]; omega); exact hB t a (by omega))
                · refine r_iconst (z := 0) dX11_layPowers_110 ?_
                  refine r_zreturn hq dX11_layPowers_111 rfl (by decide) rfl rfl ?_
                  exact hQ 0 _ (Or.inr ⟨rfl, fun w => by have := w j j0 (by omega); rw [← hsj] at this; omega⟩)
              · refine r_iload dX11_layPowers_58 rfl ?_
                refine r_iload dX11_layPowers_60 rfl ?_
                refine r_icmp_ge 98 dX11_layPowers_62 (by decide) ⟨by omega, by omega⟩ ⟨by omega, by omega⟩ (fun c_62 => ?_) (fun c_62 => ?_)
                · have v9 : v = min k (j - 1) := by omega
                  have hsj : sum = pw c k j := by
                    rw [pw_s j0, ← pwv_cong (f := f1) (fun t a b => hf1 t a b)]
                    unfold pwv
                    rw [es, v9]
                  refine r_lload dX11_layPowers_98 rfl ?_
                  refine r_callS (av := [.long (lZ (sum))]) dX11_layPowers_100 lkX11_size ml_X11_84 stX11_size ⟨Nat.le_of_ble_eq_true rfl, Nat.le_of_ble_eq_true rfl⟩ rfl rfl (nle rfl) ⟨Nat.le_of_ble_eq_true rfl, Nat.le_of_ble_eq_true rfl⟩ (c_X11_size (x := sum) (by omega) ?_)
                  show G _ _ _ _ _ _ _ 103 _ _ _
                  refine r_ldc2 (z := 1000000000) dX11_layPowers_103 kc_X11_140 ?_
                  refine r_lcmp_le 112 dX11_layPowers_106 dX11_layPowers_107 (by decide) ⟨by omega, by omega⟩ ⟨by decide, by decide⟩ (fun c_106 => ?_) (fun c_106 => ?_)
                  · refine r_aload_n dX11_layPowers_112 rfl rfl ?_
                    refine r_iload dX11_layPowers_113 rfl ?_
                    refine r_lload dX11_layPowers_115 rfl ?_
                    refine r_lastore dX11_layPowers_117 (by omega) hs_e (by omega) (by omega) (by decide) ?_
                    refine g_heap (h2 := (hs h (u) (aL 37 (uA (f1) (i).toNat (sum))))) hs_hs ?_
                    refine r_iinc (L2 := [_, _, _, _, _, _, _, none, _]) dX11_layPowers_118 (nlt rfl) rfl rfl ?_
                    refine r_goto 11 dX11_layPowers_121 (by decide) ?_
                    refine r_mask [true, true, true, true, true, true, false, false, false] (L2 := [_, _, _, _, _, _, none, none, none]) rfl ?_
                    exact ih11 (uA (f1) (i).toNat (sum)) (i + 1) ((j + 1)) (by omega) (by omega) (by omega) (by omega) (fun t a b => by rw [ein]; by_cases z : t = j; (rw [z, uA_e]; exact hsj); rw [uA_n z]; exact hf1 t a (by omega)) (fun t a b => by by_cases z : t = j; (rw [z, ← hsj]; omega); exact hB t a (by omega))
                  · refine r_iconst (z := 0) dX11_layPowers_110 ?_
                    refine r_zreturn hq dX11_layPowers_111 rfl (by decide) rfl rfl ?_
                    exact hQ 0 _ (Or.inr ⟨rfl, fun w => by have := w j j0 (by omega); rw [← hsj] at this; omega⟩)
                · have e1 : ml (((6 * ri) + w) - 1).toNat = c (v + 1) := by rw [show (((6 * ri) + w) - 1).toNat = 6 * r + (v + 1) - 1 by omega]; exact (hg4 (v + 1) (by omega) (by omega)).1
                  have cb := (hg4 (v + 1) (by omega) (by omega)).2
                  rw [← e1] at cb
                  have e2 : f1 (i - w).toNat = f1 (j - (v + 1)) := by congr 1; omega
                  have fb := hB (j - (v + 1)) (by omega) (by omega)
                  rw [← hf1 (j - (v + 1)) (by omega) (by omega), ← e2] at fb
                  have m63 := mulb (A := 100000) (B := 1000000000) (a := ml (((6 * ri) + w) - 1).toNat) (b := f1 (i - w).toNat) (C := 100000000000000) (by omega) (by omega) (by omega) (by omega) (by decide)
                  refine r_lload dX11_layPowers_65 rfl ?_
                  refine r_aload_n dX11_layPowers_67 rfl rfl ?_
                  refine gf_X11_13 dX11_layPowers_68 (by omega) ((hs_n (by omega)).trans hm0) rfl ?_
                  refine r_bipush (z := 6) dX11_layPowers_71 (by decide) ?_
                  refine r_iload_n dX11_layPowers_73 rfl rfl ?_
                  refine r_imul dX11_layPowers_74 ?_
                  refine r_iload dX11_layPowers_75 rfl ?_
                  refine r_iadd dX11_layPowers_77 ?_
                  refine r_iconst (z := 1) dX11_layPowers_78 ?_
                  refine r_isub dX11_layPowers_79 ?_
                  refine r_laload dX11_layPowers_80 (by omega) ((hs_n (by omega)).trans hml) (by omega) (by omega) (by decide) ?_
                  refine r_aload_n dX11_layPowers_81 rfl rfl ?_
                  refine r_iload dX11_layPowers_82 rfl ?_
                  refine r_iload dX11_layPowers_84 rfl ?_
                  refine r_isub dX11_layPowers_86 ?_
                  refine r_laload dX11_layPowers_87 (by omega) hs_e (by omega) (by omega) (by decide) ?_
                  refine r_lmul dX11_layPowers_88 ?_
                  refine r_ladd dX11_layPowers_89 ?_
                  refine r_lstore (L2 := [_, _, _, _, _, _, _, none, _]) dX11_layPowers_90 (nlt rfl) rfl ?_
                  refine r_iinc (L2 := [_, _, _, _, _, _, _, none, _]) dX11_layPowers_92 (nlt rfl) rfl rfl ?_
                  refine r_goto 51 dX11_layPowers_95 (by decide) ?_
                  exact ih51 (sum + ((ml (((6 * ri) + w) - 1).toNat) * (f1 (i - w).toNat))) (w + 1) ((v + 1)) (by omega) (by omega) (by omega) (by rw [sm_s, es, e1, e2]; omega) (by omega) (by omega)
          exact lp51 ((8 : Int) + 1).toNat (0) (1) (0) (by omega) (by omega) (by omega) (by rw [if_neg (by omega)]; show _ = _ + (0 : Int); rw [Int.add_zero]) (by omega) (by omega)
        · have e40 : ml (((6 * ri) + i) - 1).toNat = c j := by rw [show (((6 * ri) + i) - 1).toNat = 6 * r + j - 1 by omega]; exact (hg4 j j0 (by omega)).1
          have cb := (hg4 j j0 (by omega)).2
          rw [← e40] at cb
          have m41 := mulb (A := 6) (B := 100000) (a := i) (b := ml (((6 * ri) + i) - 1).toNat) (C := 600000) (by omega) (by omega) (by omega) (by omega) (by decide)
          refine r_iload dX11_layPowers_24 rfl ?_
          refine r_i2l dX11_layPowers_26 ⟨by omega, by omega⟩ ?_
          refine r_aload_n dX11_layPowers_27 rfl rfl ?_
          refine gf_X11_13 dX11_layPowers_28 (by omega) ((hs_n (by omega)).trans hm0) rfl ?_
          refine r_bipush (z := 6) dX11_layPowers_31 (by decide) ?_
          refine r_iload_n dX11_layPowers_33 rfl rfl ?_
          refine r_imul dX11_layPowers_34 ?_
          refine r_iload dX11_layPowers_35 rfl ?_
          refine r_iadd dX11_layPowers_37 ?_
          refine r_iconst (z := 1) dX11_layPowers_38 ?_
          refine r_isub dX11_layPowers_39 ?_
          refine r_laload dX11_layPowers_40 (by omega) ((hs_n (by omega)).trans hml) (by omega) (by omega) (by decide) ?_
          refine r_lmul dX11_layPowers_41 ?_
          refine r_goto 46 dX11_layPowers_42 (by decide) ?_
          refine r_lstore (L2 := [_, _, _, _, _, _, _, none, none]) dX11_layPowers_46 (nlt rfl) rfl ?_
          refine r_iconst (z := 1) dX11_layPowers_48 ?_
          refine r_istore (L2 := [_, _, _, _, _, _, _, none, _]) dX11_layPowers_49 (nlt rfl) rfl ?_
          have lp51 : ∀ (fu51 : Nat) (sum : Int) (w : Int) (v : Nat), (8 - w) < (fu51 : Int) → (w = (v : Int) + 1) → (v ≤ min k (j - 1)) → (sum = (if j ≤ k then (j : Int) * c j else 0) + sm (fun i => c (i + 1) * f1 (j - (i + 1))) v) → (-(600000 + (v : Int) * 100000000000000) ≤ sum) → (sum ≤ 600000 + (v : Int) * 100000000000000) → G X RX11 cX11_layPowers mX11_layPowers.rm N 0 0 51 [some (.ref (124)), some (.int (iZ (ri))), some (.int (iZ (lai))), some (.ref (u)), some (.int (iZ (om (ri).toNat))), some (.int (iZ (i))), some (.long (lZ (sum))), none, some (.int (iZ (w)))] [] (hs h (u) (aL 37 (f1))) := by
            intro fu51
            induction fu51 with
            | zero => intro sum w v hm ew v1 es s0 s1; exfalso; omega
            | succ fu51 ih51 =>
              intro sum w v hms51 ew v1 es s0 s1
              refine r_iload dX11_layPowers_51 rfl ?_
              refine r_iload dX11_layPowers_53 rfl ?_
              refine r_icmp_gt 98 dX11_layPowers_55 (by decide) ⟨by omega, by omega⟩ ⟨by omega, by omega⟩ (fun c_55 => ?_) (fun c_55 => ?_)
              · have v9 : v = min k (j - 1) := by omega
                have hsj : sum = pw c k j := by
                  rw [pw_s j0, ← pwv_cong (f := f1) (fun t a b => hf1 t a b)]
                  unfold pwv
                  rw [es, v9]
                refine r_lload dX11_layPowers_98 rfl ?_
                refine r_callS (av := [.long (lZ (sum))]) dX11_layPowers_100 lkX11_size ml_X11_84 stX11_size ⟨Nat.le_of_ble_eq_true rfl, Nat.le_of_ble_eq_true rfl⟩ rfl rfl (nle rfl) ⟨Nat.le_of_ble_eq_true rfl, Nat.le_of_ble_eq_true rfl⟩ (c_X11_size (x := sum) (by omega) ?_)
                show G _ _ _ _ _ _ _ 103 _ _ _
                refine r_ldc2 (z := 1000000000) dX11_layPowers_103 kc_X11_140 ?_
                refine r_lcmp_le 112 dX11_layPowers_106 dX11_layPowers_107 (by decide) ⟨by omega, by omega⟩ ⟨by decide, by decide⟩ (fun c_106 => ?_) (fun c_106 => ?_)
                · refine r_aload_n dX11_layPowers_112 rfl rfl ?_
                  refine r_iload dX11_layPowers_113 rfl ?_
                  refine r_lload dX11_layPowers_115 rfl ?_
                  refine r_lastore dX11_layPowers_117 (by omega) hs_e (by omega) (by omega) (by decide) ?_
                  refine g_heap (h2 := (hs h (u) (aL 37 (uA (f1) (i).toNat (sum))))) hs_hs ?_
                  refine r_iinc (L2 := [_, _, _, _, _, _, _, none, _]) dX11_layPowers_118 (nlt rfl) rfl rfl ?_
                  refine r_goto 11 dX11_layPowers_121 (by decide) ?_
                  refine r_mask [true, true, true, true, true, true, false, false, false] (L2 := [_, _, _, _, _, _, none, none, none]) rfl ?_
                  exact ih11 (uA (f1) (i).toNat (sum)) (i + 1) ((j + 1)) (by omega) (by omega) (by omega) (by omega) (fun t a b => by rw [ein]; by_cases z : t = j; (rw [z, uA_e]; exact hsj); rw [uA_n z]; exact hf1 t a (by omega)) (fun t a b => by by_cases z : t = j; (rw [z, ← hsj]; omega); exact hB t a (by omega))
                · refine r_iconst (z := 0) dX11_layPowers_110 ?_
                  refine r_zreturn hq dX11_layPowers_111 rfl (by decide) rfl rfl ?_
                  exact hQ 0 _ (Or.inr ⟨rfl, fun w => by have := w j j0 (by omega); rw [← hsj] at this; omega⟩)
              · refine r_iload dX11_layPowers_58 rfl ?_
                refine r_iload dX11_layPowers_60 rfl ?_
                refine r_icmp_ge 98 dX11_layPowers_62 (by decide) ⟨by omega, by omega⟩ ⟨by omega, by omega⟩ (fun c_62 => ?_) (fun c_62 => ?_)
                · have v9 : v = min k (j - 1) := by omega
                  have hsj : sum = pw c k j := by
                    rw [pw_s j0, ← pwv_cong (f := f1) (fun t a b => hf1 t a b)]
                    unfold pwv
                    rw [es, v9]
                  refine r_lload dX11_layPowers_98 rfl ?_
                  refine r_callS (av := [.long (lZ (sum))]) dX11_layPowers_100 lkX11_size ml_X11_84 stX11_size ⟨Nat.le_of_ble_eq_true rfl, Nat.le_of_ble_eq_true rfl⟩ rfl rfl (nle rfl) ⟨Nat.le_of_ble_eq_true rfl, Nat.le_of_ble_eq_true rfl⟩ (c_X11_size (x := sum) (by omega) ?_)
                  show G _ _ _ _ _ _ _ 103 _ _ _
                  refine r_ldc2 (z := 1000000000) dX11_layPowers_103 kc_X11_140 ?_
                  refine r_lcmp_le 112 dX11_layPowers_106 dX11_layPowers_107 (by decide) ⟨by omega, by omega⟩ ⟨by decide, by decide⟩ (fun c_106 => ?_) (fun c_106 => ?_)
                  · refine r_aload_n dX11_layPowers_112 rfl rfl ?_
                    refine r_iload dX11_layPowers_113 rfl ?_
                    refine r_lload dX11_layPowers_115 rfl ?_
                    refine r_lastore dX11_layPowers_117 (by omega) hs_e (by omega) (by omega) (by decide) ?_
                    refine g_heap (h2 := (hs h (u) (aL 37 (uA (f1) (i).toNat (sum))))) hs_hs ?_
                    refine r_iinc (L2 := [_, _, _, _, _, _, _, none, _]) dX11_layPowers_118 (nlt rfl) rfl rfl ?_
                    refine r_goto 11 dX11_layPowers_121 (by decide) ?_
                    refine r_mask [true, true, true, true, true, true, false, false, false] (L2 := [_, _, _, _, _, _, none, none, none]) rfl ?_
                    exact ih11 (uA (f1) (i).toNat (sum)) (i + 1) ((j + 1)) (by omega) (by omega) (by omega) (by omega) (fun t a b => by rw [ein]; by_cases z : t = j; (rw [z, uA_e]; exact hsj); rw [uA_n z]; exact hf1 t a (by omega)) (fun t a b => by by_cases z : t = j; (rw [z, ← hsj]; omega); exact hB t a (by omega))
                  · refine r_iconst (z := 0) dX11_layPowers_110 ?_
                    refine r_zreturn hq dX11_layPowers_111 rfl (by decide) rfl rfl ?_
                    exact hQ 0 _ (Or.inr ⟨rfl, fun w => by have := w j j0 (by omega); rw [← hsj] at this; omega⟩)
                · have e1 : ml (((6 * ri) + w) - 1).toNat = c (v + 1) := by rw [show (((6 * ri) + w) - 1).toNat = 6 * r + (v + 1) - 1 by omega]; exact (hg4 (v + 1) (by omega) (by omega)).1
                  have cb := (hg4 (v + 1) (by omega) (by omega)).2
                  rw [← e1] at cb
                  have e2 : f1 (i - w).toNat = f1 (j - (v + 1)) := by congr 1; omega
                  have fb := hB (j - (v + 1)) (by omega) (by omega)
                  rw [← hf1 (j - (v + 1)) (by omega) (by omega), ← e2] at fb
                  have m63 := mulb (A := 100000) (B := 1000000000) (a := ml (((6 * ri) + w) - 1).toNat) (b := f1 (i - w).toNat) (C := 100000000000000) (by omega) (by omega) (by omega) (by omega) (by decide)
                  refine r_lload dX11_layPowers_65 rfl ?_
                  refine r_aload_n dX11_layPowers_67 rfl rfl ?_
                  refine gf_X11_13 dX11_layPowers_68 (by omega) ((hs_n (by omega)).trans hm0) rfl ?_
                  refine r_bipush (z := 6) dX11_layPowers_71 (by decide) ?_
                  refine r_iload_n dX11_layPowers_73 rfl rfl ?_
                  refine r_imul dX11_layPowers_74 ?_
                  refine r_iload dX11_layPowers_75 rfl ?_
                  refine r_iadd dX11_layPowers_77 ?_
                  refine r_iconst (z := 1) dX11_layPowers_78 ?_
                  refine r_isub dX11_layPowers_79 ?_
                  refine r_laload dX11_layPowers_80 (by omega) ((hs_n (by omega)).trans hml) (by omega) (by omega) (by decide) ?_
                  refine r_aload_n dX11_layPowers_81 rfl rfl ?_
                  refine r_iload dX11_layPowers_82 rfl ?_
                  refine r_iload dX11_layPowers_84 rfl ?_
                  refine r_isub dX11_layPowers_86 ?_
                  refine r_laload dX11_layPowers_87 (by omega) hs_e (by omega) (by omega) (by decide) ?_
                  refine r_lmul dX11_layPowers_88 ?_
                  refine r_ladd dX11_layPowers_89 ?_
                  refine r_lstore (L2 := [_, _, _, _, _, _, _, none, _]) dX11_layPowers_90 (nlt rfl) rfl ?_
                  refine r_iinc (L2 := [_, _, _, _, _, _, _, none, _]) dX11_layPowers_92 (nlt rfl) rfl rfl ?_
                  refine r_goto 51 dX11_layPowers_95 (by decide) ?_
                  exact ih51 (sum + ((ml (((6 * ri) + w) - 1).toNat) * (f1 (i - w).toNat))) (w + 1) ((v + 1)) (by omega) (by omega) (by omega) (by rw [sm_s, es, e1, e2]; omega) (by omega) (by omega)
          exact lp51 ((8 : Int) + 1).toNat (i * (ml (((6 * ri) + i) - 1).toNat)) (1) (0) (by omega) (by omega) (by omega) (by rw [if_pos (by omega)]; show _ = _ + (0 : Int); rw [Int.add_zero]; rw [e40, ei]) (by omega) (by omega)
  refine g_heap (hs_id (c := aL 37 (f)) hf).symm ?_
  exact lp11 ((40 : Int) + 1).toNat (f) (1) (1) (by omega) rfl (Nat.le_refl _) (by omega) (fun t a b => by omega) (fun t a b => by omega)
set_option maxHeartbeats 2000000 in
set_option maxRecDepth 20000 in
theorem c_X11_fromPowers {N : Nat} {h : Hp} {Q : QP} {ln pr nm at_ wr va em ta ro dg : Int} {om ml ms : Nat → Int} {xp : Nat → Int} {K : Nat} {Ki : Int} (hm0 : h 124 = MOo ln pr nm at_ wr va em ta ro dg) (hN : 146 ≤ N) (hom : h 125 = aI 7 om) (hml : h 126 = aL 42 ml) (hms : h 127 = aL 42 ms) (h141 : h 141 = aL 7 xp) (hK : Ki = (K : Int)) (hK0 : 0 < K) (hK6 : K ≤ 6) (hP : powB K xp) (hQ : ∀ (b : Int) (om2 ml2 : Nat → Int), LW6 om ml (lawB K (lb xp)) K (lb xp) b om2 ml2 → Q (some (.int (iZ b))) N (hs (hs h 125 (aI 7 om2)) 126 (aL 42 ml2))) : Runs mX11_fromPowers [.ref (124), .int (iZ (Ki))] N h Q := by
  refine run_start (own := RX11) rfl (by decide) (nle rfl) rfl (fun X hq hini => ?_)
  show G X RX11 cX11_fromPowers mX11_fromPowers.rm N 0 0 0 [some (.ref (124)), some (.int (iZ (Ki))), none, none, none, none] [] h
  refine r_aload_n dX11_fromPowers_0 rfl rfl ?_
  refine gf_X11_7 dX11_fromPowers_1 (by omega) hm0 rfl ?_
  refine r_bipush (z := 6) dX11_fromPowers_4 (by decide) ?_
  refine r_iload_n dX11_fromPowers_6 rfl rfl ?_
  refine r_iastore dX11_fromPowers_7 (by omega) hom (by omega) (by omega) (by decide) ?_
  refine r_iconst (z := 1) dX11_fromPowers_8 ?_
  refine r_istore_n (L2 := [_, _, _, none, none, none]) dX11_fromPowers_9 rfl (nlt rfl) rfl ?_
  have lp10 : ∀ (fu10 : Nat) (m1 : Nat → Int) (i : Int) (j : Nat), (9 - i) < (fu10 : Int) → (i = (j : Int)) → (1 ≤ j) → (j ≤ K + 1) → (∀ t, t < 36 → m1 t = ml t) → (∀ t, 1 ≤ t → t < j → m1 (36 + t - 1) = lb xp t) → (∀ t, 1 ≤ t → t < j → -100000 ≤ lb xp t ∧ lb xp t ≤ 100000) → G X RX11 cX11_fromPowers mX11_fromPowers.rm N 0 0 10 [some (.ref (124)), some (.int (iZ (Ki))), some (.int (iZ (i))), none, none, none] [] (hs (hs h (125) (aI 7 (uA (om) (6 : Int).toNat (Ki)))) (126) (aL 42 (m1))) := by
    intro fu10
    induction fu10 with
    | zero => intro m1 i j hm ei j0 j1 hm1 hme hmB; exfalso; omega
    | succ fu10 ih10 =>
      intro m1 i j hms10 ei j0 j1 hm1 hme hmB
      refine r_iload_n dX11_fromPowers_10 rfl rfl ?_
      refine r_iload_n dX11_fromPowers_11 rfl rfl ?_
      refine r_icmp_gt 99 dX11_fromPowers_12 (by decide) ⟨by omega, by omega⟩ ⟨by omega, by omega⟩ (fun c_12 => ?_) (fun c_12 => ?_)
      · refine r_iconst (z := 1) dX11_fromPowers_99 ?_
        refine r_zreturn hq dX11_fromPowers_100 rfl (by decide) rfl rfl ?_
        have j9 : j = K + 1 := by omega
        exact hQ 1 _ m1 ⟨fun t ht => uA_n (by show t ≠ 6; omega), hm1, Or.inr ⟨rfl, fun t a b => hmB t a (by omega), uA_e.trans hK, fun t a b => hme t a (by omega)⟩⟩
      · have ein : i.toNat = j := by omega
        have xb := hP j j0 (by omega)
        rw [← ein] at xb
        have e86 : ((36 + i) - 1).toNat = 36 + j - 1 := by omega
        refine r_aload_n dX11_fromPowers_15 rfl rfl ?_
        refine gf_X11_63 dX11_fromPowers_16 (by omega) ((hs_n (by omega)).trans ((hs_n (by omega)).trans hm0)) rfl ?_
        refine r_iload_n dX11_fromPowers_19 rfl rfl ?_
        refine r_laload dX11_fromPowers_20 (by omega) ((hs_n (by omega)).trans ((hs_n (by omega)).trans h141)) (by omega) (by omega) (by decide) ?_
        refine r_lstore_n (L2 := [_, _, _, _, none, none]) dX11_fromPowers_21 rfl (nlt rfl) rfl ?_
        refine r_iconst (z := 1) dX11_fromPowers_22 ?_
        refine r_istore (L2 := [_, _, _, _, none, _]) dX11_fromPowers_23 (nlt rfl) rfl ?_
        have lp25 : ∀ (fu25 : Nat) (re : Int) (w : Int) (v : Nat), (8 - w) < (fu25 : Int) → (w = (v : Int) + 1) → (v ≤ j - 1) → (re = xp j - sm (fun i => lb xp (i + 1) * xp (j - (i + 1))) v) → (-(1000000000 + (v : Int) * 100000000000000) ≤ re) → (re ≤ 1000000000 + (v : Int) * 100000000000000) → G X RX11 cX11_fromPowers mX11_fromPowers.rm N 0 0 25 [some (.ref (124)), some (.int (iZ (Ki))), some (.int (iZ (i))), some (.long (lZ (re))), none, some (.int (iZ (w)))] [] (hs (hs h (125) (aI 7 (uA (om) (6 : Int).toNat (Ki)))) (126) (aL 42 (m1))) := by
          intro fu25
          induction fu25 with
          | zero => intro re w v hm ew v1 es s0 s1; exfalso; omega
          | succ fu25 ih25 =>
            intro re w v hms25 ew v1 es s0 s1
            refine r_iload dX11_fromPowers_25 rfl ?_
            refine r_iload_n dX11_fromPowers_27 rfl rfl ?_
            refine r_icmp_ge 62 dX11_fromPowers_28 (by decide) ⟨by omega, by omega⟩ ⟨by omega, by omega⟩ (fun c_28 => ?_) (fun c_28 => ?_)
            · have v9 : v = j - 1 := by omega
              have hnj : re.tdiv i = lb xp j := by
                rw [lb_s j0]
                unfold lbv
                rw [es, v9, ei]
              have tdb := tdiv_ab re i
              refine r_lload_n dX11_fromPowers_62 rfl rfl ?_
              refine r_iload_n dX11_fromPowers_63 rfl rfl ?_
              refine r_i2l dX11_fromPowers_64 ⟨by omega, by omega⟩ ?_
              refine r_ldiv dX11_fromPowers_65 ⟨by omega, by omega⟩ ⟨by omega, by omega⟩ (by omega) (by omega) ?_
              refine r_callS (av := [.long (lZ (re.tdiv i))]) dX11_fromPowers_66 lkX11_size ml_X11_84 stX11_size ⟨Nat.le_of_ble_eq_true rfl, Nat.le_of_ble_eq_true rfl⟩ rfl rfl (nle rfl) ⟨Nat.le_of_ble_eq_true rfl, Nat.le_of_ble_eq_true rfl⟩ (c_X11_size (x := re.tdiv i) (by omega) ?_)
              show G _ _ _ _ _ _ _ 69 _ _ _
              refine r_ldc2 (z := 100000) dX11_fromPowers_69 kc_X11_115 ?_
              refine r_lcmp_le 78 dX11_fromPowers_72 dX11_fromPowers_73 (by decide) ⟨by omega, by omega⟩ ⟨by decide, by decide⟩ (fun c_72 => ?_) (fun c_72 => ?_)
              · refine r_aload_n dX11_fromPowers_78 rfl rfl ?_
                refine gf_X11_13 dX11_fromPowers_79 (by omega) ((hs_n (by omega)).trans ((hs_n (by omega)).trans hm0)) rfl ?_
                refine r_bipush (z := 36) dX11_fromPowers_82 (by decide) ?_
                refine r_iload_n dX11_fromPowers_84 rfl rfl ?_
                refine r_iadd dX11_fromPowers_85 ?_
                refine r_iconst (z := 1) dX11_fromPowers_86 ?_
                refine r_isub dX11_fromPowers_87 ?_
                refine r_lload_n dX11_fromPowers_88 rfl rfl ?_
                refine r_iload_n dX11_fromPowers_89 rfl rfl ?_
                refine r_i2l dX11_fromPowers_90 ⟨by omega, by omega⟩ ?_
                refine r_ldiv dX11_fromPowers_91 ⟨by omega, by omega⟩ ⟨by omega, by omega⟩ (by omega) (by omega) ?_
                refine r_lastore dX11_fromPowers_92 (by omega) hs_e (by omega) (by omega) (by decide) ?_
                refine g_heap (h2 := (hs (hs h (125) (aI 7 (uA (om) (6 : Int).toNat (Ki)))) (126) (aL 42 (uA (m1) ((36 + i) - 1).toNat (re.tdiv i))))) hs_hs ?_
                refine r_iinc (L2 := [_, _, _, _, none, _]) dX11_fromPowers_93 (nlt rfl) rfl rfl ?_
                refine r_goto 10 dX11_fromPowers_96 (by decide) ?_
                refine r_mask [true, true, true, false, false, false] (L2 := [_, _, _, none, none, none]) rfl ?_
                exact ih10 (uA (m1) ((36 + i) - 1).toNat (re.tdiv i)) (i + 1) ((j + 1)) (by omega) (by omega) (by omega) (by omega) (fun t ht => by rw [e86, uA_n (by omega)]; exact hm1 t ht) (fun t a b => by rw [e86]; by_cases z : t = j; (rw [z, uA_e]; exact hnj); rw [uA_n (by omega)]; exact hme t a (by omega)) (fun t a b => by by_cases z : t = j; (rw [z, ← hnj]; omega); exact hmB t a (by omega))
              · refine r_iconst (z := 0) dX11_fromPowers_76 ?_
                refine r_zreturn hq dX11_fromPowers_77 rfl (by decide) rfl rfl ?_
                exact hQ 0 _ m1 ⟨fun t ht => uA_n (by show t ≠ 6; omega), hm1, Or.inl ⟨rfl, fun w => by have := w j j0 (by omega); rw [← hnj] at this; omega⟩⟩
            · have e1 : m1 ((36 + w) - 1).toNat = lb xp (v + 1) := by rw [show ((36 + w) - 1).toNat = 36 + (v + 1) - 1 by omega]; exact hme (v + 1) (by omega) (by omega)
              have cb := hmB (v + 1) (by omega) (by omega)
              rw [← e1] at cb
              have e2 : xp (i - w).toNat = xp (j - (v + 1)) := by congr 1; omega
              have fb := hP (j - (v + 1)) (by omega) (by omega)
              rw [← e2] at fb
              have m50 := mulb (A := 100000) (B := 1000000000) (a := m1 ((36 + w) - 1).toNat) (b := xp (i - w).toNat) (C := 100000000000000) (by omega) (by omega) (by omega) (by omega) (by decide)
              refine r_lload_n dX11_fromPowers_31 rfl rfl ?_
              refine r_aload_n dX11_fromPowers_32 rfl rfl ?_
              refine gf_X11_13 dX11_fromPowers_33 (by omega) ((hs_n (by omega)).trans ((hs_n (by omega)).trans hm0)) rfl ?_
              refine r_bipush (z := 36) dX11_fromPowers_36 (by decide) ?_
              refine r_iload dX11_fromPowers_38 rfl ?_
              refine r_iadd dX11_fromPowers_40 ?_
              refine r_iconst (z := 1) dX11_fromPowers_41 ?_
              refine r_isub dX11_fromPowers_42 ?_
              refine r_laload dX11_fromPowers_43 (by omega) hs_e (by omega) (by omega) (by decide) ?_
              refine r_aload_n dX11_fromPowers_44 rfl rfl ?_
              refine gf_X11_63 dX11_fromPowers_45 (by omega) ((hs_n (by omega)).trans ((hs_n (by omega)).trans hm0)) rfl ?_
              refine r_iload_n dX11_fromPowers_48 rfl rfl ?_
              refine r_iload dX11_fromPowers_49 rfl ?_
              refine r_isub dX11_fromPowers_51 ?_
              refine r_laload dX11_fromPowers_52 (by omega) ((hs_n (by omega)).trans ((hs_n (by omega)).trans h141)) (by omega) (by omega) (by decide) ?_
              refine r_lmul dX11_fromPowers_53 ?_
              refine r_lsub dX11_fromPowers_54 ?_
              refine r_lstore_n (L2 := [_, _, _, _, none, _]) dX11_fromPowers_55 rfl (nlt rfl) rfl ?_
              refine r_iinc (L2 := [_, _, _, _, none, _]) dX11_fromPowers_56 (nlt rfl) rfl rfl ?_
              refine r_goto 25 dX11_fromPowers_59 (by decide) ?_
              exact ih25 (re - ((m1 ((36 + w) - 1).toNat) * (xp (i - w).toNat))) (w + 1) ((v + 1)) (by omega) (by omega) (by omega) (by rw [sm_s, es, e1, e2]; omega) (by omega) (by omega)
        exact lp25 ((8 : Int) + 1).toNat (xp (i).toNat) (1) (0) (by omega) (by omega) (by omega) (by rw [ein]; show _ = _ - (0 : Int); rw [Int.sub_zero]) (by omega) (by omega)
  refine g_heap (hs_id (c := aL 42 (ml)) ((hs_n (by omega)).trans hml)).symm ?_
  exact lp10 ((9 : Int) + 1).toNat (ml) (1) (1) (by omega) rfl (Nat.le_refl _) (by omega) (fun _ _ => rfl) (fun t a b => by omega) (fun t a b => by omega)
set_option maxHeartbeats 2000000 in
set_option maxRecDepth 20000 in
theorem c_X11_layFirst {N : Nat} {h : Hp} {Q : QP} {ln pr nm at_ wr va em ta ro dg : Int} {om ml ms : Nat → Int} {ex0 f0 c s : Nat → Int} {r k m : Nat} {ri mi : Int} (hm0 : h 124 = MOo ln pr nm at_ wr va em ta ro dg) (hN : 146 ≤ N) (hom : h 125 = aI 7 om) (hml : h 126 = aL 42 ml) (hms : h 127 = aL 42 ms) (hex : h 130 = aL 2001 ex0) (h142 : h 142 = aL 100 f0) (hg : RG om ml ms r k c s) (hri : ri = (r : Int)) (hr6 : r < 7) (hmi : mi = (m : Int)) (hm1 : 1 ≤ m) (hm : m ≤ 2001) (hQ : ∀ (b em2 : Int) (F2 f2 : Nat → Int), (b = 0 ∧ ¬ (∀ j, j < m → inM (ex k c s j)) ∨ b = 1 ∧ (∀ j, j < m → inM (ex k c s j)) ∧ ∀ j, j < m → j < 100 → f2 j = ex k c s j) → Q (some (.int (iZ b))) N (hs (hs (hs h 124 (MOo ln pr nm at_ wr va em2 ta ro dg)) 130 (aL 2001 F2)) 142 (aL 100 f2))) : Runs mX11_layFirst [.ref (124), .int (iZ (ri)), .int (iZ (mi))] N h Q := by
  have hr7 := hg.2.1
  refine run_start (own := RX11) rfl (by decide) (nle rfl) rfl (fun X hq hini => ?_)
  show G X RX11 cX11_layFirst mX11_layFirst.rm N 0 0 0 [some (.ref (124)), some (.int (iZ (ri))), some (.int (iZ (mi))), none] [] h
  refine r_aload_n dX11_layFirst_0 rfl rfl ?_
  refine r_iload_n dX11_layFirst_1 rfl rfl ?_
  refine r_iload_n dX11_layFirst_2 rfl rfl ?_
  refine r_iconst (z := 1) dX11_layFirst_3 ?_
  refine r_isub dX11_layFirst_4 ?_
  refine r_callV (av := [.int (iZ (ri)), .int (iZ (mi - 1))]) dX11_layFirst_5 lkX11_layExact ml_X11_150 imX11_layExact seX11_layExact (by omega) (rfl : vwCl[11]? = _) ⟨_, hm0⟩ ⟨Nat.le_of_ble_eq_true rfl, Nat.le_of_ble_eq_true rfl⟩ rfl rfl (nle rfl) ⟨Nat.le_of_ble_eq_true rfl, Nat.le_of_ble_eq_true rfl⟩ (c_X11_layExact (r := r) (k := k) (c := c) (s := s) (last := (m - 1)) (om := om) (ml := ml) (ms := ms) (ex0 := ex0) (ln := ln) (pr := pr) (nm := nm) (at_ := at_) (wr := wr) (va := va) (em := em) (ta := ta) (ro := ro) (dg := dg) hm0 hN hom hml hms hex hg (by omega) (by omega) (by omega) (by omega) (fun t5 X5 hT5 hX5 => ?_))
  show G _ _ _ _ _ _ _ 8 _ _ _
  have t5l : t5 ≤ m := by have := hT5.1; omega
  refine r_iload_n dX11_layFirst_8 rfl rfl ?_
  refine r_icmp_ge 14 dX11_layFirst_9 (by decide) ⟨by omega, by omega⟩ ⟨by omega, by omega⟩ (fun c_9 => ?_) (fun c_9 => ?_)
  · refine r_iconst (z := 0) dX11_layFirst_14 ?_
    refine r_istore_n (L2 := [_, _, _, _]) dX11_layFirst_15 rfl (nlt rfl) rfl ?_
    have lp16 : ∀ (fu16 : Nat) (f1 : Nat → Int) (i : Int) (n : Nat), (102 - i) < (fu16 : Int) → (i = (n : Int)) → (n ≤ m) → (n ≤ 100) → (∀ j, j < n → f1 j = ex k c s j) → G X RX11 cX11_layFirst mX11_layFirst.rm N 0 0 16 [some (.ref (124)), some (.int (iZ (ri))), some (.int (iZ (mi))), some (.int (iZ (i)))] [] (hs (hs (hs h (124) (MOo (ln) (pr) (nm) (at_) (wr) (va) ((t5 : Int)) (ta) (ro) (dg))) (130) (aL 2001 (X5))) (142) (aL 100 (f1))) := by
      intro fu16
      induction fu16 with
      | zero => intro f1 i n hm ei nm_ nh hf1; exfalso; omega
      | succ fu16 ih16 =>
        intro f1 i n hms16 ei nm_ nh hf1
        refine r_iload_n dX11_layFirst_16 rfl rfl ?_
        refine r_iload_n dX11_layFirst_17 rfl rfl ?_
        refine r_icmp_ge 45 dX11_layFirst_18 (by decide) ⟨by omega, by omega⟩ ⟨by omega, by omega⟩ (fun c_18 => ?_) (fun c_18 => ?_)
        · refine r_iconst (z := 1) dX11_layFirst_45 ?_
          refine r_zreturn hq dX11_layFirst_46 rfl (by decide) rfl rfl ?_
          exact hQ 1 _ _ f1 (Or.inr ⟨rfl, fun j hj => hT5.2.1 j (by omega), fun j hj h9 => hf1 j (by omega)⟩)
        · refine r_iload_n dX11_layFirst_21 rfl rfl ?_
          refine r_bipush (z := 100) dX11_layFirst_22 (by decide) ?_
          refine r_icmp_ge 45 dX11_layFirst_24 (by decide) ⟨by omega, by omega⟩ ⟨by decide, by decide⟩ (fun c_24 => ?_) (fun c_24 => ?_)
          · refine r_iconst (z := 1) dX11_layFirst_45 ?_
            refine r_zreturn hq dX11_layFirst_46 rfl (by decide) rfl rfl ?_
            exact hQ 1 _ _ f1 (Or.inr ⟨rfl, fun j hj => hT5.2.1 j (by omega), fun j hj h9 => hf1 j (by omega)⟩)
          · refine r_aload_n dX11_layFirst_27 rfl rfl ?_
            refine gf_X11_66 dX11_layFirst_28 (by omega) ((hs_n (by omega)).trans ((hs_n (by omega)).trans hs_e)) rfl ?_
            refine r_iload_n dX11_layFirst_31 rfl rfl ?_
            refine r_aload_n dX11_layFirst_32 rfl rfl ?_
            refine gf_X11_30 dX11_layFirst_33 (by omega) ((hs_n (by omega)).trans ((hs_n (by omega)).trans hs_e)) rfl ?_
            refine r_iload_n dX11_layFirst_36 rfl rfl ?_
            refine r_laload dX11_layFirst_37 (by omega) ((hs_n (by omega)).trans hs_e) (by omega) (by omega) (by decide) ?_
            refine r_lastore dX11_layFirst_38 (by omega) hs_e (by omega) (by omega) (by decide) ?_
            refine g_heap (h2 := (hs (hs (hs h (124) (MOo (ln) (pr) (nm) (at_) (wr) (va) ((t5 : Int)) (ta) (ro) (dg))) (130) (aL 2001 (X5))) (142) (aL 100 (uA (f1) (i).toNat (X5 (i).toNat))))) hs_hs ?_
            refine r_iinc (L2 := [_, _, _, _]) dX11_layFirst_39 (nlt rfl) rfl rfl ?_
            refine r_goto 16 dX11_layFirst_42 (by decide) ?_
            exact ih16 (uA (f1) (i).toNat (X5 (i).toNat)) (i + 1) ((n + 1)) (by omega) (by omega) (by omega) (by omega) (fun j hj => by rw [show i.toNat = n by omega]; by_cases z : j = n; (rw [z, uA_e]; exact hX5 n (by omega)); rw [uA_n z]; exact hf1 j (by omega))
    refine g_heap (hs_id (c := aL 100 (f0)) ((hs_n (by omega)).trans ((hs_n (by omega)).trans h142))).symm ?_
    exact lp16 ((102 : Int) + 1).toNat (f0) (0) (0) (by omega) rfl (Nat.zero_le _) (Nat.zero_le _) (fun j hj => absurd hj (Nat.not_lt_zero j))
  · refine r_iconst (z := 0) dX11_layFirst_12 ?_
    refine r_zreturn hq dX11_layFirst_13 rfl (by decide) rfl rfl ?_
    have hfin := hQ 0 (t5 : Int) X5 f0 (Or.inl ⟨rfl, fun w => hT5.2.2 (by omega) (w t5 (by omega))⟩)
    rw [hs_id (a := 142) ((hs_n (by omega)).trans ((hs_n (by omega)).trans h142))] at hfin
    exact hfin
set_option maxHeartbeats 2000000 in
set_option maxRecDepth 20000 in
theorem c_X11_isGreat {N : Nat} {h : Hp} {Q : QP} {x y : Int} (hx : inM x) (hy : inM y) (hQ : ∀ b : Int, (b = 1 ∧ ¬ (-1000000000000000000 ≤ x * y ∧ x * y ≤ 1000000000000000000) ∨ b = 0 ∧ (-1000000000000000000 ≤ x * y ∧ x * y ≤ 1000000000000000000)) → Q (some (.int (iZ b))) N h) : Runs mX11_isGreat [.long (lZ (x)), .long (lZ (y))] N h Q := by
  have hx1 := hx.1
  have hx2 := hx.2
  have hy1 := hy.1
  have hy2 := hy.2
  refine run_start (own := RX11) rfl (by decide) (nle rfl) rfl (fun X hq hini => ?_)
  show G X RX11 cX11_isGreat mX11_isGreat.rm N 0 0 0 [some (.long (lZ (x))), none, some (.long (lZ (y))), none] [] h
  refine r_lload_n dX11_isGreat_0 rfl rfl ?_
  refine r_lconst (z := 0) dX11_isGreat_1 (by decide) ?_
  refine r_lcmp_eq 32 dX11_isGreat_2 dX11_isGreat_3 (by decide) ⟨by omega, by omega⟩ ⟨by decide, by decide⟩ (fun c_2 => ?_) (fun c_2 => ?_)
  · refine r_iconst (z := 0) dX11_isGreat_32 ?_
    refine r_zreturn hq dX11_isGreat_33 rfl (by decide) rfl rfl ?_
    refine hQ _ (Or.inr ⟨rfl, ?_⟩)
    rw [show x = 0 by omega, Int.zero_mul]; exact (by decide)
  · refine r_lload_n dX11_isGreat_6 rfl rfl ?_
    refine r_lconst (z := 0) dX11_isGreat_7 (by decide) ?_
    refine r_lcmp_eq 32 dX11_isGreat_8 dX11_isGreat_9 (by decide) ⟨by omega, by omega⟩ ⟨by decide, by decide⟩ (fun c_8 => ?_) (fun c_8 => ?_)
    · refine r_iconst (z := 0) dX11_isGreat_32 ?_
      refine r_zreturn hq dX11_isGreat_33 rfl (by decide) rfl rfl ?_
      refine hQ _ (Or.inr ⟨rfl, ?_⟩)
      rw [show y = 0 by omega, Int.mul_zero]; exact (by decide)
    · refine r_lload_n dX11_isGreat_12 rfl rfl ?_
      refine r_callS (av := [.long (lZ (x))]) dX11_isGreat_13 lkX11_size ml_X11_84 stX11_size ⟨Nat.le_of_ble_eq_true rfl, Nat.le_of_ble_eq_true rfl⟩ rfl rfl (nle rfl) ⟨Nat.le_of_ble_eq_true rfl, Nat.le_of_ble_eq_true rfl⟩ (c_X11_size (x := x) (by omega) ?_)
      show G _ _ _ _ _ _ _ 16 _ _ _
      refine r_ldc2 (z := 1000000000000000000) dX11_isGreat_16 kc_X11_232 ?_
      refine r_lload_n dX11_isGreat_19 rfl rfl ?_
      refine r_callS (av := [.long (lZ (y))]) dX11_isGreat_20 lkX11_size ml_X11_84 stX11_size ⟨Nat.le_of_ble_eq_true rfl, Nat.le_of_ble_eq_true rfl⟩ rfl rfl (nle rfl) ⟨Nat.le_of_ble_eq_true rfl, Nat.le_of_ble_eq_true rfl⟩ (c_X11_size (x := y) (by omega) ?_)
      show G _ _ _ _ _ _ _ 23 _ _ _
      refine r_ldivp dX11_isGreat_23 ⟨by decide, by decide⟩ ⟨by omega, by omega⟩ (by omega) (by omega) ?_
      have dv : 0 ≤ (1000000000000000000 : Int) / (y.natAbs : Int) ∧ (1000000000000000000 : Int) / (y.natAbs : Int) ≤ 1000000000000000000 := ⟨Int.ediv_nonneg (by decide) (by omega), Int.ediv_le_self _ (by decide)⟩
      refine r_lcmp_le 32 dX11_isGreat_24 dX11_isGreat_25 (by decide) ⟨by omega, by omega⟩ ⟨by omega, by omega⟩ (fun c_24 => ?_) (fun c_24 => ?_)
      · refine r_iconst (z := 0) dX11_isGreat_32 ?_
        refine r_zreturn hq dX11_isGreat_33 rfl (by decide) rfl rfl ?_
        refine hQ _ (Or.inr ⟨rfl, ?_⟩)
        rw [Int.mul_comm]
        exact prd_le (Or.inr (by omega))
      · refine r_iconst (z := 1) dX11_isGreat_28 ?_
        refine r_goto 33 dX11_isGreat_29 (by decide) ?_
        refine r_zreturn hq dX11_isGreat_33 rfl (by decide) rfl rfl ?_
        refine hQ _ (Or.inl ⟨rfl, ?_⟩)
        rw [Int.mul_comm]
        exact prd_gt (by omega) (by omega)
set_option maxHeartbeats 2000000 in
set_option maxRecDepth 20000 in
theorem c_X11_copyLaw {N : Nat} {h : Hp} {Q : QP} {ln pr nm at_ wr va em ta ro dg : Int} {om ml ms : Nat → Int} {r : Nat} {ri : Int} (hm0 : h 124 = MOo ln pr nm at_ wr va em ta ro dg) (hN : 146 ≤ N) (hom : h 125 = aI 7 om) (hml : h 126 = aL 42 ml) (hms : h 127 = aL 42 ms) (hri : ri = (r : Int)) (hr6 : r < 6) (hQ : ∀ ml2 : Nat → Int, (∀ t, t < 36 → ml2 t = ml t) → (∀ t, t < 6 → ml2 (36 + t) = ml (6 * r + t)) → Q none N (hs (hs h 125 (aI 7 (uA om 6 (om r)))) 126 (aL 42 ml2))) : Runs mX11_copyLaw [.ref (124), .int (iZ (ri))] N h Q := by
  have ern : ri.toNat = r := by omega
  refine run_start (own := RX11) rfl (by decide) (nle rfl) rfl (fun X hq hini => ?_)
  show G X RX11 cX11_copyLaw mX11_copyLaw.rm N 0 0 0 [some (.ref (124)), some (.int (iZ (ri))), none] [] h
  refine r_aload_n dX11_copyLaw_0 rfl rfl ?_
  refine gf_X11_7 dX11_copyLaw_1 (by omega) hm0 rfl ?_
  refine r_bipush (z := 6) dX11_copyLaw_4 (by decide) ?_
  refine r_aload_n dX11_copyLaw_6 rfl rfl ?_
  refine gf_X11_7 dX11_copyLaw_7 (by omega) hm0 rfl ?_
  refine r_iload_n dX11_copyLaw_10 rfl rfl ?_
  refine r_iaload dX11_copyLaw_11 (by omega) hom (by omega) (by omega) (by decide) ?_
  refine r_iastore dX11_copyLaw_12 (by omega) hom (by omega) (by omega) (by decide) ?_
  refine r_iconst (z := 0) dX11_copyLaw_13 ?_
  refine r_istore_n (L2 := [_, _, _]) dX11_copyLaw_14 rfl (nlt rfl) rfl ?_
  have lp15 : ∀ (fu15 : Nat) (m1 : Nat → Int) (i : Int) (n : Nat), (8 - i) < (fu15 : Int) → (i = (n : Int)) → (n ≤ 6) → (∀ t, t < 36 → m1 t = ml t) → (∀ t, t < n → m1 (36 + t) = ml (6 * r + t)) → G X RX11 cX11_copyLaw mX11_copyLaw.rm N 0 0 15 [some (.ref (124)), some (.int (iZ (ri))), some (.int (iZ (i)))] [] (hs (hs h (125) (aI 7 (uA (om) (6 : Int).toNat (om (ri).toNat)))) (126) (aL 42 (m1))) := by
    intro fu15
    induction fu15 with
    | zero => intro m1 i n hm ei n6 h1 h2; exfalso; omega
    | succ fu15 ih15 =>
      intro m1 i n hms15 ei n6 h1 h2
      refine r_iload_n dX11_copyLaw_15 rfl rfl ?_
      refine r_bipush (z := 6) dX11_copyLaw_16 (by decide) ?_
      refine r_icmp_ge 47 dX11_copyLaw_18 (by decide) ⟨by omega, by omega⟩ ⟨by decide, by decide⟩ (fun c_18 => ?_) (fun c_18 => ?_)
      · refine r_return hq dX11_copyLaw_47 rfl rfl rfl ?_
        rw [ern]
        exact hQ m1 h1 (fun t ht => h2 t (by omega))
      · have e40 : (36 + i).toNat = 36 + n := by omega
        have e39 : m1 ((6 * ri) + i).toNat = ml (6 * r + n) := by rw [show ((6 * ri) + i).toNat = 6 * r + n by omega]; exact h1 _ (by omega)
        refine r_aload_n dX11_copyLaw_21 rfl rfl ?_
        refine gf_X11_13 dX11_copyLaw_22 (by omega) ((hs_n (by omega)).trans ((hs_n (by omega)).trans hm0)) rfl ?_
        refine r_bipush (z := 36) dX11_copyLaw_25 (by decide) ?_
        refine r_iload_n dX11_copyLaw_27 rfl rfl ?_
        refine r_iadd dX11_copyLaw_28 ?_
        refine r_aload_n dX11_copyLaw_29 rfl rfl ?_
        refine gf_X11_13 dX11_copyLaw_30 (by omega) ((hs_n (by omega)).trans ((hs_n (by omega)).trans hm0)) rfl ?_
        refine r_bipush (z := 6) dX11_copyLaw_33 (by decide) ?_
        refine r_iload_n dX11_copyLaw_35 rfl rfl ?_
        refine r_imul dX11_copyLaw_36 ?_
        refine r_iload_n dX11_copyLaw_37 rfl rfl ?_
        refine r_iadd dX11_copyLaw_38 ?_
        refine r_laload dX11_copyLaw_39 (by omega) hs_e (by omega) (by omega) (by decide) ?_
        refine r_lastore dX11_copyLaw_40 (by omega) hs_e (by omega) (by omega) (by decide) ?_
        refine g_heap (h2 := (hs (hs h (125) (aI 7 (uA (om) (6 : Int).toNat (om (ri).toNat)))) (126) (aL 42 (uA (m1) (36 + i).toNat (m1 ((6 * ri) + i).toNat))))) hs_hs ?_
        refine r_iinc (L2 := [_, _, _]) dX11_copyLaw_41 (nlt rfl) rfl rfl ?_
        refine r_goto 15 dX11_copyLaw_44 (by decide) ?_
        exact ih15 (uA (m1) (36 + i).toNat (m1 ((6 * ri) + i).toNat)) (i + 1) ((n + 1)) (by omega) (by omega) (by omega) (fun t ht => by rw [e40, uA_n (by omega)]; exact h1 t ht) (fun t ht => by rw [e40]; by_cases z : t = n; (rw [z, uA_e, e39]); rw [uA_n (by omega)]; exact h2 t (by omega))
  refine g_heap (hs_id (c := aL 42 (ml)) ((hs_n (by omega)).trans hml)).symm ?_
  exact lp15 ((8 : Int) + 1).toNat (ml) (0) (0) (by omega) rfl (by decide) (fun _ _ => rfl) (fun t ht => absurd ht (Nat.not_lt_zero t))
