abbrev MOo (ln pr nm at_ wr va em ta ro dg : Int) : ACell := ob 11 [.ref (125), .ref (126), .ref (127), .int (iZ (ln)), .ref (128), .int (iZ (pr)), .int (iZ (nm)), .ref (129), .int (iZ (at_)), .int (iZ (wr)), .long (lZ (va)), .int (iZ (em)), .ref (130), .ref (131), .ref (132), .ref (133), .ref (134), .ref (135), .int (iZ (ta)), .int (iZ (ro)), .ref (136), .ref (137), .ref (138), .ref (139), .ref (140), .ref (141), .ref (142), .int (iZ (dg)), .ref (143), .ref (144), .ref (145)]
set_option maxHeartbeats 2000000 in
set_option maxRecDepth 20000 in
theorem c_X11_in {N : Nat} {h : Hp} {Q : QP} {x l m : Int} (hx : rL x) (hl : rL l) (hm : rL m) (hQ : ∀ b : Int, (b = 1 ∧ l ≤ x ∧ x ≤ m ∨ b = 0 ∧ (x < l ∨ m < x)) → Q (some (.int (iZ b))) N h) : Runs mX11_in [.long (lZ (x)), .long (lZ (l)), .long (lZ (m))] N h Q := by
  refine run_start (own := RX11) rfl (by decide) (nle rfl) rfl (fun X hq hini => ?_)
  show G X RX11 cX11_in mX11_in.rm N 0 0 0 [some (.long (lZ (x))), none, some (.long (lZ (l))), none, some (.long (lZ (m))), none] [] h
  refine r_lload_n dX11_in_0 rfl rfl ?_
  refine r_lload_n dX11_in_1 rfl rfl ?_
  refine r_lcmp_lt 17 dX11_in_2 dX11_in_3 (by decide) hx hl (fun c_2 => ?_) (fun c_2 => ?_)
  · refine r_iconst (z := 0) dX11_in_17 ?_
    refine r_zreturn hq dX11_in_18 rfl (by decide) rfl rfl ?_
    exact hQ _ (by omega)
  · refine r_lload_n dX11_in_6 rfl rfl ?_
    refine r_lload dX11_in_7 rfl ?_
    refine r_lcmp_gt 17 dX11_in_9 dX11_in_10 (by decide) hx hm (fun c_9 => ?_) (fun c_9 => ?_)
    · refine r_iconst (z := 0) dX11_in_17 ?_
      refine r_zreturn hq dX11_in_18 rfl (by decide) rfl rfl ?_
      exact hQ _ (by omega)
    · refine r_iconst (z := 1) dX11_in_13 ?_
      refine r_goto 18 dX11_in_14 (by decide) ?_
      refine r_zreturn hq dX11_in_18 rfl (by decide) rfl rfl ?_
      exact hQ _ (by omega)
set_option maxHeartbeats 2000000 in
set_option maxRecDepth 20000 in
theorem c_X11_isReg {N : Nat} {h : Hp} {Q : QP} {x : Int} (hx : rI x) (hQ : ∀ b : Int, (b = 1 ∧ 0 ≤ x ∧ x ≤ 5 ∨ b = 0 ∧ (x < 0 ∨ 5 < x)) → Q (some (.int (iZ b))) N h) : Runs mX11_isReg [.int (iZ (x))] N h Q := by
  have hx1 := hx.1
  have hx2 := hx.2
  refine run_start (own := RX11) rfl (by decide) (nle rfl) rfl (fun X hq hini => ?_)
  show G X RX11 cX11_isReg mX11_isReg.rm N 0 0 0 [some (.int (iZ (x)))] [] h
  refine r_iload_n dX11_isReg_0 rfl rfl ?_
  refine r_i2l dX11_isReg_1 ⟨by omega, by omega⟩ ?_
  refine r_lconst (z := 0) dX11_isReg_2 (by decide) ?_
  refine r_ldc2 (z := 5) dX11_isReg_3 kc_X11_78 ?_
  refine r_callS (av := [.long (lZ (x)), .long (lZ (0)), .long (lZ (5))]) dX11_isReg_6 lkX11_in ml_X11_80 stX11_in ⟨Nat.le_of_ble_eq_true rfl, Nat.le_of_ble_eq_true rfl⟩ rfl rfl (nle rfl) ⟨Nat.le_of_ble_eq_true rfl, Nat.le_of_ble_eq_true rfl⟩ (c_X11_in (x := x) (l := 0) (m := 5) ⟨by omega, by omega⟩ ⟨by decide, by decide⟩ ⟨by decide, by decide⟩ (fun b6 hb6 => ?_))
  show G _ _ _ _ _ _ _ 9 _ _ _
  refine r_zreturn hq dX11_isReg_9 rfl (by omega) rfl rfl ?_
  exact hQ _ hb6
set_option maxHeartbeats 2000000 in
set_option maxRecDepth 20000 in
theorem c_X11_size {N : Nat} {h : Hp} {Q : QP} {x : Int} (hx : -9223372036854775807 ≤ x ∧ x ≤ 9223372036854775807) (hQ : Q (some (.long (lZ (x.natAbs : Int)))) N h) : Runs mX11_size [.long (lZ (x))] N h Q := by
  refine run_start (own := RX11) rfl (by decide) (nle rfl) rfl (fun X hq hini => ?_)
  show G X RX11 cX11_size mX11_size.rm N 0 0 0 [some (.long (lZ (x))), none] [] h
  refine r_lload_n dX11_size_0 rfl rfl ?_
  refine r_lconst (z := 0) dX11_size_1 (by decide) ?_
  refine r_lcmp_ge 11 dX11_size_2 dX11_size_3 (by decide) ⟨by omega, by omega⟩ ⟨by decide, by decide⟩ (fun c_2 => ?_) (fun c_2 => ?_)
  · refine r_lload_n dX11_size_11 rfl rfl ?_
    refine r_lreturn hq dX11_size_12 rfl rfl rfl ?_
    rw [show x = (x.natAbs : Int) by omega]
    exact hQ
  · refine r_lload_n dX11_size_6 rfl rfl ?_
    refine r_lneg dX11_size_7 ?_
    refine r_goto 12 dX11_size_8 (by decide) ?_
    refine r_lreturn hq dX11_size_12 rfl rfl rfl ?_
    rw [show -x = (x.natAbs : Int) by omega]
    exact hQ
set_option maxHeartbeats 2000000 in
set_option maxRecDepth 20000 in
theorem c_X11_modulo {N : Nat} {h : Hp} {Q : QP} {x m : Int} (hx : -4611686018427387904 ≤ x ∧ x ≤ 4611686018427387904) (hm : 1 ≤ m ∧ m ≤ 1000000000) (hQ : Q (some (.long (lZ (x % m)))) N h) : Runs mX11_modulo [.long (lZ (x)), .long (lZ (m))] N h Q := by
  refine run_start (own := RX11) rfl (by decide) (nle rfl) rfl (fun X hq hini => ?_)
  show G X RX11 cX11_modulo mX11_modulo.rm N 0 0 0 [some (.long (lZ (x))), none, some (.long (lZ (m))), none, none, none] [] h
  refine r_lload_n dX11_modulo_0 rfl rfl ?_
  refine r_lload_n dX11_modulo_1 rfl rfl ?_
  refine r_lrem dX11_modulo_2 ⟨by omega, by omega⟩ ⟨by omega, by omega⟩ (by omega) (by omega) ?_
  have tf := tmod_fix (x := x) (y := m) (by omega)
  have ebm := emod_bd x (show 0 < m by omega)
  have htb : -1000000000 ≤ x.tmod m ∧ x.tmod m ≤ 1000000000 := by
    split at tf <;> omega
  refine r_lstore (L2 := [_, none, _, none, _, none]) dX11_modulo_3 (nlt rfl) rfl ?_
  refine r_lload dX11_modulo_5 rfl ?_
  refine r_lconst (z := 0) dX11_modulo_7 (by decide) ?_
  refine r_lcmp_ge 19 dX11_modulo_8 dX11_modulo_9 (by decide) ⟨by omega, by omega⟩ ⟨by decide, by decide⟩ (fun c_8 => ?_) (fun c_8 => ?_)
  · refine r_lload dX11_modulo_19 rfl ?_
    refine r_lreturn hq dX11_modulo_21 rfl rfl rfl ?_
    rw [show x.tmod m = x % m by split at tf <;> omega]
    exact hQ
  · refine r_lload dX11_modulo_12 rfl ?_
    refine r_lload_n dX11_modulo_14 rfl rfl ?_
    refine r_ladd dX11_modulo_15 ?_
    refine r_goto 21 dX11_modulo_16 (by decide) ?_
    refine r_lreturn hq dX11_modulo_21 rfl rfl rfl ?_
    rw [show (x.tmod m) + m = x % m by split at tf <;> omega]
    exact hQ
set_option maxHeartbeats 2000000 in
set_option maxRecDepth 20000 in
theorem c_X11_shared {N : Nat} {h : Hp} {Q : QP} {x y : Int} (hx : -1000000000000000000 ≤ x ∧ x ≤ 1000000000000000000) (hy : -1000000000000000000 ≤ y ∧ y ≤ 1000000000000000000) (hQ : Q (some (.long (lZ ((Int.gcd x y : Nat) : Int)))) N h) : Runs mX11_shared [.long (lZ (x)), .long (lZ (y))] N h Q := by
  refine run_start (own := RX11) rfl (by decide) (nle rfl) rfl (fun X hq hini => ?_)
  show G X RX11 cX11_shared mX11_shared.rm N 0 0 0 [some (.long (lZ (x))), none, some (.long (lZ (y))), none, none, none, none, none, none, none] [] h
  refine r_lload_n dX11_shared_0 rfl rfl ?_
  refine r_callS (av := [.long (lZ (x))]) dX11_shared_1 lkX11_size ml_X11_84 stX11_size ⟨Nat.le_of_ble_eq_true rfl, Nat.le_of_ble_eq_true rfl⟩ rfl rfl (nle rfl) ⟨Nat.le_of_ble_eq_true rfl, Nat.le_of_ble_eq_true rfl⟩ (c_X11_size (x := x) (by omega) ?_)
  show G _ _ _ _ _ _ _ 4 _ _ _
  refine r_lstore (L2 := [_, none, _, none, _, none, none, none, none, none]) dX11_shared_4 (nlt rfl) rfl ?_
  refine r_lload_n dX11_shared_6 rfl rfl ?_
  refine r_callS (av := [.long (lZ (y))]) dX11_shared_7 lkX11_size ml_X11_84 stX11_size ⟨Nat.le_of_ble_eq_true rfl, Nat.le_of_ble_eq_true rfl⟩ rfl rfl (nle rfl) ⟨Nat.le_of_ble_eq_true rfl, Nat.le_of_ble_eq_true rfl⟩ (c_X11_size (x := y) (by omega) ?_)
  show G _ _ _ _ _ _ _ 10 _ _ _
  refine r_lstore (L2 := [_, none, _, none, _, none, _, none, none, none]) dX11_shared_10 (nlt rfl) rfl ?_
  have lp12 : ∀ (fu12 : Nat) (g : Int) (l : Int), (l + 1) < (fu12 : Int) → (0 ≤ g) → (g ≤ 1000000000000000000) → (0 ≤ l) → (l ≤ 1000000000000000000) → (Int.gcd g l = Int.gcd x y) → G X RX11 cX11_shared mX11_shared.rm N 0 0 12 [none, none, none, none, some (.long (lZ (g))), none, some (.long (lZ (l))), none, none, none] [] h := by
    intro fu12
    induction fu12 with
    | zero => intro g l hm g0 g1 l0 l1 hg; exfalso; omega
    | succ fu12 ih12 =>
      intro g l hms12 g0 g1 l0 l1 hg
      refine r_lload dX11_shared_12 rfl ?_
      refine r_lconst (z := 0) dX11_shared_14 (by decide) ?_
      refine r_lcmp_eq 37 dX11_shared_15 dX11_shared_16 (by decide) ⟨by omega, by omega⟩ ⟨by decide, by decide⟩ (fun c_15 => ?_) (fun c_15 => ?_)
      · refine r_lload dX11_shared_37 rfl ?_
        refine r_lreturn hq dX11_shared_39 rfl rfl rfl ?_
        rw [c_15, Int.gcd_zero_right] at hg
        rw [show g = ((Int.gcd x y : Nat) : Int) by omega]
        exact hQ
      · refine r_lload dX11_shared_19 rfl ?_
        refine r_lload dX11_shared_21 rfl ?_
        refine r_lremp dX11_shared_23 ⟨by omega, by omega⟩ ⟨by omega, by omega⟩ (by omega) (by omega) ?_
        have eb_23 := emod_bd (g) (show 0 < l by omega)
        refine r_lstore (L2 := [none, none, none, none, _, none, _, none, _, none]) dX11_shared_24 (nlt rfl) rfl ?_
        refine r_lload dX11_shared_26 rfl ?_
        refine r_lstore (L2 := [none, none, none, none, _, none, _, none, _, none]) dX11_shared_28 (nlt rfl) rfl ?_
        refine r_lload dX11_shared_30 rfl ?_
        refine r_lstore (L2 := [none, none, none, none, _, none, _, none, _, none]) dX11_shared_32 (nlt rfl) rfl ?_
        refine r_goto 12 dX11_shared_34 (by decide) ?_
        refine r_mask [false, false, false, false, true, false, true, false, false, false] (L2 := [none, none, none, none, _, none, _, none, none, none]) rfl ?_
        exact ih12 (l) (g % l) (by omega) (by omega) (by omega) (by omega) (by omega) ((gcd_step g l).trans hg)
  refine r_mask [false, false, false, false, true, false, true, false, false, false] (L2 := [none, none, none, none, _, none, _, none, none, none]) rfl ?_
  exact lp12 ((1000000000000000001 : Int) + 1).toNat ((x.natAbs : Int)) ((y.natAbs : Int)) (by omega) (by omega) (by omega) (by omega) (by omega) (by unfold Int.gcd; rw [Int.natAbs_natCast, Int.natAbs_natCast])
set_option maxHeartbeats 2000000 in
set_option maxRecDepth 20000 in
theorem c_X11_write {N : Nat} {h : Hp} {Q : QP} {ln0 : Nat} {n vz pr nm at_ wr va em ta ro dg : Int} {v : Int64} {b : Nat → Int} (hvz : vz = v.toInt) (hn : rI n) (hm0 : h 124 = MOo (ln0 : Int) pr nm at_ wr va em ta ro dg) (hN : 146 ≤ N) (hbt : h 128 = aI 100 b) (hl : ln0 ≤ 100) (hQ : ∀ (r : Int) (b2 : Nat → Int) (l2 : Nat), SPwrite n v b ln0 r b2 l2 → Q (some (.int (iZ r))) N (hs (hs h 128 (aI 100 b2)) 124 (MOo (l2 : Int) pr nm at_ wr va em ta ro dg))) : Runs mX11_write [.ref (124), .int (iZ (n)), .long (lZ (vz))] N h Q := by
  have hn1 := hn.1
  have hn2 := hn.2
  refine run_start (own := RX11) rfl (by decide) (nle rfl) rfl (fun X hq hini => ?_)
  show G X RX11 cX11_write mX11_write.rm N 0 0 0 [some (.ref (124)), some (.int (iZ (n))), some (.long (lZ (vz))), none, none] [] h
  refine r_iload_n dX11_write_0 rfl rfl ?_
  refine r_i2l dX11_write_1 ⟨by omega, by omega⟩ ?_
  refine r_lconst (z := 1) dX11_write_2 (by decide) ?_
  refine r_ldc2 (z := 8) dX11_write_3 kc_X11_88 ?_
  refine r_callS (av := [.long (lZ (n)), .long (lZ (1)), .long (lZ (8))]) dX11_write_6 lkX11_in ml_X11_80 stX11_in ⟨Nat.le_of_ble_eq_true rfl, Nat.le_of_ble_eq_true rfl⟩ rfl rfl (nle rfl) ⟨Nat.le_of_ble_eq_true rfl, Nat.le_of_ble_eq_true rfl⟩ (c_X11_in (x := n) (l := 1) (m := 8) ⟨by omega, by omega⟩ ⟨by decide, by decide⟩ ⟨by decide, by decide⟩ (fun b6 hb6 => ?_))
  show G _ _ _ _ _ _ _ 9 _ _ _
  refine r_if_ne 14 dX11_write_9 (by decide) ⟨by omega, by omega⟩ (fun c_9 => ?_) (fun c_9 => ?_)
  · refine r_aload_n dX11_write_14 rfl rfl ?_
    refine gf_X11_90 dX11_write_15 (by omega) hm0 rfl ?_
    refine r_iload_n dX11_write_18 rfl rfl ?_
    refine r_iadd dX11_write_19 ?_
    refine r_bipush (z := 100) dX11_write_20 (by decide) ?_
    refine r_icmp_le 28 dX11_write_22 (by decide) ⟨by omega, by omega⟩ ⟨by decide, by decide⟩ (fun c_22 => ?_) (fun c_22 => ?_)
    · refine r_iload_n dX11_write_28 rfl rfl ?_
      refine r_iconst (z := 1) dX11_write_29 ?_
      refine r_isub dX11_write_30 ?_
      refine r_istore (L2 := [_, _, _, none, _]) dX11_write_31 (nlt rfl) rfl ?_
      have lp33 : ∀ (fu33 : Nat) (l1 : Int) (b1 : Nat → Int) (i : Int) (t : Nat), (i + 2) < (fu33 : Int) → (i + 1 + (t : Int) = n) → ((t : Int) ≤ n) → (l1 = (ln0 : Int) + (t : Int)) → (b1 = appn b ln0 n.toNat v t) → G X RX11 cX11_write mX11_write.rm N 0 0 33 [some (.ref (124)), some (.int (iZ (n))), some (.long (lZ (vz))), none, some (.int (iZ (i)))] [] (hs (hs h (128) (aI 100 (b1))) (124) (MOo (l1) (pr) (nm) (at_) (wr) (va) (em) (ta) (ro) (dg))) := by
        intro fu33
        induction fu33 with
        | zero => intro l1 b1 i t hm ei tn el eb; exfalso; omega
        | succ fu33 ih33 =>
          intro l1 b1 i t hms33 ei tn el eb
          refine r_iload dX11_write_33 rfl ?_
          refine r_if_lt 75 dX11_write_35 (by decide) ⟨by omega, by omega⟩ (fun c_35 => ?_) (fun c_35 => ?_)
          · refine r_aload_n dX11_write_75 rfl rfl ?_
            refine gf_X11_90 dX11_write_76 (by omega) hs_e rfl ?_
            refine r_ireturn hq dX11_write_79 rfl rfl rfl ?_
            have et : t = n.toNat := by omega
            rw [et] at eb
            have hfin := hQ ((ln0 : Int) + n) b1 (ln0 + n.toNat) (Or.inr (Or.inr ⟨by omega, by omega, by omega, rfl, eb, rfl⟩))
            rw [show ((ln0 + n.toNat : Nat) : Int) = l1 by omega] at hfin
            rw [show l1 = (ln0 : Int) + n by omega] at hfin ⊢
            exact hfin
          · have eln : l1.toNat = ln0 + t := by omega
            have esh : i.toNat = n.toNat - 1 - t := by omega
            refine r_aload_n dX11_write_38 rfl rfl ?_
            refine gf_X11_20 dX11_write_39 (by omega) hs_e rfl ?_
            refine r_aload_n dX11_write_42 rfl rfl ?_
            refine gf_X11_90 dX11_write_43 (by omega) hs_e rfl ?_
            refine r_lload_n dX11_write_46 rfl rfl ?_
            refine r_bipush (z := 8) dX11_write_47 (by decide) ?_
            refine r_iload dX11_write_49 rfl ?_
            refine r_imul dX11_write_51 ?_
            refine r_lshr (z := lZ ((v >>> ((iZ (8 * i)).toInt64 &&& 63)).toInt)) dX11_write_52 (by rw [hvz, lZ_x, lZ_x]) ?_
            refine r_ldc2 (z := 255) dX11_write_53 kc_X11_93 ?_
            refine r_land (z := lZ (bytv v i.toNat)) dX11_write_56 (by rw [lZ_x]; exact sh_s v (by omega) (by omega)) ?_
            refine r_l2i dX11_write_57 ?_
            refine r_iastore dX11_write_58 (by omega) ((hs_n (by omega)).trans hs_e) (by omega) (by omega) (by decide) ?_
            refine g_heap (h2 := (hs (hs h (128) (aI 100 (uA (b1) (l1).toNat (bytv v i.toNat)))) (124) (MOo (l1) (pr) (nm) (at_) (wr) (va) (em) (ta) (ro) (dg)))) (hs_put (by omega) hs_hs) ?_
            refine r_aload_n dX11_write_59 rfl rfl ?_
            refine r_dup dX11_write_60 rfl ?_
            refine gf_X11_90 dX11_write_61 (by omega) hs_e rfl ?_
            refine r_iconst (z := 1) dX11_write_64 ?_
            refine r_iadd dX11_write_65 ?_
            refine pf_X11_90 (fs2 := [_, _, _, _, _, _, _, _, _, _, _, _, _, _, _, _, _, _, _, _, _, _, _, _, _, _, _, _, _, _, _]) dX11_write_66 (fun _ _ => rfl) (fun _ _ => rfl) (nlt rfl) (by omega) hs_e rfl ?_
            refine g_heap (h2 := (hs (hs h (128) (aI 100 (uA (b1) (l1).toNat (bytv v i.toNat)))) (124) (MOo (l1 + 1) (pr) (nm) (at_) (wr) (va) (em) (ta) (ro) (dg)))) hs_hs ?_
            refine r_iinc (L2 := [_, _, _, none, _]) dX11_write_69 (nlt rfl) rfl rfl ?_
            refine r_goto 33 dX11_write_72 (by decide) ?_
            exact ih33 (l1 + 1) (uA (b1) (l1).toNat (bytv v i.toNat)) (i + (-1)) ((t + 1)) (by omega) (by omega) (by omega) (by omega) (by rw [eb, eln, esh]; exact appn_s b ln0 n.toNat v t)
      refine g_heap (hs_id (c := aI 100 (b)) hbt).symm ?_
      refine g_heap (hs_id (c := MOo ((ln0 : Int)) (pr) (nm) (at_) (wr) (va) (em) (ta) (ro) (dg)) ((hs_n (by omega)).trans hm0)).symm ?_
      exact lp33 ((10 : Int) + 1).toNat ((ln0 : Int)) (b) (n - 1) (0) (by omega) (by omega) (by omega) (by omega) (appn_0 b ln0 n.toNat v).symm
    · refine r_bipush (z := -3) dX11_write_25 (by decide) ?_
      refine r_ireturn hq dX11_write_27 rfl rfl rfl ?_
      have hfin := hQ (-3) b ln0 (Or.inr (Or.inl ⟨by omega, by omega, by omega, rfl, rfl, rfl⟩))
      rw [hs_id hbt, hs_id hm0] at hfin
      exact hfin
  · refine r_iconst (z := -1) dX11_write_12 ?_
    refine r_ireturn hq dX11_write_13 rfl rfl rfl ?_
    have hfin := hQ (-1) b ln0 (Or.inl ⟨by omega, rfl, rfl, rfl⟩)
    rw [hs_id hbt, hs_id hm0] at hfin
    exact hfin
