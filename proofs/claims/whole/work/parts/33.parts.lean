abbrev PAo (q pn : Nat) (al gr un : Int) : ACell := ob 3 [.ref (q + 1), .ref (q + 3), .ref (q + 5), .ref (q + 7), .ref (q + 9), .ref (q + 11), .ref (q + 13), .ref (q + 15), .int (iZ (pn : Int)), .int (iZ al), .int (iZ gr), .int (iZ un)]
set_option maxHeartbeats 2000000 in
set_option maxRecDepth 20000 in
theorem c_X3_share {N : Nat} {h : Hp} {Q : QP} {q pn : Nat} {al gr un : Int} (hpn : PrmN pn) (hpr : Prm (pn : Int)) (hq0 : h q = PAo q pn al gr un) (hN : q + 16 < N) {dL dZ dS dO dQ dP : Int} {fL fZ fS fO fQ fP : Nat → Int} (hxL : h (q + 1) = POo (q + 1) dL) (gxL : h (q + 1 + 1) = aI 13 fL) (hxZ : h (q + 11) = POo (q + 11) dZ) (gxZ : h (q + 11 + 1) = aI 13 fZ) (hxS : h (q + 13) = POo (q + 13) dS) (gxS : h (q + 13 + 1) = aI 13 fS) (hxO : h (q + 15) = POo (q + 15) dO) (gxO : h (q + 15 + 1) = aI 13 fO) (hxQ : h (q + 9) = POo (q + 9) dQ) (gxQ : h (q + 9 + 1) = aI 13 fQ) (hxP : h (q + 7) = POo (q + 7) dP) (gxP : h (q + 7 + 1) = aI 13 fP) (hPl : POK pn fL dL) (hPz : POK pn fZ dZ) (hdz : dZ ≤ 6) (zS : Z13 fS) (zO : Z13 fO) (zQ : Z13 fQ) (zP : Z13 fP) (hQ : ∀ (s2 o2 q2 p2 : Nat → Int) (ds do_ dq dp : Int), POK pn s2 ds → gcP hpn (pzT (hp0 hpn) s2) (pzT (hp0 hpn) fL) (pzT (hp0 hpn) fZ) → Z13 o2 → Z13 q2 → Z13 p2 → Q none N (hs (hs (hs (hs (hs (hs (hs (hs h (q + 13 + 1) (aI 13 s2)) (q + 13) (POo (q + 13) ds)) (q + 15 + 1) (aI 13 o2)) (q + 15) (POo (q + 15) do_)) (q + 9 + 1) (aI 13 q2)) (q + 9) (POo (q + 9) dq)) (q + 7 + 1) (aI 13 p2)) (q + 7) (POo (q + 7) dp))) : Runs mX3_share [.ref (q)] N h Q := by
  refine run_start (own := RX3) rfl (by decide) (nle rfl) rfl (fun X hq hini => ?_)
  show G X RX3 cX3_share mX3_share.rm N 0 0 0 [some (.ref (q)), none] [] h
  refine r_aload_n dX3_share_0 rfl rfl ?_
  refine gf_X3_33 dX3_share_1 (by omega) hq0 rfl ?_
  refine r_aload_n dX3_share_4 rfl rfl ?_
  refine gf_X3_12 dX3_share_5 (by omega) hq0 rfl ?_
  refine r_callV (av := [.ref (q + 1)]) dX3_share_8 lkX4_become ml_X3_70 imX4_become seX4_become (by omega) (rfl : vwCl[4]? = _) ⟨_, hxS⟩ ⟨Nat.le_of_ble_eq_true rfl, Nat.le_of_ble_eq_true rfl⟩ rfl rfl (nle rfl) ⟨Nat.le_of_ble_eq_true rfl, Nat.le_of_ble_eq_true rfl⟩ (c_X4_become (r := q + 13) (v := q + 1) (dg := dS) (dv := dL) (f := fS) (g := fL) hxS gxS (by omega) hxL gxL (by omega) (by omega) zS hPl.z ?_)
  show G _ _ _ _ _ _ _ 11 _ _ _
  refine r_aload_n dX3_share_11 rfl rfl ?_
  refine gf_X3_36 dX3_share_12 (by omega) ((hs_n (by omega)).trans ((hs_n (by omega)).trans hq0)) rfl ?_
  refine r_aload_n dX3_share_15 rfl rfl ?_
  refine gf_X3_30 dX3_share_16 (by omega) ((hs_n (by omega)).trans ((hs_n (by omega)).trans hq0)) rfl ?_
  refine r_callV (av := [.ref (q + 11)]) dX3_share_19 lkX4_become ml_X3_70 imX4_become seX4_become (by omega) (rfl : vwCl[4]? = _) ⟨_, ((hs_n (by omega)).trans ((hs_n (by omega)).trans hxO))⟩ ⟨Nat.le_of_ble_eq_true rfl, Nat.le_of_ble_eq_true rfl⟩ rfl rfl (nle rfl) ⟨Nat.le_of_ble_eq_true rfl, Nat.le_of_ble_eq_true rfl⟩ (c_X4_become (r := q + 15) (v := q + 11) (dg := dO) (dv := dZ) (f := fO) (g := fZ) ((hs_n (by omega)).trans ((hs_n (by omega)).trans hxO)) ((hs_n (by omega)).trans ((hs_n (by omega)).trans gxO)) (by omega) ((hs_n (by omega)).trans ((hs_n (by omega)).trans hxZ)) ((hs_n (by omega)).trans ((hs_n (by omega)).trans gxZ)) (by omega) (by omega) zO hPz.z ?_)
  show G _ _ _ _ _ _ _ 22 _ _ _
  refine r_iconst (z := 0) dX3_share_22 ?_
  refine r_istore_n (L2 := [_, _]) dX3_share_23 rfl (nlt rfl) rfl ?_
  have lp24 : ∀ (fu24 : Nat) (s1 : Nat → Int) (d1 : Int) (o1 : Nat → Int) (e1 : Int) (q1 : Nat → Int) (e2 : Int) (p1 : Nat → Int) (e3 : Int) (i : Int), (14 - i) < (fu24 : Int) → (0 ≤ i) → (i + e1 ≤ 6) → (POK pn s1 d1) → (POK pn o1 e1) → (Z13 q1) → (Z13 p1) → (cmP hpn (pzT (hp0 hpn) s1) (pzT (hp0 hpn) o1) (pzT (hp0 hpn) fL) (pzT (hp0 hpn) fZ)) → G X RX3 cX3_share mX3_share.rm N 0 0 24 [some (.ref (q)), some (.int (iZ (i)))] [] (hs (hs (hs (hs (hs (hs (hs (hs h (q + 13 + 1) (aI 13 (s1))) (q + 13) (ob 4 [.ref (q + 13 + 1), .int (iZ (d1))])) (q + 15 + 1) (aI 13 (o1))) (q + 15) (ob 4 [.ref (q + 15 + 1), .int (iZ (e1))])) (q + 9 + 1) (aI 13 (q1))) (q + 9) (ob 4 [.ref (q + 9 + 1), .int (iZ (e2))])) (q + 7 + 1) (aI 13 (p1))) (q + 7) (ob 4 [.ref (q + 7 + 1), .int (iZ (e3))])) := by
    intro fu24
    induction fu24 with
    | zero => intro s1 d1 o1 e1 q1 e2 p1 e3 i hm i0 i1 hPs hPo zq1 zp1 hcm; exfalso; have po1 := hPo.1; omega
    | succ fu24 ih24 =>
      intro s1 d1 o1 e1 q1 e2 p1 e3 i hms24 i0 i1 hPs hPo zq1 zp1 hcm
      have po1 := hPo.1
      have po2 := hPo.2.1
      have ps1 := hPs.1
      have ps2 := hPs.2.1
      refine r_iload_n dX3_share_24 rfl rfl ?_
      refine r_bipush (z := 12) dX3_share_25 (by decide) ?_
      refine r_icmp_gt 98 dX3_share_27 (by decide) ⟨by omega, by omega⟩ ⟨by decide, by decide⟩ (fun c_27 => ?_) (fun c_27 => ?_)
      · refine r_return hq dX3_share_98 rfl rfl rfl ?_
        have e9 : e1 = -1 := by omega
        rw [e9] at hPo
        have hfin := hQ s1 o1 q1 p1 d1 e1 e2 e3 hPs (hcm.fin (pzT_zero hPo)) hPo.z zq1 zp1
        exact hfin
      · refine r_aload_n dX3_share_30 rfl rfl ?_
        refine gf_X3_36 dX3_share_31 (by omega) ((hs_n (by omega)).trans ((hs_n (by omega)).trans ((hs_n (by omega)).trans ((hs_n (by omega)).trans ((hs_n (by omega)).trans ((hs_n (by omega)).trans ((hs_n (by omega)).trans ((hs_n (by omega)).trans hq0)))))))) rfl ?_
        refine gf_X3_64 dX3_share_34 (by omega) ((hs_n (by omega)).trans ((hs_n (by omega)).trans ((hs_n (by omega)).trans ((hs_n (by omega)).trans hs_e)))) rfl ?_
        refine r_if_lt 98 dX3_share_37 (by decide) ⟨by omega, by omega⟩ (fun c_37 => ?_) (fun c_37 => ?_)
        · refine r_return hq dX3_share_98 rfl rfl rfl ?_
          have e9 : e1 = -1 := by omega
          rw [e9] at hPo
          have hfin := hQ s1 o1 q1 p1 d1 e1 e2 e3 hPs (hcm.fin (pzT_zero hPo)) hPo.z zq1 zp1
          exact hfin
        · refine r_aload_n dX3_share_40 rfl rfl ?_
          refine gf_X3_33 dX3_share_41 (by omega) ((hs_n (by omega)).trans ((hs_n (by omega)).trans ((hs_n (by omega)).trans ((hs_n (by omega)).trans ((hs_n (by omega)).trans ((hs_n (by omega)).trans ((hs_n (by omega)).trans ((hs_n (by omega)).trans hq0)))))))) rfl ?_
          refine r_aload_n dX3_share_44 rfl rfl ?_
          refine gf_X3_36 dX3_share_45 (by omega) ((hs_n (by omega)).trans ((hs_n (by omega)).trans ((hs_n (by omega)).trans ((hs_n (by omega)).trans ((hs_n (by omega)).trans ((hs_n (by omega)).trans ((hs_n (by omega)).trans ((hs_n (by omega)).trans hq0)))))))) rfl ?_
          refine r_aload_n dX3_share_48 rfl rfl ?_
          refine gf_X3_39 dX3_share_49 (by omega) ((hs_n (by omega)).trans ((hs_n (by omega)).trans ((hs_n (by omega)).trans ((hs_n (by omega)).trans ((hs_n (by omega)).trans ((hs_n (by omega)).trans ((hs_n (by omega)).trans ((hs_n (by omega)).trans hq0)))))))) rfl ?_
          refine r_aload_n dX3_share_52 rfl rfl ?_
          refine gf_X3_27 dX3_share_53 (by omega) ((hs_n (by omega)).trans ((hs_n (by omega)).trans ((hs_n (by omega)).trans ((hs_n (by omega)).trans ((hs_n (by omega)).trans ((hs_n (by omega)).trans ((hs_n (by omega)).trans ((hs_n (by omega)).trans hq0)))))))) rfl ?_
          refine r_callV (av := [.ref (q + 15), .int (iZ ((pn : Int))), .ref (q + 9)]) dX3_share_56 lkX4_divideBy ml_X3_85 imX4_divideBy seX4_divideBy (by omega) (rfl : vwCl[4]? = _) ⟨_, ((hs_n (by omega)).trans ((hs_n (by omega)).trans ((hs_n (by omega)).trans ((hs_n (by omega)).trans ((hs_n (by omega)).trans ((hs_n (by omega)).trans hs_e))))))⟩ ⟨Nat.le_of_ble_eq_true rfl, Nat.le_of_ble_eq_true rfl⟩ rfl rfl (nle rfl) ⟨Nat.le_of_ble_eq_true rfl, Nat.le_of_ble_eq_true rfl⟩ (c_X4_divideBy (r := q + 13) (v := q + 15) (u := q + 9) (dg := d1) (dv := e1) (du := e2) (p := (pn : Int)) (f := s1) (g := o1) (e := q1) ((hs_n (by omega)).trans ((hs_n (by omega)).trans ((hs_n (by omega)).trans ((hs_n (by omega)).trans ((hs_n (by omega)).trans ((hs_n (by omega)).trans hs_e)))))) ((hs_n (by omega)).trans ((hs_n (by omega)).trans ((hs_n (by omega)).trans ((hs_n (by omega)).trans ((hs_n (by omega)).trans ((hs_n (by omega)).trans ((hs_n (by omega)).trans hs_e))))))) (by omega) ((hs_n (by omega)).trans ((hs_n (by omega)).trans ((hs_n (by omega)).trans ((hs_n (by omega)).trans hs_e)))) ((hs_n (by omega)).trans ((hs_n (by omega)).trans ((hs_n (by omega)).trans ((hs_n (by omega)).trans ((hs_n (by omega)).trans hs_e))))) (by omega) (by omega) ((hs_n (by omega)).trans ((hs_n (by omega)).trans hs_e)) ((hs_n (by omega)).trans ((hs_n (by omega)).trans ((hs_n (by omega)).trans hs_e))) (by omega) (by omega) (by omega) zq1 hpr hPs hPo (by omega) (fun qf56 rf56 dq56 dr56 hPq56 hPr56 hd156 hd256 hDV56 => ?_))
          refine g_heap (h2 := (hs (hs (hs (hs (hs (hs (hs (hs h (q + 13 + 1) (aI 13 (rf56))) (q + 13) (ob 4 [.ref (q + 13 + 1), .int (iZ (dr56))])) (q + 15 + 1) (aI 13 (o1))) (q + 15) (ob 4 [.ref (q + 15 + 1), .int (iZ (e1))])) (q + 9 + 1) (aI 13 (qf56))) (q + 9) (ob 4 [.ref (q + 9 + 1), .int (iZ (dq56))])) (q + 7 + 1) (aI 13 (p1))) (q + 7) (ob 4 [.ref (q + 7 + 1), .int (iZ (e3))]))) ((congrArg (fun x9 => hs x9 (q + 13) (ob 4 [.ref (q + 13 + 1), .int (iZ (dr56))])) ((congrArg (fun x9 => hs x9 (q + 13 + 1) (aI 13 (rf56))) ((congrArg (fun x9 => hs x9 (q + 9) (ob 4 [.ref (q + 9 + 1), .int (iZ (dq56))])) (hs_put (by omega) (hs_put (by omega) (hs_put (by omega) hs_hs)))).trans (hs_put (by omega) (hs_put (by omega) hs_hs)))).trans (hs_put (by omega) (hs_put (by omega) (hs_put (by omega) (hs_put (by omega) (hs_put (by omega) (hs_put (by omega) (hs_put (by omega) hs_hs))))))))).trans (hs_put (by omega) (hs_put (by omega) (hs_put (by omega) (hs_put (by omega) (hs_put (by omega) (hs_put (by omega) hs_hs))))))) ?_
          show G _ _ _ _ _ _ _ 59 _ _ _
          refine r_aload_n dX3_share_59 rfl rfl ?_
          refine gf_X3_24 dX3_share_60 (by omega) ((hs_n (by omega)).trans ((hs_n (by omega)).trans ((hs_n (by omega)).trans ((hs_n (by omega)).trans ((hs_n (by omega)).trans ((hs_n (by omega)).trans ((hs_n (by omega)).trans ((hs_n (by omega)).trans hq0)))))))) rfl ?_
          refine r_aload_n dX3_share_63 rfl rfl ?_
          refine gf_X3_33 dX3_share_64 (by omega) ((hs_n (by omega)).trans ((hs_n (by omega)).trans ((hs_n (by omega)).trans ((hs_n (by omega)).trans ((hs_n (by omega)).trans ((hs_n (by omega)).trans ((hs_n (by omega)).trans ((hs_n (by omega)).trans hq0)))))))) rfl ?_
          refine r_callV (av := [.ref (q + 13)]) dX3_share_67 lkX4_become ml_X3_70 imX4_become seX4_become (by omega) (rfl : vwCl[4]? = _) ⟨_, hs_e⟩ ⟨Nat.le_of_ble_eq_true rfl, Nat.le_of_ble_eq_true rfl⟩ rfl rfl (nle rfl) ⟨Nat.le_of_ble_eq_true rfl, Nat.le_of_ble_eq_true rfl⟩ (c_X4_become (r := q + 7) (v := q + 13) (dg := e3) (dv := dr56) (f := p1) (g := rf56) hs_e ((hs_n (by omega)).trans hs_e) (by omega) ((hs_n (by omega)).trans ((hs_n (by omega)).trans ((hs_n (by omega)).trans ((hs_n (by omega)).trans ((hs_n (by omega)).trans ((hs_n (by omega)).trans hs_e)))))) ((hs_n (by omega)).trans ((hs_n (by omega)).trans ((hs_n (by omega)).trans ((hs_n (by omega)).trans ((hs_n (by omega)).trans ((hs_n (by omega)).trans ((hs_n (by omega)).trans hs_e))))))) (by omega) (by omega) zp1 hPr56.z ?_)
          refine g_heap (h2 := (hs (hs (hs (hs (hs (hs (hs (hs h (q + 13 + 1) (aI 13 (rf56))) (q + 13) (ob 4 [.ref (q + 13 + 1), .int (iZ (dr56))])) (q + 15 + 1) (aI 13 (o1))) (q + 15) (ob 4 [.ref (q + 15 + 1), .int (iZ (e1))])) (q + 9 + 1) (aI 13 (qf56))) (q + 9) (ob 4 [.ref (q + 9 + 1), .int (iZ (dq56))])) (q + 7 + 1) (aI 13 (rf56))) (q + 7) (ob 4 [.ref (q + 7 + 1), .int (iZ (dr56))]))) ((congrArg (fun x9 => hs x9 (q + 7) (ob 4 [.ref (q + 7 + 1), .int (iZ (dr56))])) (hs_put (by omega) hs_hs)).trans hs_hs) ?_
          show G _ _ _ _ _ _ _ 70 _ _ _
          refine r_aload_n dX3_share_70 rfl rfl ?_
          refine gf_X3_33 dX3_share_71 (by omega) ((hs_n (by omega)).trans ((hs_n (by omega)).trans ((hs_n (by omega)).trans ((hs_n (by omega)).trans ((hs_n (by omega)).trans ((hs_n (by omega)).trans ((hs_n (by omega)).trans ((hs_n (by omega)).trans hq0)))))))) rfl ?_
          refine r_aload_n dX3_share_74 rfl rfl ?_
          refine gf_X3_36 dX3_share_75 (by omega) ((hs_n (by omega)).trans ((hs_n (by omega)).trans ((hs_n (by omega)).trans ((hs_n (by omega)).trans ((hs_n (by omega)).trans ((hs_n (by omega)).trans ((hs_n (by omega)).trans ((hs_n (by omega)).trans hq0)))))))) rfl ?_
          refine r_callV (av := [.ref (q + 15)]) dX3_share_78 lkX4_become ml_X3_70 imX4_become seX4_become (by omega) (rfl : vwCl[4]? = _) ⟨_, ((hs_n (by omega)).trans ((hs_n (by omega)).trans ((hs_n (by omega)).trans ((hs_n (by omega)).trans ((hs_n (by omega)).trans ((hs_n (by omega)).trans hs_e))))))⟩ ⟨Nat.le_of_ble_eq_true rfl, Nat.le_of_ble_eq_true rfl⟩ rfl rfl (nle rfl) ⟨Nat.le_of_ble_eq_true rfl, Nat.le_of_ble_eq_true rfl⟩ (c_X4_become (r := q + 13) (v := q + 15) (dg := dr56) (dv := e1) (f := rf56) (g := o1) ((hs_n (by omega)).trans ((hs_n (by omega)).trans ((hs_n (by omega)).trans ((hs_n (by omega)).trans ((hs_n (by omega)).trans ((hs_n (by omega)).trans hs_e)))))) ((hs_n (by omega)).trans ((hs_n (by omega)).trans ((hs_n (by omega)).trans ((hs_n (by omega)).trans ((hs_n (by omega)).trans ((hs_n (by omega)).trans ((hs_n (by omega)).trans hs_e))))))) (by omega) ((hs_n (by omega)).trans ((hs_n (by omega)).trans ((hs_n (by omega)).trans ((hs_n (by omega)).trans hs_e)))) ((hs_n (by omega)).trans ((hs_n (by omega)).trans ((hs_n (by omega)).trans ((hs_n (by omega)).trans ((hs_n (by omega)).trans hs_e))))) (by omega) (by omega) hPr56.z hPo.z ?_)
          refine g_heap (h2 := (hs (hs (hs (hs (hs (hs (hs (hs h (q + 13 + 1) (aI 13 (o1))) (q + 13) (ob 4 [.ref (q + 13 + 1), .int (iZ (e1))])) (q + 15 + 1) (aI 13 (o1))) (q + 15) (ob 4 [.ref (q + 15 + 1), .int (iZ (e1))])) (q + 9 + 1) (aI 13 (qf56))) (q + 9) (ob 4 [.ref (q + 9 + 1), .int (iZ (dq56))])) (q + 7 + 1) (aI 13 (rf56))) (q + 7) (ob 4 [.ref (q + 7 + 1), .int (iZ (dr56))]))) ((congrArg (fun x9 => hs x9 (q + 13) (ob 4 [.ref (q + 13 + 1), .int (iZ (e1))])) (hs_put (by omega) (hs_put (by omega) (hs_put (by omega) (hs_put (by omega) (hs_put (by omega) (hs_put (by omega) (hs_put (by omega) hs_hs)))))))).trans (hs_put (by omega) (hs_put (by omega) (hs_put (by omega) (hs_put (by omega) (hs_put (by omega) (hs_put (by omega) hs_hs))))))) ?_
          show G _ _ _ _ _ _ _ 81 _ _ _
          refine r_aload_n dX3_share_81 rfl rfl ?_
          refine gf_X3_36 dX3_share_82 (by omega) ((hs_n (by omega)).trans ((hs_n (by omega)).trans ((hs_n (by omega)).trans ((hs_n (by omega)).trans ((hs_n (by omega)).trans ((hs_n (by omega)).trans ((hs_n (by omega)).trans ((hs_n (by omega)).trans hq0)))))))) rfl ?_
          refine r_aload_n dX3_share_85 rfl rfl ?_
          refine gf_X3_24 dX3_share_86 (by omega) ((hs_n (by omega)).trans ((hs_n (by omega)).trans ((hs_n (by omega)).trans ((hs_n (by omega)).trans ((hs_n (by omega)).trans ((hs_n (by omega)).trans ((hs_n (by omega)).trans ((hs_n (by omega)).trans hq0)))))))) rfl ?_
          refine r_callV (av := [.ref (q + 7)]) dX3_share_89 lkX4_become ml_X3_70 imX4_become seX4_become (by omega) (rfl : vwCl[4]? = _) ⟨_, ((hs_n (by omega)).trans ((hs_n (by omega)).trans ((hs_n (by omega)).trans ((hs_n (by omega)).trans hs_e))))⟩ ⟨Nat.le_of_ble_eq_true rfl, Nat.le_of_ble_eq_true rfl⟩ rfl rfl (nle rfl) ⟨Nat.le_of_ble_eq_true rfl, Nat.le_of_ble_eq_true rfl⟩ (c_X4_become (r := q + 15) (v := q + 7) (dg := e1) (dv := dr56) (f := o1) (g := rf56) ((hs_n (by omega)).trans ((hs_n (by omega)).trans ((hs_n (by omega)).trans ((hs_n (by omega)).trans hs_e)))) ((hs_n (by omega)).trans ((hs_n (by omega)).trans ((hs_n (by omega)).trans ((hs_n (by omega)).trans ((hs_n (by omega)).trans hs_e))))) (by omega) hs_e ((hs_n (by omega)).trans hs_e) (by omega) (by omega) hPo.z hPr56.z ?_)
          refine g_heap (h2 := (hs (hs (hs (hs (hs (hs (hs (hs h (q + 13 + 1) (aI 13 (o1))) (q + 13) (ob 4 [.ref (q + 13 + 1), .int (iZ (e1))])) (q + 15 + 1) (aI 13 (rf56))) (q + 15) (ob 4 [.ref (q + 15 + 1), .int (iZ (dr56))])) (q + 9 + 1) (aI 13 (qf56))) (q + 9) (ob 4 [.ref (q + 9 + 1), .int (iZ (dq56))])) (q + 7 + 1) (aI 13 (rf56))) (q + 7) (ob 4 [.ref (q + 7 + 1), .int (iZ (dr56))]))) ((congrArg (fun x9 => hs x9 (q + 15) (ob 4 [.ref (q + 15 + 1), .int (iZ (dr56))])) (hs_put (by omega) (hs_put (by omega) (hs_put (by omega) (hs_put (by omega) (hs_put (by omega) hs_hs)))))).trans (hs_put (by omega) (hs_put (by omega) (hs_put (by omega) (hs_put (by omega) hs_hs))))) ?_
          show G _ _ _ _ _ _ _ 92 _ _ _
          refine r_iinc (L2 := [_, _]) dX3_share_92 (nlt rfl) rfl rfl ?_
          refine r_goto 24 dX3_share_95 (by decide) ?_
          exact ih24 (o1) (e1) (rf56) (dr56) (qf56) (dq56) (rf56) (dr56) (i + 1) (by omega) (by omega) (by omega) hPo hPr56 hPq56.z hPr56.z (hcm.step (pzT_div hPs hPo hPq56 hPr56 hDV56))
  refine g_heap (hs_id (c := aI 13 (fQ)) ((hs_n (by omega)).trans ((hs_n (by omega)).trans ((hs_n (by omega)).trans ((hs_n (by omega)).trans gxQ))))).symm ?_
  refine g_heap (hs_id (c := ob 4 [.ref (q + 9 + 1), .int (iZ (dQ))]) ((hs_n (by omega)).trans ((hs_n (by omega)).trans ((hs_n (by omega)).trans ((hs_n (by omega)).trans ((hs_n (by omega)).trans hxQ)))))).symm ?_
  refine g_heap (hs_id (c := aI 13 (fP)) ((hs_n (by omega)).trans ((hs_n (by omega)).trans ((hs_n (by omega)).trans ((hs_n (by omega)).trans ((hs_n (by omega)).trans ((hs_n (by omega)).trans gxP))))))).symm ?_
  refine g_heap (hs_id (c := ob 4 [.ref (q + 7 + 1), .int (iZ (dP))]) ((hs_n (by omega)).trans ((hs_n (by omega)).trans ((hs_n (by omega)).trans ((hs_n (by omega)).trans ((hs_n (by omega)).trans ((hs_n (by omega)).trans ((hs_n (by omega)).trans hxP)))))))).symm ?_
  exact lp24 ((14 : Int) + 1).toNat (fL) (dL) (fZ) (dZ) (fQ) (dQ) (fP) (dP) (0) (by omega) (by decide) (by omega) hPl hPz zQ zP (fun c => Iff.rfl)
set_option maxHeartbeats 2000000 in
set_option maxRecDepth 20000 in
theorem c_X3_timesPowerW {N : Nat} {h : Hp} {Q : QP} {q pn : Nat} {al gr un : Int} (hpn : PrmN pn) (hpr : Prm (pn : Int)) (hq0 : h q = PAo q pn al gr un) (hN : q + 16 < N) {dL dW dP dQ : Int} {fL fW fP fQ : Nat → Int} (hxL : h (q + 1) = POo (q + 1) dL) (gxL : h (q + 1 + 1) = aI 13 fL) (hxW : h (q + 3) = POo (q + 3) dW) (gxW : h (q + 3 + 1) = aI 13 fW) (hxP : h (q + 7) = POo (q + 7) dP) (gxP : h (q + 7 + 1) = aI 13 fP) (hxQ : h (q + 9) = POo (q + 9) dQ) (gxQ : h (q + 9 + 1) = aI 13 fQ) (hPl : POK pn fL dL) (hdl : 0 < dL) (hdl6 : dL ≤ 6) (hPw : POK pn fW dW) (hdw : dW ≤ 6) (zQ : Z13 fQ) (zP : Z13 fP) (hQ : ∀ (w2 q2 p2 : Nat → Int) (dw dq dp : Int), POK pn w2 dw → dw < dL → cgL hpn (pzT (hp0 hpn) fL) (pzT (hp0 hpn) w2) (pzMul (hp0 hpn) (pzT (hp0 hpn) fW) (pzT (hp0 hpn) fW)) → Z13 q2 → Z13 p2 → Q none N (hs (hs (hs (hs (hs (hs h (q + 7 + 1) (aI 13 p2)) (q + 7) (POo (q + 7) dp)) (q + 9 + 1) (aI 13 q2)) (q + 9) (POo (q + 9) dq)) (q + 3 + 1) (aI 13 w2)) (q + 3) (POo (q + 3) dw))) : Runs mX3_timesPower [.ref (q), .ref (q + 3)] N h Q := by
  have pw1 := hPw.1
  refine run_start (own := RX3) rfl (by decide) (nle rfl) rfl (fun X hq hini => ?_)
  show G X RX3 cX3_timesPower mX3_timesPower.rm N 0 0 0 [some (.ref (q)), some (.ref (q + 3))] [] h
  refine r_aload_n dX3_timesPower_0 rfl rfl ?_
  refine gf_X3_24 dX3_timesPower_1 (by omega) hq0 rfl ?_
  refine r_aload_n dX3_timesPower_4 rfl rfl ?_
  refine gf_X3_18 dX3_timesPower_5 (by omega) hq0 rfl ?_
  refine r_aload_n dX3_timesPower_8 rfl rfl ?_
  refine r_aload_n dX3_timesPower_9 rfl rfl ?_
  refine gf_X3_39 dX3_timesPower_10 (by omega) hq0 rfl ?_
  refine r_callV (av := [.ref (q + 3), .ref (q + 3), .int (iZ ((pn : Int)))]) dX3_timesPower_13 lkX4_becomeProduct ml_X3_95 imX4_becomeProduct seX4_becomeProduct (by omega) (rfl : vwCl[4]? = _) ⟨_, hxP⟩ ⟨Nat.le_of_ble_eq_true rfl, Nat.le_of_ble_eq_true rfl⟩ rfl rfl (nle rfl) ⟨Nat.le_of_ble_eq_true rfl, Nat.le_of_ble_eq_true rfl⟩ (c_X4_becomeProduct (r := q + 7) (a := q + 3) (b := q + 3) (dg := dP) (da := dW) (db := dW) (p := (pn : Int)) (f := fP) (fa := fW) (fb := fW) hxP gxP (by omega) zP hxW gxW (by omega) (by omega) hxW gxW (by omega) (by omega) hPw hPw (by omega) (by omega) hpr.1 hpr.2.1 (fun d13 f13 hP13 hC13 => ?_))
  show G _ _ _ _ _ _ _ 16 _ _ _
  refine r_aload_n dX3_timesPower_16 rfl rfl ?_
  refine gf_X3_24 dX3_timesPower_17 (by omega) ((hs_n (by omega)).trans ((hs_n (by omega)).trans hq0)) rfl ?_
  refine r_aload_n dX3_timesPower_20 rfl rfl ?_
  refine gf_X3_12 dX3_timesPower_21 (by omega) ((hs_n (by omega)).trans ((hs_n (by omega)).trans hq0)) rfl ?_
  refine r_aload_n dX3_timesPower_24 rfl rfl ?_
  refine gf_X3_39 dX3_timesPower_25 (by omega) ((hs_n (by omega)).trans ((hs_n (by omega)).trans hq0)) rfl ?_
  refine r_aload_n dX3_timesPower_28 rfl rfl ?_
  refine gf_X3_27 dX3_timesPower_29 (by omega) ((hs_n (by omega)).trans ((hs_n (by omega)).trans hq0)) rfl ?_
  refine r_callV (av := [.ref (q + 1), .int (iZ ((pn : Int))), .ref (q + 9)]) dX3_timesPower_32 lkX4_divideBy ml_X3_85 imX4_divideBy seX4_divideBy (by omega) (rfl : vwCl[4]? = _) ⟨_, hs_e⟩ ⟨Nat.le_of_ble_eq_true rfl, Nat.le_of_ble_eq_true rfl⟩ rfl rfl (nle rfl) ⟨Nat.le_of_ble_eq_true rfl, Nat.le_of_ble_eq_true rfl⟩ (c_X4_divideBy (r := q + 7) (v := q + 1) (u := q + 9) (dg := d13) (dv := dL) (du := dQ) (p := (pn : Int)) (f := f13) (g := fL) (e := fQ) hs_e ((hs_n (by omega)).trans hs_e) (by omega) ((hs_n (by omega)).trans ((hs_n (by omega)).trans hxL)) ((hs_n (by omega)).trans ((hs_n (by omega)).trans gxL)) (by omega) (by omega) ((hs_n (by omega)).trans ((hs_n (by omega)).trans hxQ)) ((hs_n (by omega)).trans ((hs_n (by omega)).trans gxQ)) (by omega) (by omega) (by omega) zQ hpr hP13 hPl (by omega) (fun qf32 rf32 dq32 dr32 hPq32 hPr32 hd132 hd232 hDV32 => ?_))
  refine g_heap (h2 := (hs (hs (hs (hs h (q + 7 + 1) (aI 13 (rf32))) (q + 7) (ob 4 [.ref (q + 7 + 1), .int (iZ (dr32))])) (q + 9 + 1) (aI 13 (qf32))) (q + 9) (ob 4 [.ref (q + 9 + 1), .int (iZ (dq32))]))) ((congrArg (fun x9 => hs x9 (q + 7) (ob 4 [.ref (q + 7 + 1), .int (iZ (dr32))])) (hs_put (by omega) (hs_put (by omega) (hs_put (by omega) hs_hs)))).trans (hs_put (by omega) (hs_put (by omega) hs_hs))) ?_
  show G _ _ _ _ _ _ _ 35 _ _ _
  refine r_aload_n dX3_timesPower_35 rfl rfl ?_
  refine gf_X3_18 dX3_timesPower_36 (by omega) ((hs_n (by omega)).trans ((hs_n (by omega)).trans ((hs_n (by omega)).trans ((hs_n (by omega)).trans hq0)))) rfl ?_
  refine r_aload_n dX3_timesPower_39 rfl rfl ?_
  refine gf_X3_24 dX3_timesPower_40 (by omega) ((hs_n (by omega)).trans ((hs_n (by omega)).trans ((hs_n (by omega)).trans ((hs_n (by omega)).trans hq0)))) rfl ?_
  refine r_callV (av := [.ref (q + 7)]) dX3_timesPower_43 lkX4_become ml_X3_70 imX4_become seX4_become (by omega) (rfl : vwCl[4]? = _) ⟨_, ((hs_n (by omega)).trans ((hs_n (by omega)).trans ((hs_n (by omega)).trans ((hs_n (by omega)).trans hxW))))⟩ ⟨Nat.le_of_ble_eq_true rfl, Nat.le_of_ble_eq_true rfl⟩ rfl rfl (nle rfl) ⟨Nat.le_of_ble_eq_true rfl, Nat.le_of_ble_eq_true rfl⟩ (c_X4_become (r := q + 3) (v := q + 7) (dg := dW) (dv := dr32) (f := fW) (g := rf32) ((hs_n (by omega)).trans ((hs_n (by omega)).trans ((hs_n (by omega)).trans ((hs_n (by omega)).trans hxW)))) ((hs_n (by omega)).trans ((hs_n (by omega)).trans ((hs_n (by omega)).trans ((hs_n (by omega)).trans gxW)))) (by omega) ((hs_n (by omega)).trans ((hs_n (by omega)).trans hs_e)) ((hs_n (by omega)).trans ((hs_n (by omega)).trans ((hs_n (by omega)).trans hs_e))) (by omega) (by omega) hPw.z hPr32.z ?_)
  show G _ _ _ _ _ _ _ 46 _ _ _
  refine r_return hq dX3_timesPower_46 rfl rfl rfl ?_
  exact hQ rf32 qf32 rf32 dr32 dq32 dr32 hPr32 hd132 (by have e1 := pzT_mul (hp := hp0 hpn) hP13 hPw hPw (by omega) hC13; rw [← e1]; exact cgL.div (pzT_div hP13 hPl hPq32 hPr32 hDV32)) hPq32.z hPr32.z
set_option maxHeartbeats 2000000 in
set_option maxRecDepth 20000 in
theorem c_X3_timesPowerB {N : Nat} {h : Hp} {Q : QP} {q pn : Nat} {al gr un : Int} (hpn : PrmN pn) (hpr : Prm (pn : Int)) (hq0 : h q = PAo q pn al gr un) (hN : q + 16 < N) {dL dW dB dP dQ : Int} {fL fW fB fP fQ : Nat → Int} (hxL : h (q + 1) = POo (q + 1) dL) (gxL : h (q + 1 + 1) = aI 13 fL) (hxW : h (q + 3) = POo (q + 3) dW) (gxW : h (q + 3 + 1) = aI 13 fW) (hxB : h (q + 5) = POo (q + 5) dB) (gxB : h (q + 5 + 1) = aI 13 fB) (hxP : h (q + 7) = POo (q + 7) dP) (gxP : h (q + 7 + 1) = aI 13 fP) (hxQ : h (q + 9) = POo (q + 9) dQ) (gxQ : h (q + 9 + 1) = aI 13 fQ) (hPl : POK pn fL dL) (hdl : 0 < dL) (hdl6 : dL ≤ 6) (hPw : POK pn fW dW) (hdw : dW ≤ 6) (hPb : POK pn fB dB) (hdb : dB ≤ 6) (zQ : Z13 fQ) (zP : Z13 fP) (hQ : ∀ (w2 q2 p2 : Nat → Int) (dw dq dp : Int), POK pn w2 dw → dw < dL → cgL hpn (pzT (hp0 hpn) fL) (pzT (hp0 hpn) w2) (pzMul (hp0 hpn) (pzT (hp0 hpn) fW) (pzT (hp0 hpn) fB)) → Z13 q2 → Z13 p2 → Q none N (hs (hs (hs (hs (hs (hs h (q + 7 + 1) (aI 13 p2)) (q + 7) (POo (q + 7) dp)) (q + 9 + 1) (aI 13 q2)) (q + 9) (POo (q + 9) dq)) (q + 3 + 1) (aI 13 w2)) (q + 3) (POo (q + 3) dw))) : Runs mX3_timesPower [.ref (q), .ref (q + 5)] N h Q := by
  have pw1 := hPw.1
  have pb1 := hPb.1
  refine run_start (own := RX3) rfl (by decide) (nle rfl) rfl (fun X hq hini => ?_)
  show G X RX3 cX3_timesPower mX3_timesPower.rm N 0 0 0 [some (.ref (q)), some (.ref (q + 5))] [] h
  refine r_aload_n dX3_timesPower_0 rfl rfl ?_
  refine gf_X3_24 dX3_timesPower_1 (by omega) hq0 rfl ?_
  refine r_aload_n dX3_timesPower_4 rfl rfl ?_
  refine gf_X3_18 dX3_timesPower_5 (by omega) hq0 rfl ?_
  refine r_aload_n dX3_timesPower_8 rfl rfl ?_
  refine r_aload_n dX3_timesPower_9 rfl rfl ?_
  refine gf_X3_39 dX3_timesPower_10 (by omega) hq0 rfl ?_
  refine r_callV (av := [.ref (q + 3), .ref (q + 5), .int (iZ ((pn : Int)))]) dX3_timesPower_13 lkX4_becomeProduct ml_X3_95 imX4_becomeProduct seX4_becomeProduct (by omega) (rfl : vwCl[4]? = _) ⟨_, hxP⟩ ⟨Nat.le_of_ble_eq_true rfl, Nat.le_of_ble_eq_true rfl⟩ rfl rfl (nle rfl) ⟨Nat.le_of_ble_eq_true rfl, Nat.le_of_ble_eq_true rfl⟩ (c_X4_becomeProduct (r := q + 7) (a := q + 3) (b := q + 5) (dg := dP) (da := dW) (db := dB) (p := (pn : Int)) (f := fP) (fa := fW) (fb := fB) hxP gxP (by omega) zP hxW gxW (by omega) (by omega) hxB gxB (by omega) (by omega) hPw hPb (by omega) (by omega) hpr.1 hpr.2.1 (fun d13 f13 hP13 hC13 => ?_))
  show G _ _ _ _ _ _ _ 16 _ _ _
  refine r_aload_n dX3_timesPower_16 rfl rfl ?_
  refine gf_X3_24 dX3_timesPower_17 (by omega) ((hs_n (by omega)).trans ((hs_n (by omega)).trans hq0)) rfl ?_
  refine r_aload_n dX3_timesPower_20 rfl rfl ?_
  refine gf_X3_12 dX3_timesPower_21 (by omega) ((hs_n (by omega)).trans ((hs_n (by omega)).trans hq0)) rfl ?_
  refine r_aload_n dX3_timesPower_24 rfl rfl ?_
  refine gf_X3_39 dX3_timesPower_25 (by omega) ((hs_n (by omega)).trans ((hs_n (by omega)).trans hq0)) rfl ?_
  refine r_aload_n dX3_timesPower_28 rfl rfl ?_
  refine gf_X3_27 dX3_timesPower_29 (by omega) ((hs_n (by omega)).trans ((hs_n (by omega)).trans hq0)) rfl ?_
  refine r_callV (av := [.ref (q + 1), .int (iZ ((pn : Int))), .ref (q + 9)]) dX3_timesPower_32 lkX4_divideBy ml_X3_85 imX4_divideBy seX4_divideBy (by omega) (rfl : vwCl[4]? = _) ⟨_, hs_e⟩ ⟨Nat.le_of_ble_eq_true rfl, Nat.le_of_ble_eq_true rfl⟩ rfl rfl (nle rfl) ⟨Nat.le_of_ble_eq_true rfl, Nat.le_of_ble_eq_true rfl⟩ (c_X4_divideBy (r := q + 7) (v := q + 1) (u := q + 9) (dg := d13) (dv := dL) (du := dQ) (p := (pn : Int)) (f := f13) (g := fL) (e := fQ) hs_e ((hs_n (by omega)).trans hs_e) (by omega) ((hs_n (by omega)).trans ((hs_n (by omega)).trans hxL)) ((hs_n (by omega)).trans ((hs_n (by omega)).trans gxL)) (by omega) (by omega) ((hs_n (by omega)).trans ((hs_n (by omega)).trans hxQ)) ((hs_n (by omega)).trans ((hs_n (by omega)).trans gxQ)) (by omega) (by omega) (by omega) zQ hpr hP13 hPl (by omega) (fun qf32 rf32 dq32 dr32 hPq32 hPr32 hd132 hd232 hDV32 => ?_))
  refine g_heap (h2 := (hs (hs (hs (hs h (q + 7 + 1) (aI 13 (rf32))) (q + 7) (ob 4 [.ref (q + 7 + 1), .int (iZ (dr32))])) (q + 9 + 1) (aI 13 (qf32))) (q + 9) (ob 4 [.ref (q + 9 + 1), .int (iZ (dq32))]))) ((congrArg (fun x9 => hs x9 (q + 7) (ob 4 [.ref (q + 7 + 1), .int (iZ (dr32))])) (hs_put (by omega) (hs_put (by omega) (hs_put (by omega) hs_hs)))).trans (hs_put (by omega) (hs_put (by omega) hs_hs))) ?_
  show G _ _ _ _ _ _ _ 35 _ _ _
  refine r_aload_n dX3_timesPower_35 rfl rfl ?_
  refine gf_X3_18 dX3_timesPower_36 (by omega) ((hs_n (by omega)).trans ((hs_n (by omega)).trans ((hs_n (by omega)).trans ((hs_n (by omega)).trans hq0)))) rfl ?_
  refine r_aload_n dX3_timesPower_39 rfl rfl ?_
  refine gf_X3_24 dX3_timesPower_40 (by omega) ((hs_n (by omega)).trans ((hs_n (by omega)).trans ((hs_n (by omega)).trans ((hs_n (by omega)).trans hq0)))) rfl ?_
  refine r_callV (av := [.ref (q + 7)]) dX3_timesPower_43 lkX4_become ml_X3_70 imX4_become seX4_become (by omega) (rfl : vwCl[4]? = _) ⟨_, ((hs_n (by omega)).trans ((hs_n (by omega)).trans ((hs_n (by omega)).trans ((hs_n (by omega)).trans hxW))))⟩ ⟨Nat.le_of_ble_eq_true rfl, Nat.le_of_ble_eq_true rfl⟩ rfl rfl (nle rfl) ⟨Nat.le_of_ble_eq_true rfl, Nat.le_of_ble_eq_true rfl⟩ (c_X4_become (r := q + 3) (v := q + 7) (dg := dW) (dv := dr32) (f := fW) (g := rf32) ((hs_n (by omega)).trans ((hs_n (by omega)).trans ((hs_n (by omega)).trans ((hs_n (by omega)).trans hxW)))) ((hs_n (by omega)).trans ((hs_n (by omega)).trans ((hs_n (by omega)).trans ((hs_n (by omega)).trans gxW)))) (by omega) ((hs_n (by omega)).trans ((hs_n (by omega)).trans hs_e)) ((hs_n (by omega)).trans ((hs_n (by omega)).trans ((hs_n (by omega)).trans hs_e))) (by omega) (by omega) hPw.z hPr32.z ?_)
  show G _ _ _ _ _ _ _ 46 _ _ _
  refine r_return hq dX3_timesPower_46 rfl rfl rfl ?_
  exact hQ rf32 qf32 rf32 dr32 dq32 dr32 hPr32 hd132 (by have e1 := pzT_mul (hp := hp0 hpn) hP13 hPw hPb (by omega) hC13; rw [← e1]; exact cgL.div (pzT_div hP13 hPl hPq32 hPr32 hDV32)) hPq32.z hPr32.z
set_option maxHeartbeats 2000000 in
set_option maxRecDepth 20000 in
theorem c_X3_raisePower {N : Nat} {h : Hp} {Q : QP} {q pn : Nat} {al gr un : Int} (hpn : PrmN pn) (hpr : Prm (pn : Int)) (hq0 : h q = PAo q pn al gr un) (hN : q + 16 < N) {dL dW dB dP dQ : Int} {fL fW fB fP fQ : Nat → Int} (hxL : h (q + 1) = POo (q + 1) dL) (gxL : h (q + 1 + 1) = aI 13 fL) (hxW : h (q + 3) = POo (q + 3) dW) (gxW : h (q + 3 + 1) = aI 13 fW) (hxB : h (q + 5) = POo (q + 5) dB) (gxB : h (q + 5 + 1) = aI 13 fB) (hxP : h (q + 7) = POo (q + 7) dP) (gxP : h (q + 7 + 1) = aI 13 fP) (hxQ : h (q + 9) = POo (q + 9) dQ) (gxQ : h (q + 9 + 1) = aI 13 fQ) (hPl : POK pn fL dL) (hdl : 0 < dL) (hdl6 : dL ≤ 6) (hPw : POK pn fW dW) (hdw : dW ≤ 6) (zB : Z13 fB) (zQ : Z13 fQ) (zP : Z13 fP) (hQ : ∀ (b2 w2 q2 p2 : Nat → Int) (db dw dq dp : Int), POK pn w2 dw → dw ≤ 6 → cgL hpn (pzT (hp0 hpn) fL) (pzT (hp0 hpn) w2) (pzPow (hp0 hpn) (pzT (hp0 hpn) fW) pn) → Z13 b2 → Z13 q2 → Z13 p2 → Q none N (hs (hs (hs (hs (hs (hs (hs (hs h (q + 5 + 1) (aI 13 b2)) (q + 5) (POo (q + 5) db)) (q + 3 + 1) (aI 13 w2)) (q + 3) (POo (q + 3) dw)) (q + 9 + 1) (aI 13 q2)) (q + 9) (POo (q + 9) dq)) (q + 7 + 1) (aI 13 p2)) (q + 7) (POo (q + 7) dp))) : Runs mX3_raisePower [.ref (q)] N h Q := by
  have pn2 := hpr.1
  have pn97 := hpr.2.1
  have pw1 := hPw.1
  refine run_start (own := RX3) rfl (by decide) (nle rfl) rfl (fun X hq hini => ?_)
  show G X RX3 cX3_raisePower mX3_raisePower.rm N 0 0 0 [some (.ref (q)), none] [] h
  refine r_aload_n dX3_raisePower_0 rfl rfl ?_
  refine gf_X3_21 dX3_raisePower_1 (by omega) hq0 rfl ?_
  refine r_aload_n dX3_raisePower_4 rfl rfl ?_
  refine gf_X3_18 dX3_raisePower_5 (by omega) hq0 rfl ?_
  refine r_callV (av := [.ref (q + 3)]) dX3_raisePower_8 lkX4_become ml_X3_70 imX4_become seX4_become (by omega) (rfl : vwCl[4]? = _) ⟨_, hxB⟩ ⟨Nat.le_of_ble_eq_true rfl, Nat.le_of_ble_eq_true rfl⟩ rfl rfl (nle rfl) ⟨Nat.le_of_ble_eq_true rfl, Nat.le_of_ble_eq_true rfl⟩ (c_X4_become (r := q + 5) (v := q + 3) (dg := dB) (dv := dW) (f := fB) (g := fW) hxB gxB (by omega) hxW gxW (by omega) (by omega) zB hPw.z ?_)
  show G _ _ _ _ _ _ _ 11 _ _ _
  refine r_aload_n dX3_raisePower_11 rfl rfl ?_
  refine gf_X3_18 dX3_raisePower_12 (by omega) ((hs_n (by omega)).trans ((hs_n (by omega)).trans hq0)) rfl ?_
  refine r_callV (av := []) dX3_raisePower_15 lkX4_becomeOne ml_X3_89 imX4_becomeOne seX4_becomeOne (by omega) (rfl : vwCl[4]? = _) ⟨_, ((hs_n (by omega)).trans ((hs_n (by omega)).trans hxW))⟩ ⟨Nat.le_of_ble_eq_true rfl, Nat.le_of_ble_eq_true rfl⟩ rfl rfl (nle rfl) ⟨Nat.le_of_ble_eq_true rfl, Nat.le_of_ble_eq_true rfl⟩ (c_X4_becomeOne (r := q + 3) (dg := dW) (f := fW) ((hs_n (by omega)).trans ((hs_n (by omega)).trans hxW)) ((hs_n (by omega)).trans ((hs_n (by omega)).trans gxW)) (by omega) hPw.z ?_)
  show G _ _ _ _ _ _ _ 18 _ _ _
  refine r_bipush (z := 6) dX3_raisePower_18 (by decide) ?_
  refine r_istore_n (L2 := [_, _]) dX3_raisePower_20 rfl (nlt rfl) rfl ?_
  have lp21 : ∀ (fu21 : Nat) (w1 : Nat → Int) (d1 : Int) (q1 : Nat → Int) (e2 : Int) (p1 : Nat → Int) (e3 : Int) (i : Int) (t : Nat), (i + 2) < (fu21 : Int) → (i + 1 = (t : Int)) → (t ≤ 7) → (POK pn w1 d1) → (d1 ≤ 6) → (Z13 q1) → (Z13 p1) → (cgL hpn (pzT (hp0 hpn) fL) (pzT (hp0 hpn) w1) (pzPow (hp0 hpn) (pzT (hp0 hpn) fW) (pn / 2 ^ t))) → G X RX3 cX3_raisePower mX3_raisePower.rm N 0 0 21 [some (.ref (q)), some (.int (iZ (i)))] [] (hs (hs (hs (hs (hs (hs (hs (hs h (q + 5 + 1) (aI 13 (fW))) (q + 5) (ob 4 [.ref (q + 5 + 1), .int (iZ (dW))])) (q + 3 + 1) (aI 13 (w1))) (q + 3) (ob 4 [.ref (q + 3 + 1), .int (iZ (d1))])) (q + 9 + 1) (aI 13 (q1))) (q + 9) (ob 4 [.ref (q + 9 + 1), .int (iZ (e2))])) (q + 7 + 1) (aI 13 (p1))) (q + 7) (ob 4 [.ref (q + 7 + 1), .int (iZ (e3))])) := by
    intro fu21
    induction fu21 with
    | zero => intro w1 d1 q1 e2 p1 e3 i t hm it t7 hPw1 hd1 zq1 zp1 hcw; exfalso; omega
    | succ fu21 ih21 =>
      intro w1 d1 q1 e2 p1 e3 i t hms21 it t7 hPw1 hd1 zq1 zp1 hcw
      have pw1a := hPw1.1
      refine r_iload_n dX3_raisePower_21 rfl rfl ?_
      refine r_if_lt 59 dX3_raisePower_22 (by decide) ⟨by omega, by omega⟩ (fun c_22 => ?_) (fun c_22 => ?_)
      · refine r_return hq dX3_raisePower_59 rfl rfl rfl ?_
        have t0 : t = 0 := by omega
        rw [t0, Nat.pow_zero, Nat.div_one] at hcw
        exact hQ fW w1 q1 p1 dW d1 e2 e3 hPw1 hd1 hcw hPw.z zq1 zp1
      · have ebb : i.toNat = t - 1 := by omega
        have enb : (pn : Int) / 2 ^ i.toNat = ((pn / 2 ^ (t - 1) : Nat) : Int) := by rw [ebb]; rfl
        have e2n : pn / 2 ^ (t - 1) = pn / 2 ^ t + pn / 2 ^ t + pn / 2 ^ (t - 1) % 2 := by
          have e8 := pow_half (n := pn) (t - 1)
          rw [show t - 1 + 1 = t by omega] at e8
          omega
        refine r_aload_n dX3_raisePower_25 rfl rfl ?_
        refine r_aload_n dX3_raisePower_26 rfl rfl ?_
        refine gf_X3_18 dX3_raisePower_27 (by omega) ((hs_n (by omega)).trans ((hs_n (by omega)).trans ((hs_n (by omega)).trans ((hs_n (by omega)).trans ((hs_n (by omega)).trans ((hs_n (by omega)).trans ((hs_n (by omega)).trans ((hs_n (by omega)).trans hq0)))))))) rfl ?_
        refine r_callV (av := [.ref (q + 3)]) dX3_raisePower_30 lkX3_timesPower ml_X3_92 imX3_timesPower seX3_timesPower (by omega) (rfl : vwCl[3]? = _) ⟨_, ((hs_n (by omega)).trans ((hs_n (by omega)).trans ((hs_n (by omega)).trans ((hs_n (by omega)).trans ((hs_n (by omega)).trans ((hs_n (by omega)).trans ((hs_n (by omega)).trans ((hs_n (by omega)).trans hq0))))))))⟩ ⟨Nat.le_of_ble_eq_true rfl, Nat.le_of_ble_eq_true rfl⟩ rfl rfl (nle rfl) ⟨Nat.le_of_ble_eq_true rfl, Nat.le_of_ble_eq_true rfl⟩ (c_X3_timesPowerW (pn := pn) (al := al) (gr := gr) (un := un) (fL := fL) (dL := dL) (fW := w1) (dW := d1) (fP := p1) (dP := e3) (fQ := q1) (dQ := e2) hpn hpr ((hs_n (by omega)).trans ((hs_n (by omega)).trans ((hs_n (by omega)).trans ((hs_n (by omega)).trans ((hs_n (by omega)).trans ((hs_n (by omega)).trans ((hs_n (by omega)).trans ((hs_n (by omega)).trans hq0)))))))) (by omega) ((hs_n (by omega)).trans ((hs_n (by omega)).trans ((hs_n (by omega)).trans ((hs_n (by omega)).trans ((hs_n (by omega)).trans ((hs_n (by omega)).trans ((hs_n (by omega)).trans ((hs_n (by omega)).trans hxL)))))))) ((hs_n (by omega)).trans ((hs_n (by omega)).trans ((hs_n (by omega)).trans ((hs_n (by omega)).trans ((hs_n (by omega)).trans ((hs_n (by omega)).trans ((hs_n (by omega)).trans ((hs_n (by omega)).trans gxL)))))))) ((hs_n (by omega)).trans ((hs_n (by omega)).trans ((hs_n (by omega)).trans ((hs_n (by omega)).trans hs_e)))) ((hs_n (by omega)).trans ((hs_n (by omega)).trans ((hs_n (by omega)).trans ((hs_n (by omega)).trans ((hs_n (by omega)).trans hs_e))))) hs_e ((hs_n (by omega)).trans hs_e) ((hs_n (by omega)).trans ((hs_n (by omega)).trans hs_e)) ((hs_n (by omega)).trans ((hs_n (by omega)).trans ((hs_n (by omega)).trans hs_e))) hPl hdl hdl6 hPw1 (by omega) zq1 zp1 (fun w30 q30 p30 dw30 dq30 dp30 hPw30 hdw30 hcg30 zq30 zp30 => ?_))
        refine g_heap (h2 := (hs (hs (hs (hs (hs (hs (hs (hs h (q + 5 + 1) (aI 13 (fW))) (q + 5) (ob 4 [.ref (q + 5 + 1), .int (iZ (dW))])) (q + 3 + 1) (aI 13 (w30))) (q + 3) (ob 4 [.ref (q + 3 + 1), .int (iZ (dw30))])) (q + 9 + 1) (aI 13 (q30))) (q + 9) (ob 4 [.ref (q + 9 + 1), .int (iZ (dq30))])) (q + 7 + 1) (aI 13 (p30))) (q + 7) (ob 4 [.ref (q + 7 + 1), .int (iZ (dp30))]))) ((congrArg (fun x9 => hs x9 (q + 3) (ob 4 [.ref (q + 3 + 1), .int (iZ (dw30))])) ((congrArg (fun x9 => hs x9 (q + 3 + 1) (aI 13 (w30))) ((congrArg (fun x9 => hs x9 (q + 9) (ob 4 [.ref (q + 9 + 1), .int (iZ (dq30))])) ((congrArg (fun x9 => hs x9 (q + 9 + 1) (aI 13 (q30))) ((congrArg (fun x9 => hs x9 (q + 7) (ob 4 [.ref (q + 7 + 1), .int (iZ (dp30))])) (hs_put (by omega) hs_hs)).trans hs_hs)).trans (hs_put (by omega) (hs_put (by omega) (hs_put (by omega) hs_hs))))).trans (hs_put (by omega) (hs_put (by omega) hs_hs)))).trans (hs_put (by omega) (hs_put (by omega) (hs_put (by omega) (hs_put (by omega) (hs_put (by omega) hs_hs))))))).trans (hs_put (by omega) (hs_put (by omega) (hs_put (by omega) (hs_put (by omega) hs_hs))))) ?_
        show G _ _ _ _ _ _ _ 33 _ _ _
        refine r_aload_n dX3_raisePower_33 rfl rfl ?_
        refine gf_X3_39 dX3_raisePower_34 (by omega) ((hs_n (by omega)).trans ((hs_n (by omega)).trans ((hs_n (by omega)).trans ((hs_n (by omega)).trans ((hs_n (by omega)).trans ((hs_n (by omega)).trans ((hs_n (by omega)).trans ((hs_n (by omega)).trans hq0)))))))) rfl ?_
        refine r_iload_n dX3_raisePower_37 rfl rfl ?_
        refine r_ishr (z := iZ ((pn : Int) / 2 ^ i.toNat)) dX3_raisePower_38 (shr_n (by omega) (by omega) (by omega) (by omega)) ?_
        refine r_iconst (z := 1) dX3_raisePower_39 ?_
        refine r_iand (z := iZ ((pn : Int) / 2 ^ i.toNat % 2)) dX3_raisePower_40 (and_1 (by rw [enb]; exact Int.natCast_nonneg _) (by rw [enb]; exact Int.lt_of_le_of_lt (Int.ofNat_le.mpr (Nat.div_le_self pn _)) (by omega))) ?_
        refine r_iconst (z := 1) dX3_raisePower_41 ?_
        refine r_icmp_ne 53 dX3_raisePower_42 (by decide) ⟨by omega, by omega⟩ ⟨by decide, by decide⟩ (fun c_42 => ?_) (fun c_42 => ?_)
        · refine r_iinc (L2 := [_, _]) dX3_raisePower_53 (nlt rfl) rfl rfl ?_
          refine r_goto 21 dX3_raisePower_56 (by decide) ?_
          exact ih21 (w30) (dw30) (q30) (dq30) (p30) (dp30) (i + (-1)) ((t - 1)) (by omega) (by omega) (by omega) hPw30 (by omega) zq30 zp30 (by rw [e2n, show pn / 2 ^ (t - 1) % 2 = 0 by omega, Nat.add_zero, pzPow_add hpn]; exact hcg30.tr (hcw.mul hcw))
        · refine r_aload_n dX3_raisePower_45 rfl rfl ?_
          refine r_aload_n dX3_raisePower_46 rfl rfl ?_
          refine gf_X3_21 dX3_raisePower_47 (by omega) ((hs_n (by omega)).trans ((hs_n (by omega)).trans ((hs_n (by omega)).trans ((hs_n (by omega)).trans ((hs_n (by omega)).trans ((hs_n (by omega)).trans ((hs_n (by omega)).trans ((hs_n (by omega)).trans hq0)))))))) rfl ?_
          refine r_callV (av := [.ref (q + 5)]) dX3_raisePower_50 lkX3_timesPower ml_X3_92 imX3_timesPower seX3_timesPower (by omega) (rfl : vwCl[3]? = _) ⟨_, ((hs_n (by omega)).trans ((hs_n (by omega)).trans ((hs_n (by omega)).trans ((hs_n (by omega)).trans ((hs_n (by omega)).trans ((hs_n (by omega)).trans ((hs_n (by omega)).trans ((hs_n (by omega)).trans hq0))))))))⟩ ⟨Nat.le_of_ble_eq_true rfl, Nat.le_of_ble_eq_true rfl⟩ rfl rfl (nle rfl) ⟨Nat.le_of_ble_eq_true rfl, Nat.le_of_ble_eq_true rfl⟩ (c_X3_timesPowerB (pn := pn) (al := al) (gr := gr) (un := un) (fL := fL) (dL := dL) (fW := w30) (dW := dw30) (fB := fW) (dB := dW) (fP := p30) (dP := dp30) (fQ := q30) (dQ := dq30) hpn hpr ((hs_n (by omega)).trans ((hs_n (by omega)).trans ((hs_n (by omega)).trans ((hs_n (by omega)).trans ((hs_n (by omega)).trans ((hs_n (by omega)).trans ((hs_n (by omega)).trans ((hs_n (by omega)).trans hq0)))))))) (by omega) ((hs_n (by omega)).trans ((hs_n (by omega)).trans ((hs_n (by omega)).trans ((hs_n (by omega)).trans ((hs_n (by omega)).trans ((hs_n (by omega)).trans ((hs_n (by omega)).trans ((hs_n (by omega)).trans hxL)))))))) ((hs_n (by omega)).trans ((hs_n (by omega)).trans ((hs_n (by omega)).trans ((hs_n (by omega)).trans ((hs_n (by omega)).trans ((hs_n (by omega)).trans ((hs_n (by omega)).trans ((hs_n (by omega)).trans gxL)))))))) ((hs_n (by omega)).trans ((hs_n (by omega)).trans ((hs_n (by omega)).trans ((hs_n (by omega)).trans hs_e)))) ((hs_n (by omega)).trans ((hs_n (by omega)).trans ((hs_n (by omega)).trans ((hs_n (by omega)).trans ((hs_n (by omega)).trans hs_e))))) ((hs_n (by omega)).trans ((hs_n (by omega)).trans ((hs_n (by omega)).trans ((hs_n (by omega)).trans ((hs_n (by omega)).trans ((hs_n (by omega)).trans hs_e)))))) ((hs_n (by omega)).trans ((hs_n (by omega)).trans ((hs_n (by omega)).trans ((hs_n (by omega)).trans ((hs_n (by omega)).trans ((hs_n (by omega)).trans ((hs_n (by omega)).trans hs_e))))))) hs_e ((hs_n (by omega)).trans hs_e) ((hs_n (by omega)).trans ((hs_n (by omega)).trans hs_e)) ((hs_n (by omega)).trans ((hs_n (by omega)).trans ((hs_n (by omega)).trans hs_e))) hPl hdl hdl6 hPw30 (by omega) hPw (by omega) zq30 zp30 (fun w50 q50 p50 dw50 dq50 dp50 hPw50 hdw50 hcg50 zq50 zp50 => ?_))
          refine g_heap (h2 := (hs (hs (hs (hs (hs (hs (hs (hs h (q + 5 + 1) (aI 13 (fW))) (q + 5) (ob 4 [.ref (q + 5 + 1), .int (iZ (dW))])) (q + 3 + 1) (aI 13 (w50))) (q + 3) (ob 4 [.ref (q + 3 + 1), .int (iZ (dw50))])) (q + 9 + 1) (aI 13 (q50))) (q + 9) (ob 4 [.ref (q + 9 + 1), .int (iZ (dq50))])) (q + 7 + 1) (aI 13 (p50))) (q + 7) (ob 4 [.ref (q + 7 + 1), .int (iZ (dp50))]))) ((congrArg (fun x9 => hs x9 (q + 3) (ob 4 [.ref (q + 3 + 1), .int (iZ (dw50))])) ((congrArg (fun x9 => hs x9 (q + 3 + 1) (aI 13 (w50))) ((congrArg (fun x9 => hs x9 (q + 9) (ob 4 [.ref (q + 9 + 1), .int (iZ (dq50))])) ((congrArg (fun x9 => hs x9 (q + 9 + 1) (aI 13 (q50))) ((congrArg (fun x9 => hs x9 (q + 7) (ob 4 [.ref (q + 7 + 1), .int (iZ (dp50))])) (hs_put (by omega) hs_hs)).trans hs_hs)).trans (hs_put (by omega) (hs_put (by omega) (hs_put (by omega) hs_hs))))).trans (hs_put (by omega) (hs_put (by omega) hs_hs)))).trans (hs_put (by omega) (hs_put (by omega) (hs_put (by omega) (hs_put (by omega) (hs_put (by omega) hs_hs))))))).trans (hs_put (by omega) (hs_put (by omega) (hs_put (by omega) (hs_put (by omega) hs_hs))))) ?_
          show G _ _ _ _ _ _ _ 53 _ _ _
          refine r_iinc (L2 := [_, _]) dX3_raisePower_53 (nlt rfl) rfl rfl ?_
          refine r_goto 21 dX3_raisePower_56 (by decide) ?_
          exact ih21 (w50) (dw50) (q50) (dq50) (p50) (dp50) (i + (-1)) ((t - 1)) (by omega) (by omega) (by omega) hPw50 (by omega) zq50 zp50 (by rw [e2n, show pn / 2 ^ (t - 1) % 2 = 1 by omega, pzPow_add hpn, pzPow_add hpn, pzPow_1 hpn]; exact hcg50.tr ((hcg30.tr (hcw.mul hcw)).mul cgL.rf))
  refine g_heap (hs_id (c := aI 13 (fQ)) ((hs_n (by omega)).trans ((hs_n (by omega)).trans ((hs_n (by omega)).trans ((hs_n (by omega)).trans gxQ))))).symm ?_
  refine g_heap (hs_id (c := ob 4 [.ref (q + 9 + 1), .int (iZ (dQ))]) ((hs_n (by omega)).trans ((hs_n (by omega)).trans ((hs_n (by omega)).trans ((hs_n (by omega)).trans ((hs_n (by omega)).trans hxQ)))))).symm ?_
  refine g_heap (hs_id (c := aI 13 (fP)) ((hs_n (by omega)).trans ((hs_n (by omega)).trans ((hs_n (by omega)).trans ((hs_n (by omega)).trans ((hs_n (by omega)).trans ((hs_n (by omega)).trans gxP))))))).symm ?_
  refine g_heap (hs_id (c := ob 4 [.ref (q + 7 + 1), .int (iZ (dP))]) ((hs_n (by omega)).trans ((hs_n (by omega)).trans ((hs_n (by omega)).trans ((hs_n (by omega)).trans ((hs_n (by omega)).trans ((hs_n (by omega)).trans ((hs_n (by omega)).trans hxP)))))))).symm ?_
  exact lp21 ((9 : Int) + 1).toNat (pone) (0) (fQ) (dQ) (fP) (dP) (6) (7) (by omega) (by decide) (by decide) (pone_ok hpr.1) (by decide) zQ zP (by rw [show pn / 2 ^ 7 = 0 from Nat.div_eq_of_lt (by omega), pzT_one hpr.1]; exact cgL.rf)
