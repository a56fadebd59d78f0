def SPrest (i n m : Int) (K : Nat → Nat) (C S : Nat → Nat → Int) (r : Int) : Prop := (¬ (0 ≤ i ∧ i ≤ 5 ∧ 0 ≤ n ∧ n ≤ 1000000000 ∧ 2 ≤ m ∧ m ≤ 1000000) ∧ r = -1) ∨ (0 ≤ i ∧ i ≤ 5 ∧ 0 ≤ n ∧ n ≤ 1000000000 ∧ 2 ≤ m ∧ m ≤ 1000000 ∧ r = ex (K i.toNat) (C i.toNat) (S i.toNat) n.toNat % m)
set_option maxHeartbeats 2000000 in
set_option maxRecDepth 20000 in
theorem c_X10_rest {N : Nat} {h : Hp} {Q : QP} {tb : Nat → Int} {ln : Nat} {K : Nat → Nat} {C S : Nat → Nat → Int} {p : Int} {vs : Nat → Int} {sz : Nat} {i n m : Int} (hI : CI h tb ln K C S p vs sz) (hN : 124 ≤ N) (hi : rI i) (hn : rI n) (hm : rI m) (hQ : ∀ (r : Int) (h2 : Hp), SPrest i n m K C S r → CI h2 tb ln K C S p vs sz → OUT h h2 → Q (some (.int (iZ r))) N h2) : Runs mX10_rest [.ref (0), .int (iZ (i)), .int (iZ (n)), .int (iZ (m))] N h Q := by
  obtain ⟨hO, hT, hR, hNu, hRs, hRd, hLg, hMk, hPt, hEx⟩ := id hI
  obtain ⟨rg, hR6, hRg⟩ := hR.1
  obtain ⟨rsk, rsm, rl, rsr, rP, rpr, hS1, hS2, hS3, hS4, hS5⟩ := id hRs
  refine run_start (own := RX10) rfl (by decide) (nle rfl) rfl (fun X hq hini => ?_)
  show G X RX10 cX10_rest mX10_rest.rm N 0 0 0 [some (.ref (0)), some (.int (iZ (i))), some (.int (iZ (n))), some (.int (iZ (m)))] [] h
  refine r_iload_n dX10_rest_0 rfl rfl ?_
  refine r_callS (av := [.int (iZ (i))]) dX10_rest_1 lkX10_isRegister ml_X10_84 stX10_isRegister ⟨Nat.le_of_ble_eq_true rfl, Nat.le_of_ble_eq_true rfl⟩ rfl rfl (nle rfl) ⟨Nat.le_of_ble_eq_true rfl, Nat.le_of_ble_eq_true rfl⟩ (c_X10_isRegister (x := i) hi (fun b1 hb1 => ?_))
  show G _ _ _ _ _ _ _ 4 _ _ _
  refine r_if_eq 27 dX10_rest_4 (by decide) (by rcases hb1 with ⟨y, _⟩ | ⟨y, _⟩ <;> exact ⟨by omega, by omega⟩) (fun c_4 => ?_) (fun c_4 => ?_)
  · refine r_iconst (z := -1) dX10_rest_27 ?_
    refine r_ireturn hq dX10_rest_28 rfl rfl rfl ?_
    exact hQ _ h (Or.inl ⟨by omega, rfl⟩) hI (fun _ _ => rfl)
  · refine r_iload_n dX10_rest_7 rfl rfl ?_
    refine r_iconst (z := 0) dX10_rest_8 ?_
    refine r_ldc (z := 1000000000) dX10_rest_9 kc_X10_118 ?_
    refine r_callS (av := [.int (iZ (n)), .int (iZ (0)), .int (iZ (1000000000))]) dX10_rest_11 lkX10_isIn ml_X10_100 stX10_isIn ⟨Nat.le_of_ble_eq_true rfl, Nat.le_of_ble_eq_true rfl⟩ rfl rfl (nle rfl) ⟨Nat.le_of_ble_eq_true rfl, Nat.le_of_ble_eq_true rfl⟩ (c_X10_isIn (x := n) (l := 0) (m := 1000000000) hn ⟨by decide, by decide⟩ ⟨by decide, by decide⟩ (fun b11 hb11 => ?_))
    show G _ _ _ _ _ _ _ 14 _ _ _
    refine r_if_eq 27 dX10_rest_14 (by decide) (by rcases hb11 with ⟨y, _⟩ | ⟨y, _⟩ <;> exact ⟨by omega, by omega⟩) (fun c_14 => ?_) (fun c_14 => ?_)
    · refine r_iconst (z := -1) dX10_rest_27 ?_
      refine r_ireturn hq dX10_rest_28 rfl rfl rfl ?_
      exact hQ _ h (Or.inl ⟨by omega, rfl⟩) hI (fun _ _ => rfl)
    · refine r_iload_n dX10_rest_17 rfl rfl ?_
      refine r_iconst (z := 2) dX10_rest_18 ?_
      refine r_ldc (z := 1000000) dX10_rest_19 kc_X10_119 ?_
      refine r_callS (av := [.int (iZ (m)), .int (iZ (2)), .int (iZ (1000000))]) dX10_rest_21 lkX10_isIn ml_X10_100 stX10_isIn ⟨Nat.le_of_ble_eq_true rfl, Nat.le_of_ble_eq_true rfl⟩ rfl rfl (nle rfl) ⟨Nat.le_of_ble_eq_true rfl, Nat.le_of_ble_eq_true rfl⟩ (c_X10_isIn (x := m) (l := 2) (m := 1000000) hm ⟨by decide, by decide⟩ ⟨by decide, by decide⟩ (fun b21 hb21 => ?_))
      show G _ _ _ _ _ _ _ 24 _ _ _
      refine r_if_ne 29 dX10_rest_24 (by decide) (by rcases hb21 with ⟨y, _⟩ | ⟨y, _⟩ <;> exact ⟨by omega, by omega⟩) (fun c_24 => ?_) (fun c_24 => ?_)
      · obtain ⟨k, c, s, ek, ec, es, hr, hrb⟩ := hR.get (i := i.toNat) (by omega)
        obtain ⟨hk1, hk6, hcb, hsb, hc0⟩ := id hrb
        refine r_aload_n dX10_rest_29 rfl rfl ?_
        refine gf_X10_32 dX10_rest_30 (by omega) hO rfl ?_
        refine r_aload_n dX10_rest_33 rfl rfl ?_
        refine gf_X10_18 dX10_rest_34 (by omega) hO rfl ?_
        refine r_iload_n dX10_rest_37 rfl rfl ?_
        refine r_aaload dX10_rest_38 (by omega) hR6 (by decide) (by omega) (by omega) (by decide) (hRg _ (by omega)) ?_
        refine r_iload_n dX10_rest_39 rfl rfl ?_
        refine r_iload_n dX10_rest_40 rfl rfl ?_
        refine r_callV (av := [.ref (106 + 3 * i.toNat), .int (iZ (n)), .int (iZ (m))]) dX10_rest_41 lkX5_placeOn ml_X10_120 imX5_placeOn seX5_placeOn (by omega) (rfl : vwCl[5]? = _) ⟨_, hS1⟩ ⟨Nat.le_of_ble_eq_true rfl, Nat.le_of_ble_eq_true rfl⟩ rfl rfl (nle rfl) ⟨Nat.le_of_ble_eq_true rfl, Nat.le_of_ble_eq_true rfl⟩ (c_X5_placeOn (q := 55) (k := k) (nn := n.toNat) (r := 106 + 3 * i.toNat) (n := n) (m := m) (lw := rl) (sr := rsr) (P := rP) (pr := rpr) (c := c) (s := s) hS1 hS2 hS3 hS4 hS5 (by omega) hk1 hk6 (by omega) (by omega) (RowAt.to hr.1 hr.2.1 hr.2.2) (by omega) (by omega) hcb hsb (by omega) (by omega) (fun l41 s41 P41 p41 => ?_))
        show G _ _ _ _ _ _ _ 44 _ _ _
        refine r_ireturn hq dX10_rest_44 rfl rfl rfl ?_
        refine hQ _ _ (Or.inr ⟨by omega, by omega, by omega, by omega, by omega, by omega, by rw [ek, ec, es]⟩) ⟨hO.cg (fun a9 h8 h9 => ((hs_n (by omega)).trans ((hs_n (by omega)).trans ((hs_n (by omega)).trans ((hs_n (by omega)).trans ((hs_n (by omega)).trans rfl)))))), hT.cg (fun a9 h8 h9 => ((hs_n (by omega)).trans ((hs_n (by omega)).trans ((hs_n (by omega)).trans ((hs_n (by omega)).trans ((hs_n (by omega)).trans rfl)))))), hR.cg ((hs_n (by omega)).trans ((hs_n (by omega)).trans ((hs_n (by omega)).trans ((hs_n (by omega)).trans ((hs_n (by omega)).trans rfl))))) (fun a9 h8 h9 => ((hs_n (by omega)).trans ((hs_n (by omega)).trans ((hs_n (by omega)).trans ((hs_n (by omega)).trans ((hs_n (by omega)).trans rfl)))))), hNu.cg (fun a9 h8 h9 => ((hs_n (by omega)).trans ((hs_n (by omega)).trans ((hs_n (by omega)).trans ((hs_n (by omega)).trans ((hs_n (by omega)).trans rfl)))))), ⟨_, _, _, _, _, _, ((hs_n (by omega)).trans ((hs_n (by omega)).trans ((hs_n (by omega)).trans ((hs_n (by omega)).trans hs_e)))), ((hs_n (by omega)).trans ((hs_n (by omega)).trans ((hs_n (by omega)).trans hs_e))), ((hs_n (by omega)).trans ((hs_n (by omega)).trans hs_e)), ((hs_n (by omega)).trans hs_e), hs_e⟩, hRd.cg (fun a9 h8 h9 => ((hs_n (by omega)).trans ((hs_n (by omega)).trans ((hs_n (by omega)).trans ((hs_n (by omega)).trans ((hs_n (by omega)).trans rfl)))))), hLg.cg (fun a9 h8 h9 => ((hs_n (by omega)).trans ((hs_n (by omega)).trans ((hs_n (by omega)).trans ((hs_n (by omega)).trans ((hs_n (by omega)).trans rfl)))))), hMk.cg (fun a9 h8 h9 => ((hs_n (by omega)).trans ((hs_n (by omega)).trans ((hs_n (by omega)).trans ((hs_n (by omega)).trans ((hs_n (by omega)).trans rfl)))))), hPt.cg (fun a9 h8 h9 => ((hs_n (by omega)).trans ((hs_n (by omega)).trans ((hs_n (by omega)).trans ((hs_n (by omega)).trans ((hs_n (by omega)).trans rfl)))))), hEx.cg (fun a9 h8 h9 => ((hs_n (by omega)).trans ((hs_n (by omega)).trans ((hs_n (by omega)).trans ((hs_n (by omega)).trans ((hs_n (by omega)).trans rfl))))))⟩ (fun a9 h9 => ((hs_n (by omega)).trans ((hs_n (by omega)).trans ((hs_n (by omega)).trans ((hs_n (by omega)).trans ((hs_n (by omega)).trans rfl))))))
      · refine r_iconst (z := -1) dX10_rest_27 ?_
        refine r_ireturn hq dX10_rest_28 rfl rfl rfl ?_
        exact hQ _ h (Or.inl ⟨by omega, rfl⟩) hI (fun _ _ => rfl)
def SPround (i m w : Int) (K : Nat → Nat) (C S : Nat → Nat → Int) (r : Int) : Prop := (¬ (0 ≤ i ∧ i ≤ 5 ∧ 2 ≤ m ∧ m ≤ 1000 ∧ 0 ≤ w ∧ w ≤ 2) ∧ r = -1) ∨ (0 ≤ i ∧ i ≤ 5 ∧ 2 ≤ m ∧ m ≤ 1000 ∧ 0 ≤ w ∧ w ≤ 2 ∧ ((∃ u l : Nat, RND (K i.toNat) (rs (K i.toNat) (C i.toNat) (S i.toNat) m) u l ∧ u + l ≤ 100000 ∧ r = if w = 0 then (u : Int) else if w = 1 then (l : Int) else cntR (rs (K i.toNat) (C i.toNat) (S i.toNat) m) 0 (u + l)) ∨ ((∀ u l : Nat, RND (K i.toNat) (rs (K i.toNat) (C i.toNat) (S i.toNat) m) u l → 100000 < u + l) ∧ r = -5)))
def SPfirst (i m v : Int) (K : Nat → Nat) (C S : Nat → Nat → Int) (r : Int) : Prop := (¬ (0 ≤ i ∧ i ≤ 5 ∧ 2 ≤ m ∧ m ≤ 1000 ∧ 0 ≤ v ∧ v ≤ m - 1) ∧ r = -1) ∨ (0 ≤ i ∧ i ≤ 5 ∧ 2 ≤ m ∧ m ≤ 1000 ∧ 0 ≤ v ∧ v ≤ m - 1 ∧ ((∃ u l : Nat, RND (K i.toNat) (rs (K i.toNat) (C i.toNat) (S i.toNat) m) u l ∧ u + l ≤ 100000 ∧ FirstR (rs (K i.toNat) (C i.toNat) (S i.toNat) m) v (u + l) r) ∨ ((∀ u l : Nat, RND (K i.toNat) (rs (K i.toNat) (C i.toNat) (S i.toNat) m) u l → 100000 < u + l) ∧ r = -5)))
set_option maxHeartbeats 2000000 in
set_option maxRecDepth 20000 in
theorem c_X10_round {N : Nat} {h : Hp} {Q : QP} {tb : Nat → Int} {ln : Nat} {K : Nat → Nat} {C S : Nat → Nat → Int} {p : Int} {vs : Nat → Int} {sz : Nat} {i m w : Int} (hI : CI h tb ln K C S p vs sz) (hN : 124 ≤ N) (hi : rI i) (hm : rI m) (hw : rI w) (hQ : ∀ (r : Int) (h2 : Hp), SPround i m w K C S r → CI h2 tb ln K C S p vs sz → OUT h h2 → Q (some (.int (iZ r))) N h2) : Runs mX10_round [.ref (0), .int (iZ (i)), .int (iZ (m)), .int (iZ (w))] N h Q := by
  obtain ⟨hO, hT, hR, hNu, hRs, hRd, hLg, hMk, hPt, hEx⟩ := id hI
  obtain ⟨rg, hR6, hRg⟩ := hR.1
  obtain ⟨rta, rtu, rea, rla, hD1, hD2, hD3, hD4⟩ := id hRd
  obtain ⟨dk, dm, dt, dd, dlw, dsw, hV1, hV2, hV3⟩ := id hD2
  refine run_start (own := RX10) rfl (by decide) (nle rfl) rfl (fun X hq hini => ?_)
  show G X RX10 cX10_round mX10_round.rm N 0 0 0 [some (.ref (0)), some (.int (iZ (i))), some (.int (iZ (m))), some (.int (iZ (w)))] [] h
  refine r_iload_n dX10_round_0 rfl rfl ?_
  refine r_callS (av := [.int (iZ (i))]) dX10_round_1 lkX10_isRegister ml_X10_84 stX10_isRegister ⟨Nat.le_of_ble_eq_true rfl, Nat.le_of_ble_eq_true rfl⟩ rfl rfl (nle rfl) ⟨Nat.le_of_ble_eq_true rfl, Nat.le_of_ble_eq_true rfl⟩ (c_X10_isRegister (x := i) hi (fun b1 hb1 => ?_))
  show G _ _ _ _ _ _ _ 4 _ _ _
  refine r_if_eq 27 dX10_round_4 (by decide) (by rcases hb1 with ⟨y, _⟩ | ⟨y, _⟩ <;> exact ⟨by omega, by omega⟩) (fun c_4 => ?_) (fun c_4 => ?_)
  · refine r_iconst (z := -1) dX10_round_27 ?_
    refine r_ireturn hq dX10_round_28 rfl rfl rfl ?_
    exact hQ _ h (Or.inl ⟨by omega, rfl⟩) hI (fun _ _ => rfl)
  · refine r_iload_n dX10_round_7 rfl rfl ?_
    refine r_iconst (z := 2) dX10_round_8 ?_
    refine r_sipush (z := 1000) dX10_round_9 (by decide) ?_
    refine r_callS (av := [.int (iZ (m)), .int (iZ (2)), .int (iZ (1000))]) dX10_round_12 lkX10_isIn ml_X10_100 stX10_isIn ⟨Nat.le_of_ble_eq_true rfl, Nat.le_of_ble_eq_true rfl⟩ rfl rfl (nle rfl) ⟨Nat.le_of_ble_eq_true rfl, Nat.le_of_ble_eq_true rfl⟩ (c_X10_isIn (x := m) (l := 2) (m := 1000) hm ⟨by decide, by decide⟩ ⟨by decide, by decide⟩ (fun b12 hb12 => ?_))
    show G _ _ _ _ _ _ _ 15 _ _ _
    refine r_if_eq 27 dX10_round_15 (by decide) (by rcases hb12 with ⟨y, _⟩ | ⟨y, _⟩ <;> exact ⟨by omega, by omega⟩) (fun c_15 => ?_) (fun c_15 => ?_)
    · refine r_iconst (z := -1) dX10_round_27 ?_
      refine r_ireturn hq dX10_round_28 rfl rfl rfl ?_
      exact hQ _ h (Or.inl ⟨by omega, rfl⟩) hI (fun _ _ => rfl)
    · refine r_iload_n dX10_round_18 rfl rfl ?_
      refine r_iconst (z := 0) dX10_round_19 ?_
      refine r_iconst (z := 2) dX10_round_20 ?_
      refine r_callS (av := [.int (iZ (w)), .int (iZ (0)), .int (iZ (2))]) dX10_round_21 lkX10_isIn ml_X10_100 stX10_isIn ⟨Nat.le_of_ble_eq_true rfl, Nat.le_of_ble_eq_true rfl⟩ rfl rfl (nle rfl) ⟨Nat.le_of_ble_eq_true rfl, Nat.le_of_ble_eq_true rfl⟩ (c_X10_isIn (x := w) (l := 0) (m := 2) hw ⟨by decide, by decide⟩ ⟨by decide, by decide⟩ (fun b21 hb21 => ?_))
      show G _ _ _ _ _ _ _ 24 _ _ _
      refine r_if_ne 29 dX10_round_24 (by decide) (by rcases hb21 with ⟨y, _⟩ | ⟨y, _⟩ <;> exact ⟨by omega, by omega⟩) (fun c_24 => ?_) (fun c_24 => ?_)
      · obtain ⟨k, c, s, ek, ec, es, hr, hrb⟩ := hR.get (i := i.toNat) (by omega)
        obtain ⟨hk1, hk6, hcb, hsb, hc0⟩ := id hrb
        refine r_aload_n dX10_round_29 rfl rfl ?_
        refine gf_X10_39 dX10_round_30 (by omega) hO rfl ?_
        refine r_aload_n dX10_round_33 rfl rfl ?_
        refine gf_X10_18 dX10_round_34 (by omega) hO rfl ?_
        refine r_iload_n dX10_round_37 rfl rfl ?_
        refine r_aaload dX10_round_38 (by omega) hR6 (by decide) (by omega) (by omega) (by decide) (hRg _ (by omega)) ?_
        refine r_iload_n dX10_round_39 rfl rfl ?_
        refine r_callV (av := [.ref (106 + 3 * i.toNat), .int (iZ (m))]) dX10_round_40 lkX6_find ml_X10_124 imX6_find seX6_find (by omega) (rfl : vwCl[6]? = _) ⟨_, hD1⟩ ⟨Nat.le_of_ble_eq_true rfl, Nat.le_of_ble_eq_true rfl⟩ rfl rfl (nle rfl) ⟨Nat.le_of_ble_eq_true rfl, Nat.le_of_ble_eq_true rfl⟩ (c_X6_find (q := 60) (r := 106 + 3 * i.toNat) (k := k) (m := m) (c := c) (s := s) hD1 hD3 hD4 hV1 hV2 hV3 (by omega) hk1 hk6 (by omega) (by omega) (RowAt.to hr.1 hr.2.1 hr.2.2) (by omega) (by omega) hcb hsb (fun ok40 fk40 fm40 ft40 fd40 ta40 tu40 fl40 fs40 fe40 fa40 hok40 hRd40 => ?_))
        show G _ _ _ _ _ _ _ 43 _ _ _
        refine r_if_ne 49 dX10_round_43 (by decide) (by rcases hok40 with y | y <;> exact ⟨by omega, by omega⟩) (fun c_43 => ?_) (fun c_43 => ?_)
        · obtain ⟨un, ln9, hrn, hul, eu9, el9⟩ : ∃ un ln9 : Nat, RND k (rs k c s m) un ln9 ∧ un + ln9 ≤ 100000 ∧ ta40 = (un : Int) ∧ tu40 = (ln9 : Int) := by
            rcases hRd40 with ⟨_, y⟩ | ⟨y, _⟩
            · exact y
            · exact absurd y c_43
          subst eu9
          subst el9
          refine r_iload_n dX10_round_49 rfl rfl ?_
          refine r_if_ne 61 dX10_round_50 (by decide) hw (fun c_50 => ?_) (fun c_50 => ?_)
          · refine r_iload_n dX10_round_61 rfl rfl ?_
            refine r_iconst (z := 1) dX10_round_62 ?_
            refine r_icmp_ne 76 dX10_round_63 (by decide) hw ⟨by decide, by decide⟩ (fun c_63 => ?_) (fun c_63 => ?_)
            · refine r_aload_n dX10_round_76 rfl rfl ?_
              refine gf_X10_39 dX10_round_77 (by omega) ((hs_n (by omega)).trans ((hs_n (by omega)).trans ((hs_n (by omega)).trans ((hs_n (by omega)).trans ((hs_n (by omega)).trans ((hs_n (by omega)).trans hO)))))) rfl ?_
              refine r_aload_n dX10_round_80 rfl rfl ?_
              refine gf_X10_18 dX10_round_81 (by omega) ((hs_n (by omega)).trans ((hs_n (by omega)).trans ((hs_n (by omega)).trans ((hs_n (by omega)).trans ((hs_n (by omega)).trans ((hs_n (by omega)).trans hO)))))) rfl ?_
              refine r_iload_n dX10_round_84 rfl rfl ?_
              refine r_aaload dX10_round_85 (by omega) ((hs_n (by omega)).trans ((hs_n (by omega)).trans ((hs_n (by omega)).trans ((hs_n (by omega)).trans ((hs_n (by omega)).trans ((hs_n (by omega)).trans hR6)))))) (by decide) (by omega) (by omega) (by decide) (hRg _ (by omega)) ?_
              refine r_iload_n dX10_round_86 rfl rfl ?_
              refine r_callV (av := [.ref (106 + 3 * i.toNat), .int (iZ (m))]) dX10_round_87 lkX6_noughts ml_X10_134 imX6_noughts seX6_noughts (by omega) (rfl : vwCl[6]? = _) ⟨_, hs_e⟩ ⟨Nat.le_of_ble_eq_true rfl, Nat.le_of_ble_eq_true rfl⟩ rfl rfl (nle rfl) ⟨Nat.le_of_ble_eq_true rfl, Nat.le_of_ble_eq_true rfl⟩ (c_X6_noughts (q := 60) (r := 106 + 3 * i.toNat) (k := k) (T := un + ln9) (m := m) (c := c) (s := s) hs_e ((hs_n (by omega)).trans ((hs_n (by omega)).trans hs_e)) ((hs_n (by omega)).trans hs_e) ((hs_n (by omega)).trans ((hs_n (by omega)).trans ((hs_n (by omega)).trans ((hs_n (by omega)).trans ((hs_n (by omega)).trans hs_e))))) ((hs_n (by omega)).trans ((hs_n (by omega)).trans ((hs_n (by omega)).trans ((hs_n (by omega)).trans hs_e)))) ((hs_n (by omega)).trans ((hs_n (by omega)).trans ((hs_n (by omega)).trans hs_e))) (by omega) hk1 hk6 (by omega) (by omega) (RowAt.to ((hs_n (by omega)).trans ((hs_n (by omega)).trans ((hs_n (by omega)).trans ((hs_n (by omega)).trans ((hs_n (by omega)).trans ((hs_n (by omega)).trans hr.1)))))) ((hs_n (by omega)).trans ((hs_n (by omega)).trans ((hs_n (by omega)).trans ((hs_n (by omega)).trans ((hs_n (by omega)).trans ((hs_n (by omega)).trans hr.2.1)))))) ((hs_n (by omega)).trans ((hs_n (by omega)).trans ((hs_n (by omega)).trans ((hs_n (by omega)).trans ((hs_n (by omega)).trans ((hs_n (by omega)).trans hr.2.2))))))) (by omega) (by omega) hcb hsb (by omega) (by omega) (by omega) (by omega) (by omega) (fun gk87 gm87 gt87 gd87 gl87 gs87 => ?_))
              refine g_heap (h2 := (hs (hs (hs (hs (hs (hs h (60 + 1) (ob 9 [.ref (60 + 1 + 1), .ref (60 + 1 + 2), .int (iZ (gk87)), .int (iZ (gm87)), .long (lZ (gt87)), .long (lZ (gd87))])) (60 + 1 + 1) (aI 7 (gl87))) (60 + 1 + 2) (aI 6 (gs87))) (60 + 4) (aL 55 (fe40))) (60 + 5) (aL 64 (fa40))) (60) (ob 6 [.ref (60 + 1), .ref (60 + 4), .ref (60 + 5), .int (iZ ((un : Int))), .int (iZ ((ln9 : Int)))]))) ((congrArg (fun x9 => hs x9 (60 + 1 + 2) (aI 6 (gs87))) ((congrArg (fun x9 => hs x9 (60 + 1 + 1) (aI 7 (gl87))) (hs_put (by omega) (hs_put (by omega) (hs_put (by omega) (hs_put (by omega) (hs_put (by omega) hs_hs)))))).trans (hs_put (by omega) (hs_put (by omega) (hs_put (by omega) (hs_put (by omega) hs_hs)))))).trans (hs_put (by omega) (hs_put (by omega) (hs_put (by omega) hs_hs)))) ?_
              show G _ _ _ _ _ _ _ 90 _ _ _
              refine r_ireturn hq dX10_round_90 rfl rfl rfl ?_
              refine hQ _ _ (Or.inr ⟨by omega, by omega, by omega, by omega, by omega, by omega, Or.inl ⟨un, ln9, by rw [← ek, ← ec, ← es]; exact hrn, hul, by rw [if_neg (by omega), if_neg (by omega), ← ek, ← ec, ← es]⟩⟩) ⟨hO.cg (fun a9 h8 h9 => ((hs_n (by omega)).trans ((hs_n (by omega)).trans ((hs_n (by omega)).trans ((hs_n (by omega)).trans ((hs_n (by omega)).trans ((hs_n (by omega)).trans rfl))))))), hT.cg (fun a9 h8 h9 => ((hs_n (by omega)).trans ((hs_n (by omega)).trans ((hs_n (by omega)).trans ((hs_n (by omega)).trans ((hs_n (by omega)).trans ((hs_n (by omega)).trans rfl))))))), hR.cg ((hs_n (by omega)).trans ((hs_n (by omega)).trans ((hs_n (by omega)).trans ((hs_n (by omega)).trans ((hs_n (by omega)).trans ((hs_n (by omega)).trans rfl)))))) (fun a9 h8 h9 => ((hs_n (by omega)).trans ((hs_n (by omega)).trans ((hs_n (by omega)).trans ((hs_n (by omega)).trans ((hs_n (by omega)).trans ((hs_n (by omega)).trans rfl))))))), hNu.cg (fun a9 h8 h9 => ((hs_n (by omega)).trans ((hs_n (by omega)).trans ((hs_n (by omega)).trans ((hs_n (by omega)).trans ((hs_n (by omega)).trans ((hs_n (by omega)).trans rfl))))))), hRs.cg (fun a9 h8 h9 => ((hs_n (by omega)).trans ((hs_n (by omega)).trans ((hs_n (by omega)).trans ((hs_n (by omega)).trans ((hs_n (by omega)).trans ((hs_n (by omega)).trans rfl))))))), ⟨_, _, _, _, hs_e, ⟨_, _, _, _, _, _, ((hs_n (by omega)).trans ((hs_n (by omega)).trans ((hs_n (by omega)).trans ((hs_n (by omega)).trans ((hs_n (by omega)).trans hs_e))))), ((hs_n (by omega)).trans ((hs_n (by omega)).trans ((hs_n (by omega)).trans ((hs_n (by omega)).trans hs_e)))), ((hs_n (by omega)).trans ((hs_n (by omega)).trans ((hs_n (by omega)).trans hs_e)))⟩, ((hs_n (by omega)).trans ((hs_n (by omega)).trans hs_e)), ((hs_n (by omega)).trans hs_e)⟩, hLg.cg (fun a9 h8 h9 => ((hs_n (by omega)).trans ((hs_n (by omega)).trans ((hs_n (by omega)).trans ((hs_n (by omega)).trans ((hs_n (by omega)).trans ((hs_n (by omega)).trans rfl))))))), hMk.cg (fun a9 h8 h9 => ((hs_n (by omega)).trans ((hs_n (by omega)).trans ((hs_n (by omega)).trans ((hs_n (by omega)).trans ((hs_n (by omega)).trans ((hs_n (by omega)).trans rfl))))))), hPt.cg (fun a9 h8 h9 => ((hs_n (by omega)).trans ((hs_n (by omega)).trans ((hs_n (by omega)).trans ((hs_n (by omega)).trans ((hs_n (by omega)).trans ((hs_n (by omega)).trans rfl))))))), hEx.cg (fun a9 h8 h9 => ((hs_n (by omega)).trans ((hs_n (by omega)).trans ((hs_n (by omega)).trans ((hs_n (by omega)).trans ((hs_n (by omega)).trans ((hs_n (by omega)).trans rfl)))))))⟩ (fun a9 h9 => ((hs_n (by omega)).trans ((hs_n (by omega)).trans ((hs_n (by omega)).trans ((hs_n (by omega)).trans ((hs_n (by omega)).trans ((hs_n (by omega)).trans rfl)))))))
            · refine r_aload_n dX10_round_66 rfl rfl ?_
              refine gf_X10_39 dX10_round_67 (by omega) ((hs_n (by omega)).trans ((hs_n (by omega)).trans ((hs_n (by omega)).trans ((hs_n (by omega)).trans ((hs_n (by omega)).trans ((hs_n (by omega)).trans hO)))))) rfl ?_
              refine gf_X10_131 dX10_round_70 (by omega) hs_e rfl ?_
              refine r_goto 90 dX10_round_73 (by decide) ?_
              refine r_ireturn hq dX10_round_90 rfl rfl rfl ?_
              refine hQ _ _ (Or.inr ⟨by omega, by omega, by omega, by omega, by omega, by omega, Or.inl ⟨un, ln9, by rw [← ek, ← ec, ← es]; exact hrn, hul, by rw [if_neg (by omega), if_pos (by omega)]⟩⟩) ⟨hO.cg (fun a9 h8 h9 => ((hs_n (by omega)).trans ((hs_n (by omega)).trans ((hs_n (by omega)).trans ((hs_n (by omega)).trans ((hs_n (by omega)).trans ((hs_n (by omega)).trans rfl))))))), hT.cg (fun a9 h8 h9 => ((hs_n (by omega)).trans ((hs_n (by omega)).trans ((hs_n (by omega)).trans ((hs_n (by omega)).trans ((hs_n (by omega)).trans ((hs_n (by omega)).trans rfl))))))), hR.cg ((hs_n (by omega)).trans ((hs_n (by omega)).trans ((hs_n (by omega)).trans ((hs_n (by omega)).trans ((hs_n (by omega)).trans ((hs_n (by omega)).trans rfl)))))) (fun a9 h8 h9 => ((hs_n (by omega)).trans ((hs_n (by omega)).trans ((hs_n (by omega)).trans ((hs_n (by omega)).trans ((hs_n (by omega)).trans ((hs_n (by omega)).trans rfl))))))), hNu.cg (fun a9 h8 h9 => ((hs_n (by omega)).trans ((hs_n (by omega)).trans ((hs_n (by omega)).trans ((hs_n (by omega)).trans ((hs_n (by omega)).trans ((hs_n (by omega)).trans rfl))))))), hRs.cg (fun a9 h8 h9 => ((hs_n (by omega)).trans ((hs_n (by omega)).trans ((hs_n (by omega)).trans ((hs_n (by omega)).trans ((hs_n (by omega)).trans ((hs_n (by omega)).trans rfl))))))), ⟨_, _, _, _, hs_e, ⟨_, _, _, _, _, _, ((hs_n (by omega)).trans ((hs_n (by omega)).trans ((hs_n (by omega)).trans ((hs_n (by omega)).trans ((hs_n (by omega)).trans hs_e))))), ((hs_n (by omega)).trans ((hs_n (by omega)).trans ((hs_n (by omega)).trans ((hs_n (by omega)).trans hs_e)))), ((hs_n (by omega)).trans ((hs_n (by omega)).trans ((hs_n (by omega)).trans hs_e)))⟩, ((hs_n (by omega)).trans ((hs_n (by omega)).trans hs_e)), ((hs_n (by omega)).trans hs_e)⟩, hLg.cg (fun a9 h8 h9 => ((hs_n (by omega)).trans ((hs_n (by omega)).trans ((hs_n (by omega)).trans ((hs_n (by omega)).trans ((hs_n (by omega)).trans ((hs_n (by omega)).trans rfl))))))), hMk.cg (fun a9 h8 h9 => ((hs_n (by omega)).trans ((hs_n (by omega)).trans ((hs_n (by omega)).trans ((hs_n (by omega)).trans ((hs_n (by omega)).trans ((hs_n (by omega)).trans rfl))))))), hPt.cg (fun a9 h8 h9 => ((hs_n (by omega)).trans ((hs_n (by omega)).trans ((hs_n (by omega)).trans ((hs_n (by omega)).trans ((hs_n (by omega)).trans ((hs_n (by omega)).trans rfl))))))), hEx.cg (fun a9 h8 h9 => ((hs_n (by omega)).trans ((hs_n (by omega)).trans ((hs_n (by omega)).trans ((hs_n (by omega)).trans ((hs_n (by omega)).trans ((hs_n (by omega)).trans rfl)))))))⟩ (fun a9 h9 => ((hs_n (by omega)).trans ((hs_n (by omega)).trans ((hs_n (by omega)).trans ((hs_n (by omega)).trans ((hs_n (by omega)).trans ((hs_n (by omega)).trans rfl)))))))
          · refine r_aload_n dX10_round_53 rfl rfl ?_
            refine gf_X10_39 dX10_round_54 (by omega) ((hs_n (by omega)).trans ((hs_n (by omega)).trans ((hs_n (by omega)).trans ((hs_n (by omega)).trans ((hs_n (by omega)).trans ((hs_n (by omega)).trans hO)))))) rfl ?_
            refine gf_X10_128 dX10_round_57 (by omega) hs_e rfl ?_
            refine r_ireturn hq dX10_round_60 rfl rfl rfl ?_
            refine hQ _ _ (Or.inr ⟨by omega, by omega, by omega, by omega, by omega, by omega, Or.inl ⟨un, ln9, by rw [← ek, ← ec, ← es]; exact hrn, hul, by rw [if_pos (by omega)]⟩⟩) ⟨hO.cg (fun a9 h8 h9 => ((hs_n (by omega)).trans ((hs_n (by omega)).trans ((hs_n (by omega)).trans ((hs_n (by omega)).trans ((hs_n (by omega)).trans ((hs_n (by omega)).trans rfl))))))), hT.cg (fun a9 h8 h9 => ((hs_n (by omega)).trans ((hs_n (by omega)).trans ((hs_n (by omega)).trans ((hs_n (by omega)).trans ((hs_n (by omega)).trans ((hs_n (by omega)).trans rfl))))))), hR.cg ((hs_n (by omega)).trans ((hs_n (by omega)).trans ((hs_n (by omega)).trans ((hs_n (by omega)).trans ((hs_n (by omega)).trans ((hs_n (by omega)).trans rfl)))))) (fun a9 h8 h9 => ((hs_n (by omega)).trans ((hs_n (by omega)).trans ((hs_n (by omega)).trans ((hs_n (by omega)).trans ((hs_n (by omega)).trans ((hs_n (by omega)).trans rfl))))))), hNu.cg (fun a9 h8 h9 => ((hs_n (by omega)).trans ((hs_n (by omega)).trans ((hs_n (by omega)).trans ((hs_n (by omega)).trans ((hs_n (by omega)).trans ((hs_n (by omega)).trans rfl))))))), hRs.cg (fun a9 h8 h9 => ((hs_n (by omega)).trans ((hs_n (by omega)).trans ((hs_n (by omega)).trans ((hs_n (by omega)).trans ((hs_n (by omega)).trans ((hs_n (by omega)).trans rfl))))))), ⟨_, _, _, _, hs_e, ⟨_, _, _, _, _, _, ((hs_n (by omega)).trans ((hs_n (by omega)).trans ((hs_n (by omega)).trans ((hs_n (by omega)).trans ((hs_n (by omega)).trans hs_e))))), ((hs_n (by omega)).trans ((hs_n (by omega)).trans ((hs_n (by omega)).trans ((hs_n (by omega)).trans hs_e)))), ((hs_n (by omega)).trans ((hs_n (by omega)).trans ((hs_n (by omega)).trans hs_e)))⟩, ((hs_n (by omega)).trans ((hs_n (by omega)).trans hs_e)), ((hs_n (by omega)).trans hs_e)⟩, hLg.cg (fun a9 h8 h9 => ((hs_n (by omega)).trans ((hs_n (by omega)).trans ((hs_n (by omega)).trans ((hs_n (by omega)).trans ((hs_n (by omega)).trans ((hs_n (by omega)).trans rfl))))))), hMk.cg (fun a9 h8 h9 => ((hs_n (by omega)).trans ((hs_n (by omega)).trans ((hs_n (by omega)).trans ((hs_n (by omega)).trans ((hs_n (by omega)).trans ((hs_n (by omega)).trans rfl))))))), hPt.cg (fun a9 h8 h9 => ((hs_n (by omega)).trans ((hs_n (by omega)).trans ((hs_n (by omega)).trans ((hs_n (by omega)).trans ((hs_n (by omega)).trans ((hs_n (by omega)).trans rfl))))))), hEx.cg (fun a9 h8 h9 => ((hs_n (by omega)).trans ((hs_n (by omega)).trans ((hs_n (by omega)).trans ((hs_n (by omega)).trans ((hs_n (by omega)).trans ((hs_n (by omega)).trans rfl)))))))⟩ (fun a9 h9 => ((hs_n (by omega)).trans ((hs_n (by omega)).trans ((hs_n (by omega)).trans ((hs_n (by omega)).trans ((hs_n (by omega)).trans ((hs_n (by omega)).trans rfl)))))))
        · refine r_bipush (z := -5) dX10_round_46 (by decide) ?_
          refine r_ireturn hq dX10_round_48 rfl rfl rfl ?_
          refine hQ _ _ (Or.inr ⟨by omega, by omega, by omega, by omega, by omega, by omega, Or.inr ⟨?_, rfl⟩⟩) ⟨hO.cg (fun a9 h8 h9 => ((hs_n (by omega)).trans ((hs_n (by omega)).trans ((hs_n (by omega)).trans ((hs_n (by omega)).trans ((hs_n (by omega)).trans ((hs_n (by omega)).trans rfl))))))), hT.cg (fun a9 h8 h9 => ((hs_n (by omega)).trans ((hs_n (by omega)).trans ((hs_n (by omega)).trans ((hs_n (by omega)).trans ((hs_n (by omega)).trans ((hs_n (by omega)).trans rfl))))))), hR.cg ((hs_n (by omega)).trans ((hs_n (by omega)).trans ((hs_n (by omega)).trans ((hs_n (by omega)).trans ((hs_n (by omega)).trans ((hs_n (by omega)).trans rfl)))))) (fun a9 h8 h9 => ((hs_n (by omega)).trans ((hs_n (by omega)).trans ((hs_n (by omega)).trans ((hs_n (by omega)).trans ((hs_n (by omega)).trans ((hs_n (by omega)).trans rfl))))))), hNu.cg (fun a9 h8 h9 => ((hs_n (by omega)).trans ((hs_n (by omega)).trans ((hs_n (by omega)).trans ((hs_n (by omega)).trans ((hs_n (by omega)).trans ((hs_n (by omega)).trans rfl))))))), hRs.cg (fun a9 h8 h9 => ((hs_n (by omega)).trans ((hs_n (by omega)).trans ((hs_n (by omega)).trans ((hs_n (by omega)).trans ((hs_n (by omega)).trans ((hs_n (by omega)).trans rfl))))))), ⟨_, _, _, _, hs_e, ⟨_, _, _, _, _, _, ((hs_n (by omega)).trans ((hs_n (by omega)).trans ((hs_n (by omega)).trans ((hs_n (by omega)).trans ((hs_n (by omega)).trans hs_e))))), ((hs_n (by omega)).trans ((hs_n (by omega)).trans ((hs_n (by omega)).trans ((hs_n (by omega)).trans hs_e)))), ((hs_n (by omega)).trans ((hs_n (by omega)).trans ((hs_n (by omega)).trans hs_e)))⟩, ((hs_n (by omega)).trans ((hs_n (by omega)).trans hs_e)), ((hs_n (by omega)).trans hs_e)⟩, hLg.cg (fun a9 h8 h9 => ((hs_n (by omega)).trans ((hs_n (by omega)).trans ((hs_n (by omega)).trans ((hs_n (by omega)).trans ((hs_n (by omega)).trans ((hs_n (by omega)).trans rfl))))))), hMk.cg (fun a9 h8 h9 => ((hs_n (by omega)).trans ((hs_n (by omega)).trans ((hs_n (by omega)).trans ((hs_n (by omega)).trans ((hs_n (by omega)).trans ((hs_n (by omega)).trans rfl))))))), hPt.cg (fun a9 h8 h9 => ((hs_n (by omega)).trans ((hs_n (by omega)).trans ((hs_n (by omega)).trans ((hs_n (by omega)).trans ((hs_n (by omega)).trans ((hs_n (by omega)).trans rfl))))))), hEx.cg (fun a9 h8 h9 => ((hs_n (by omega)).trans ((hs_n (by omega)).trans ((hs_n (by omega)).trans ((hs_n (by omega)).trans ((hs_n (by omega)).trans ((hs_n (by omega)).trans rfl)))))))⟩ (fun a9 h9 => ((hs_n (by omega)).trans ((hs_n (by omega)).trans ((hs_n (by omega)).trans ((hs_n (by omega)).trans ((hs_n (by omega)).trans ((hs_n (by omega)).trans rfl)))))))
          rw [← ek, ← ec, ← es]
          rcases hRd40 with ⟨y, _⟩ | ⟨_, y⟩
          · omega
          · exact y
      · refine r_iconst (z := -1) dX10_round_27 ?_
        refine r_ireturn hq dX10_round_28 rfl rfl rfl ?_
        exact hQ _ h (Or.inl ⟨by omega, rfl⟩) hI (fun _ _ => rfl)
set_option maxHeartbeats 2000000 in
set_option maxRecDepth 20000 in
theorem c_X10_first {N : Nat} {h : Hp} {Q : QP} {tb : Nat → Int} {ln : Nat} {K : Nat → Nat} {C S : Nat → Nat → Int} {p : Int} {vs : Nat → Int} {sz : Nat} {i m w : Int} (hI : CI h tb ln K C S p vs sz) (hN : 124 ≤ N) (hi : rI i) (hm : rI m) (hw : rI w) (hQ : ∀ (r : Int) (h2 : Hp), SPfirst i m w K C S r → CI h2 tb ln K C S p vs sz → OUT h h2 → Q (some (.int (iZ r))) N h2) : Runs mX10_first [.ref (0), .int (iZ (i)), .int (iZ (m)), .int (iZ (w))] N h Q := by
  obtain ⟨hO, hT, hR, hNu, hRs, hRd, hLg, hMk, hPt, hEx⟩ := id hI
  obtain ⟨rg, hR6, hRg⟩ := hR.1
  obtain ⟨rta, rtu, rea, rla, hD1, hD2, hD3, hD4⟩ := id hRd
  obtain ⟨dk, dm, dt, dd, dlw, dsw, hV1, hV2, hV3⟩ := id hD2
  refine run_start (own := RX10) rfl (by decide) (nle rfl) rfl (fun X hq hini => ?_)
  show G X RX10 cX10_first mX10_first.rm N 0 0 0 [some (.ref (0)), some (.int (iZ (i))), some (.int (iZ (m))), some (.int (iZ (w)))] [] h
  refine r_iload_n dX10_first_0 rfl rfl ?_
  refine r_callS (av := [.int (iZ (i))]) dX10_first_1 lkX10_isRegister ml_X10_84 stX10_isRegister ⟨Nat.le_of_ble_eq_true rfl, Nat.le_of_ble_eq_true rfl⟩ rfl rfl (nle rfl) ⟨Nat.le_of_ble_eq_true rfl, Nat.le_of_ble_eq_true rfl⟩ (c_X10_isRegister (x := i) hi (fun b1 hb1 => ?_))
  show G _ _ _ _ _ _ _ 4 _ _ _
  refine r_if_eq 29 dX10_first_4 (by decide) (by rcases hb1 with ⟨y, _⟩ | ⟨y, _⟩ <;> exact ⟨by omega, by omega⟩) (fun c_4 => ?_) (fun c_4 => ?_)
  · refine r_iconst (z := -1) dX10_first_29 ?_
    refine r_ireturn hq dX10_first_30 rfl rfl rfl ?_
    exact hQ _ h (Or.inl ⟨by omega, rfl⟩) hI (fun _ _ => rfl)
  · refine r_iload_n dX10_first_7 rfl rfl ?_
    refine r_iconst (z := 2) dX10_first_8 ?_
    refine r_sipush (z := 1000) dX10_first_9 (by decide) ?_
    refine r_callS (av := [.int (iZ (m)), .int (iZ (2)), .int (iZ (1000))]) dX10_first_12 lkX10_isIn ml_X10_100 stX10_isIn ⟨Nat.le_of_ble_eq_true rfl, Nat.le_of_ble_eq_true rfl⟩ rfl rfl (nle rfl) ⟨Nat.le_of_ble_eq_true rfl, Nat.le_of_ble_eq_true rfl⟩ (c_X10_isIn (x := m) (l := 2) (m := 1000) hm ⟨by decide, by decide⟩ ⟨by decide, by decide⟩ (fun b12 hb12 => ?_))
    show G _ _ _ _ _ _ _ 15 _ _ _
    refine r_if_eq 29 dX10_first_15 (by decide) (by rcases hb12 with ⟨y, _⟩ | ⟨y, _⟩ <;> exact ⟨by omega, by omega⟩) (fun c_15 => ?_) (fun c_15 => ?_)
    · refine r_iconst (z := -1) dX10_first_29 ?_
      refine r_ireturn hq dX10_first_30 rfl rfl rfl ?_
      exact hQ _ h (Or.inl ⟨by omega, rfl⟩) hI (fun _ _ => rfl)
    · refine r_iload_n dX10_first_18 rfl rfl ?_
      refine r_iconst (z := 0) dX10_first_19 ?_
      refine r_iload_n dX10_first_20 rfl rfl ?_
      refine r_iconst (z := 1) dX10_first_21 ?_
      refine r_isub dX10_first_22 ?_
      refine r_callS (av := [.int (iZ (w)), .int (iZ (0)), .int (iZ (m - 1))]) dX10_first_23 lkX10_isIn ml_X10_100 stX10_isIn ⟨Nat.le_of_ble_eq_true rfl, Nat.le_of_ble_eq_true rfl⟩ rfl rfl (nle rfl) ⟨Nat.le_of_ble_eq_true rfl, Nat.le_of_ble_eq_true rfl⟩ (c_X10_isIn (x := w) (l := 0) (m := m - 1) hw ⟨by decide, by decide⟩ ⟨by omega, by omega⟩ (fun b23 hb23 => ?_))
      show G _ _ _ _ _ _ _ 26 _ _ _
      refine r_if_ne 31 dX10_first_26 (by decide) (by rcases hb23 with ⟨y, _⟩ | ⟨y, _⟩ <;> exact ⟨by omega, by omega⟩) (fun c_26 => ?_) (fun c_26 => ?_)
      · obtain ⟨k, c, s, ek, ec, es, hr, hrb⟩ := hR.get (i := i.toNat) (by omega)
        obtain ⟨hk1, hk6, hcb, hsb, hc0⟩ := id hrb
        refine r_aload_n dX10_first_31 rfl rfl ?_
        refine gf_X10_39 dX10_first_32 (by omega) hO rfl ?_
        refine r_aload_n dX10_first_35 rfl rfl ?_
        refine gf_X10_18 dX10_first_36 (by omega) hO rfl ?_
        refine r_iload_n dX10_first_39 rfl rfl ?_
        refine r_aaload dX10_first_40 (by omega) hR6 (by decide) (by omega) (by omega) (by decide) (hRg _ (by omega)) ?_
        refine r_iload_n dX10_first_41 rfl rfl ?_
        refine r_callV (av := [.ref (106 + 3 * i.toNat), .int (iZ (m))]) dX10_first_42 lkX6_find ml_X10_124 imX6_find seX6_find (by omega) (rfl : vwCl[6]? = _) ⟨_, hD1⟩ ⟨Nat.le_of_ble_eq_true rfl, Nat.le_of_ble_eq_true rfl⟩ rfl rfl (nle rfl) ⟨Nat.le_of_ble_eq_true rfl, Nat.le_of_ble_eq_true rfl⟩ (c_X6_find (q := 60) (r := 106 + 3 * i.toNat) (k := k) (m := m) (c := c) (s := s) hD1 hD3 hD4 hV1 hV2 hV3 (by omega) hk1 hk6 (by omega) (by omega) (RowAt.to hr.1 hr.2.1 hr.2.2) (by omega) (by omega) hcb hsb (fun ok42 fk42 fm42 ft42 fd42 ta42 tu42 fl42 fs42 fe42 fa42 hok42 hRd42 => ?_))
        show G _ _ _ _ _ _ _ 45 _ _ _
        refine r_if_ne 51 dX10_first_45 (by decide) (by rcases hok42 with y | y <;> exact ⟨by omega, by omega⟩) (fun c_45 => ?_) (fun c_45 => ?_)
        · obtain ⟨un, ln9, hrn, hul, eu9, el9⟩ : ∃ un ln9 : Nat, RND k (rs k c s m) un ln9 ∧ un + ln9 ≤ 100000 ∧ ta42 = (un : Int) ∧ tu42 = (ln9 : Int) := by
            rcases hRd42 with ⟨_, y⟩ | ⟨y, _⟩
            · exact y
            · exact absurd y c_45
          subst eu9
          subst el9
          refine r_aload_n dX10_first_51 rfl rfl ?_
          refine gf_X10_39 dX10_first_52 (by omega) ((hs_n (by omega)).trans ((hs_n (by omega)).trans ((hs_n (by omega)).trans ((hs_n (by omega)).trans ((hs_n (by omega)).trans ((hs_n (by omega)).trans hO)))))) rfl ?_
          refine r_aload_n dX10_first_55 rfl rfl ?_
          refine gf_X10_18 dX10_first_56 (by omega) ((hs_n (by omega)).trans ((hs_n (by omega)).trans ((hs_n (by omega)).trans ((hs_n (by omega)).trans ((hs_n (by omega)).trans ((hs_n (by omega)).trans hO)))))) rfl ?_
          refine r_iload_n dX10_first_59 rfl rfl ?_
          refine r_aaload dX10_first_60 (by omega) ((hs_n (by omega)).trans ((hs_n (by omega)).trans ((hs_n (by omega)).trans ((hs_n (by omega)).trans ((hs_n (by omega)).trans ((hs_n (by omega)).trans hR6)))))) (by decide) (by omega) (by omega) (by decide) (hRg _ (by omega)) ?_
          refine r_iload_n dX10_first_61 rfl rfl ?_
          refine r_iload_n dX10_first_62 rfl rfl ?_
          refine r_callV (av := [.ref (106 + 3 * i.toNat), .int (iZ (m)), .int (iZ (w))]) dX10_first_63 lkX6_leastPlaceOf ml_X10_138 imX6_leastPlaceOf seX6_leastPlaceOf (by omega) (rfl : vwCl[6]? = _) ⟨_, hs_e⟩ ⟨Nat.le_of_ble_eq_true rfl, Nat.le_of_ble_eq_true rfl⟩ rfl rfl (nle rfl) ⟨Nat.le_of_ble_eq_true rfl, Nat.le_of_ble_eq_true rfl⟩ (c_X6_leastPlaceOf (q := 60) (r := 106 + 3 * i.toNat) (k := k) (T := un + ln9) (m := m) (v := w) (c := c) (s := s) hs_e ((hs_n (by omega)).trans ((hs_n (by omega)).trans hs_e)) ((hs_n (by omega)).trans hs_e) ((hs_n (by omega)).trans ((hs_n (by omega)).trans ((hs_n (by omega)).trans ((hs_n (by omega)).trans ((hs_n (by omega)).trans hs_e))))) ((hs_n (by omega)).trans ((hs_n (by omega)).trans ((hs_n (by omega)).trans ((hs_n (by omega)).trans hs_e)))) ((hs_n (by omega)).trans ((hs_n (by omega)).trans ((hs_n (by omega)).trans hs_e))) (by omega) hk1 hk6 (by omega) (by omega) (RowAt.to ((hs_n (by omega)).trans ((hs_n (by omega)).trans ((hs_n (by omega)).trans ((hs_n (by omega)).trans ((hs_n (by omega)).trans ((hs_n (by omega)).trans hr.1)))))) ((hs_n (by omega)).trans ((hs_n (by omega)).trans ((hs_n (by omega)).trans ((hs_n (by omega)).trans ((hs_n (by omega)).trans ((hs_n (by omega)).trans hr.2.1)))))) ((hs_n (by omega)).trans ((hs_n (by omega)).trans ((hs_n (by omega)).trans ((hs_n (by omega)).trans ((hs_n (by omega)).trans ((hs_n (by omega)).trans hr.2.2))))))) (by omega) (by omega) hcb hsb (by omega) (by omega) (by omega) (by omega) (by omega) ⟨by omega, by omega⟩ (fun z63 gk63 gm63 gt63 gd63 gl63 gs63 hz63 => ?_))
          refine g_heap (h2 := (hs (hs (hs (hs (hs (hs h (60 + 1) (ob 9 [.ref (60 + 1 + 1), .ref (60 + 1 + 2), .int (iZ (gk63)), .int (iZ (gm63)), .long (lZ (gt63)), .long (lZ (gd63))])) (60 + 1 + 1) (aI 7 (gl63))) (60 + 1 + 2) (aI 6 (gs63))) (60 + 4) (aL 55 (fe42))) (60 + 5) (aL 64 (fa42))) (60) (ob 6 [.ref (60 + 1), .ref (60 + 4), .ref (60 + 5), .int (iZ ((un : Int))), .int (iZ ((ln9 : Int)))]))) ((congrArg (fun x9 => hs x9 (60 + 1 + 2) (aI 6 (gs63))) ((congrArg (fun x9 => hs x9 (60 + 1 + 1) (aI 7 (gl63))) (hs_put (by omega) (hs_put (by omega) (hs_put (by omega) (hs_put (by omega) (hs_put (by omega) hs_hs)))))).trans (hs_put (by omega) (hs_put (by omega) (hs_put (by omega) (hs_put (by omega) hs_hs)))))).trans (hs_put (by omega) (hs_put (by omega) (hs_put (by omega) hs_hs)))) ?_
          show G _ _ _ _ _ _ _ 66 _ _ _
          refine r_ireturn hq dX10_first_66 rfl rfl rfl ?_
          refine hQ _ _ (Or.inr ⟨by omega, by omega, by omega, by omega, by omega, by omega, Or.inl ⟨un, ln9, by rw [← ek, ← ec, ← es]; exact hrn, hul, by rw [← ek, ← ec, ← es]; exact hz63⟩⟩) ⟨hO.cg (fun a9 h8 h9 => ((hs_n (by omega)).trans ((hs_n (by omega)).trans ((hs_n (by omega)).trans ((hs_n (by omega)).trans ((hs_n (by omega)).trans ((hs_n (by omega)).trans rfl))))))), hT.cg (fun a9 h8 h9 => ((hs_n (by omega)).trans ((hs_n (by omega)).trans ((hs_n (by omega)).trans ((hs_n (by omega)).trans ((hs_n (by omega)).trans ((hs_n (by omega)).trans rfl))))))), hR.cg ((hs_n (by omega)).trans ((hs_n (by omega)).trans ((hs_n (by omega)).trans ((hs_n (by omega)).trans ((hs_n (by omega)).trans ((hs_n (by omega)).trans rfl)))))) (fun a9 h8 h9 => ((hs_n (by omega)).trans ((hs_n (by omega)).trans ((hs_n (by omega)).trans ((hs_n (by omega)).trans ((hs_n (by omega)).trans ((hs_n (by omega)).trans rfl))))))), hNu.cg (fun a9 h8 h9 => ((hs_n (by omega)).trans ((hs_n (by omega)).trans ((hs_n (by omega)).trans ((hs_n (by omega)).trans ((hs_n (by omega)).trans ((hs_n (by omega)).trans rfl))))))), hRs.cg (fun a9 h8 h9 => ((hs_n (by omega)).trans ((hs_n (by omega)).trans ((hs_n (by omega)).trans ((hs_n (by omega)).trans ((hs_n (by omega)).trans ((hs_n (by omega)).trans rfl))))))), ⟨_, _, _, _, hs_e, ⟨_, _, _, _, _, _, ((hs_n (by omega)).trans ((hs_n (by omega)).trans ((hs_n (by omega)).trans ((hs_n (by omega)).trans ((hs_n (by omega)).trans hs_e))))), ((hs_n (by omega)).trans ((hs_n (by omega)).trans ((hs_n (by omega)).trans ((hs_n (by omega)).trans hs_e)))), ((hs_n (by omega)).trans ((hs_n (by omega)).trans ((hs_n (by omega)).trans hs_e)))⟩, ((hs_n (by omega)).trans ((hs_n (by omega)).trans hs_e)), ((hs_n (by omega)).trans hs_e)⟩, hLg.cg (fun a9 h8 h9 => ((hs_n (by omega)).trans ((hs_n (by omega)).trans ((hs_n (by omega)).trans ((hs_n (by omega)).trans ((hs_n (by omega)).trans ((hs_n (by omega)).trans rfl))))))), hMk.cg (fun a9 h8 h9 => ((hs_n (by omega)).trans ((hs_n (by omega)).trans ((hs_n (by omega)).trans ((hs_n (by omega)).trans ((hs_n (by omega)).trans ((hs_n (by omega)).trans rfl))))))), hPt.cg (fun a9 h8 h9 => ((hs_n (by omega)).trans ((hs_n (by omega)).trans ((hs_n (by omega)).trans ((hs_n (by omega)).trans ((hs_n (by omega)).trans ((hs_n (by omega)).trans rfl))))))), hEx.cg (fun a9 h8 h9 => ((hs_n (by omega)).trans ((hs_n (by omega)).trans ((hs_n (by omega)).trans ((hs_n (by omega)).trans ((hs_n (by omega)).trans ((hs_n (by omega)).trans rfl)))))))⟩ (fun a9 h9 => ((hs_n (by omega)).trans ((hs_n (by omega)).trans ((hs_n (by omega)).trans ((hs_n (by omega)).trans ((hs_n (by omega)).trans ((hs_n (by omega)).trans rfl)))))))
        · refine r_bipush (z := -5) dX10_first_48 (by decide) ?_
          refine r_ireturn hq dX10_first_50 rfl rfl rfl ?_
          refine hQ _ _ (Or.inr ⟨by omega, by omega, by omega, by omega, by omega, by omega, Or.inr ⟨?_, rfl⟩⟩) ⟨hO.cg (fun a9 h8 h9 => ((hs_n (by omega)).trans ((hs_n (by omega)).trans ((hs_n (by omega)).trans ((hs_n (by omega)).trans ((hs_n (by omega)).trans ((hs_n (by omega)).trans rfl))))))), hT.cg (fun a9 h8 h9 => ((hs_n (by omega)).trans ((hs_n (by omega)).trans ((hs_n (by omega)).trans ((hs_n (by omega)).trans ((hs_n (by omega)).trans ((hs_n (by omega)).trans rfl))))))), hR.cg ((hs_n (by omega)).trans ((hs_n (by omega)).trans ((hs_n (by omega)).trans ((hs_n (by omega)).trans ((hs_n (by omega)).trans ((hs_n (by omega)).trans rfl)))))) (fun a9 h8 h9 => ((hs_n (by omega)).trans ((hs_n (by omega)).trans ((hs_n (by omega)).trans ((hs_n (by omega)).trans ((hs_n (by omega)).trans ((hs_n (by omega)).trans rfl))))))), hNu.cg (fun a9 h8 h9 => ((hs_n (by omega)).trans ((hs_n (by omega)).trans ((hs_n (by omega)).trans ((hs_n (by omega)).trans ((hs_n (by omega)).trans ((hs_n (by omega)).trans rfl))))))), hRs.cg (fun a9 h8 h9 => ((hs_n (by omega)).trans ((hs_n (by omega)).trans ((hs_n (by omega)).trans ((hs_n (by omega)).trans ((hs_n (by omega)).trans ((hs_n (by omega)).trans rfl))))))), ⟨_, _, _, _, hs_e, ⟨_, _, _, _, _, _, ((hs_n (by omega)).trans ((hs_n (by omega)).trans ((hs_n (by omega)).trans ((hs_n (by omega)).trans ((hs_n (by omega)).trans hs_e))))), ((hs_n (by omega)).trans ((hs_n (by omega)).trans ((hs_n (by omega)).trans ((hs_n (by omega)).trans hs_e)))), ((hs_n (by omega)).trans ((hs_n (by omega)).trans ((hs_n (by omega)).trans hs_e)))⟩, ((hs_n (by omega)).trans ((hs_n (by omega)).trans hs_e)), ((hs_n (by omega)).trans hs_e)⟩, hLg.cg (fun a9 h8 h9 => ((hs_n (by omega)).trans ((hs_n (by omega)).trans ((hs_n (by omega)).trans ((hs_n (by omega)).trans ((hs_n (by omega)).trans ((hs_n (by omega)).trans rfl))))))), hMk.cg (fun a9 h8 h9 => ((hs_n (by omega)).trans ((hs_n (by omega)).trans ((hs_n (by omega)).trans ((hs_n (by omega)).trans ((hs_n (by omega)).trans ((hs_n (by omega)).trans rfl))))))), hPt.cg (fun a9 h8 h9 => ((hs_n (by omega)).trans ((hs_n (by omega)).trans ((hs_n (by omega)).trans ((hs_n (by omega)).trans ((hs_n (by omega)).trans ((hs_n (by omega)).trans rfl))))))), hEx.cg (fun a9 h8 h9 => ((hs_n (by omega)).trans ((hs_n (by omega)).trans ((hs_n (by omega)).trans ((hs_n (by omega)).trans ((hs_n (by omega)).trans ((hs_n (by omega)).trans rfl)))))))⟩ (fun a9 h9 => ((hs_n (by omega)).trans ((hs_n (by omega)).trans ((hs_n (by omega)).trans ((hs_n (by omega)).trans ((hs_n (by omega)).trans ((hs_n (by omega)).trans rfl)))))))
          rw [← ek, ← ec, ← es]
          rcases hRd42 with ⟨y, _⟩ | ⟨_, y⟩
          · omega
          · exact y
      · refine r_iconst (z := -1) dX10_first_29 ?_
        refine r_ireturn hq dX10_first_30 rfl rfl rfl ?_
        exact hQ _ h (Or.inl ⟨by omega, rfl⟩) hI (fun _ _ => rfl)
def SPback (i n m : Int) (K : Nat → Nat) (C S : Nat → Nat → Int) (r : Int) : Prop := (¬ (0 ≤ i ∧ i ≤ 5 ∧ 1 ≤ n ∧ n ≤ 1000000 ∧ 2 ≤ m ∧ m ≤ 1000000) ∧ r = -1) ∨ (0 ≤ i ∧ i ≤ 5 ∧ 1 ≤ n ∧ n ≤ 1000000 ∧ 2 ≤ m ∧ m ≤ 1000000 ∧ ((Int.gcd (C i.toNat (K i.toNat)) m ≠ 1 ∧ r = -2) ∨ (Int.gcd (C i.toNat (K i.toNat)) m = 1 ∧ ∃ ov, IsInv (C i.toNat (K i.toNat)) m ov ∧ r = ex (K i.toNat) (lbk (C i.toNat) (K i.toNat) ov m) (sbk (S i.toNat) (K i.toNat)) (K i.toNat - 1 + n.toNat) % m)))
set_option maxHeartbeats 2000000 in
set_option maxRecDepth 20000 in
theorem c_X10_back {N : Nat} {h : Hp} {Q : QP} {tb : Nat → Int} {ln : Nat} {K : Nat → Nat} {C S : Nat → Nat → Int} {p : Int} {vs : Nat → Int} {sz : Nat} {i n m : Int} (hI : CI h tb ln K C S p vs sz) (hN : 124 ≤ N) (hi : rI i) (hn : rI n) (hm : rI m) (hQ : ∀ (r : Int) (h2 : Hp), SPback i n m K C S r → CI h2 tb ln K C S p vs sz → OUT h h2 → Q (some (.int (iZ r))) N h2) : Runs mX10_back [.ref (0), .int (iZ (i)), .int (iZ (n)), .int (iZ (m))] N h Q := by
  obtain ⟨hO, hT, hR, hNu, hRs, hRd, hLg, hMk, hPt, hEx⟩ := id hI
  obtain ⟨rg, hR6, hRg⟩ := hR.1
  obtain ⟨rsk, rsm, rl, rsr, rP, rpr, hS1, hS2, hS3, hS4, hS5⟩ := id hRs
  refine run_start (own := RX10) rfl (by decide) (nle rfl) rfl (fun X hq hini => ?_)
  show G X RX10 cX10_back mX10_back.rm N 0 0 0 [some (.ref (0)), some (.int (iZ (i))), some (.int (iZ (n))), some (.int (iZ (m))), none] [] h
  refine r_iload_n dX10_back_0 rfl rfl ?_
  refine r_callS (av := [.int (iZ (i))]) dX10_back_1 lkX10_isRegister ml_X10_84 stX10_isRegister ⟨Nat.le_of_ble_eq_true rfl, Nat.le_of_ble_eq_true rfl⟩ rfl rfl (nle rfl) ⟨Nat.le_of_ble_eq_true rfl, Nat.le_of_ble_eq_true rfl⟩ (c_X10_isRegister (x := i) hi (fun b1 hb1 => ?_))
  show G _ _ _ _ _ _ _ 4 _ _ _
  refine r_if_eq 27 dX10_back_4 (by decide) (by rcases hb1 with ⟨y, _⟩ | ⟨y, _⟩ <;> exact ⟨by omega, by omega⟩) (fun c_4 => ?_) (fun c_4 => ?_)
  · refine r_iconst (z := -1) dX10_back_27 ?_
    refine r_ireturn hq dX10_back_28 rfl rfl rfl ?_
    exact hQ _ h (Or.inl ⟨by omega, rfl⟩) hI (fun _ _ => rfl)
  · refine r_iload_n dX10_back_7 rfl rfl ?_
    refine r_iconst (z := 1) dX10_back_8 ?_
    refine r_ldc (z := 1000000) dX10_back_9 kc_X10_119 ?_
    refine r_callS (av := [.int (iZ (n)), .int (iZ (1)), .int (iZ (1000000))]) dX10_back_11 lkX10_isIn ml_X10_100 stX10_isIn ⟨Nat.le_of_ble_eq_true rfl, Nat.le_of_ble_eq_true rfl⟩ rfl rfl (nle rfl) ⟨Nat.le_of_ble_eq_true rfl, Nat.le_of_ble_eq_true rfl⟩ (c_X10_isIn (x := n) (l := 1) (m := 1000000) hn ⟨by decide, by decide⟩ ⟨by decide, by decide⟩ (fun b11 hb11 => ?_))
    show G _ _ _ _ _ _ _ 14 _ _ _
    refine r_if_eq 27 dX10_back_14 (by decide) (by rcases hb11 with ⟨y, _⟩ | ⟨y, _⟩ <;> exact ⟨by omega, by omega⟩) (fun c_14 => ?_) (fun c_14 => ?_)
    · refine r_iconst (z := -1) dX10_back_27 ?_
      refine r_ireturn hq dX10_back_28 rfl rfl rfl ?_
      exact hQ _ h (Or.inl ⟨by omega, rfl⟩) hI (fun _ _ => rfl)
    · refine r_iload_n dX10_back_17 rfl rfl ?_
      refine r_iconst (z := 2) dX10_back_18 ?_
      refine r_ldc (z := 1000000) dX10_back_19 kc_X10_119 ?_
      refine r_callS (av := [.int (iZ (m)), .int (iZ (2)), .int (iZ (1000000))]) dX10_back_21 lkX10_isIn ml_X10_100 stX10_isIn ⟨Nat.le_of_ble_eq_true rfl, Nat.le_of_ble_eq_true rfl⟩ rfl rfl (nle rfl) ⟨Nat.le_of_ble_eq_true rfl, Nat.le_of_ble_eq_true rfl⟩ (c_X10_isIn (x := m) (l := 2) (m := 1000000) hm ⟨by decide, by decide⟩ ⟨by decide, by decide⟩ (fun b21 hb21 => ?_))
      show G _ _ _ _ _ _ _ 24 _ _ _
      refine r_if_ne 29 dX10_back_24 (by decide) (by rcases hb21 with ⟨y, _⟩ | ⟨y, _⟩ <;> exact ⟨by omega, by omega⟩) (fun c_24 => ?_) (fun c_24 => ?_)
      · obtain ⟨k, c, s, ek, ec, es, hr, hrb⟩ := hR.get (i := i.toNat) (by omega)
        obtain ⟨hk1, hk6, hcb, hsb, hc0⟩ := id hrb
        have ekk : ((k : Nat) : Int).toNat = k := rfl
        have cbk := hcb k (by omega)
        have cbk2 := hcb ((k : Nat) : Int).toNat (by omega)
        refine r_aload_n dX10_back_29 rfl rfl ?_
        refine gf_X10_18 dX10_back_30 (by omega) hO rfl ?_
        refine r_iload_n dX10_back_33 rfl rfl ?_
        refine r_aaload dX10_back_34 (by omega) hR6 (by decide) (by omega) (by omega) (by decide) (hRg _ (by omega)) ?_
        refine r_astore (L2 := [_, _, _, _, _]) dX10_back_35 (nlt rfl) rfl ?_
        refine r_aload dX10_back_37 rfl ?_
        refine gf_X10_104 dX10_back_39 (by omega) hr.1 rfl ?_
        refine r_aload dX10_back_42 rfl ?_
        refine gf_X10_96 dX10_back_44 (by omega) hr.1 rfl ?_
        refine r_laload dX10_back_47 (by omega) hr.2.1 (by omega) (by omega) (by decide) ?_
        refine r_iload_n dX10_back_48 rfl rfl ?_
        refine r_i2l dX10_back_49 ⟨by omega, by omega⟩ ?_
        refine r_callS (av := [.long (lZ (c ((k : Int)).toNat)), .long (lZ (m))]) dX10_back_50 lkX10_commonPart ml_X10_141 stX10_commonPart ⟨Nat.le_of_ble_eq_true rfl, Nat.le_of_ble_eq_true rfl⟩ rfl rfl (nle rfl) ⟨Nat.le_of_ble_eq_true rfl, Nat.le_of_ble_eq_true rfl⟩ (c_X10_commonPart (a := c ((k : Int)).toNat) (b0 := m) (by omega) (by omega) ?_)
        show G _ _ _ _ _ _ _ 53 _ _ _
        refine r_lconst (z := 1) dX10_back_53 (by decide) ?_
        obtain ⟨gg, hgg⟩ : ∃ g9 : Int, g9 = ((Int.gcd (c k) m : Nat) : Int) := ⟨_, rfl⟩
        show G _ _ _ _ _ _ _ _ _ (_ :: .long (lZ (((Int.gcd (c k) m : Nat) : Int))) :: _) _
        rw [← hgg]
        have gb : 0 ≤ gg ∧ gg ≤ 1000000 := by
          rw [hgg]
          have h9 := Int.gcd_dvd_right (a := c k) (b := m)
          have h8 := Int.le_of_dvd (by omega) h9
          omega
        refine r_lcmp_eq 61 dX10_back_54 dX10_back_55 (by decide) ⟨by omega, by omega⟩ ⟨by decide, by decide⟩ (fun c_54 => ?_) (fun c_54 => ?_)
        · have hgcd : Int.gcd (c k) m = 1 := by omega
          refine r_aload_n dX10_back_61 rfl rfl ?_
          refine gf_X10_32 dX10_back_62 (by omega) hO rfl ?_
          refine r_aload dX10_back_65 rfl ?_
          refine r_iload_n dX10_back_67 rfl rfl ?_
          refine r_iload_n dX10_back_68 rfl rfl ?_
          refine r_callV (av := [.ref (106 + 3 * i.toNat), .int (iZ (n)), .int (iZ (m))]) dX10_back_69 lkX5_placeBack ml_X10_145 imX5_placeBack seX5_placeBack (by omega) (rfl : vwCl[5]? = _) ⟨_, hS1⟩ ⟨Nat.le_of_ble_eq_true rfl, Nat.le_of_ble_eq_true rfl⟩ rfl rfl (nle rfl) ⟨Nat.le_of_ble_eq_true rfl, Nat.le_of_ble_eq_true rfl⟩ (c_X5_placeBack (q := 55) (k := k) (nn := n.toNat) (r := 106 + 3 * i.toNat) (n := n) (m := m) (lw := rl) (sr := rsr) (P := rP) (pr := rpr) (c := c) (s := s) hS1 hS2 hS3 hS4 hS5 (by omega) hk1 hk6 (by omega) (by omega) (RowAt.to hr.1 hr.2.1 hr.2.2) (by omega) (by omega) hcb hsb hgcd (by omega) (by omega) (fun ov hov l69 s69 P69 p69 => ?_))
          show G _ _ _ _ _ _ _ 72 _ _ _
          refine r_ireturn hq dX10_back_72 rfl rfl rfl ?_
          refine hQ _ _ (Or.inr ⟨by omega, by omega, by omega, by omega, by omega, by omega, Or.inr ⟨by rw [← ek, ← ec]; exact hgcd, ov, by rw [← ek, ← ec]; exact hov, by rw [← ek, ← ec, ← es]⟩⟩) ⟨hO.cg (fun a9 h8 h9 => ((hs_n (by omega)).trans ((hs_n (by omega)).trans ((hs_n (by omega)).trans ((hs_n (by omega)).trans ((hs_n (by omega)).trans rfl)))))), hT.cg (fun a9 h8 h9 => ((hs_n (by omega)).trans ((hs_n (by omega)).trans ((hs_n (by omega)).trans ((hs_n (by omega)).trans ((hs_n (by omega)).trans rfl)))))), hR.cg ((hs_n (by omega)).trans ((hs_n (by omega)).trans ((hs_n (by omega)).trans ((hs_n (by omega)).trans ((hs_n (by omega)).trans rfl))))) (fun a9 h8 h9 => ((hs_n (by omega)).trans ((hs_n (by omega)).trans ((hs_n (by omega)).trans ((hs_n (by omega)).trans ((hs_n (by omega)).trans rfl)))))), hNu.cg (fun a9 h8 h9 => ((hs_n (by omega)).trans ((hs_n (by omega)).trans ((hs_n (by omega)).trans ((hs_n (by omega)).trans ((hs_n (by omega)).trans rfl)))))), ⟨_, _, _, _, _, _, ((hs_n (by omega)).trans ((hs_n (by omega)).trans ((hs_n (by omega)).trans ((hs_n (by omega)).trans hs_e)))), ((hs_n (by omega)).trans ((hs_n (by omega)).trans ((hs_n (by omega)).trans hs_e))), ((hs_n (by omega)).trans ((hs_n (by omega)).trans hs_e)), ((hs_n (by omega)).trans hs_e), hs_e⟩, hRd.cg (fun a9 h8 h9 => ((hs_n (by omega)).trans ((hs_n (by omega)).trans ((hs_n (by omega)).trans ((hs_n (by omega)).trans ((hs_n (by omega)).trans rfl)))))), hLg.cg (fun a9 h8 h9 => ((hs_n (by omega)).trans ((hs_n (by omega)).trans ((hs_n (by omega)).trans ((hs_n (by omega)).trans ((hs_n (by omega)).trans rfl)))))), hMk.cg (fun a9 h8 h9 => ((hs_n (by omega)).trans ((hs_n (by omega)).trans ((hs_n (by omega)).trans ((hs_n (by omega)).trans ((hs_n (by omega)).trans rfl)))))), hPt.cg (fun a9 h8 h9 => ((hs_n (by omega)).trans ((hs_n (by omega)).trans ((hs_n (by omega)).trans ((hs_n (by omega)).trans ((hs_n (by omega)).trans rfl)))))), hEx.cg (fun a9 h8 h9 => ((hs_n (by omega)).trans ((hs_n (by omega)).trans ((hs_n (by omega)).trans ((hs_n (by omega)).trans ((hs_n (by omega)).trans rfl))))))⟩ (fun a9 h9 => ((hs_n (by omega)).trans ((hs_n (by omega)).trans ((hs_n (by omega)).trans ((hs_n (by omega)).trans ((hs_n (by omega)).trans rfl))))))
        · refine r_bipush (z := -2) dX10_back_58 (by decide) ?_
          refine r_ireturn hq dX10_back_60 rfl rfl rfl ?_
          exact hQ _ h (Or.inr ⟨by omega, by omega, by omega, by omega, by omega, by omega, Or.inl ⟨by rw [← ek, ← ec]; omega, rfl⟩⟩) hI (fun _ _ => rfl)
      · refine r_iconst (z := -1) dX10_back_27 ?_
        refine r_ireturn hq dX10_back_28 rfl rfl rfl ?_
        exact hQ _ h (Or.inl ⟨by omega, rfl⟩) hI (fun _ _ => rfl)
noncomputable def rtC (k : Nat) (c : Nat → Int) (p : Int) : Nat → Nat
  | 0 => 0
  | x + 1 => rtC k c p x + (@ite Nat (hv c (x : Int) p k = 0) (Int.instDecidableEq _ _) 1 0)
theorem rtC_le {k : Nat} {c : Nat → Int} {p : Int} : ∀ x, rtC k c p x ≤ x
  | 0 => Nat.le_refl 0
  | x + 1 => by
    have := rtC_le (k := k) (c := c) (p := p) x
    unfold rtC
    split <;> omega
def SProots (i p w : Int) (K : Nat → Nat) (C : Nat → Nat → Int) (r : Int) : Prop := (¬ (0 ≤ i ∧ i ≤ 5 ∧ Prm p ∧ -1 ≤ w) ∧ r = -1) ∨ (0 ≤ i ∧ i ≤ 5 ∧ Prm p ∧ -1 ≤ w ∧ ((w = -1 ∧ r = (rtC (K i.toNat) (C i.toNat) p p.toNat : Int)) ∨ (0 ≤ w ∧ ∃ x : Nat, (x : Int) < p ∧ hv (C i.toNat) (x : Int) p (K i.toNat) = 0 ∧ (rtC (K i.toNat) (C i.toNat) p x : Int) = w ∧ r = (x : Int)) ∨ (0 ≤ w ∧ (rtC (K i.toNat) (C i.toNat) p p.toNat : Int) ≤ w ∧ r = -4)))
set_option maxHeartbeats 2000000 in
set_option maxRecDepth 20000 in
theorem c_X10_roots {N : Nat} {h : Hp} {Q : QP} {tb : Nat → Int} {ln : Nat} {K : Nat → Nat} {C S : Nat → Nat → Int} {p pp : Int} {vs : Nat → Int} {sz : Nat} {i w : Int} (hI : CI h tb ln K C S p vs sz) (hN : 124 ≤ N) (hi : rI i) (hp : rI pp) (hw : rI w) (hQ : ∀ (r : Int) (h2 : Hp), SProots i pp w K C r → CI h2 tb ln K C S p vs sz → OUT h h2 → Q (some (.int (iZ r))) N h2) : Runs mX10_roots [.ref (0), .int (iZ (i)), .int (iZ (pp)), .int (iZ (w))] N h Q := by
  obtain ⟨hO, hT, hR, hNu, hRs, hRd, hLg, hMk, hPt, hEx⟩ := id hI
  obtain ⟨rg, hR6, hRg⟩ := hR.1
  refine run_start (own := RX10) rfl (by decide) (nle rfl) rfl (fun X hq hini => ?_)
  show G X RX10 cX10_roots mX10_roots.rm N 0 0 0 [some (.ref (0)), some (.int (iZ (i))), some (.int (iZ (pp))), some (.int (iZ (w))), none, none] [] h
  refine r_iload_n dX10_roots_0 rfl rfl ?_
  refine r_callS (av := [.int (iZ (i))]) dX10_roots_1 lkX10_isRegister ml_X10_84 stX10_isRegister ⟨Nat.le_of_ble_eq_true rfl, Nat.le_of_ble_eq_true rfl⟩ rfl rfl (nle rfl) ⟨Nat.le_of_ble_eq_true rfl, Nat.le_of_ble_eq_true rfl⟩ (c_X10_isRegister (x := i) hi (fun b1 hb1 => ?_))
  show G _ _ _ _ _ _ _ 4 _ _ _
  refine r_if_eq 19 dX10_roots_4 (by decide) (by rcases hb1 with ⟨y, _⟩ | ⟨y, _⟩ <;> exact ⟨by omega, by omega⟩) (fun c_4 => ?_) (fun c_4 => ?_)
  · refine r_iconst (z := -1) dX10_roots_19 ?_
    refine r_ireturn hq dX10_roots_20 rfl rfl rfl ?_
    exact hQ _ h (Or.inl ⟨by intro y; first | omega | (rcases hb8 with ⟨z, _⟩ | ⟨_, z⟩ <;> first | omega | exact z y.2.2.1), rfl⟩) hI (fun _ _ => rfl)
  · refine r_iload_n dX10_roots_7 rfl rfl ?_
    refine r_callS (av := [.int (iZ (pp))]) dX10_roots_8 lkX10_isPrime ml_X10_148 stX10_isPrime ⟨Nat.le_of_ble_eq_true rfl, Nat.le_of_ble_eq_true rfl⟩ rfl rfl (nle rfl) ⟨Nat.le_of_ble_eq_true rfl, Nat.le_of_ble_eq_true rfl⟩ (c_X10_isPrime (p := pp) hp (fun b8 hb8 => ?_))
    show G _ _ _ _ _ _ _ 11 _ _ _
    refine r_if_eq 19 dX10_roots_11 (by decide) (by rcases hb8 with ⟨y, _⟩ | ⟨y, _⟩ <;> exact ⟨by omega, by omega⟩) (fun c_11 => ?_) (fun c_11 => ?_)
    · refine r_iconst (z := -1) dX10_roots_19 ?_
      refine r_ireturn hq dX10_roots_20 rfl rfl rfl ?_
      exact hQ _ h (Or.inl ⟨by intro y; first | omega | (rcases hb8 with ⟨z, _⟩ | ⟨_, z⟩ <;> first | omega | exact z y.2.2.1), rfl⟩) hI (fun _ _ => rfl)
    · refine r_iload_n dX10_roots_14 rfl rfl ?_
      refine r_iconst (z := -1) dX10_roots_15 ?_
      refine r_icmp_ge 21 dX10_roots_16 (by decide) hw ⟨by decide, by decide⟩ (fun c_16 => ?_) (fun c_16 => ?_)
      · obtain ⟨k, c, s, ek, ec, es, hr, hrb⟩ := hR.get (i := i.toNat) (by omega)
        obtain ⟨hk1, hk6, hcb, hsb, hc0⟩ := id hrb
        have hpr : Prm pp := by
          rcases hb8 with ⟨_, y⟩ | ⟨y, _⟩
          · exact y
          · exact absurd y c_11
        have pp2 := hpr.1
        have pp97 := hpr.2.1
        refine r_iconst (z := 0) dX10_roots_21 ?_
        refine r_istore (L2 := [_, _, _, _, _, none]) dX10_roots_22 (nlt rfl) rfl ?_
        refine r_iconst (z := 0) dX10_roots_24 ?_
        refine r_istore (L2 := [_, _, _, _, _, _]) dX10_roots_25 (nlt rfl) rfl ?_
        have lp27 : ∀ (fu27 : Nat) (sn : Int) (x : Int) (j : Nat), (98 - x) < (fu27 : Int) → (x = (j : Int)) → (x ≤ pp) → (sn = (rtC k c pp j : Int)) → (w = -1 ∨ sn ≤ w) → G X RX10 cX10_roots mX10_roots.rm N 0 0 27 [some (.ref (0)), some (.int (iZ (i))), some (.int (iZ (pp))), some (.int (iZ (w))), some (.int (iZ (sn))), some (.int (iZ (x)))] [] h := by
          intro fu27
          induction fu27 with
          | zero => intro sn x j hm ex9 xp esn hsw; exfalso; omega
          | succ fu27 ih27 =>
            intro sn x j hms27 ex9 xp esn hsw
            have rle := rtC_le (k := k) (c := c) (p := pp) j
            refine r_iload dX10_roots_27 rfl ?_
            refine r_iload_n dX10_roots_29 rfl rfl ?_
            refine r_icmp_ge 66 dX10_roots_30 (by decide) ⟨by omega, by omega⟩ ⟨by omega, by omega⟩ (fun c_30 => ?_) (fun c_30 => ?_)
            · refine r_iload_n dX10_roots_66 rfl rfl ?_
              refine r_iconst (z := -1) dX10_roots_67 ?_
              refine r_icmp_ne 76 dX10_roots_68 (by decide) hw ⟨by decide, by decide⟩ (fun c_68 => ?_) (fun c_68 => ?_)
              · refine r_bipush (z := -4) dX10_roots_76 (by decide) ?_
                refine r_ireturn hq dX10_roots_78 rfl rfl rfl ?_
                have jp : j = pp.toNat := by omega
                exact hQ _ h (Or.inr ⟨by omega, by omega, hpr, by omega, Or.inr (Or.inr ⟨by omega, by rw [← ek, ← ec, ← jp]; omega, rfl⟩)⟩) hI (fun _ _ => rfl)
              · refine r_iload dX10_roots_71 rfl ?_
                refine r_goto 78 dX10_roots_73 (by decide) ?_
                refine r_ireturn hq dX10_roots_78 rfl rfl rfl ?_
                have jp : j = pp.toNat := by omega
                exact hQ _ h (Or.inr ⟨by omega, by omega, hpr, by omega, Or.inl ⟨by omega, by rw [← ek, ← ec, ← jp]; exact esn⟩⟩) hI (fun _ _ => rfl)
            · refine r_aload_n dX10_roots_33 rfl rfl ?_
              refine gf_X10_18 dX10_roots_34 (by omega) hO rfl ?_
              refine r_iload_n dX10_roots_37 rfl rfl ?_
              refine r_aaload dX10_roots_38 (by omega) hR6 (by decide) (by omega) (by omega) (by decide) (hRg _ (by omega)) ?_
              refine r_iload dX10_roots_39 rfl ?_
              refine r_iload_n dX10_roots_41 rfl rfl ?_
              refine r_callV (av := [.int (iZ (x)), .int (iZ (pp))]) dX10_roots_42 lkX7_isRoot ml_X10_151 imX7_isRoot seX7_isRoot (by omega) (rfl : vwCl[7]? = _) ⟨_, hr.1⟩ ⟨Nat.le_of_ble_eq_true rfl, Nat.le_of_ble_eq_true rfl⟩ rfl rfl (nle rfl) ⟨Nat.le_of_ble_eq_true rfl, Nat.le_of_ble_eq_true rfl⟩ (c_X7_isRoot (r := 106 + 3 * i.toNat) (k := k) (c := c) (s := s) (x := x) (p := pp) (RowAt.to hr.1 hr.2.1 hr.2.2) (by omega) hk6 hcb (by omega) (by omega) (by omega) (by omega) (fun b42 hb42 => ?_))
              show G _ _ _ _ _ _ _ 45 _ _ _
              refine r_if_eq 60 dX10_roots_45 (by decide) (by rcases hb42 with ⟨y, _⟩ | ⟨y, _⟩ <;> exact ⟨by omega, by omega⟩) (fun c_45 => ?_) (fun c_45 => ?_)
              · have hnz : hv c (j : Int) pp k ≠ 0 := by
                  rw [← ex9]
                  rcases hb42 with ⟨y, _⟩ | ⟨_, y⟩
                  · omega
                  · exact y
                have hrs : rtC k c pp (j + 1) = rtC k c pp j := by
                  show rtC k c pp j + _ = _
                  rw [if_neg hnz]; rfl
                refine r_iinc (L2 := [_, _, _, _, _, _]) dX10_roots_60 (nlt rfl) rfl rfl ?_
                refine r_goto 27 dX10_roots_63 (by decide) ?_
                exact ih27 (sn) (x + 1) ((j + 1)) (by omega) (by omega) (by omega) (by rw [hrs]; omega) (by omega)
              · have hz0 : hv c (j : Int) pp k = 0 := by
                  rw [← ex9]
                  rcases hb42 with ⟨_, y⟩ | ⟨y, _⟩
                  · exact y
                  · exact absurd y c_45
                refine r_iload dX10_roots_48 rfl ?_
                refine r_iload_n dX10_roots_50 rfl rfl ?_
                refine r_icmp_ne 57 dX10_roots_51 (by decide) ⟨by omega, by omega⟩ hw (fun c_51 => ?_) (fun c_51 => ?_)
                · refine r_iinc (L2 := [_, _, _, _, _, _]) dX10_roots_57 (nlt rfl) rfl rfl ?_
                  have hrs : rtC k c pp (j + 1) = rtC k c pp j + 1 := by
                    show rtC k c pp j + _ = _
                    rw [if_pos hz0]
                  refine r_iinc (L2 := [_, _, _, _, _, _]) dX10_roots_60 (nlt rfl) rfl rfl ?_
                  refine r_goto 27 dX10_roots_63 (by decide) ?_
                  exact ih27 (sn + 1) (x + 1) ((j + 1)) (by omega) (by omega) (by omega) (by rw [hrs]; omega) (by omega)
                · refine r_iload dX10_roots_54 rfl ?_
                  refine r_ireturn hq dX10_roots_56 rfl rfl rfl ?_
                  exact hQ _ h (Or.inr ⟨by omega, by omega, hpr, by omega, Or.inr (Or.inl ⟨by omega, j, by omega, by rw [← ek, ← ec]; exact hz0, by rw [← ek, ← ec]; omega, by omega⟩)⟩) hI (fun _ _ => rfl)
        exact lp27 ((98 : Int) + 1).toNat (0) (0) (0) (by omega) rfl (by omega) rfl (by show w = -1 ∨ (0 : Int) ≤ w; omega)
      · refine r_iconst (z := -1) dX10_roots_19 ?_
        refine r_ireturn hq dX10_roots_20 rfl rfl rfl ?_
        exact hQ _ h (Or.inl ⟨by intro y; first | omega | (rcases hb8 with ⟨z, _⟩ | ⟨_, z⟩ <;> first | omega | exact z y.2.2.1), rfl⟩) hI (fun _ _ => rfl)
def SPlongest (o p w : Int) (r : Int) : Prop := (¬ (1 ≤ o ∧ o ≤ 3 ∧ Prm p ∧ p ≤ 7 ∧ 0 ≤ w ∧ w ≤ 4) ∧ r = -1) ∨ (1 ≤ o ∧ o ≤ 3 ∧ Prm p ∧ p ≤ 7 ∧ 0 ≤ w ∧ w ≤ 4 ∧ ((o < w - 1 ∧ r = -4) ∨ (w - 1 ≤ o ∧ r = if w = 0 then (fLg o.toNat p (p.toNat ^ o.toNat)).2.1 else if w = 1 then (fLg o.toNat p (p.toNat ^ o.toNat)).1 else lwd o.toNat p (fLg o.toNat p (p.toNat ^ o.toNat)).2.2 (w - 1).toNat)))
theorem prm7 {p : Int} (h : Prm p) (h7 : p ≤ 7) : p = 2 ∨ p = 3 ∨ p = 5 ∨ p = 7 := by
  have h1 := h.1
  have h2 := h.2.2 2 (by omega)
  rcases (show p = 2 ∨ p = 3 ∨ p = 4 ∨ p = 5 ∨ p = 6 ∨ p = 7 by omega) with e | e | e | e | e | e
  · omega
  · omega
  · exfalso; exact h2 (by omega) (by omega)
  · omega
  · exfalso; exact h2 (by omega) (by omega)
  · omega
set_option maxHeartbeats 2000000 in
set_option maxRecDepth 20000 in
theorem c_X10_longest {N : Nat} {h : Hp} {Q : QP} {tb : Nat → Int} {ln : Nat} {K : Nat → Nat} {C S : Nat → Nat → Int} {p pp : Int} {vs : Nat → Int} {sz : Nat} {o w : Int} (hI : CI h tb ln K C S p vs sz) (hN : 124 ≤ N) (ho : rI o) (hp : rI pp) (hw : rI w) (hQ : ∀ (r : Int) (h2 : Hp), SPlongest o pp w r → CI h2 tb ln K C S p vs sz → OUT h h2 → Q (some (.int (iZ r))) N h2) : Runs mX10_longest [.ref (0), .int (iZ (o)), .int (iZ (pp)), .int (iZ (w))] N h Q := by
  obtain ⟨hO, hT, hR, hNu, hRs, hRd, hLg, hMk, hPt, hEx⟩ := id hI
  obtain ⟨gla, gtu, gk, gk2, gc, gs, gc2, gs2, hL1, hL2, hL3, hL4, hL5, hL6⟩ := id hLg
  obtain ⟨dk, dm, dt, dd, dlw, dsw, hV1, hV2, hV3⟩ := id hL2
  refine run_start (own := RX10) rfl (by decide) (nle rfl) rfl (fun X hq hini => ?_)
  show G X RX10 cX10_longest mX10_longest.rm N 0 0 0 [some (.ref (0)), some (.int (iZ (o))), some (.int (iZ (pp))), some (.int (iZ (w)))] [] h
  refine r_iload_n dX10_longest_0 rfl rfl ?_
  refine r_iconst (z := 1) dX10_longest_1 ?_
  refine r_iconst (z := 3) dX10_longest_2 ?_
  refine r_callS (av := [.int (iZ (o)), .int (iZ (1)), .int (iZ (3))]) dX10_longest_3 lkX10_isIn ml_X10_100 stX10_isIn ⟨Nat.le_of_ble_eq_true rfl, Nat.le_of_ble_eq_true rfl⟩ rfl rfl (nle rfl) ⟨Nat.le_of_ble_eq_true rfl, Nat.le_of_ble_eq_true rfl⟩ (c_X10_isIn (x := o) (l := 1) (m := 3) ho ⟨by decide, by decide⟩ ⟨by decide, by decide⟩ (fun b3 hb3 => ?_))
  show G _ _ _ _ _ _ _ 6 _ _ _
  refine r_if_eq 31 dX10_longest_6 (by decide) (by rcases hb3 with ⟨y, _⟩ | ⟨y, _⟩ <;> exact ⟨by omega, by omega⟩) (fun c_6 => ?_) (fun c_6 => ?_)
  · refine r_iconst (z := -1) dX10_longest_31 ?_
    refine r_ireturn hq dX10_longest_32 rfl rfl rfl ?_
    exact hQ _ h (Or.inl ⟨by intro y; first | omega | (rcases hb10 with ⟨z, _⟩ | ⟨_, z⟩ <;> first | omega | exact z y.2.2.1), rfl⟩) hI (fun _ _ => rfl)
  · refine r_iload_n dX10_longest_9 rfl rfl ?_
    refine r_callS (av := [.int (iZ (pp))]) dX10_longest_10 lkX10_isPrime ml_X10_148 stX10_isPrime ⟨Nat.le_of_ble_eq_true rfl, Nat.le_of_ble_eq_true rfl⟩ rfl rfl (nle rfl) ⟨Nat.le_of_ble_eq_true rfl, Nat.le_of_ble_eq_true rfl⟩ (c_X10_isPrime (p := pp) hp (fun b10 hb10 => ?_))
    show G _ _ _ _ _ _ _ 13 _ _ _
    refine r_if_eq 31 dX10_longest_13 (by decide) (by rcases hb10 with ⟨y, _⟩ | ⟨y, _⟩ <;> exact ⟨by omega, by omega⟩) (fun c_13 => ?_) (fun c_13 => ?_)
    · refine r_iconst (z := -1) dX10_longest_31 ?_
      refine r_ireturn hq dX10_longest_32 rfl rfl rfl ?_
      exact hQ _ h (Or.inl ⟨by intro y; first | omega | (rcases hb10 with ⟨z, _⟩ | ⟨_, z⟩ <;> first | omega | exact z y.2.2.1), rfl⟩) hI (fun _ _ => rfl)
    · have hpr : Prm pp := by
        rcases hb10 with ⟨_, y⟩ | ⟨y, _⟩
        · exact y
        · exact absurd y c_13
      refine r_iload_n dX10_longest_16 rfl rfl ?_
      refine r_bipush (z := 7) dX10_longest_17 (by decide) ?_
      refine r_icmp_gt 31 dX10_longest_19 (by decide) hp ⟨by decide, by decide⟩ (fun c_19 => ?_) (fun c_19 => ?_)
      · refine r_iconst (z := -1) dX10_longest_31 ?_
        refine r_ireturn hq dX10_longest_32 rfl rfl rfl ?_
        exact hQ _ h (Or.inl ⟨by intro y; first | omega | (rcases hb10 with ⟨z, _⟩ | ⟨_, z⟩ <;> first | omega | exact z y.2.2.1), rfl⟩) hI (fun _ _ => rfl)
      · refine r_iload_n dX10_longest_22 rfl rfl ?_
        refine r_iconst (z := 0) dX10_longest_23 ?_
        refine r_iconst (z := 4) dX10_longest_24 ?_
        refine r_callS (av := [.int (iZ (w)), .int (iZ (0)), .int (iZ (4))]) dX10_longest_25 lkX10_isIn ml_X10_100 stX10_isIn ⟨Nat.le_of_ble_eq_true rfl, Nat.le_of_ble_eq_true rfl⟩ rfl rfl (nle rfl) ⟨Nat.le_of_ble_eq_true rfl, Nat.le_of_ble_eq_true rfl⟩ (c_X10_isIn (x := w) (l := 0) (m := 4) hw ⟨by decide, by decide⟩ ⟨by decide, by decide⟩ (fun b25 hb25 => ?_))
        show G _ _ _ _ _ _ _ 28 _ _ _
        refine r_if_ne 33 dX10_longest_28 (by decide) (by rcases hb25 with ⟨y, _⟩ | ⟨y, _⟩ <;> exact ⟨by omega, by omega⟩) (fun c_28 => ?_) (fun c_28 => ?_)
        · refine r_iload_n dX10_longest_33 rfl rfl ?_
          refine r_iconst (z := 1) dX10_longest_34 ?_
          refine r_isub dX10_longest_35 ?_
          refine r_iload_n dX10_longest_36 rfl rfl ?_
          refine r_icmp_le 43 dX10_longest_37 (by decide) ⟨by omega, by omega⟩ ⟨by omega, by omega⟩ (fun c_37 => ?_) (fun c_37 => ?_)
          · have hp7 := prm7 hpr (by omega)
            refine r_aload_n dX10_longest_43 rfl rfl ?_
            refine gf_X10_46 dX10_longest_44 (by omega) hO rfl ?_
            refine r_iload_n dX10_longest_47 rfl rfl ?_
            refine r_iload_n dX10_longest_48 rfl rfl ?_
            refine r_callV (av := [.int (iZ (o)), .int (iZ (pp))]) dX10_longest_49 lkX0_search ml_X10_155 imX0_search seX0_search (by omega) (rfl : vwCl[0]? = _) ⟨_, hL1⟩ ⟨Nat.le_of_ble_eq_true rfl, Nat.le_of_ble_eq_true rfl⟩ rfl rfl (nle rfl) ⟨Nat.le_of_ble_eq_true rfl, Nat.le_of_ble_eq_true rfl⟩ (c_X0_search (q := 66) (k := o.toNat) (k1 := gk) (kl0 := gk2) (ki := o) (p := pp) hL1 hV1 hV2 hV3 (RowAt.to hL3.1 hL3.2.1 hL3.2.2) hL6.1 hL6.2.1 hL6.2.2 rfl (by omega) (by omega) (by omega) (by omega) hp7 hL4 hL5 (fun l2_49 s2_49 gk49 gm49 gt49 gd49 gl49 gs49 lk49 lc49 ls49 hlb49 hsb949 hlk49 hlc49 => ?_))
            show G _ _ _ _ _ _ _ 52 _ _ _
            refine r_iload_n dX10_longest_52 rfl rfl ?_
            refine r_if_ne 64 dX10_longest_53 (by decide) hw (fun c_53 => ?_) (fun c_53 => ?_)
            · refine r_iload_n dX10_longest_64 rfl rfl ?_
              refine r_iconst (z := 1) dX10_longest_65 ?_
              refine r_icmp_ne 79 dX10_longest_66 (by decide) hw ⟨by decide, by decide⟩ (fun c_66 => ?_) (fun c_66 => ?_)
              · refine r_aload_n dX10_longest_79 rfl rfl ?_
                refine gf_X10_46 dX10_longest_80 (by omega) ((hs_n (by omega)).trans ((hs_n (by omega)).trans ((hs_n (by omega)).trans ((hs_n (by omega)).trans ((hs_n (by omega)).trans ((hs_n (by omega)).trans ((hs_n (by omega)).trans ((hs_n (by omega)).trans ((hs_n (by omega)).trans ((hs_n (by omega)).trans hO)))))))))) rfl ?_
                refine gf_X10_163 dX10_longest_83 (by omega) ((hs_n (by omega)).trans ((hs_n (by omega)).trans ((hs_n (by omega)).trans ((hs_n (by omega)).trans ((hs_n (by omega)).trans ((hs_n (by omega)).trans ((hs_n (by omega)).trans ((hs_n (by omega)).trans ((hs_n (by omega)).trans hs_e))))))))) rfl ?_
                refine gf_X10_104 dX10_longest_86 (by omega) ((hs_n (by omega)).trans ((hs_n (by omega)).trans hs_e)) rfl ?_
                refine r_iload_n dX10_longest_89 rfl rfl ?_
                refine r_iconst (z := 1) dX10_longest_90 ?_
                refine r_isub dX10_longest_91 ?_
                refine r_laload dX10_longest_92 (by omega) ((hs_n (by omega)).trans hs_e) (by omega) (by omega) (by decide) ?_
                refine r_l2i dX10_longest_93 ?_
                refine r_ireturn hq dX10_longest_94 rfl rfl rfl ?_
                refine hQ _ _ (Or.inr ⟨by omega, by omega, hpr, by omega, by omega, by omega, Or.inr ⟨by omega, by rw [if_neg (by omega), if_neg (by omega)]; exact hlc49 _ (by omega) (by omega)⟩⟩) ⟨hO.cg (fun a9 h8 h9 => ((hs_n (by omega)).trans ((hs_n (by omega)).trans ((hs_n (by omega)).trans ((hs_n (by omega)).trans ((hs_n (by omega)).trans ((hs_n (by omega)).trans ((hs_n (by omega)).trans ((hs_n (by omega)).trans ((hs_n (by omega)).trans ((hs_n (by omega)).trans rfl))))))))))), hT.cg (fun a9 h8 h9 => ((hs_n (by omega)).trans ((hs_n (by omega)).trans ((hs_n (by omega)).trans ((hs_n (by omega)).trans ((hs_n (by omega)).trans ((hs_n (by omega)).trans ((hs_n (by omega)).trans ((hs_n (by omega)).trans ((hs_n (by omega)).trans ((hs_n (by omega)).trans rfl))))))))))), hR.cg ((hs_n (by omega)).trans ((hs_n (by omega)).trans ((hs_n (by omega)).trans ((hs_n (by omega)).trans ((hs_n (by omega)).trans ((hs_n (by omega)).trans ((hs_n (by omega)).trans ((hs_n (by omega)).trans ((hs_n (by omega)).trans ((hs_n (by omega)).trans rfl)))))))))) (fun a9 h8 h9 => ((hs_n (by omega)).trans ((hs_n (by omega)).trans ((hs_n (by omega)).trans ((hs_n (by omega)).trans ((hs_n (by omega)).trans ((hs_n (by omega)).trans ((hs_n (by omega)).trans ((hs_n (by omega)).trans ((hs_n (by omega)).trans ((hs_n (by omega)).trans rfl))))))))))), hNu.cg (fun a9 h8 h9 => ((hs_n (by omega)).trans ((hs_n (by omega)).trans ((hs_n (by omega)).trans ((hs_n (by omega)).trans ((hs_n (by omega)).trans ((hs_n (by omega)).trans ((hs_n (by omega)).trans ((hs_n (by omega)).trans ((hs_n (by omega)).trans ((hs_n (by omega)).trans rfl))))))))))), hRs.cg (fun a9 h8 h9 => ((hs_n (by omega)).trans ((hs_n (by omega)).trans ((hs_n (by omega)).trans ((hs_n (by omega)).trans ((hs_n (by omega)).trans ((hs_n (by omega)).trans ((hs_n (by omega)).trans ((hs_n (by omega)).trans ((hs_n (by omega)).trans ((hs_n (by omega)).trans rfl))))))))))), hRd.cg (fun a9 h8 h9 => ((hs_n (by omega)).trans ((hs_n (by omega)).trans ((hs_n (by omega)).trans ((hs_n (by omega)).trans ((hs_n (by omega)).trans ((hs_n (by omega)).trans ((hs_n (by omega)).trans ((hs_n (by omega)).trans ((hs_n (by omega)).trans ((hs_n (by omega)).trans rfl))))))))))), ⟨_, _, o.toNat, o.toNat, _, _, _, _, ((hs_n (by omega)).trans ((hs_n (by omega)).trans ((hs_n (by omega)).trans ((hs_n (by omega)).trans ((hs_n (by omega)).trans ((hs_n (by omega)).trans ((hs_n (by omega)).trans ((hs_n (by omega)).trans ((hs_n (by omega)).trans hs_e))))))))), ⟨_, _, _, _, _, _, ((hs_n (by omega)).trans ((hs_n (by omega)).trans ((hs_n (by omega)).trans ((hs_n (by omega)).trans ((hs_n (by omega)).trans hs_e))))), ((hs_n (by omega)).trans ((hs_n (by omega)).trans ((hs_n (by omega)).trans ((hs_n (by omega)).trans hs_e)))), ((hs_n (by omega)).trans ((hs_n (by omega)).trans ((hs_n (by omega)).trans hs_e)))⟩, (RowAt.to ((hs_n (by omega)).trans ((hs_n (by omega)).trans ((hs_n (by omega)).trans ((hs_n (by omega)).trans ((hs_n (by omega)).trans ((hs_n (by omega)).trans ((hs_n (by omega)).trans ((hs_n (by omega)).trans hs_e)))))))) ((hs_n (by omega)).trans ((hs_n (by omega)).trans ((hs_n (by omega)).trans ((hs_n (by omega)).trans ((hs_n (by omega)).trans ((hs_n (by omega)).trans hs_e)))))) ((hs_n (by omega)).trans ((hs_n (by omega)).trans ((hs_n (by omega)).trans ((hs_n (by omega)).trans ((hs_n (by omega)).trans ((hs_n (by omega)).trans ((hs_n (by omega)).trans hs_e)))))))), hlb49, hsb949, ⟨by rw [← hlk49]; exact ((hs_n (by omega)).trans ((hs_n (by omega)).trans hs_e)), ((hs_n (by omega)).trans hs_e), hs_e⟩⟩, hMk.cg (fun a9 h8 h9 => ((hs_n (by omega)).trans ((hs_n (by omega)).trans ((hs_n (by omega)).trans ((hs_n (by omega)).trans ((hs_n (by omega)).trans ((hs_n (by omega)).trans ((hs_n (by omega)).trans ((hs_n (by omega)).trans ((hs_n (by omega)).trans ((hs_n (by omega)).trans rfl))))))))))), hPt.cg (fun a9 h8 h9 => ((hs_n (by omega)).trans ((hs_n (by omega)).trans ((hs_n (by omega)).trans ((hs_n (by omega)).trans ((hs_n (by omega)).trans ((hs_n (by omega)).trans ((hs_n (by omega)).trans ((hs_n (by omega)).trans ((hs_n (by omega)).trans ((hs_n (by omega)).trans rfl))))))))))), hEx.cg (fun a9 h8 h9 => ((hs_n (by omega)).trans ((hs_n (by omega)).trans ((hs_n (by omega)).trans ((hs_n (by omega)).trans ((hs_n (by omega)).trans ((hs_n (by omega)).trans ((hs_n (by omega)).trans ((hs_n (by omega)).trans ((hs_n (by omega)).trans ((hs_n (by omega)).trans rfl)))))))))))⟩ (fun a9 h9 => ((hs_n (by omega)).trans ((hs_n (by omega)).trans ((hs_n (by omega)).trans ((hs_n (by omega)).trans ((hs_n (by omega)).trans ((hs_n (by omega)).trans ((hs_n (by omega)).trans ((hs_n (by omega)).trans ((hs_n (by omega)).trans ((hs_n (by omega)).trans rfl)))))))))))
              · refine r_aload_n dX10_longest_69 rfl rfl ?_
                refine gf_X10_46 dX10_longest_70 (by omega) ((hs_n (by omega)).trans ((hs_n (by omega)).trans ((hs_n (by omega)).trans ((hs_n (by omega)).trans ((hs_n (by omega)).trans ((hs_n (by omega)).trans ((hs_n (by omega)).trans ((hs_n (by omega)).trans ((hs_n (by omega)).trans ((hs_n (by omega)).trans hO)))))))))) rfl ?_
                refine gf_X10_162 dX10_longest_73 (by omega) ((hs_n (by omega)).trans ((hs_n (by omega)).trans ((hs_n (by omega)).trans ((hs_n (by omega)).trans ((hs_n (by omega)).trans ((hs_n (by omega)).trans ((hs_n (by omega)).trans ((hs_n (by omega)).trans ((hs_n (by omega)).trans hs_e))))))))) rfl ?_
                refine r_goto 94 dX10_longest_76 (by decide) ?_
                refine r_ireturn hq dX10_longest_94 rfl rfl rfl ?_
                refine hQ _ _ (Or.inr ⟨by omega, by omega, hpr, by omega, by omega, by omega, Or.inr ⟨by omega, by rw [if_neg (by omega), if_pos (by omega)]⟩⟩) ⟨hO.cg (fun a9 h8 h9 => ((hs_n (by omega)).trans ((hs_n (by omega)).trans ((hs_n (by omega)).trans ((hs_n (by omega)).trans ((hs_n (by omega)).trans ((hs_n (by omega)).trans ((hs_n (by omega)).trans ((hs_n (by omega)).trans ((hs_n (by omega)).trans ((hs_n (by omega)).trans rfl))))))))))), hT.cg (fun a9 h8 h9 => ((hs_n (by omega)).trans ((hs_n (by omega)).trans ((hs_n (by omega)).trans ((hs_n (by omega)).trans ((hs_n (by omega)).trans ((hs_n (by omega)).trans ((hs_n (by omega)).trans ((hs_n (by omega)).trans ((hs_n (by omega)).trans ((hs_n (by omega)).trans rfl))))))))))), hR.cg ((hs_n (by omega)).trans ((hs_n (by omega)).trans ((hs_n (by omega)).trans ((hs_n (by omega)).trans ((hs_n (by omega)).trans ((hs_n (by omega)).trans ((hs_n (by omega)).trans ((hs_n (by omega)).trans ((hs_n (by omega)).trans ((hs_n (by omega)).trans rfl)))))))))) (fun a9 h8 h9 => ((hs_n (by omega)).trans ((hs_n (by omega)).trans ((hs_n (by omega)).trans ((hs_n (by omega)).trans ((hs_n (by omega)).trans ((hs_n (by omega)).trans ((hs_n (by omega)).trans ((hs_n (by omega)).trans ((hs_n (by omega)).trans ((hs_n (by omega)).trans rfl))))))))))), hNu.cg (fun a9 h8 h9 => ((hs_n (by omega)).trans ((hs_n (by omega)).trans ((hs_n (by omega)).trans ((hs_n (by omega)).trans ((hs_n (by omega)).trans ((hs_n (by omega)).trans ((hs_n (by omega)).trans ((hs_n (by omega)).trans ((hs_n (by omega)).trans ((hs_n (by omega)).trans rfl))))))))))), hRs.cg (fun a9 h8 h9 => ((hs_n (by omega)).trans ((hs_n (by omega)).trans ((hs_n (by omega)).trans ((hs_n (by omega)).trans ((hs_n (by omega)).trans ((hs_n (by omega)).trans ((hs_n (by omega)).trans ((hs_n (by omega)).trans ((hs_n (by omega)).trans ((hs_n (by omega)).trans rfl))))))))))), hRd.cg (fun a9 h8 h9 => ((hs_n (by omega)).trans ((hs_n (by omega)).trans ((hs_n (by omega)).trans ((hs_n (by omega)).trans ((hs_n (by omega)).trans ((hs_n (by omega)).trans ((hs_n (by omega)).trans ((hs_n (by omega)).trans ((hs_n (by omega)).trans ((hs_n (by omega)).trans rfl))))))))))), ⟨_, _, o.toNat, o.toNat, _, _, _, _, ((hs_n (by omega)).trans ((hs_n (by omega)).trans ((hs_n (by omega)).trans ((hs_n (by omega)).trans ((hs_n (by omega)).trans ((hs_n (by omega)).trans ((hs_n (by omega)).trans ((hs_n (by omega)).trans ((hs_n (by omega)).trans hs_e))))))))), ⟨_, _, _, _, _, _, ((hs_n (by omega)).trans ((hs_n (by omega)).trans ((hs_n (by omega)).trans ((hs_n (by omega)).trans ((hs_n (by omega)).trans hs_e))))), ((hs_n (by omega)).trans ((hs_n (by omega)).trans ((hs_n (by omega)).trans ((hs_n (by omega)).trans hs_e)))), ((hs_n (by omega)).trans ((hs_n (by omega)).trans ((hs_n (by omega)).trans hs_e)))⟩, (RowAt.to ((hs_n (by omega)).trans ((hs_n (by omega)).trans ((hs_n (by omega)).trans ((hs_n (by omega)).trans ((hs_n (by omega)).trans ((hs_n (by omega)).trans ((hs_n (by omega)).trans ((hs_n (by omega)).trans hs_e)))))))) ((hs_n (by omega)).trans ((hs_n (by omega)).trans ((hs_n (by omega)).trans ((hs_n (by omega)).trans ((hs_n (by omega)).trans ((hs_n (by omega)).trans hs_e)))))) ((hs_n (by omega)).trans ((hs_n (by omega)).trans ((hs_n (by omega)).trans ((hs_n (by omega)).trans ((hs_n (by omega)).trans ((hs_n (by omega)).trans ((hs_n (by omega)).trans hs_e)))))))), hlb49, hsb949, ⟨by rw [← hlk49]; exact ((hs_n (by omega)).trans ((hs_n (by omega)).trans hs_e)), ((hs_n (by omega)).trans hs_e), hs_e⟩⟩, hMk.cg (fun a9 h8 h9 => ((hs_n (by omega)).trans ((hs_n (by omega)).trans ((hs_n (by omega)).trans ((hs_n (by omega)).trans ((hs_n (by omega)).trans ((hs_n (by omega)).trans ((hs_n (by omega)).trans ((hs_n (by omega)).trans ((hs_n (by omega)).trans ((hs_n (by omega)).trans rfl))))))))))), hPt.cg (fun a9 h8 h9 => ((hs_n (by omega)).trans ((hs_n (by omega)).trans ((hs_n (by omega)).trans ((hs_n (by omega)).trans ((hs_n (by omega)).trans ((hs_n (by omega)).trans ((hs_n (by omega)).trans ((hs_n (by omega)).trans ((hs_n (by omega)).trans ((hs_n (by omega)).trans rfl))))))))))), hEx.cg (fun a9 h8 h9 => ((hs_n (by omega)).trans ((hs_n (by omega)).trans ((hs_n (by omega)).trans ((hs_n (by omega)).trans ((hs_n (by omega)).trans ((hs_n (by omega)).trans ((hs_n (by omega)).trans ((hs_n (by omega)).trans ((hs_n (by omega)).trans ((hs_n (by omega)).trans rfl)))))))))))⟩ (fun a9 h9 => ((hs_n (by omega)).trans ((hs_n (by omega)).trans ((hs_n (by omega)).trans ((hs_n (by omega)).trans ((hs_n (by omega)).trans ((hs_n (by omega)).trans ((hs_n (by omega)).trans ((hs_n (by omega)).trans ((hs_n (by omega)).trans ((hs_n (by omega)).trans rfl)))))))))))
            · refine r_aload_n dX10_longest_56 rfl rfl ?_
              refine gf_X10_46 dX10_longest_57 (by omega) ((hs_n (by omega)).trans ((hs_n (by omega)).trans ((hs_n (by omega)).trans ((hs_n (by omega)).trans ((hs_n (by omega)).trans ((hs_n (by omega)).trans ((hs_n (by omega)).trans ((hs_n (by omega)).trans ((hs_n (by omega)).trans ((hs_n (by omega)).trans hO)))))))))) rfl ?_
              refine gf_X10_159 dX10_longest_60 (by omega) ((hs_n (by omega)).trans ((hs_n (by omega)).trans ((hs_n (by omega)).trans ((hs_n (by omega)).trans ((hs_n (by omega)).trans ((hs_n (by omega)).trans ((hs_n (by omega)).trans ((hs_n (by omega)).trans ((hs_n (by omega)).trans hs_e))))))))) rfl ?_
              refine r_ireturn hq dX10_longest_63 rfl rfl rfl ?_
              refine hQ _ _ (Or.inr ⟨by omega, by omega, hpr, by omega, by omega, by omega, Or.inr ⟨by omega, by rw [if_pos (by omega)]⟩⟩) ⟨hO.cg (fun a9 h8 h9 => ((hs_n (by omega)).trans ((hs_n (by omega)).trans ((hs_n (by omega)).trans ((hs_n (by omega)).trans ((hs_n (by omega)).trans ((hs_n (by omega)).trans ((hs_n (by omega)).trans ((hs_n (by omega)).trans ((hs_n (by omega)).trans ((hs_n (by omega)).trans rfl))))))))))), hT.cg (fun a9 h8 h9 => ((hs_n (by omega)).trans ((hs_n (by omega)).trans ((hs_n (by omega)).trans ((hs_n (by omega)).trans ((hs_n (by omega)).trans ((hs_n (by omega)).trans ((hs_n (by omega)).trans ((hs_n (by omega)).trans ((hs_n (by omega)).trans ((hs_n (by omega)).trans rfl))))))))))), hR.cg ((hs_n (by omega)).trans ((hs_n (by omega)).trans ((hs_n (by omega)).trans ((hs_n (by omega)).trans ((hs_n (by omega)).trans ((hs_n (by omega)).trans ((hs_n (by omega)).trans ((hs_n (by omega)).trans ((hs_n (by omega)).trans ((hs_n (by omega)).trans rfl)))))))))) (fun a9 h8 h9 => ((hs_n (by omega)).trans ((hs_n (by omega)).trans ((hs_n (by omega)).trans ((hs_n (by omega)).trans ((hs_n (by omega)).trans ((hs_n (by omega)).trans ((hs_n (by omega)).trans ((hs_n (by omega)).trans ((hs_n (by omega)).trans ((hs_n (by omega)).trans rfl))))))))))), hNu.cg (fun a9 h8 h9 => ((hs_n (by omega)).trans ((hs_n (by omega)).trans ((hs_n (by omega)).trans ((hs_n (by omega)).trans ((hs_n (by omega)).trans ((hs_n (by omega)).trans ((hs_n (by omega)).trans ((hs_n (by omega)).trans ((hs_n (by omega)).trans ((hs_n (by omega)).trans rfl))))))))))), hRs.cg (fun a9 h8 h9 => ((hs_n (by omega)).trans ((hs_n (by omega)).trans ((hs_n (by omega)).trans ((hs_n (by omega)).trans ((hs_n (by omega)).trans ((hs_n (by omega)).trans ((hs_n (by omega)).trans ((hs_n (by omega)).trans ((hs_n (by omega)).trans ((hs_n (by omega)).trans rfl))))))))))), hRd.cg (fun a9 h8 h9 => ((hs_n (by omega)).trans ((hs_n (by omega)).trans ((hs_n (by omega)).trans ((hs_n (by omega)).trans ((hs_n (by omega)).trans ((hs_n (by omega)).trans ((hs_n (by omega)).trans ((hs_n (by omega)).trans ((hs_n (by omega)).trans ((hs_n (by omega)).trans rfl))))))))))), ⟨_, _, o.toNat, o.toNat, _, _, _, _, ((hs_n (by omega)).trans ((hs_n (by omega)).trans ((hs_n (by omega)).trans ((hs_n (by omega)).trans ((hs_n (by omega)).trans ((hs_n (by omega)).trans ((hs_n (by omega)).trans ((hs_n (by omega)).trans ((hs_n (by omega)).trans hs_e))))))))), ⟨_, _, _, _, _, _, ((hs_n (by omega)).trans ((hs_n (by omega)).trans ((hs_n (by omega)).trans ((hs_n (by omega)).trans ((hs_n (by omega)).trans hs_e))))), ((hs_n (by omega)).trans ((hs_n (by omega)).trans ((hs_n (by omega)).trans ((hs_n (by omega)).trans hs_e)))), ((hs_n (by omega)).trans ((hs_n (by omega)).trans ((hs_n (by omega)).trans hs_e)))⟩, (RowAt.to ((hs_n (by omega)).trans ((hs_n (by omega)).trans ((hs_n (by omega)).trans ((hs_n (by omega)).trans ((hs_n (by omega)).trans ((hs_n (by omega)).trans ((hs_n (by omega)).trans ((hs_n (by omega)).trans hs_e)))))))) ((hs_n (by omega)).trans ((hs_n (by omega)).trans ((hs_n (by omega)).trans ((hs_n (by omega)).trans ((hs_n (by omega)).trans ((hs_n (by omega)).trans hs_e)))))) ((hs_n (by omega)).trans ((hs_n (by omega)).trans ((hs_n (by omega)).trans ((hs_n (by omega)).trans ((hs_n (by omega)).trans ((hs_n (by omega)).trans ((hs_n (by omega)).trans hs_e)))))))), hlb49, hsb949, ⟨by rw [← hlk49]; exact ((hs_n (by omega)).trans ((hs_n (by omega)).trans hs_e)), ((hs_n (by omega)).trans hs_e), hs_e⟩⟩, hMk.cg (fun a9 h8 h9 => ((hs_n (by omega)).trans ((hs_n (by omega)).trans ((hs_n (by omega)).trans ((hs_n (by omega)).trans ((hs_n (by omega)).trans ((hs_n (by omega)).trans ((hs_n (by omega)).trans ((hs_n (by omega)).trans ((hs_n (by omega)).trans ((hs_n (by omega)).trans rfl))))))))))), hPt.cg (fun a9 h8 h9 => ((hs_n (by omega)).trans ((hs_n (by omega)).trans ((hs_n (by omega)).trans ((hs_n (by omega)).trans ((hs_n (by omega)).trans ((hs_n (by omega)).trans ((hs_n (by omega)).trans ((hs_n (by omega)).trans ((hs_n (by omega)).trans ((hs_n (by omega)).trans rfl))))))))))), hEx.cg (fun a9 h8 h9 => ((hs_n (by omega)).trans ((hs_n (by omega)).trans ((hs_n (by omega)).trans ((hs_n (by omega)).trans ((hs_n (by omega)).trans ((hs_n (by omega)).trans ((hs_n (by omega)).trans ((hs_n (by omega)).trans ((hs_n (by omega)).trans ((hs_n (by omega)).trans rfl)))))))))))⟩ (fun a9 h9 => ((hs_n (by omega)).trans ((hs_n (by omega)).trans ((hs_n (by omega)).trans ((hs_n (by omega)).trans ((hs_n (by omega)).trans ((hs_n (by omega)).trans ((hs_n (by omega)).trans ((hs_n (by omega)).trans ((hs_n (by omega)).trans ((hs_n (by omega)).trans rfl)))))))))))
          · refine r_bipush (z := -4) dX10_longest_40 (by decide) ?_
            refine r_ireturn hq dX10_longest_42 rfl rfl rfl ?_
            exact hQ _ h (Or.inr ⟨by omega, by omega, hpr, by omega, by omega, by omega, Or.inl ⟨by omega, rfl⟩⟩) hI (fun _ _ => rfl)
        · refine r_iconst (z := -1) dX10_longest_31 ?_
          refine r_ireturn hq dX10_longest_32 rfl rfl rfl ?_
          exact hQ _ h (Or.inl ⟨by intro y; first | omega | (rcases hb10 with ⟨z, _⟩ | ⟨_, z⟩ <;> first | omega | exact z y.2.2.1), rfl⟩) hI (fun _ _ => rfl)
