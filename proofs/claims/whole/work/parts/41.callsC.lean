def SPprime (q p : Int) (sz : Nat) (r p2 : Int) (sz2 : Nat) : Prop := (¬ Prm q ∧ r = -1 ∧ p2 = p ∧ sz2 = sz) ∨ (Prm q ∧ r = (sz : Int) ∧ p2 = q ∧ sz2 = 0)
def SPadd (v p : Int) (vs : Nat → Int) (sz : Nat) (r : Int) (vs2 : Nat → Int) (sz2 : Nat) : Prop := (¬ (0 ≤ v ∧ v ≤ p - 1) ∧ r = -1 ∧ vs2 = vs ∧ sz2 = sz) ∨ (0 ≤ v ∧ v ≤ p - 1 ∧ sz = 40 ∧ r = -3 ∧ vs2 = vs ∧ sz2 = sz) ∨ (0 ≤ v ∧ v ≤ p - 1 ∧ sz < 40 ∧ r = (sz : Int) + 1 ∧ vs2 = uA vs sz v ∧ sz2 = sz + 1)
def SPleast (i p : Int) (vs : Nat → Int) (sz : Nat) (r : Int) : Prop := (i < 0 ∧ r = -1) ∨ (0 ≤ i ∧ ∃ (sp : Nat) (lw : Nat → Int), LEAST p vs sz sp ∧ LAWR p vs sz sp lw ∧ (((sp : Int) < i ∧ r = -4) ∨ (i = 0 ∧ r = (sp : Int)) ∨ (0 < i ∧ i ≤ (sp : Int) ∧ r = lw i.toNat)))
def SPnext (p : Int) (vs : Nat → Int) (sz : Nat) (r : Int) : Prop := (sz = 0 ∧ r = -4) ∨ (0 < sz ∧ ∃ (sp : Nat) (lw : Nat → Int), LEAST p vs sz sp ∧ LAWR p vs sz sp lw ∧ r = sm (fun t => lw (t + 1) * vs (sz - 1 - t)) sp % p)
def SPbreaks (i : Int) (K : Nat → Nat) (C S : Nat → Nat → Int) (p : Int) (vs : Nat → Int) (sz : Nat) (r : Int) : Prop := (¬ (0 ≤ i ∧ i ≤ 5) ∧ r = -1) ∨ (0 ≤ i ∧ i ≤ 5 ∧ FIRSTB (K i.toNat) (C i.toNat) (S i.toNat) p vs sz r)
set_option maxHeartbeats 2000000 in
set_option maxRecDepth 20000 in
theorem c_X10_prime {N : Nat} {h : Hp} {Q : QP} {tb : Nat → Int} {ln : Nat} {K : Nat → Nat} {C S : Nat → Nat → Int} {p pp : Int} {vs : Nat → Int} {sz : Nat} (hI : CI h tb ln K C S p vs sz) (hN : 124 ≤ N) (hp : rI pp) (hQ : ∀ (r : Int) (h2 : Hp) (p2 : Int) (sz2 : Nat), SPprime pp p sz r p2 sz2 → CI h2 tb ln K C S p2 vs sz2 → OUT h h2 → Q (some (.int (iZ r))) N h2) : Runs mX10_prime [.ref (0), .int (iZ (pp))] N h Q := by
  obtain ⟨hO, hT, hR, hNu, hRs, hRd, hLg, hMk, hPt, hEx⟩ := id hI
  obtain ⟨nsp, ng, nF, nld, nlw, hN1, hN2, hN3, hN4, hN5, hN6, hN7, hN8, hN9, hNs, hNp, hNv⟩ := id hNu
  obtain ⟨wk, wm, wt, wd, wlw, wsw, hW1, hW2, hW3⟩ := id hN9
  refine run_start (own := RX10) rfl (by decide) (nle rfl) rfl (fun X hq hini => ?_)
  show G X RX10 cX10_prime mX10_prime.rm N 0 0 0 [some (.ref (0)), some (.int (iZ (pp))), none] [] h
  refine r_iload_n dX10_prime_0 rfl rfl ?_
  refine r_callS (av := [.int (iZ (pp))]) dX10_prime_1 lkX10_isPrime ml_X10_148 stX10_isPrime ⟨Nat.le_of_ble_eq_true rfl, Nat.le_of_ble_eq_true rfl⟩ rfl rfl (nle rfl) ⟨Nat.le_of_ble_eq_true rfl, Nat.le_of_ble_eq_true rfl⟩ (c_X10_isPrime (p := pp) hp (fun b1 hb1 => ?_))
  show G _ _ _ _ _ _ _ 4 _ _ _
  refine r_if_ne 9 dX10_prime_4 (by decide) (by rcases hb1 with ⟨y, _⟩ | ⟨y, _⟩ <;> exact ⟨by omega, by omega⟩) (fun c_4 => ?_) (fun c_4 => ?_)
  · refine r_aload_n dX10_prime_9 rfl rfl ?_
    refine gf_X10_25 dX10_prime_10 (by omega) hO rfl ?_
    refine gf_X10_166 dX10_prime_13 (by omega) hN1 rfl ?_
    refine r_istore_n (L2 := [_, _, _]) dX10_prime_16 rfl (nlt rfl) rfl ?_
    refine r_aload_n dX10_prime_17 rfl rfl ?_
    refine gf_X10_25 dX10_prime_18 (by omega) hO rfl ?_
    refine r_iconst (z := 0) dX10_prime_21 ?_
    refine pf_X10_166 (fs2 := [_, _, _, _, _, _, _, _]) dX10_prime_22 (fun _ _ => rfl) (fun _ _ => rfl) (nlt rfl) (by omega) hN1 rfl ?_
    refine r_aload_n dX10_prime_25 rfl rfl ?_
    refine gf_X10_25 dX10_prime_26 (by omega) ((hs_n (by omega)).trans hO) rfl ?_
    refine r_iload_n dX10_prime_29 rfl rfl ?_
    refine pf_X10_169 (fs2 := [_, _, _, _, _, _, _, _]) dX10_prime_30 (fun _ _ => rfl) (fun _ _ => rfl) (nlt rfl) (by omega) hs_e rfl ?_
    refine g_heap (h2 := (hs h (7) (ob 2 [.ref (7 + 1), .int (iZ (0)), .int (iZ (pp)), .int (iZ (nsp)), .ref (7 + 2), .ref (7 + 3), .ref (7 + 44), .ref (7 + 45)]))) hs_hs ?_
    refine r_iload_n dX10_prime_33 rfl rfl ?_
    refine r_ireturn hq dX10_prime_34 rfl rfl rfl ?_
    have hpr : Prm pp := by
      rcases hb1 with ⟨_, y⟩ | ⟨y, _⟩
      · exact y
      · exact absurd y c_4
    refine hQ _ _ pp 0 (Or.inr ⟨hpr, rfl, rfl, rfl⟩) ⟨hO.cg (fun a9 h8 h9 => ((hs_n (by omega)).trans rfl)), hT.cg (fun a9 h8 h9 => ((hs_n (by omega)).trans rfl)), hR.cg ((hs_n (by omega)).trans rfl) (fun a9 h8 h9 => ((hs_n (by omega)).trans rfl)), ⟨_, _, _, _, _, hs_e, ((hs_n (by omega)).trans hN2), ((hs_n (by omega)).trans hN3), ((hs_n (by omega)).trans hN4), fun i9 hi9 => ((hs_n (by omega)).trans (hN5 i9 hi9)), hN6, hN7, ((hs_n (by omega)).trans hN8), ⟨_, _, _, _, _, _, ((hs_n (by omega)).trans hW1), ((hs_n (by omega)).trans hW2), ((hs_n (by omega)).trans hW3)⟩, (by omega), hpr, fun i hi => absurd hi (Nat.not_lt_zero i)⟩, hRs.cg (fun a9 h8 h9 => ((hs_n (by omega)).trans rfl)), hRd.cg (fun a9 h8 h9 => ((hs_n (by omega)).trans rfl)), hLg.cg (fun a9 h8 h9 => ((hs_n (by omega)).trans rfl)), hMk.cg (fun a9 h8 h9 => ((hs_n (by omega)).trans rfl)), hPt.cg (fun a9 h8 h9 => ((hs_n (by omega)).trans rfl)), hEx.cg (fun a9 h8 h9 => ((hs_n (by omega)).trans rfl))⟩ (fun a9 h9 => ((hs_n (by omega)).trans rfl))
  · refine r_iconst (z := -1) dX10_prime_7 ?_
    refine r_ireturn hq dX10_prime_8 rfl rfl rfl ?_
    exact hQ _ h p sz (Or.inl ⟨by rcases hb1 with ⟨y, _⟩ | ⟨_, y⟩; omega; exact y, rfl, rfl, rfl⟩) hI (fun _ _ => rfl)
set_option maxHeartbeats 2000000 in
set_option maxRecDepth 20000 in
theorem c_X10_add {N : Nat} {h : Hp} {Q : QP} {tb : Nat → Int} {ln : Nat} {K : Nat → Nat} {C S : Nat → Nat → Int} {p : Int} {vs : Nat → Int} {sz : Nat} {v : Int} (hI : CI h tb ln K C S p vs sz) (hN : 124 ≤ N) (hv : rI v) (hQ : ∀ (r : Int) (h2 : Hp) (vs2 : Nat → Int) (sz2 : Nat), SPadd v p vs sz r vs2 sz2 → CI h2 tb ln K C S p vs2 sz2 → OUT h h2 → Q (some (.int (iZ r))) N h2) : Runs mX10_add [.ref (0), .int (iZ (v))] N h Q := by
  obtain ⟨hO, hT, hR, hNu, hRs, hRd, hLg, hMk, hPt, hEx⟩ := id hI
  obtain ⟨nsp, ng, nF, nld, nlw, hN1, hN2, hN3, hN4, hN5, hN6, hN7, hN8, hN9, hNs, hNp, hNv⟩ := id hNu
  obtain ⟨wk, wm, wt, wd, wlw, wsw, hW1, hW2, hW3⟩ := id hN9
  have np1 := hNp.1
  have np2 := hNp.2.1
  refine run_start (own := RX10) rfl (by decide) (nle rfl) rfl (fun X hq hini => ?_)
  show G X RX10 cX10_add mX10_add.rm N 0 0 0 [some (.ref (0)), some (.int (iZ (v)))] [] h
  refine r_iload_n dX10_add_0 rfl rfl ?_
  refine r_iconst (z := 0) dX10_add_1 ?_
  refine r_aload_n dX10_add_2 rfl rfl ?_
  refine gf_X10_25 dX10_add_3 (by omega) hO rfl ?_
  refine gf_X10_169 dX10_add_6 (by omega) hN1 rfl ?_
  refine r_iconst (z := 1) dX10_add_9 ?_
  refine r_isub dX10_add_10 ?_
  refine r_callS (av := [.int (iZ (v)), .int (iZ (0)), .int (iZ (p - 1))]) dX10_add_11 lkX10_isIn ml_X10_100 stX10_isIn ⟨Nat.le_of_ble_eq_true rfl, Nat.le_of_ble_eq_true rfl⟩ rfl rfl (nle rfl) ⟨Nat.le_of_ble_eq_true rfl, Nat.le_of_ble_eq_true rfl⟩ (c_X10_isIn (x := v) (l := 0) (m := p - 1) hv ⟨by decide, by decide⟩ ⟨by omega, by omega⟩ (fun b11 hb11 => ?_))
  show G _ _ _ _ _ _ _ 14 _ _ _
  refine r_if_ne 19 dX10_add_14 (by decide) (by rcases hb11 with ⟨y, _⟩ | ⟨y, _⟩ <;> exact ⟨by omega, by omega⟩) (fun c_14 => ?_) (fun c_14 => ?_)
  · refine r_aload_n dX10_add_19 rfl rfl ?_
    refine gf_X10_25 dX10_add_20 (by omega) hO rfl ?_
    refine r_iload_n dX10_add_23 rfl rfl ?_
    refine r_callV (av := [.int (iZ (v))]) dX10_add_24 lkX2_append ml_X10_172 imX2_append seX2_append (by omega) (rfl : vwCl[2]? = _) ⟨_, hN1⟩ ⟨Nat.le_of_ble_eq_true rfl, Nat.le_of_ble_eq_true rfl⟩ rfl rfl (nle rfl) ⟨Nat.le_of_ble_eq_true rfl, Nat.le_of_ble_eq_true rfl⟩ (c_X2_append (q := 7) (sz := sz) (size := (sz : Int)) (v := v) (vs := vs) hN1 (by omega) hN2 rfl hNs (fun b24 z24 v24 hb24 => ?_))
    show G _ _ _ _ _ _ _ 27 _ _ _
    refine r_if_eq 40 dX10_add_27 (by decide) (by rcases hb24 with ⟨y, _⟩ | ⟨y, _⟩ <;> exact ⟨by omega, by omega⟩) (fun c_27 => ?_) (fun c_27 => ?_)
    · refine r_bipush (z := -3) dX10_add_40 (by decide) ?_
      refine r_ireturn hq dX10_add_42 rfl rfl rfl ?_
      obtain ⟨e1, e2, e3⟩ : sz = 40 ∧ z24 = (sz : Int) ∧ v24 = vs := by
        rcases hb24 with ⟨_, y⟩ | ⟨y, _⟩
        · exact y
        · omega
      subst e2
      subst e3
      refine hQ _ _ _ sz (Or.inr (Or.inl ⟨by omega, by omega, e1, rfl, rfl, rfl⟩)) ⟨hO.cg (fun a9 h8 h9 => ((hs_n (by omega)).trans ((hs_n (by omega)).trans rfl))), hT.cg (fun a9 h8 h9 => ((hs_n (by omega)).trans ((hs_n (by omega)).trans rfl))), hR.cg ((hs_n (by omega)).trans ((hs_n (by omega)).trans rfl)) (fun a9 h8 h9 => ((hs_n (by omega)).trans ((hs_n (by omega)).trans rfl))), ⟨_, _, _, _, _, hs_e, ((hs_n (by omega)).trans hs_e), ((hs_n (by omega)).trans ((hs_n (by omega)).trans hN3)), ((hs_n (by omega)).trans ((hs_n (by omega)).trans hN4)), fun i9 hi9 => ((hs_n (by omega)).trans ((hs_n (by omega)).trans (hN5 i9 hi9))), hN6, hN7, ((hs_n (by omega)).trans ((hs_n (by omega)).trans hN8)), ⟨_, _, _, _, _, _, ((hs_n (by omega)).trans ((hs_n (by omega)).trans hW1)), ((hs_n (by omega)).trans ((hs_n (by omega)).trans hW2)), ((hs_n (by omega)).trans ((hs_n (by omega)).trans hW3))⟩, hNs, hNp, hNv⟩, hRs.cg (fun a9 h8 h9 => ((hs_n (by omega)).trans ((hs_n (by omega)).trans rfl))), hRd.cg (fun a9 h8 h9 => ((hs_n (by omega)).trans ((hs_n (by omega)).trans rfl))), hLg.cg (fun a9 h8 h9 => ((hs_n (by omega)).trans ((hs_n (by omega)).trans rfl))), hMk.cg (fun a9 h8 h9 => ((hs_n (by omega)).trans ((hs_n (by omega)).trans rfl))), hPt.cg (fun a9 h8 h9 => ((hs_n (by omega)).trans ((hs_n (by omega)).trans rfl))), hEx.cg (fun a9 h8 h9 => ((hs_n (by omega)).trans ((hs_n (by omega)).trans rfl)))⟩ (fun a9 h9 => ((hs_n (by omega)).trans ((hs_n (by omega)).trans rfl)))
    · refine r_aload_n dX10_add_30 rfl rfl ?_
      refine gf_X10_25 dX10_add_31 (by omega) ((hs_n (by omega)).trans ((hs_n (by omega)).trans hO)) rfl ?_
      refine gf_X10_166 dX10_add_34 (by omega) hs_e rfl ?_
      refine r_goto 42 dX10_add_37 (by decide) ?_
      refine r_ireturn hq dX10_add_42 rfl rfl rfl ?_
      obtain ⟨e1, e2, e3⟩ : sz < 40 ∧ z24 = ((sz + 1 : Nat) : Int) ∧ v24 = uA vs sz v := by
        rcases hb24 with ⟨y, _⟩ | ⟨_, y1, y2, y3⟩
        · omega
        · exact ⟨y1, by omega, y3⟩
      subst e2
      subst e3
      refine hQ _ _ _ (sz + 1) (Or.inr (Or.inr ⟨by omega, by omega, e1, by omega, rfl, rfl⟩)) ⟨hO.cg (fun a9 h8 h9 => ((hs_n (by omega)).trans ((hs_n (by omega)).trans rfl))), hT.cg (fun a9 h8 h9 => ((hs_n (by omega)).trans ((hs_n (by omega)).trans rfl))), hR.cg ((hs_n (by omega)).trans ((hs_n (by omega)).trans rfl)) (fun a9 h8 h9 => ((hs_n (by omega)).trans ((hs_n (by omega)).trans rfl))), ⟨_, _, _, _, _, hs_e, ((hs_n (by omega)).trans hs_e), ((hs_n (by omega)).trans ((hs_n (by omega)).trans hN3)), ((hs_n (by omega)).trans ((hs_n (by omega)).trans hN4)), fun i9 hi9 => ((hs_n (by omega)).trans ((hs_n (by omega)).trans (hN5 i9 hi9))), hN6, hN7, ((hs_n (by omega)).trans ((hs_n (by omega)).trans hN8)), ⟨_, _, _, _, _, _, ((hs_n (by omega)).trans ((hs_n (by omega)).trans hW1)), ((hs_n (by omega)).trans ((hs_n (by omega)).trans hW2)), ((hs_n (by omega)).trans ((hs_n (by omega)).trans hW3))⟩, (by omega), hNp, fun i hi => by by_cases w : i = sz; (rw [w, uA_e]; omega); rw [uA_n w]; exact hNv i (by omega)⟩, hRs.cg (fun a9 h8 h9 => ((hs_n (by omega)).trans ((hs_n (by omega)).trans rfl))), hRd.cg (fun a9 h8 h9 => ((hs_n (by omega)).trans ((hs_n (by omega)).trans rfl))), hLg.cg (fun a9 h8 h9 => ((hs_n (by omega)).trans ((hs_n (by omega)).trans rfl))), hMk.cg (fun a9 h8 h9 => ((hs_n (by omega)).trans ((hs_n (by omega)).trans rfl))), hPt.cg (fun a9 h8 h9 => ((hs_n (by omega)).trans ((hs_n (by omega)).trans rfl))), hEx.cg (fun a9 h8 h9 => ((hs_n (by omega)).trans ((hs_n (by omega)).trans rfl)))⟩ (fun a9 h9 => ((hs_n (by omega)).trans ((hs_n (by omega)).trans rfl)))
  · refine r_iconst (z := -1) dX10_add_17 ?_
    refine r_ireturn hq dX10_add_18 rfl rfl rfl ?_
    exact hQ _ h vs sz (Or.inl ⟨by omega, rfl, rfl, rfl⟩) hI (fun _ _ => rfl)
set_option maxHeartbeats 2000000 in
set_option maxRecDepth 20000 in
theorem c_X10_least {N : Nat} {h : Hp} {Q : QP} {tb : Nat → Int} {ln : Nat} {K : Nat → Nat} {C S : Nat → Nat → Int} {p : Int} {vs : Nat → Int} {sz : Nat} {i : Int} (hI : CI h tb ln K C S p vs sz) (hN : 124 ≤ N) (hi : rI i) (hQ : ∀ (r : Int) (h2 : Hp), SPleast i p vs sz r → CI h2 tb ln K C S p vs sz → OUT h h2 → Q (some (.int (iZ r))) N h2) : Runs mX10_least [.ref (0), .int (iZ (i))] N h Q := by
  obtain ⟨hO, hT, hR, hNu, hRs, hRd, hLg, hMk, hPt, hEx⟩ := id hI
  obtain ⟨nsp, ng, nF, nld, nlw, hN1, hN2, hN3, hN4, hN5, hN6, hN7, hN8, hN9, hNs, hNp, hNv⟩ := id hNu
  obtain ⟨wk, wm, wt, wd, wlw, wsw, hW1, hW2, hW3⟩ := id hN9
  refine run_start (own := RX10) rfl (by decide) (nle rfl) rfl (fun X hq hini => ?_)
  show G X RX10 cX10_least mX10_least.rm N 0 0 0 [some (.ref (0)), some (.int (iZ (i)))] [] h
  refine r_iload_n dX10_least_0 rfl rfl ?_
  refine r_if_ge 6 dX10_least_1 (by decide) hi (fun c_1 => ?_) (fun c_1 => ?_)
  · refine r_aload_n dX10_least_6 rfl rfl ?_
    refine gf_X10_25 dX10_least_7 (by omega) hO rfl ?_
    refine r_callV (av := []) dX10_least_10 lkX2_findLeastLaw ml_X10_174 imX2_findLeastLaw seX2_findLeastLaw (by omega) (rfl : vwCl[2]? = _) ⟨_, hN1⟩ ⟨Nat.le_of_ble_eq_true rfl, Nat.le_of_ble_eq_true rfl⟩ rfl rfl (nle rfl) ⟨Nat.le_of_ble_eq_true rfl, Nat.le_of_ble_eq_true rfl⟩ (c_X2_findLeastLaw (q := 7) (sz := sz) (size := (sz : Int)) (g := ng) (F := nF) (ld := nld) (vs := vs) (lw := nlw) hN1 (by omega) hN4 hN5 hN6 hN7 hN8 hN3 hN2 rfl hNs hNv hNp (fun sp10 F10 g10 ld10 lw10 hg110 hg210 hLE10 hLW10 hlb10 => ?_))
    show G _ _ _ _ _ _ _ 13 _ _ _
    have hsp : sp10 ≤ sz := hLE10.1
    refine r_iload_n dX10_least_13 rfl rfl ?_
    refine r_aload_n dX10_least_14 rfl rfl ?_
    refine gf_X10_25 dX10_least_15 (by omega) ((hs_n (by omega)).trans ((hs_n (by omega)).trans ((hs_n (by omega)).trans ((hs_n (by omega)).trans ((mx_out (by omega)).trans hO))))) rfl ?_
    refine gf_X10_177 dX10_least_18 (by omega) ((hs_n (by omega)).trans ((hs_n (by omega)).trans ((hs_n (by omega)).trans hs_e))) rfl ?_
    refine r_icmp_le 27 dX10_least_21 (by decide) hi ⟨by omega, by omega⟩ (fun c_21 => ?_) (fun c_21 => ?_)
    · refine r_iload_n dX10_least_27 rfl rfl ?_
      refine r_if_ne 41 dX10_least_28 (by decide) hi (fun c_28 => ?_) (fun c_28 => ?_)
      · refine r_aload_n dX10_least_41 rfl rfl ?_
        refine gf_X10_25 dX10_least_42 (by omega) ((hs_n (by omega)).trans ((hs_n (by omega)).trans ((hs_n (by omega)).trans ((hs_n (by omega)).trans ((mx_out (by omega)).trans hO))))) rfl ?_
        refine gf_X10_180 dX10_least_45 (by omega) ((hs_n (by omega)).trans ((hs_n (by omega)).trans ((hs_n (by omega)).trans hs_e))) rfl ?_
        refine r_iload_n dX10_least_48 rfl rfl ?_
        refine r_iaload dX10_least_49 (by omega) hs_e (by omega) (by omega) (by decide) ?_
        refine r_ireturn hq dX10_least_50 rfl rfl rfl ?_
        refine hQ _ _ (Or.inr ⟨by omega, sp10, lw10, hLE10, hLW10, Or.inr (Or.inr ⟨by omega, by omega, rfl⟩)⟩) ⟨hO.cg (fun a9 h8 h9 => ((hs_n (by omega)).trans ((hs_n (by omega)).trans ((hs_n (by omega)).trans ((hs_n (by omega)).trans ((mx_out (by omega)).trans rfl)))))), hT.cg (fun a9 h8 h9 => ((hs_n (by omega)).trans ((hs_n (by omega)).trans ((hs_n (by omega)).trans ((hs_n (by omega)).trans ((mx_out (by omega)).trans rfl)))))), hR.cg ((hs_n (by omega)).trans ((hs_n (by omega)).trans ((hs_n (by omega)).trans ((hs_n (by omega)).trans ((mx_out (by omega)).trans rfl))))) (fun a9 h8 h9 => ((hs_n (by omega)).trans ((hs_n (by omega)).trans ((hs_n (by omega)).trans ((hs_n (by omega)).trans ((mx_out (by omega)).trans rfl)))))), ⟨_, g10, F10, _, _, ((hs_n (by omega)).trans ((hs_n (by omega)).trans ((hs_n (by omega)).trans hs_e))), ((hs_n (by omega)).trans ((hs_n (by omega)).trans ((hs_n (by omega)).trans ((hs_n (by omega)).trans ((mx_out (by omega)).trans hN2))))), hs_e, ((hs_n (by omega)).trans ((hs_n (by omega)).trans hs_e)), fun i9 hi9 => ((hs_n (by omega)).trans ((hs_n (by omega)).trans ((hs_n (by omega)).trans ((hs_n (by omega)).trans (mx_in hi9))))), hg110, hg210, ((hs_n (by omega)).trans hs_e), ⟨_, _, _, _, _, _, ((hs_n (by omega)).trans ((hs_n (by omega)).trans ((hs_n (by omega)).trans ((hs_n (by omega)).trans ((mx_out (by omega)).trans hW1))))), ((hs_n (by omega)).trans ((hs_n (by omega)).trans ((hs_n (by omega)).trans ((hs_n (by omega)).trans ((mx_out (by omega)).trans hW2))))), ((hs_n (by omega)).trans ((hs_n (by omega)).trans ((hs_n (by omega)).trans ((hs_n (by omega)).trans ((mx_out (by omega)).trans hW3)))))⟩, hNs, hNp, hNv⟩, hRs.cg (fun a9 h8 h9 => ((hs_n (by omega)).trans ((hs_n (by omega)).trans ((hs_n (by omega)).trans ((hs_n (by omega)).trans ((mx_out (by omega)).trans rfl)))))), hRd.cg (fun a9 h8 h9 => ((hs_n (by omega)).trans ((hs_n (by omega)).trans ((hs_n (by omega)).trans ((hs_n (by omega)).trans ((mx_out (by omega)).trans rfl)))))), hLg.cg (fun a9 h8 h9 => ((hs_n (by omega)).trans ((hs_n (by omega)).trans ((hs_n (by omega)).trans ((hs_n (by omega)).trans ((mx_out (by omega)).trans rfl)))))), hMk.cg (fun a9 h8 h9 => ((hs_n (by omega)).trans ((hs_n (by omega)).trans ((hs_n (by omega)).trans ((hs_n (by omega)).trans ((mx_out (by omega)).trans rfl)))))), hPt.cg (fun a9 h8 h9 => ((hs_n (by omega)).trans ((hs_n (by omega)).trans ((hs_n (by omega)).trans ((hs_n (by omega)).trans ((mx_out (by omega)).trans rfl)))))), hEx.cg (fun a9 h8 h9 => ((hs_n (by omega)).trans ((hs_n (by omega)).trans ((hs_n (by omega)).trans ((hs_n (by omega)).trans ((mx_out (by omega)).trans rfl))))))⟩ (fun a9 h9 => ((hs_n (by omega)).trans ((hs_n (by omega)).trans ((hs_n (by omega)).trans ((hs_n (by omega)).trans ((mx_out (by omega)).trans rfl))))))
      · refine r_aload_n dX10_least_31 rfl rfl ?_
        refine gf_X10_25 dX10_least_32 (by omega) ((hs_n (by omega)).trans ((hs_n (by omega)).trans ((hs_n (by omega)).trans ((hs_n (by omega)).trans ((mx_out (by omega)).trans hO))))) rfl ?_
        refine gf_X10_177 dX10_least_35 (by omega) ((hs_n (by omega)).trans ((hs_n (by omega)).trans ((hs_n (by omega)).trans hs_e))) rfl ?_
        refine r_goto 50 dX10_least_38 (by decide) ?_
        refine r_ireturn hq dX10_least_50 rfl rfl rfl ?_
        refine hQ _ _ (Or.inr ⟨by omega, sp10, lw10, hLE10, hLW10, Or.inr (Or.inl ⟨by omega, rfl⟩)⟩) ⟨hO.cg (fun a9 h8 h9 => ((hs_n (by omega)).trans ((hs_n (by omega)).trans ((hs_n (by omega)).trans ((hs_n (by omega)).trans ((mx_out (by omega)).trans rfl)))))), hT.cg (fun a9 h8 h9 => ((hs_n (by omega)).trans ((hs_n (by omega)).trans ((hs_n (by omega)).trans ((hs_n (by omega)).trans ((mx_out (by omega)).trans rfl)))))), hR.cg ((hs_n (by omega)).trans ((hs_n (by omega)).trans ((hs_n (by omega)).trans ((hs_n (by omega)).trans ((mx_out (by omega)).trans rfl))))) (fun a9 h8 h9 => ((hs_n (by omega)).trans ((hs_n (by omega)).trans ((hs_n (by omega)).trans ((hs_n (by omega)).trans ((mx_out (by omega)).trans rfl)))))), ⟨_, g10, F10, _, _, ((hs_n (by omega)).trans ((hs_n (by omega)).trans ((hs_n (by omega)).trans hs_e))), ((hs_n (by omega)).trans ((hs_n (by omega)).trans ((hs_n (by omega)).trans ((hs_n (by omega)).trans ((mx_out (by omega)).trans hN2))))), hs_e, ((hs_n (by omega)).trans ((hs_n (by omega)).trans hs_e)), fun i9 hi9 => ((hs_n (by omega)).trans ((hs_n (by omega)).trans ((hs_n (by omega)).trans ((hs_n (by omega)).trans (mx_in hi9))))), hg110, hg210, ((hs_n (by omega)).trans hs_e), ⟨_, _, _, _, _, _, ((hs_n (by omega)).trans ((hs_n (by omega)).trans ((hs_n (by omega)).trans ((hs_n (by omega)).trans ((mx_out (by omega)).trans hW1))))), ((hs_n (by omega)).trans ((hs_n (by omega)).trans ((hs_n (by omega)).trans ((hs_n (by omega)).trans ((mx_out (by omega)).trans hW2))))), ((hs_n (by omega)).trans ((hs_n (by omega)).trans ((hs_n (by omega)).trans ((hs_n (by omega)).trans ((mx_out (by omega)).trans hW3)))))⟩, hNs, hNp, hNv⟩, hRs.cg (fun a9 h8 h9 => ((hs_n (by omega)).trans ((hs_n (by omega)).trans ((hs_n (by omega)).trans ((hs_n (by omega)).trans ((mx_out (by omega)).trans rfl)))))), hRd.cg (fun a9 h8 h9 => ((hs_n (by omega)).trans ((hs_n (by omega)).trans ((hs_n (by omega)).trans ((hs_n (by omega)).trans ((mx_out (by omega)).trans rfl)))))), hLg.cg (fun a9 h8 h9 => ((hs_n (by omega)).trans ((hs_n (by omega)).trans ((hs_n (by omega)).trans ((hs_n (by omega)).trans ((mx_out (by omega)).trans rfl)))))), hMk.cg (fun a9 h8 h9 => ((hs_n (by omega)).trans ((hs_n (by omega)).trans ((hs_n (by omega)).trans ((hs_n (by omega)).trans ((mx_out (by omega)).trans rfl)))))), hPt.cg (fun a9 h8 h9 => ((hs_n (by omega)).trans ((hs_n (by omega)).trans ((hs_n (by omega)).trans ((hs_n (by omega)).trans ((mx_out (by omega)).trans rfl)))))), hEx.cg (fun a9 h8 h9 => ((hs_n (by omega)).trans ((hs_n (by omega)).trans ((hs_n (by omega)).trans ((hs_n (by omega)).trans ((mx_out (by omega)).trans rfl))))))⟩ (fun a9 h9 => ((hs_n (by omega)).trans ((hs_n (by omega)).trans ((hs_n (by omega)).trans ((hs_n (by omega)).trans ((mx_out (by omega)).trans rfl))))))
    · refine r_bipush (z := -4) dX10_least_24 (by decide) ?_
      refine r_ireturn hq dX10_least_26 rfl rfl rfl ?_
      refine hQ _ _ (Or.inr ⟨by omega, sp10, lw10, hLE10, hLW10, Or.inl ⟨by omega, rfl⟩⟩) ⟨hO.cg (fun a9 h8 h9 => ((hs_n (by omega)).trans ((hs_n (by omega)).trans ((hs_n (by omega)).trans ((hs_n (by omega)).trans ((mx_out (by omega)).trans rfl)))))), hT.cg (fun a9 h8 h9 => ((hs_n (by omega)).trans ((hs_n (by omega)).trans ((hs_n (by omega)).trans ((hs_n (by omega)).trans ((mx_out (by omega)).trans rfl)))))), hR.cg ((hs_n (by omega)).trans ((hs_n (by omega)).trans ((hs_n (by omega)).trans ((hs_n (by omega)).trans ((mx_out (by omega)).trans rfl))))) (fun a9 h8 h9 => ((hs_n (by omega)).trans ((hs_n (by omega)).trans ((hs_n (by omega)).trans ((hs_n (by omega)).trans ((mx_out (by omega)).trans rfl)))))), ⟨_, g10, F10, _, _, ((hs_n (by omega)).trans ((hs_n (by omega)).trans ((hs_n (by omega)).trans hs_e))), ((hs_n (by omega)).trans ((hs_n (by omega)).trans ((hs_n (by omega)).trans ((hs_n (by omega)).trans ((mx_out (by omega)).trans hN2))))), hs_e, ((hs_n (by omega)).trans ((hs_n (by omega)).trans hs_e)), fun i9 hi9 => ((hs_n (by omega)).trans ((hs_n (by omega)).trans ((hs_n (by omega)).trans ((hs_n (by omega)).trans (mx_in hi9))))), hg110, hg210, ((hs_n (by omega)).trans hs_e), ⟨_, _, _, _, _, _, ((hs_n (by omega)).trans ((hs_n (by omega)).trans ((hs_n (by omega)).trans ((hs_n (by omega)).trans ((mx_out (by omega)).trans hW1))))), ((hs_n (by omega)).trans ((hs_n (by omega)).trans ((hs_n (by omega)).trans ((hs_n (by omega)).trans ((mx_out (by omega)).trans hW2))))), ((hs_n (by omega)).trans ((hs_n (by omega)).trans ((hs_n (by omega)).trans ((hs_n (by omega)).trans ((mx_out (by omega)).trans hW3)))))⟩, hNs, hNp, hNv⟩, hRs.cg (fun a9 h8 h9 => ((hs_n (by omega)).trans ((hs_n (by omega)).trans ((hs_n (by omega)).trans ((hs_n (by omega)).trans ((mx_out (by omega)).trans rfl)))))), hRd.cg (fun a9 h8 h9 => ((hs_n (by omega)).trans ((hs_n (by omega)).trans ((hs_n (by omega)).trans ((hs_n (by omega)).trans ((mx_out (by omega)).trans rfl)))))), hLg.cg (fun a9 h8 h9 => ((hs_n (by omega)).trans ((hs_n (by omega)).trans ((hs_n (by omega)).trans ((hs_n (by omega)).trans ((mx_out (by omega)).trans rfl)))))), hMk.cg (fun a9 h8 h9 => ((hs_n (by omega)).trans ((hs_n (by omega)).trans ((hs_n (by omega)).trans ((hs_n (by omega)).trans ((mx_out (by omega)).trans rfl)))))), hPt.cg (fun a9 h8 h9 => ((hs_n (by omega)).trans ((hs_n (by omega)).trans ((hs_n (by omega)).trans ((hs_n (by omega)).trans ((mx_out (by omega)).trans rfl)))))), hEx.cg (fun a9 h8 h9 => ((hs_n (by omega)).trans ((hs_n (by omega)).trans ((hs_n (by omega)).trans ((hs_n (by omega)).trans ((mx_out (by omega)).trans rfl))))))⟩ (fun a9 h9 => ((hs_n (by omega)).trans ((hs_n (by omega)).trans ((hs_n (by omega)).trans ((hs_n (by omega)).trans ((mx_out (by omega)).trans rfl))))))
  · refine r_iconst (z := -1) dX10_least_4 ?_
    refine r_ireturn hq dX10_least_5 rfl rfl rfl ?_
    exact hQ _ h (Or.inl ⟨by omega, rfl⟩) hI (fun _ _ => rfl)
set_option maxHeartbeats 2000000 in
set_option maxRecDepth 20000 in
theorem c_X10_next {N : Nat} {h : Hp} {Q : QP} {tb : Nat → Int} {ln : Nat} {K : Nat → Nat} {C S : Nat → Nat → Int} {p : Int} {vs : Nat → Int} {sz : Nat} (hI : CI h tb ln K C S p vs sz) (hN : 124 ≤ N) (hQ : ∀ (r : Int) (h2 : Hp), SPnext p vs sz r → CI h2 tb ln K C S p vs sz → OUT h h2 → Q (some (.int (iZ r))) N h2) : Runs mX10_next [.ref (0)] N h Q := by
  obtain ⟨hO, hT, hR, hNu, hRs, hRd, hLg, hMk, hPt, hEx⟩ := id hI
  obtain ⟨nsp, ng, nF, nld, nlw, hN1, hN2, hN3, hN4, hN5, hN6, hN7, hN8, hN9, hNs, hNp, hNv⟩ := id hNu
  obtain ⟨wk, wm, wt, wd, wlw, wsw, hW1, hW2, hW3⟩ := id hN9
  refine run_start (own := RX10) rfl (by decide) (nle rfl) rfl (fun X hq hini => ?_)
  show G X RX10 cX10_next mX10_next.rm N 0 0 0 [some (.ref (0))] [] h
  refine r_aload_n dX10_next_0 rfl rfl ?_
  refine gf_X10_25 dX10_next_1 (by omega) hO rfl ?_
  refine gf_X10_166 dX10_next_4 (by omega) hN1 rfl ?_
  refine r_if_ne 13 dX10_next_7 (by decide) ⟨by omega, by omega⟩ (fun c_7 => ?_) (fun c_7 => ?_)
  · refine r_aload_n dX10_next_13 rfl rfl ?_
    refine gf_X10_25 dX10_next_14 (by omega) hO rfl ?_
    refine r_callV (av := []) dX10_next_17 lkX2_findLeastLaw ml_X10_174 imX2_findLeastLaw seX2_findLeastLaw (by omega) (rfl : vwCl[2]? = _) ⟨_, hN1⟩ ⟨Nat.le_of_ble_eq_true rfl, Nat.le_of_ble_eq_true rfl⟩ rfl rfl (nle rfl) ⟨Nat.le_of_ble_eq_true rfl, Nat.le_of_ble_eq_true rfl⟩ (c_X2_findLeastLaw (q := 7) (sz := sz) (size := (sz : Int)) (g := ng) (F := nF) (ld := nld) (vs := vs) (lw := nlw) hN1 (by omega) hN4 hN5 hN6 hN7 hN8 hN3 hN2 rfl hNs hNv hNp (fun sp17 F17 g17 ld17 lw17 hg117 hg217 hLE17 hLW17 hlb17 => ?_))
    show G _ _ _ _ _ _ _ 20 _ _ _
    refine r_aload_n dX10_next_20 rfl rfl ?_
    refine gf_X10_25 dX10_next_21 (by omega) ((hs_n (by omega)).trans ((hs_n (by omega)).trans ((hs_n (by omega)).trans ((hs_n (by omega)).trans ((mx_out (by omega)).trans hO))))) rfl ?_
    refine r_callV (av := []) dX10_next_24 lkX2_carriedOn ml_X10_187 imX2_carriedOn seX2_carriedOn (by omega) (rfl : vwCl[2]? = _) ⟨_, ((hs_n (by omega)).trans ((hs_n (by omega)).trans ((hs_n (by omega)).trans hs_e)))⟩ ⟨Nat.le_of_ble_eq_true rfl, Nat.le_of_ble_eq_true rfl⟩ rfl rfl (nle rfl) ⟨Nat.le_of_ble_eq_true rfl, Nat.le_of_ble_eq_true rfl⟩ (c_X2_carriedOn (q := 7) (sp := sp17) (sz := sz) (size := (sz : Int)) (p := p) (vs := vs) (lw := lw17) ((hs_n (by omega)).trans ((hs_n (by omega)).trans ((hs_n (by omega)).trans hs_e))) (by omega) hs_e ((hs_n (by omega)).trans ((hs_n (by omega)).trans ((hs_n (by omega)).trans ((hs_n (by omega)).trans ((mx_out (by omega)).trans hN2))))) rfl hNs hNv hNp.1 hNp.2.1 rfl hLE17.1 hlb17 ?_)
    show G _ _ _ _ _ _ _ 27 _ _ _
    refine r_ireturn hq dX10_next_27 rfl rfl rfl ?_
    refine hQ _ _ (Or.inr ⟨by omega, sp17, lw17, hLE17, hLW17, rfl⟩) ⟨hO.cg (fun a9 h8 h9 => ((hs_n (by omega)).trans ((hs_n (by omega)).trans ((hs_n (by omega)).trans ((hs_n (by omega)).trans ((mx_out (by omega)).trans rfl)))))), hT.cg (fun a9 h8 h9 => ((hs_n (by omega)).trans ((hs_n (by omega)).trans ((hs_n (by omega)).trans ((hs_n (by omega)).trans ((mx_out (by omega)).trans rfl)))))), hR.cg ((hs_n (by omega)).trans ((hs_n (by omega)).trans ((hs_n (by omega)).trans ((hs_n (by omega)).trans ((mx_out (by omega)).trans rfl))))) (fun a9 h8 h9 => ((hs_n (by omega)).trans ((hs_n (by omega)).trans ((hs_n (by omega)).trans ((hs_n (by omega)).trans ((mx_out (by omega)).trans rfl)))))), ⟨_, g17, F17, _, _, ((hs_n (by omega)).trans ((hs_n (by omega)).trans ((hs_n (by omega)).trans hs_e))), ((hs_n (by omega)).trans ((hs_n (by omega)).trans ((hs_n (by omega)).trans ((hs_n (by omega)).trans ((mx_out (by omega)).trans hN2))))), hs_e, ((hs_n (by omega)).trans ((hs_n (by omega)).trans hs_e)), fun i9 hi9 => ((hs_n (by omega)).trans ((hs_n (by omega)).trans ((hs_n (by omega)).trans ((hs_n (by omega)).trans (mx_in hi9))))), hg117, hg217, ((hs_n (by omega)).trans hs_e), ⟨_, _, _, _, _, _, ((hs_n (by omega)).trans ((hs_n (by omega)).trans ((hs_n (by omega)).trans ((hs_n (by omega)).trans ((mx_out (by omega)).trans hW1))))), ((hs_n (by omega)).trans ((hs_n (by omega)).trans ((hs_n (by omega)).trans ((hs_n (by omega)).trans ((mx_out (by omega)).trans hW2))))), ((hs_n (by omega)).trans ((hs_n (by omega)).trans ((hs_n (by omega)).trans ((hs_n (by omega)).trans ((mx_out (by omega)).trans hW3)))))⟩, hNs, hNp, hNv⟩, hRs.cg (fun a9 h8 h9 => ((hs_n (by omega)).trans ((hs_n (by omega)).trans ((hs_n (by omega)).trans ((hs_n (by omega)).trans ((mx_out (by omega)).trans rfl)))))), hRd.cg (fun a9 h8 h9 => ((hs_n (by omega)).trans ((hs_n (by omega)).trans ((hs_n (by omega)).trans ((hs_n (by omega)).trans ((mx_out (by omega)).trans rfl)))))), hLg.cg (fun a9 h8 h9 => ((hs_n (by omega)).trans ((hs_n (by omega)).trans ((hs_n (by omega)).trans ((hs_n (by omega)).trans ((mx_out (by omega)).trans rfl)))))), hMk.cg (fun a9 h8 h9 => ((hs_n (by omega)).trans ((hs_n (by omega)).trans ((hs_n (by omega)).trans ((hs_n (by omega)).trans ((mx_out (by omega)).trans rfl)))))), hPt.cg (fun a9 h8 h9 => ((hs_n (by omega)).trans ((hs_n (by omega)).trans ((hs_n (by omega)).trans ((hs_n (by omega)).trans ((mx_out (by omega)).trans rfl)))))), hEx.cg (fun a9 h8 h9 => ((hs_n (by omega)).trans ((hs_n (by omega)).trans ((hs_n (by omega)).trans ((hs_n (by omega)).trans ((mx_out (by omega)).trans rfl))))))⟩ (fun a9 h9 => ((hs_n (by omega)).trans ((hs_n (by omega)).trans ((hs_n (by omega)).trans ((hs_n (by omega)).trans ((mx_out (by omega)).trans rfl))))))
  · refine r_bipush (z := -4) dX10_next_10 (by decide) ?_
    refine r_ireturn hq dX10_next_12 rfl rfl rfl ?_
    exact hQ _ h (Or.inl ⟨by omega, rfl⟩) hI (fun _ _ => rfl)
set_option maxHeartbeats 2000000 in
set_option maxRecDepth 20000 in
theorem c_X10_breaks {N : Nat} {h : Hp} {Q : QP} {tb : Nat → Int} {ln : Nat} {K : Nat → Nat} {C S : Nat → Nat → Int} {p : Int} {vs : Nat → Int} {sz : Nat} {i : Int} (hI : CI h tb ln K C S p vs sz) (hN : 124 ≤ N) (hi : rI i) (hQ : ∀ (r : Int) (h2 : Hp), SPbreaks i K C S p vs sz r → CI h2 tb ln K C S p vs sz → OUT h h2 → Q (some (.int (iZ r))) N h2) : Runs mX10_breaks [.ref (0), .int (iZ (i))] N h Q := by
  obtain ⟨hO, hT, hR, hNu, hRs, hRd, hLg, hMk, hPt, hEx⟩ := id hI
  obtain ⟨nsp, ng, nF, nld, nlw, hN1, hN2, hN3, hN4, hN5, hN6, hN7, hN8, hN9, hNs, hNp, hNv⟩ := id hNu
  obtain ⟨wk, wm, wt, wd, wlw, wsw, hW1, hW2, hW3⟩ := id hN9
  obtain ⟨rg, hR6, hRg⟩ := hR.1
  refine run_start (own := RX10) rfl (by decide) (nle rfl) rfl (fun X hq hini => ?_)
  show G X RX10 cX10_breaks mX10_breaks.rm N 0 0 0 [some (.ref (0)), some (.int (iZ (i)))] [] h
  refine r_iload_n dX10_breaks_0 rfl rfl ?_
  refine r_callS (av := [.int (iZ (i))]) dX10_breaks_1 lkX10_isRegister ml_X10_84 stX10_isRegister ⟨Nat.le_of_ble_eq_true rfl, Nat.le_of_ble_eq_true rfl⟩ rfl rfl (nle rfl) ⟨Nat.le_of_ble_eq_true rfl, Nat.le_of_ble_eq_true rfl⟩ (c_X10_isRegister (x := i) hi (fun b1 hb1 => ?_))
  show G _ _ _ _ _ _ _ 4 _ _ _
  refine r_if_ne 9 dX10_breaks_4 (by decide) (by rcases hb1 with ⟨y, _⟩ | ⟨y, _⟩ <;> exact ⟨by omega, by omega⟩) (fun c_4 => ?_) (fun c_4 => ?_)
  · obtain ⟨k, c, s, ek, ec, es, hr, hrb⟩ := hR.get (i := i.toNat) (by omega)
    obtain ⟨hk1, hk6, hcb, hsb, hc0⟩ := id hrb
    refine r_aload_n dX10_breaks_9 rfl rfl ?_
    refine gf_X10_25 dX10_breaks_10 (by omega) hO rfl ?_
    refine r_aload_n dX10_breaks_13 rfl rfl ?_
    refine gf_X10_18 dX10_breaks_14 (by omega) hO rfl ?_
    refine r_iload_n dX10_breaks_17 rfl rfl ?_
    refine r_aaload dX10_breaks_18 (by omega) hR6 (by decide) (by omega) (by omega) (by decide) (hRg _ (by omega)) ?_
    refine r_callV (av := [.ref (106 + 3 * i.toNat)]) dX10_breaks_19 lkX2_brokenBy ml_X10_183 imX2_brokenBy seX2_brokenBy (by omega) (rfl : vwCl[2]? = _) ⟨_, hN1⟩ ⟨Nat.le_of_ble_eq_true rfl, Nat.le_of_ble_eq_true rfl⟩ rfl rfl (nle rfl) ⟨Nat.le_of_ble_eq_true rfl, Nat.le_of_ble_eq_true rfl⟩ (c_X2_brokenBy (q := 7) (r := 106 + 3 * i.toNat) (k := k) (sz := sz) (size := (sz : Int)) (c := c) (s := s) hN1 (by omega) hN2 rfl hNs hNv hW1 hW2 hW3 hNp.1 hNp.2.1 hk1 hk6 (RowAt.to hr.1 hr.2.1 hr.2.2) (by omega) (by omega) hcb hsb (fun z19 gk19 gm19 gt19 gd19 gl19 gs19 hz19 => ?_))
    show G _ _ _ _ _ _ _ 22 _ _ _
    refine r_ireturn hq dX10_breaks_22 rfl rfl rfl ?_
    refine hQ _ _ (Or.inr ⟨by omega, by omega, by rw [← ek, ← ec, ← es]; exact hz19⟩) ⟨hO.cg (fun a9 h8 h9 => ((hs_n (by omega)).trans ((hs_n (by omega)).trans ((hs_n (by omega)).trans rfl)))), hT.cg (fun a9 h8 h9 => ((hs_n (by omega)).trans ((hs_n (by omega)).trans ((hs_n (by omega)).trans rfl)))), hR.cg ((hs_n (by omega)).trans ((hs_n (by omega)).trans ((hs_n (by omega)).trans rfl))) (fun a9 h8 h9 => ((hs_n (by omega)).trans ((hs_n (by omega)).trans ((hs_n (by omega)).trans rfl)))), ⟨_, _, _, _, _, ((hs_n (by omega)).trans ((hs_n (by omega)).trans ((hs_n (by omega)).trans hN1))), ((hs_n (by omega)).trans ((hs_n (by omega)).trans ((hs_n (by omega)).trans hN2))), ((hs_n (by omega)).trans ((hs_n (by omega)).trans ((hs_n (by omega)).trans hN3))), ((hs_n (by omega)).trans ((hs_n (by omega)).trans ((hs_n (by omega)).trans hN4))), fun i9 hi9 => ((hs_n (by omega)).trans ((hs_n (by omega)).trans ((hs_n (by omega)).trans (hN5 i9 hi9)))), hN6, hN7, ((hs_n (by omega)).trans ((hs_n (by omega)).trans ((hs_n (by omega)).trans hN8))), ⟨_, _, _, _, _, _, ((hs_n (by omega)).trans ((hs_n (by omega)).trans hs_e)), ((hs_n (by omega)).trans hs_e), hs_e⟩, hNs, hNp, hNv⟩, hRs.cg (fun a9 h8 h9 => ((hs_n (by omega)).trans ((hs_n (by omega)).trans ((hs_n (by omega)).trans rfl)))), hRd.cg (fun a9 h8 h9 => ((hs_n (by omega)).trans ((hs_n (by omega)).trans ((hs_n (by omega)).trans rfl)))), hLg.cg (fun a9 h8 h9 => ((hs_n (by omega)).trans ((hs_n (by omega)).trans ((hs_n (by omega)).trans rfl)))), hMk.cg (fun a9 h8 h9 => ((hs_n (by omega)).trans ((hs_n (by omega)).trans ((hs_n (by omega)).trans rfl)))), hPt.cg (fun a9 h8 h9 => ((hs_n (by omega)).trans ((hs_n (by omega)).trans ((hs_n (by omega)).trans rfl)))), hEx.cg (fun a9 h8 h9 => ((hs_n (by omega)).trans ((hs_n (by omega)).trans ((hs_n (by omega)).trans rfl))))⟩ (fun a9 h9 => ((hs_n (by omega)).trans ((hs_n (by omega)).trans ((hs_n (by omega)).trans rfl))))
  · refine r_iconst (z := -1) dX10_breaks_7 ?_
    refine r_ireturn hq dX10_breaks_8 rfl rfl rfl ?_
    exact hQ _ h (Or.inl ⟨by omega, rfl⟩) hI (fun _ _ => rfl)
def SPsame (x y : Int) (K : Nat → Nat) (C S : Nat → Nat → Int) (r : Int) : Prop := (¬ (0 ≤ x ∧ x ≤ 5 ∧ 0 ≤ y ∧ y ≤ 5) ∧ r = -1) ∨ (0 ≤ x ∧ x ≤ 5 ∧ 0 ≤ y ∧ y ≤ 5 ∧ ∃ tx ty : Nat, Told (K x.toNat) (C x.toNat) (S x.toNat) (K x.toNat + K y.toNat) tx ∧ Told (K y.toNat) (C y.toNat) (S y.toNat) (K x.toNat + K y.toNat) ty ∧ ((∃ n, n < min tx ty ∧ ex (K x.toNat) (C x.toNat) (S x.toNat) n ≠ ex (K y.toNat) (C y.toNat) (S y.toNat) n ∧ r = 0) ∨ ((∀ n, n < min tx ty → ex (K x.toNat) (C x.toNat) (S x.toNat) n = ex (K y.toNat) (C y.toNat) (S y.toNat) n) ∧ ((min tx ty < K x.toNat + K y.toNat ∧ r = -5) ∨ (K x.toNat + K y.toNat ≤ min tx ty ∧ r = 1)))))
set_option maxHeartbeats 2000000 in
set_option maxRecDepth 20000 in
theorem c_X10_same {N : Nat} {h : Hp} {Q : QP} {tb : Nat → Int} {ln : Nat} {K : Nat → Nat} {C S : Nat → Nat → Int} {p : Int} {vs : Nat → Int} {sz : Nat} {x y : Int} (hI : CI h tb ln K C S p vs sz) (hN : 124 ≤ N) (hx : rI x) (hy : rI y) (hQ : ∀ (r : Int) (h2 : Hp), SPsame x y K C S r → CI h2 tb ln K C S p vs sz → OUT h h2 → Q (some (.int (iZ r))) N h2) : Runs mX10_same [.ref (0), .int (iZ (x)), .int (iZ (y))] N h Q := by
  obtain ⟨hO, hT, hR, hNu, hRs, hRd, hLg, hMk, hPt, hEx⟩ := id hI
  obtain ⟨rg, hR6, hRg⟩ := hR.1
  obtain ⟨exf, exg, hE1, hE2⟩ := id hEx
  refine run_start (own := RX10) rfl (by decide) (nle rfl) rfl (fun X hq hini => ?_)
  show G X RX10 cX10_same mX10_same.rm N 0 0 0 [some (.ref (0)), some (.int (iZ (x))), some (.int (iZ (y))), none, none, none, none, none] [] h
  refine r_iload_n dX10_same_0 rfl rfl ?_
  refine r_callS (av := [.int (iZ (x))]) dX10_same_1 lkX10_isRegister ml_X10_84 stX10_isRegister ⟨Nat.le_of_ble_eq_true rfl, Nat.le_of_ble_eq_true rfl⟩ rfl rfl (nle rfl) ⟨Nat.le_of_ble_eq_true rfl, Nat.le_of_ble_eq_true rfl⟩ (c_X10_isRegister (x := x) hx (fun b1 hb1 => ?_))
  show G _ _ _ _ _ _ _ 4 _ _ _
  refine r_if_eq 14 dX10_same_4 (by decide) (by rcases hb1 with ⟨y, _⟩ | ⟨y, _⟩ <;> exact ⟨by omega, by omega⟩) (fun c_4 => ?_) (fun c_4 => ?_)
  · refine r_iconst (z := -1) dX10_same_14 ?_
    refine r_ireturn hq dX10_same_15 rfl rfl rfl ?_
    exact hQ _ h (Or.inl ⟨by omega, rfl⟩) hI (fun _ _ => rfl)
  · refine r_iload_n dX10_same_7 rfl rfl ?_
    refine r_callS (av := [.int (iZ (y))]) dX10_same_8 lkX10_isRegister ml_X10_84 stX10_isRegister ⟨Nat.le_of_ble_eq_true rfl, Nat.le_of_ble_eq_true rfl⟩ rfl rfl (nle rfl) ⟨Nat.le_of_ble_eq_true rfl, Nat.le_of_ble_eq_true rfl⟩ (c_X10_isRegister (x := y) hy (fun b8 hb8 => ?_))
    show G _ _ _ _ _ _ _ 11 _ _ _
    refine r_if_ne 16 dX10_same_11 (by decide) (by rcases hb8 with ⟨y, _⟩ | ⟨y, _⟩ <;> exact ⟨by omega, by omega⟩) (fun c_11 => ?_) (fun c_11 => ?_)
    · obtain ⟨k, c, s, ek, ec, es, hr, hrb⟩ := hR.get (i := x.toNat) (by omega)
      obtain ⟨hk1, hk6, hcb, hsb, hc0⟩ := id hrb
      obtain ⟨k2, c2, s2, ek2, ec2, es2, hr2, hrb2⟩ := hR.get (i := y.toNat) (by omega)
      obtain ⟨hk12, hk62, hcb2, hsb2, hc02⟩ := id hrb2
      refine r_aload_n dX10_same_16 rfl rfl ?_
      refine gf_X10_18 dX10_same_17 (by omega) hO rfl ?_
      refine r_iload_n dX10_same_20 rfl rfl ?_
      refine r_aaload dX10_same_21 (by omega) hR6 (by decide) (by omega) (by omega) (by decide) (hRg _ (by omega)) ?_
      refine gf_X10_96 dX10_same_22 (by omega) hr.1 rfl ?_
      refine r_aload_n dX10_same_25 rfl rfl ?_
      refine gf_X10_18 dX10_same_26 (by omega) hO rfl ?_
      refine r_iload_n dX10_same_29 rfl rfl ?_
      refine r_aaload dX10_same_30 (by omega) hR6 (by decide) (by omega) (by omega) (by decide) (hRg _ (by omega)) ?_
      refine gf_X10_96 dX10_same_31 (by omega) hr2.1 rfl ?_
      refine r_iadd dX10_same_34 ?_
      refine r_istore_n (L2 := [_, _, _, _, none, none, none, none]) dX10_same_35 rfl (nlt rfl) rfl ?_
      refine r_aload_n dX10_same_36 rfl rfl ?_
      refine gf_X10_18 dX10_same_37 (by omega) hO rfl ?_
      refine r_iload_n dX10_same_40 rfl rfl ?_
      refine r_aaload dX10_same_41 (by omega) hR6 (by decide) (by omega) (by omega) (by decide) (hRg _ (by omega)) ?_
      refine r_aload_n dX10_same_42 rfl rfl ?_
      refine gf_X10_64 dX10_same_43 (by omega) hO rfl ?_
      refine r_iload_n dX10_same_46 rfl rfl ?_
      refine r_iconst (z := 1) dX10_same_47 ?_
      refine r_isub dX10_same_48 ?_
      refine r_callV (av := [.ref (104), .int (iZ (((k : Int) + (k2 : Int)) - 1))]) dX10_same_49 lkX7_tellNumbers ml_X10_112 imX7_tellNumbers seX7_tellNumbers (by omega) (rfl : vwCl[7]? = _) ⟨_, hr.1⟩ ⟨Nat.le_of_ble_eq_true rfl, Nat.le_of_ble_eq_true rfl⟩ rfl rfl (nle rfl) ⟨Nat.le_of_ble_eq_true rfl, Nat.le_of_ble_eq_true rfl⟩ (c_X7_tellNumbers (r := 106 + 3 * x.toNat) (k := k) (q := 104) (M := 2001) (last := (k + k2 - 1)) (c := c) (s := s) (f := exf) (by omega) (RowAt.to hr.1 hr.2.1 hr.2.2) (by omega) hE1 (by omega) (by omega) (by omega) (by omega) hk1 hk6 (by decide) (by decide) (by omega) hcb (fun j hj => hsb j (by omega)) (fun t49 F49 hT49 hF49 hG49 => ?_))
      show G _ _ _ _ _ _ _ 52 _ _ _
      rw [show min (k + k2 - 1 + 1) 2001 = k + k2 by omega] at hT49
      have tle1 := hT49.1
      refine r_istore (L2 := [_, _, _, _, _, none, none, none]) dX10_same_52 (nlt rfl) rfl ?_
      refine r_aload_n dX10_same_54 rfl rfl ?_
      refine gf_X10_18 dX10_same_55 (by omega) ((hs_n (by omega)).trans hO) rfl ?_
      refine r_iload_n dX10_same_58 rfl rfl ?_
      refine r_aaload dX10_same_59 (by omega) ((hs_n (by omega)).trans hR6) (by decide) (by omega) (by omega) (by decide) (hRg _ (by omega)) ?_
      refine r_aload_n dX10_same_60 rfl rfl ?_
      refine gf_X10_68 dX10_same_61 (by omega) ((hs_n (by omega)).trans hO) rfl ?_
      refine r_iload_n dX10_same_64 rfl rfl ?_
      refine r_iconst (z := 1) dX10_same_65 ?_
      refine r_isub dX10_same_66 ?_
      refine r_callV (av := [.ref (105), .int (iZ (((k : Int) + (k2 : Int)) - 1))]) dX10_same_67 lkX7_tellNumbers ml_X10_112 imX7_tellNumbers seX7_tellNumbers (by omega) (rfl : vwCl[7]? = _) ⟨_, ((hs_n (by omega)).trans hr2.1)⟩ ⟨Nat.le_of_ble_eq_true rfl, Nat.le_of_ble_eq_true rfl⟩ rfl rfl (nle rfl) ⟨Nat.le_of_ble_eq_true rfl, Nat.le_of_ble_eq_true rfl⟩ (c_X7_tellNumbers (r := 106 + 3 * y.toNat) (k := k2) (q := 105) (M := 12) (last := (k + k2 - 1)) (c := c2) (s := s2) (f := exg) (by omega) (RowAt.to ((hs_n (by omega)).trans hr2.1) ((hs_n (by omega)).trans hr2.2.1) ((hs_n (by omega)).trans hr2.2.2)) (by omega) ((hs_n (by omega)).trans hE2) (by omega) (by omega) (by omega) (by omega) hk12 hk62 (by decide) (by decide) (by omega) hcb2 (fun j hj => hsb2 j (by omega)) (fun t67 F67 hT67 hF67 hG67 => ?_))
      show G _ _ _ _ _ _ _ 70 _ _ _
      rw [show min (k + k2 - 1 + 1) 12 = k + k2 by omega] at hT67
      have tle2 := hT67.1
      refine r_istore (L2 := [_, _, _, _, _, _, none, none]) dX10_same_70 (nlt rfl) rfl ?_
      refine r_iload dX10_same_72 rfl ?_
      refine r_iload dX10_same_74 rfl ?_
      refine r_min dX10_same_76 ml_X10_200 jst_min jin_Math jcd_min ⟨by decide, by decide⟩ (nle rfl) ⟨Nat.zero_le _, Nat.zero_le _⟩ ⟨by omega, by omega⟩ ⟨by omega, by omega⟩ ?_
      refine r_istore (L2 := [_, _, _, _, _, _, _, none]) dX10_same_79 (nlt rfl) rfl ?_
      refine r_iconst (z := 0) dX10_same_81 ?_
      refine r_istore (L2 := [_, _, _, _, _, _, _, _]) dX10_same_82 (nlt rfl) rfl ?_
      have lp84 : ∀ (fu84 : Nat) (n : Int) (j : Nat), (14 - n) < (fu84 : Int) → (n = (j : Int)) → (j ≤ min t49 t67) → (∀ u, u < j → ex k c s u = ex k2 c2 s2 u) → G X RX10 cX10_same mX10_same.rm N 0 0 84 [some (.ref (0)), some (.int (iZ (x))), some (.int (iZ (y))), some (.int (iZ ((k : Int) + (k2 : Int)))), some (.int (iZ ((t49 : Int)))), some (.int (iZ ((t67 : Int)))), some (.int (iZ (min (t49 : Int) (t67 : Int)))), some (.int (iZ (n)))] [] (hs (hs h (104) (aL 2001 (F49))) (105) (aL 12 (F67))) := by
        intro fu84
        induction fu84 with
        | zero => intro n j hm en jl hal; exfalso; omega
        | succ fu84 ih84 =>
          intro n j hms84 en jl hal
          refine r_iload dX10_same_84 rfl ?_
          refine r_iload dX10_same_86 rfl ?_
          refine r_icmp_ge 117 dX10_same_88 (by decide) ⟨by omega, by omega⟩ ⟨by omega, by omega⟩ (fun c_88 => ?_) (fun c_88 => ?_)
          · refine r_iload dX10_same_117 rfl ?_
            refine r_iload_n dX10_same_119 rfl rfl ?_
            refine r_icmp_ge 128 dX10_same_120 (by decide) ⟨by omega, by omega⟩ ⟨by omega, by omega⟩ (fun c_120 => ?_) (fun c_120 => ?_)
            · refine r_iconst (z := 1) dX10_same_128 ?_
              refine r_ireturn hq dX10_same_129 rfl rfl rfl ?_
              refine hQ _ _ (Or.inr ⟨by omega, by omega, by omega, by omega, t49, t67, ?_, ?_, ?_⟩) ⟨hO.cg (fun a9 h8 h9 => ((hs_n (by omega)).trans ((hs_n (by omega)).trans rfl))), hT.cg (fun a9 h8 h9 => ((hs_n (by omega)).trans ((hs_n (by omega)).trans rfl))), hR.cg ((hs_n (by omega)).trans ((hs_n (by omega)).trans rfl)) (fun a9 h8 h9 => ((hs_n (by omega)).trans ((hs_n (by omega)).trans rfl))), hNu.cg (fun a9 h8 h9 => ((hs_n (by omega)).trans ((hs_n (by omega)).trans rfl))), hRs.cg (fun a9 h8 h9 => ((hs_n (by omega)).trans ((hs_n (by omega)).trans rfl))), hRd.cg (fun a9 h8 h9 => ((hs_n (by omega)).trans ((hs_n (by omega)).trans rfl))), hLg.cg (fun a9 h8 h9 => ((hs_n (by omega)).trans ((hs_n (by omega)).trans rfl))), hMk.cg (fun a9 h8 h9 => ((hs_n (by omega)).trans ((hs_n (by omega)).trans rfl))), hPt.cg (fun a9 h8 h9 => ((hs_n (by omega)).trans ((hs_n (by omega)).trans rfl))), ⟨_, _, ((hs_n (by omega)).trans hs_e), hs_e⟩⟩ (fun a9 h9 => ((hs_n (by omega)).trans ((hs_n (by omega)).trans rfl)))
              · rw [← ek, ← ec, ← es, ← ek2]; exact hT49
              · rw [← ek, ← ek2, ← ec2, ← es2]; exact hT67
              · rw [← ek, ← ec, ← es, ← ek2, ← ec2, ← es2]
                exact Or.inr ⟨fun u hu => hal u (by omega), Or.inr ⟨by omega, rfl⟩⟩
            · refine r_bipush (z := -5) dX10_same_123 (by decide) ?_
              refine r_goto 129 dX10_same_125 (by decide) ?_
              refine r_ireturn hq dX10_same_129 rfl rfl rfl ?_
              refine hQ _ _ (Or.inr ⟨by omega, by omega, by omega, by omega, t49, t67, ?_, ?_, ?_⟩) ⟨hO.cg (fun a9 h8 h9 => ((hs_n (by omega)).trans ((hs_n (by omega)).trans rfl))), hT.cg (fun a9 h8 h9 => ((hs_n (by omega)).trans ((hs_n (by omega)).trans rfl))), hR.cg ((hs_n (by omega)).trans ((hs_n (by omega)).trans rfl)) (fun a9 h8 h9 => ((hs_n (by omega)).trans ((hs_n (by omega)).trans rfl))), hNu.cg (fun a9 h8 h9 => ((hs_n (by omega)).trans ((hs_n (by omega)).trans rfl))), hRs.cg (fun a9 h8 h9 => ((hs_n (by omega)).trans ((hs_n (by omega)).trans rfl))), hRd.cg (fun a9 h8 h9 => ((hs_n (by omega)).trans ((hs_n (by omega)).trans rfl))), hLg.cg (fun a9 h8 h9 => ((hs_n (by omega)).trans ((hs_n (by omega)).trans rfl))), hMk.cg (fun a9 h8 h9 => ((hs_n (by omega)).trans ((hs_n (by omega)).trans rfl))), hPt.cg (fun a9 h8 h9 => ((hs_n (by omega)).trans ((hs_n (by omega)).trans rfl))), ⟨_, _, ((hs_n (by omega)).trans hs_e), hs_e⟩⟩ (fun a9 h9 => ((hs_n (by omega)).trans ((hs_n (by omega)).trans rfl)))
              · rw [← ek, ← ec, ← es, ← ek2]; exact hT49
              · rw [← ek, ← ek2, ← ec2, ← es2]; exact hT67
              · rw [← ek, ← ec, ← es, ← ek2, ← ec2, ← es2]
                exact Or.inr ⟨fun u hu => hal u (by omega), Or.inl ⟨by omega, rfl⟩⟩
          · refine r_aload_n dX10_same_91 rfl rfl ?_
            refine gf_X10_64 dX10_same_92 (by omega) ((hs_n (by omega)).trans ((hs_n (by omega)).trans hO)) rfl ?_
            refine r_iload dX10_same_95 rfl ?_
            refine r_laload dX10_same_97 (by omega) ((hs_n (by omega)).trans hs_e) (by omega) (by omega) (by decide) ?_
            have ein : n.toNat = j := by omega
            have ea : F49 n.toNat = ex k c s j := by rw [ein]; exact hF49 j (by omega)
            have ta := hT49.2.1 j (by omega)
            have ta1 := ta.1
            have ta2 := ta.2
            rw [← ea] at ta1 ta2
            refine r_aload_n dX10_same_98 rfl rfl ?_
            refine gf_X10_68 dX10_same_99 (by omega) ((hs_n (by omega)).trans ((hs_n (by omega)).trans hO)) rfl ?_
            refine r_iload dX10_same_102 rfl ?_
            refine r_laload dX10_same_104 (by omega) hs_e (by omega) (by omega) (by decide) ?_
            have eb : F67 n.toNat = ex k2 c2 s2 j := by rw [ein]; exact hF67 j (by omega)
            have tb9 := hT67.2.1 j (by omega)
            have tb1 := tb9.1
            have tb2 := tb9.2
            rw [← eb] at tb1 tb2
            refine r_lcmp_eq 111 dX10_same_105 dX10_same_106 (by decide) ⟨by omega, by omega⟩ ⟨by omega, by omega⟩ (fun c_105 => ?_) (fun c_105 => ?_)
            · refine r_iinc (L2 := [_, _, _, _, _, _, _, _]) dX10_same_111 (nlt rfl) rfl rfl ?_
              refine r_goto 84 dX10_same_114 (by decide) ?_
              exact ih84 (n + 1) ((j + 1)) (by omega) (by omega) (by omega) (fun u hu => by by_cases z : u = j; (rw [z, ← ea, ← eb]; exact c_105); exact hal u (by omega))
            · refine r_iconst (z := 0) dX10_same_109 ?_
              refine r_ireturn hq dX10_same_110 rfl rfl rfl ?_
              refine hQ _ _ (Or.inr ⟨by omega, by omega, by omega, by omega, t49, t67, ?_, ?_, ?_⟩) ⟨hO.cg (fun a9 h8 h9 => ((hs_n (by omega)).trans ((hs_n (by omega)).trans rfl))), hT.cg (fun a9 h8 h9 => ((hs_n (by omega)).trans ((hs_n (by omega)).trans rfl))), hR.cg ((hs_n (by omega)).trans ((hs_n (by omega)).trans rfl)) (fun a9 h8 h9 => ((hs_n (by omega)).trans ((hs_n (by omega)).trans rfl))), hNu.cg (fun a9 h8 h9 => ((hs_n (by omega)).trans ((hs_n (by omega)).trans rfl))), hRs.cg (fun a9 h8 h9 => ((hs_n (by omega)).trans ((hs_n (by omega)).trans rfl))), hRd.cg (fun a9 h8 h9 => ((hs_n (by omega)).trans ((hs_n (by omega)).trans rfl))), hLg.cg (fun a9 h8 h9 => ((hs_n (by omega)).trans ((hs_n (by omega)).trans rfl))), hMk.cg (fun a9 h8 h9 => ((hs_n (by omega)).trans ((hs_n (by omega)).trans rfl))), hPt.cg (fun a9 h8 h9 => ((hs_n (by omega)).trans ((hs_n (by omega)).trans rfl))), ⟨_, _, ((hs_n (by omega)).trans hs_e), hs_e⟩⟩ (fun a9 h9 => ((hs_n (by omega)).trans ((hs_n (by omega)).trans rfl)))
              · rw [← ek, ← ec, ← es, ← ek2]; exact hT49
              · rw [← ek, ← ek2, ← ec2, ← es2]; exact hT67
              · rw [← ek, ← ec, ← es, ← ek2, ← ec2, ← es2]
                exact Or.inl ⟨j, by omega, by rw [← ea, ← eb]; exact c_105, rfl⟩
      exact lp84 ((14 : Int) + 1).toNat (0) (0) (by omega) rfl (Nat.zero_le _) (fun u hu => absurd hu (Nat.not_lt_zero u))
    · refine r_iconst (z := -1) dX10_same_14 ?_
      refine r_ireturn hq dX10_same_15 rfl rfl rfl ?_
      exact hQ _ h (Or.inl ⟨by omega, rfl⟩) hI (fun _ _ => rfl)
def SPmake (to w x y d : Int) (K : Nat → Nat) (C S : Nat → Nat → Int) (r : Int) (K2 : Nat → Nat) (C2 S2 : Nat → Nat → Int) : Prop := (¬ (0 ≤ to ∧ to ≤ 5 ∧ 0 ≤ w ∧ w ≤ 7 ∧ 0 ≤ x ∧ x ≤ 5 ∧ (w ≤ 3 → 0 ≤ y ∧ y ≤ 5) ∧ (w = 4 → 2 ≤ d ∧ d ≤ 6) ∧ (w = 6 → 0 ≤ d ∧ d ≤ 1000) ∧ (w = 7 → -1000 ≤ d ∧ d ≤ 1000)) ∧ r = -1 ∧ K2 = K ∧ C2 = C ∧ S2 = S) ∨ ((0 ≤ to ∧ to ≤ 5 ∧ 0 ≤ w ∧ w ≤ 7 ∧ 0 ≤ x ∧ x ≤ 5 ∧ (w ≤ 3 → 0 ≤ y ∧ y ≤ 5) ∧ (w = 4 → 2 ≤ d ∧ d ≤ 6) ∧ (w = 6 → 0 ≤ d ∧ d ≤ 1000) ∧ (w = 7 → -1000 ≤ d ∧ d ≤ 1000)) ∧ ∃ y2 : Nat, y2 < 6 ∧ (w ≤ 3 → y2 = y.toNat) ∧ (3 < w → y2 = x.toNat) ∧
  ((¬ (mOk w (K x.toNat) (K y2) d.toNat (C x.toNat) (C y2) ∧ sOk w (mK w (K x.toNat) (K y2)) (ex (K x.toNat) (C x.toNat) (S x.toNat)) (ex (K y2) (C y2) (S y2)) d) ∧ r = -3 ∧ K2 = K ∧ C2 = C ∧ S2 = S) ∨
   (mOk w (K x.toNat) (K y2) d.toNat (C x.toNat) (C y2) ∧ sOk w (mK w (K x.toNat) (K y2)) (ex (K x.toNat) (C x.toNat) (S x.toNat)) (ex (K y2) (C y2) (S y2)) d ∧ ∃ c3 s3 : Nat → Int, (∀ j, 1 ≤ j → j ≤ mK w (K x.toNat) (K y2) → c3 j = mLaw w (K x.toNat) (K y2) d.toNat (C x.toNat) (C y2) j) ∧ (∀ n, n < mK w (K x.toNat) (K y2) → s3 n = mNum w (ex (K x.toNat) (C x.toNat) (S x.toNat)) (ex (K y2) (C y2) (S y2)) d n) ∧ r = (mK w (K x.toNat) (K y2) : Int) ∧ K2 = upK K to.toNat (mK w (K x.toNat) (K y2)) ∧ C2 = upK C to.toNat c3 ∧ S2 = upK S to.toNat s3)))
set_option maxHeartbeats 8000000 in
set_option maxRecDepth 20000 in
theorem c_X10_make {N : Nat} {h : Hp} {Q : QP} {tb : Nat → Int} {ln : Nat} {K : Nat → Nat} {C S : Nat → Nat → Int} {p : Int} {vs : Nat → Int} {sz : Nat} {to w x y d : Int} (hI : CI h tb ln K C S p vs sz) (hN : 124 ≤ N) (ht : rI to) (hw : rI w) (hx : rI x) (hy : rI y) (hd : rI d) (hQ : ∀ (r : Int) (h2 : Hp) (K2 : Nat → Nat) (C2 S2 : Nat → Nat → Int), SPmake to w x y d K C S r K2 C2 S2 → CI h2 tb ln K2 C2 S2 p vs sz → OUT h h2 → Q (some (.int (iZ r))) N h2) : Runs mX10_make [.ref (0), .int (iZ (to)), .int (iZ (w)), .int (iZ (x)), .int (iZ (y)), .int (iZ (d))] N h Q := by
  obtain ⟨hO, hT, hR, hNu, hRs, hRd, hLg, hMk, hPt, hEx⟩ := id hI
  obtain ⟨rg, hR6, hRg⟩ := hR.1
  obtain ⟨kmo, kml, kms, koc, kos, kxn, kyn, kxp, kyp, hM1, hM2, hM2b, hM2c, hM3, hM4, hM5, hM6, hM7, hM8, hM9, hMa, hMb, hMc, hMd⟩ := id hMk
  refine run_start (own := RX10) rfl (by decide) (nle rfl) rfl (fun X hq hini => ?_)
  show G X RX10 cX10_make mX10_make.rm N 0 0 0 [some (.ref (0)), some (.int (iZ (to))), some (.int (iZ (w))), some (.int (iZ (x))), some (.int (iZ (y))), some (.int (iZ (d))), none] [] h
  refine r_iload_n dX10_make_0 rfl rfl ?_
  refine r_callS (av := [.int (iZ (to))]) dX10_make_1 lkX10_isRegister ml_X10_84 stX10_isRegister ⟨Nat.le_of_ble_eq_true rfl, Nat.le_of_ble_eq_true rfl⟩ rfl rfl (nle rfl) ⟨Nat.le_of_ble_eq_true rfl, Nat.le_of_ble_eq_true rfl⟩ (c_X10_isRegister (x := to) ht (fun b1 hb1 => ?_))
  show G _ _ _ _ _ _ _ 4 _ _ _
  refine r_if_eq 24 dX10_make_4 (by decide) (by rcases hb1 with ⟨y, _⟩ | ⟨y, _⟩ <;> exact ⟨by omega, by omega⟩) (fun c_4 => ?_) (fun c_4 => ?_)
  · refine r_iconst (z := -1) dX10_make_24 ?_
    refine r_ireturn hq dX10_make_25 rfl rfl rfl ?_
    exact hQ _ h K C S (Or.inl ⟨by omega, rfl, rfl, rfl, rfl⟩) hI (fun _ _ => rfl)
  · refine r_iload_n dX10_make_7 rfl rfl ?_
    refine r_iconst (z := 0) dX10_make_8 ?_
    refine r_bipush (z := 7) dX10_make_9 (by decide) ?_
    refine r_callS (av := [.int (iZ (w)), .int (iZ (0)), .int (iZ (7))]) dX10_make_11 lkX10_isIn ml_X10_100 stX10_isIn ⟨Nat.le_of_ble_eq_true rfl, Nat.le_of_ble_eq_true rfl⟩ rfl rfl (nle rfl) ⟨Nat.le_of_ble_eq_true rfl, Nat.le_of_ble_eq_true rfl⟩ (c_X10_isIn (x := w) (l := 0) (m := 7) hw ⟨by decide, by decide⟩ ⟨by decide, by decide⟩ (fun b11 hb11 => ?_))
    show G _ _ _ _ _ _ _ 14 _ _ _
    refine r_if_eq 24 dX10_make_14 (by decide) (by rcases hb11 with ⟨y, _⟩ | ⟨y, _⟩ <;> exact ⟨by omega, by omega⟩) (fun c_14 => ?_) (fun c_14 => ?_)
    · refine r_iconst (z := -1) dX10_make_24 ?_
      refine r_ireturn hq dX10_make_25 rfl rfl rfl ?_
      exact hQ _ h K C S (Or.inl ⟨by omega, rfl, rfl, rfl, rfl⟩) hI (fun _ _ => rfl)
    · refine r_iload_n dX10_make_17 rfl rfl ?_
      refine r_callS (av := [.int (iZ (x))]) dX10_make_18 lkX10_isRegister ml_X10_84 stX10_isRegister ⟨Nat.le_of_ble_eq_true rfl, Nat.le_of_ble_eq_true rfl⟩ rfl rfl (nle rfl) ⟨Nat.le_of_ble_eq_true rfl, Nat.le_of_ble_eq_true rfl⟩ (c_X10_isRegister (x := x) hx (fun b18 hb18 => ?_))
      show G _ _ _ _ _ _ _ 21 _ _ _
      refine r_if_ne 26 dX10_make_21 (by decide) (by rcases hb18 with ⟨y, _⟩ | ⟨y, _⟩ <;> exact ⟨by omega, by omega⟩) (fun c_21 => ?_) (fun c_21 => ?_)
      · refine r_iload_n dX10_make_26 rfl rfl ?_
        refine r_iconst (z := 3) dX10_make_27 ?_
        refine r_icmp_gt 35 dX10_make_28 (by decide) hw ⟨by decide, by decide⟩ (fun c_28 => ?_) (fun c_28 => ?_)
        · refine r_iconst (z := 0) dX10_make_35 ?_
          refine r_istore (L2 := [_, _, _, _, _, _, _]) dX10_make_36 (nlt rfl) rfl ?_
          refine r_iload dX10_make_38 rfl ?_
          refine r_if_eq 54 dX10_make_40 (by decide) ⟨by decide, by decide⟩ (fun c_40 => ?_) (fun c_40 => by exfalso; omega)
          refine r_iload_n dX10_make_54 rfl rfl ?_
          refine r_iload dX10_make_55 rfl ?_
          refine r_callS (av := [.int (iZ (w)), .int (iZ (d))]) dX10_make_57 lkX10_isMeasure ml_X10_190 stX10_isMeasure ⟨Nat.le_of_ble_eq_true rfl, Nat.le_of_ble_eq_true rfl⟩ rfl rfl (nle rfl) ⟨Nat.le_of_ble_eq_true rfl, Nat.le_of_ble_eq_true rfl⟩ (c_X10_isMeasure (w := w) (d := d) ⟨by omega, by omega⟩ hd (fun b57 hb57 => ?_))
          show G _ _ _ _ _ _ _ 60 _ _ _
          refine r_if_ne 65 dX10_make_60 (by decide) (by rcases hb57 with ⟨y, _⟩ | ⟨y, _⟩ <;> exact ⟨by omega, by omega⟩) (fun c_60 => ?_) (fun c_60 => ?_)
          · obtain ⟨k, c, s, ek, ec, es, hr, hrb⟩ := hR.get (i := x.toNat) (by omega)
            obtain ⟨hk1, hk6, hcb, hsb, hc0⟩ := id hrb
            refine r_aload_n dX10_make_65 rfl rfl ?_
            refine gf_X10_53 dX10_make_66 (by omega) hO rfl ?_
            refine r_iload_n dX10_make_69 rfl rfl ?_
            refine r_aload_n dX10_make_70 rfl rfl ?_
            refine gf_X10_18 dX10_make_71 (by omega) hO rfl ?_
            refine r_iload_n dX10_make_74 rfl rfl ?_
            refine r_aaload dX10_make_75 (by omega) hR6 (by decide) (by omega) (by omega) (by decide) (hRg _ (by omega)) ?_
            refine r_aload_n dX10_make_76 rfl rfl ?_
            refine gf_X10_18 dX10_make_77 (by omega) hO rfl ?_
            refine r_iload dX10_make_80 rfl ?_
            refine r_if_eq 90 dX10_make_82 (by decide) ⟨by decide, by decide⟩ (fun c_82 => ?_) (fun c_82 => by exfalso; omega)
            refine r_iload_n dX10_make_90 rfl rfl ?_
            refine r_aaload dX10_make_91 (by omega) hR6 (by decide) (by omega) (by omega) (by decide) (hRg _ (by omega)) ?_
            refine r_iload dX10_make_92 rfl ?_
            refine r_callV (av := [.int (iZ (w)), .ref (106 + 3 * x.toNat), .ref (106 + 3 * x.toNat), .int (iZ (d))]) dX10_make_94 lkX1_build ml_X10_193 imX1_build seX1_build (by omega) (rfl : vwCl[1]? = _) ⟨_, hM1⟩ ⟨Nat.le_of_ble_eq_true rfl, Nat.le_of_ble_eq_true rfl⟩ rfl rfl (nle rfl) ⟨Nat.le_of_ble_eq_true rfl, Nat.le_of_ble_eq_true rfl⟩ (c_X1_build (q := 76) (r := 106 + 3 * x.toNat) (r2 := 106 + 3 * x.toNat) (k := k) (l := k) (what := w) (ddi := d) (c := c) (s := s) (d := c) (t := s) hM1 (by omega) hM2 hM2b hM3 hMc hMd hMa hMb (RowAt.to hr.1 hr.2.1 hr.2.2) (by omega) (by omega) hk1 hk6 hcb hsb (RowAt.to hr.1 hr.2.1 hr.2.2) (by omega) (by omega) hk1 hk6 hcb hsb (RowAt.to hM6.1 hM6.2.1 hM6.2.2) hM7 hM8 hM9 (by omega) (by omega) (by omega) hM2c hM4 hc0 hM5 (by omega) (by omega) (fun b94 mo8 m8 s8 x8 y8 x7 y7 hm80 hm8b hs8b hb94 => ?_))
            show G _ _ _ _ _ _ _ 97 _ _ _
            refine r_if_ne 103 dX10_make_97 (by decide) (by rcases hb94 with ⟨y, _⟩ | ⟨y, _⟩ <;> exact ⟨by omega, by omega⟩) (fun c_97 => ?_) (fun c_97 => ?_)
            · obtain ⟨hmo, hso, emo, hlaw, hnum⟩ : mOk w k k d.toNat c c ∧ sOk w (mK w k k) (ex k c s) (ex k c s) d ∧ mo8 = (mK w k k : Int) ∧ (∀ j, 1 ≤ j → j ≤ mK w k k → m8 j = mLaw w k k d.toNat c c j) ∧ (∀ n, n < mK w k k → s8 n = mNum w (ex k c s) (ex k c s) d n) := by
                rcases hb94 with ⟨_, y⟩ | ⟨y, _⟩
                · exact y
                · exact absurd y c_97
              subst emo
              have hmK := mK_in (l := k) (dd := d.toNat) (c := c) (d := c) hk1 hk6 hk1 hmo
              obtain ⟨k3, c3, s3, ek3, ec3, es3, hr3, hrb3⟩ := hR.get (i := to.toNat) (by omega)
              refine r_aload_n dX10_make_103 rfl rfl ?_
              refine gf_X10_18 dX10_make_104 (by omega) ((hs_n (by omega)).trans ((hs_n (by omega)).trans ((hs_n (by omega)).trans ((hs_n (by omega)).trans ((hs_n (by omega)).trans ((hs_n (by omega)).trans ((hs_n (by omega)).trans hO))))))) rfl ?_
              refine r_iload_n dX10_make_107 rfl rfl ?_
              refine r_aaload dX10_make_108 (by omega) ((hs_n (by omega)).trans ((hs_n (by omega)).trans ((hs_n (by omega)).trans ((hs_n (by omega)).trans ((hs_n (by omega)).trans ((hs_n (by omega)).trans ((hs_n (by omega)).trans hR6))))))) (by decide) (by omega) (by omega) (by decide) (hRg _ (by omega)) ?_
              refine r_aload_n dX10_make_109 rfl rfl ?_
              refine gf_X10_53 dX10_make_110 (by omega) ((hs_n (by omega)).trans ((hs_n (by omega)).trans ((hs_n (by omega)).trans ((hs_n (by omega)).trans ((hs_n (by omega)).trans ((hs_n (by omega)).trans ((hs_n (by omega)).trans hO))))))) rfl ?_
              refine gf_X10_197 dX10_make_113 (by omega) ((hs_n (by omega)).trans ((hs_n (by omega)).trans ((hs_n (by omega)).trans ((hs_n (by omega)).trans ((hs_n (by omega)).trans ((hs_n (by omega)).trans ((hs_n (by omega)).trans hM1))))))) rfl ?_
              refine r_callV (av := [.ref (76 + 1)]) dX10_make_116 lkX7_become ml_X10_92 imX7_become seX7_become (by omega) (rfl : vwCl[7]? = _) ⟨_, ((hs_n (by omega)).trans ((hs_n (by omega)).trans ((hs_n (by omega)).trans ((hs_n (by omega)).trans ((hs_n (by omega)).trans ((hs_n (by omega)).trans ((hs_n (by omega)).trans hr3.1)))))))⟩ ⟨Nat.le_of_ble_eq_true rfl, Nat.le_of_ble_eq_true rfl⟩ rfl rfl (nle rfl) ⟨Nat.le_of_ble_eq_true rfl, Nat.le_of_ble_eq_true rfl⟩ (c_X7_become (r := 106 + 3 * to.toNat) (o := 76 + 1) (k := k3) (k2 := mK w k k) (c := c3) (s := s3) (c2 := m8) (s2 := s8) (RowAt.to ((hs_n (by omega)).trans ((hs_n (by omega)).trans ((hs_n (by omega)).trans ((hs_n (by omega)).trans ((hs_n (by omega)).trans ((hs_n (by omega)).trans ((hs_n (by omega)).trans hr3.1))))))) ((hs_n (by omega)).trans ((hs_n (by omega)).trans ((hs_n (by omega)).trans ((hs_n (by omega)).trans ((hs_n (by omega)).trans ((hs_n (by omega)).trans ((hs_n (by omega)).trans hr3.2.1))))))) ((hs_n (by omega)).trans ((hs_n (by omega)).trans ((hs_n (by omega)).trans ((hs_n (by omega)).trans ((hs_n (by omega)).trans ((hs_n (by omega)).trans ((hs_n (by omega)).trans hr3.2.2)))))))) (RowAt.to ((hs_n (by omega)).trans ((hs_n (by omega)).trans ((hs_n (by omega)).trans ((hs_n (by omega)).trans hs_e)))) ((hs_n (by omega)).trans ((hs_n (by omega)).trans ((hs_n (by omega)).trans hs_e))) ((hs_n (by omega)).trans ((hs_n (by omega)).trans hs_e))) (by omega) (by omega) (by omega) (fun bc116 bs116 hbc116 hbs116 => ?_))
              show G _ _ _ _ _ _ _ 119 _ _ _
              refine r_aload_n dX10_make_119 rfl rfl ?_
              refine gf_X10_18 dX10_make_120 (by omega) ((hs_n (by omega)).trans ((hs_n (by omega)).trans ((hs_n (by omega)).trans ((hs_n (by omega)).trans ((hs_n (by omega)).trans ((hs_n (by omega)).trans ((hs_n (by omega)).trans ((hs_n (by omega)).trans ((hs_n (by omega)).trans ((hs_n (by omega)).trans hO)))))))))) rfl ?_
              refine r_iload_n dX10_make_123 rfl rfl ?_
              refine r_aaload dX10_make_124 (by omega) ((hs_n (by omega)).trans ((hs_n (by omega)).trans ((hs_n (by omega)).trans ((hs_n (by omega)).trans ((hs_n (by omega)).trans ((hs_n (by omega)).trans ((hs_n (by omega)).trans ((hs_n (by omega)).trans ((hs_n (by omega)).trans ((hs_n (by omega)).trans hR6)))))))))) (by decide) (by omega) (by omega) (by decide) (hRg _ (by omega)) ?_
              refine gf_X10_96 dX10_make_125 (by omega) ((hs_n (by omega)).trans ((hs_n (by omega)).trans hs_e)) rfl ?_
              refine r_ireturn hq dX10_make_128 rfl rfl rfl ?_
              refine hQ _ _ (upK K to.toNat (mK w k k)) (upK C to.toNat bc116) (upK S to.toNat bs116) (Or.inr ⟨⟨by omega, by omega, by omega, by omega, by omega, by omega, by omega, by omega, by omega, by omega⟩, x.toNat, by omega, by omega, by omega, Or.inr ?_⟩) ⟨hO.cg (fun a9 h8 h9 => ((hs_n (by omega)).trans ((hs_n (by omega)).trans ((hs_n (by omega)).trans ((hs_n (by omega)).trans ((hs_n (by omega)).trans ((hs_n (by omega)).trans ((hs_n (by omega)).trans ((hs_n (by omega)).trans ((hs_n (by omega)).trans ((hs_n (by omega)).trans rfl))))))))))), hT.cg (fun a9 h8 h9 => ((hs_n (by omega)).trans ((hs_n (by omega)).trans ((hs_n (by omega)).trans ((hs_n (by omega)).trans ((hs_n (by omega)).trans ((hs_n (by omega)).trans ((hs_n (by omega)).trans ((hs_n (by omega)).trans ((hs_n (by omega)).trans ((hs_n (by omega)).trans rfl))))))))))), (hR.up (by omega) ((hs_n (by omega)).trans ((hs_n (by omega)).trans ((hs_n (by omega)).trans ((hs_n (by omega)).trans ((hs_n (by omega)).trans ((hs_n (by omega)).trans ((hs_n (by omega)).trans ((hs_n (by omega)).trans ((hs_n (by omega)).trans ((hs_n (by omega)).trans rfl)))))))))) (RowAt.to ((hs_n (by omega)).trans ((hs_n (by omega)).trans hs_e)) ((hs_n (by omega)).trans hs_e) hs_e) ⟨hmK.1, hmK.2, fun j hj => by rw [hbc116 j hj]; exact hm8b j hj, fun j hj => by rw [hbs116 j hj]; exact hs8b j hj, by rw [hbc116 0 (by omega)]; exact hm80⟩ (fun a9 h7 h8 h9 => ((hs_n (by omega)).trans ((hs_n (by omega)).trans ((hs_n (by omega)).trans ((hs_n (by omega)).trans ((hs_n (by omega)).trans ((hs_n (by omega)).trans ((hs_n (by omega)).trans ((hs_n (by omega)).trans ((hs_n (by omega)).trans ((hs_n (by omega)).trans rfl)))))))))))), hNu.cg (fun a9 h8 h9 => ((hs_n (by omega)).trans ((hs_n (by omega)).trans ((hs_n (by omega)).trans ((hs_n (by omega)).trans ((hs_n (by omega)).trans ((hs_n (by omega)).trans ((hs_n (by omega)).trans ((hs_n (by omega)).trans ((hs_n (by omega)).trans ((hs_n (by omega)).trans rfl))))))))))), hRs.cg (fun a9 h8 h9 => ((hs_n (by omega)).trans ((hs_n (by omega)).trans ((hs_n (by omega)).trans ((hs_n (by omega)).trans ((hs_n (by omega)).trans ((hs_n (by omega)).trans ((hs_n (by omega)).trans ((hs_n (by omega)).trans ((hs_n (by omega)).trans ((hs_n (by omega)).trans rfl))))))))))), hRd.cg (fun a9 h8 h9 => ((hs_n (by omega)).trans ((hs_n (by omega)).trans ((hs_n (by omega)).trans ((hs_n (by omega)).trans ((hs_n (by omega)).trans ((hs_n (by omega)).trans ((hs_n (by omega)).trans ((hs_n (by omega)).trans ((hs_n (by omega)).trans ((hs_n (by omega)).trans rfl))))))))))), hLg.cg (fun a9 h8 h9 => ((hs_n (by omega)).trans ((hs_n (by omega)).trans ((hs_n (by omega)).trans ((hs_n (by omega)).trans ((hs_n (by omega)).trans ((hs_n (by omega)).trans ((hs_n (by omega)).trans ((hs_n (by omega)).trans ((hs_n (by omega)).trans ((hs_n (by omega)).trans rfl))))))))))), ⟨_, _, _, _, _, _, _, _, _, ((hs_n (by omega)).trans ((hs_n (by omega)).trans ((hs_n (by omega)).trans ((hs_n (by omega)).trans ((hs_n (by omega)).trans ((hs_n (by omega)).trans ((hs_n (by omega)).trans ((hs_n (by omega)).trans ((hs_n (by omega)).trans ((hs_n (by omega)).trans hM1)))))))))), ((hs_n (by omega)).trans ((hs_n (by omega)).trans ((hs_n (by omega)).trans ((hs_n (by omega)).trans ((hs_n (by omega)).trans ((hs_n (by omega)).trans ((hs_n (by omega)).trans hs_e))))))), ((hs_n (by omega)).trans ((hs_n (by omega)).trans ((hs_n (by omega)).trans ((hs_n (by omega)).trans ((hs_n (by omega)).trans ((hs_n (by omega)).trans hs_e)))))), ((hs_n (by omega)).trans ((hs_n (by omega)).trans ((hs_n (by omega)).trans ((hs_n (by omega)).trans ((hs_n (by omega)).trans hs_e))))), hm8b, hs8b, hm80, (RowAt.to ((hs_n (by omega)).trans ((hs_n (by omega)).trans ((hs_n (by omega)).trans ((hs_n (by omega)).trans ((hs_n (by omega)).trans ((hs_n (by omega)).trans ((hs_n (by omega)).trans ((hs_n (by omega)).trans ((hs_n (by omega)).trans ((hs_n (by omega)).trans hM6.1)))))))))) ((hs_n (by omega)).trans ((hs_n (by omega)).trans ((hs_n (by omega)).trans ((hs_n (by omega)).trans ((hs_n (by omega)).trans ((hs_n (by omega)).trans ((hs_n (by omega)).trans ((hs_n (by omega)).trans ((hs_n (by omega)).trans ((hs_n (by omega)).trans hM6.2.1)))))))))) ((hs_n (by omega)).trans ((hs_n (by omega)).trans ((hs_n (by omega)).trans ((hs_n (by omega)).trans ((hs_n (by omega)).trans ((hs_n (by omega)).trans ((hs_n (by omega)).trans ((hs_n (by omega)).trans ((hs_n (by omega)).trans ((hs_n (by omega)).trans hM6.2.2))))))))))), hM7, hM8, hM9, ((hs_n (by omega)).trans ((hs_n (by omega)).trans ((hs_n (by omega)).trans ((hs_n (by omega)).trans hs_e)))), ((hs_n (by omega)).trans ((hs_n (by omega)).trans ((hs_n (by omega)).trans hs_e))), ((hs_n (by omega)).trans ((hs_n (by omega)).trans ((hs_n (by omega)).trans ((hs_n (by omega)).trans ((hs_n (by omega)).trans ((hs_n (by omega)).trans ((hs_n (by omega)).trans ((hs_n (by omega)).trans ((hs_n (by omega)).trans hs_e))))))))), ((hs_n (by omega)).trans ((hs_n (by omega)).trans ((hs_n (by omega)).trans ((hs_n (by omega)).trans ((hs_n (by omega)).trans ((hs_n (by omega)).trans ((hs_n (by omega)).trans ((hs_n (by omega)).trans hs_e))))))))⟩, hPt.cg (fun a9 h8 h9 => ((hs_n (by omega)).trans ((hs_n (by omega)).trans ((hs_n (by omega)).trans ((hs_n (by omega)).trans ((hs_n (by omega)).trans ((hs_n (by omega)).trans ((hs_n (by omega)).trans ((hs_n (by omega)).trans ((hs_n (by omega)).trans ((hs_n (by omega)).trans rfl))))))))))), hEx.cg (fun a9 h8 h9 => ((hs_n (by omega)).trans ((hs_n (by omega)).trans ((hs_n (by omega)).trans ((hs_n (by omega)).trans ((hs_n (by omega)).trans ((hs_n (by omega)).trans ((hs_n (by omega)).trans ((hs_n (by omega)).trans ((hs_n (by omega)).trans ((hs_n (by omega)).trans rfl)))))))))))⟩ (fun a9 h9 => ((hs_n (by omega)).trans ((hs_n (by omega)).trans ((hs_n (by omega)).trans ((hs_n (by omega)).trans ((hs_n (by omega)).trans ((hs_n (by omega)).trans ((hs_n (by omega)).trans ((hs_n (by omega)).trans ((hs_n (by omega)).trans ((hs_n (by omega)).trans rfl)))))))))))
              rw [← ek, ← ec, ← es]
              exact ⟨hmo, hso, bc116, bs116, fun j a b => (hbc116 j (by have := hmK.2; omega)).trans (hlaw j a b), fun n a => (hbs116 n (by have := hmK.2; omega)).trans (hnum n a), rfl, rfl, rfl, rfl⟩
            · refine r_bipush (z := -3) dX10_make_100 (by decide) ?_
              refine r_ireturn hq dX10_make_102 rfl rfl rfl ?_
              have hno : ¬ (mOk w k k d.toNat c c ∧ sOk w (mK w k k) (ex k c s) (ex k c s) d) := by
                rcases hb94 with ⟨y, _⟩ | ⟨_, y⟩
                · omega
                · exact y
              refine hQ _ _ K C S (Or.inr ⟨⟨by omega, by omega, by omega, by omega, by omega, by omega, by omega, by omega, by omega, by omega⟩, x.toNat, by omega, by omega, by omega, Or.inl ⟨by rw [← ek, ← ec, ← es]; exact hno, rfl, rfl, rfl, rfl⟩⟩) ⟨hO.cg (fun a9 h8 h9 => ((hs_n (by omega)).trans ((hs_n (by omega)).trans ((hs_n (by omega)).trans ((hs_n (by omega)).trans ((hs_n (by omega)).trans ((hs_n (by omega)).trans ((hs_n (by omega)).trans rfl)))))))), hT.cg (fun a9 h8 h9 => ((hs_n (by omega)).trans ((hs_n (by omega)).trans ((hs_n (by omega)).trans ((hs_n (by omega)).trans ((hs_n (by omega)).trans ((hs_n (by omega)).trans ((hs_n (by omega)).trans rfl)))))))), hR.cg ((hs_n (by omega)).trans ((hs_n (by omega)).trans ((hs_n (by omega)).trans ((hs_n (by omega)).trans ((hs_n (by omega)).trans ((hs_n (by omega)).trans ((hs_n (by omega)).trans rfl))))))) (fun a9 h8 h9 => ((hs_n (by omega)).trans ((hs_n (by omega)).trans ((hs_n (by omega)).trans ((hs_n (by omega)).trans ((hs_n (by omega)).trans ((hs_n (by omega)).trans ((hs_n (by omega)).trans rfl)))))))), hNu.cg (fun a9 h8 h9 => ((hs_n (by omega)).trans ((hs_n (by omega)).trans ((hs_n (by omega)).trans ((hs_n (by omega)).trans ((hs_n (by omega)).trans ((hs_n (by omega)).trans ((hs_n (by omega)).trans rfl)))))))), hRs.cg (fun a9 h8 h9 => ((hs_n (by omega)).trans ((hs_n (by omega)).trans ((hs_n (by omega)).trans ((hs_n (by omega)).trans ((hs_n (by omega)).trans ((hs_n (by omega)).trans ((hs_n (by omega)).trans rfl)))))))), hRd.cg (fun a9 h8 h9 => ((hs_n (by omega)).trans ((hs_n (by omega)).trans ((hs_n (by omega)).trans ((hs_n (by omega)).trans ((hs_n (by omega)).trans ((hs_n (by omega)).trans ((hs_n (by omega)).trans rfl)))))))), hLg.cg (fun a9 h8 h9 => ((hs_n (by omega)).trans ((hs_n (by omega)).trans ((hs_n (by omega)).trans ((hs_n (by omega)).trans ((hs_n (by omega)).trans ((hs_n (by omega)).trans ((hs_n (by omega)).trans rfl)))))))), ⟨_, _, _, _, _, _, _, _, _, ((hs_n (by omega)).trans ((hs_n (by omega)).trans ((hs_n (by omega)).trans ((hs_n (by omega)).trans ((hs_n (by omega)).trans ((hs_n (by omega)).trans ((hs_n (by omega)).trans hM1))))))), ((hs_n (by omega)).trans ((hs_n (by omega)).trans ((hs_n (by omega)).trans ((hs_n (by omega)).trans hs_e)))), ((hs_n (by omega)).trans ((hs_n (by omega)).trans ((hs_n (by omega)).trans hs_e))), ((hs_n (by omega)).trans ((hs_n (by omega)).trans hs_e)), hm8b, hs8b, hm80, (RowAt.to ((hs_n (by omega)).trans ((hs_n (by omega)).trans ((hs_n (by omega)).trans ((hs_n (by omega)).trans ((hs_n (by omega)).trans ((hs_n (by omega)).trans ((hs_n (by omega)).trans hM6.1))))))) ((hs_n (by omega)).trans ((hs_n (by omega)).trans ((hs_n (by omega)).trans ((hs_n (by omega)).trans ((hs_n (by omega)).trans ((hs_n (by omega)).trans ((hs_n (by omega)).trans hM6.2.1))))))) ((hs_n (by omega)).trans ((hs_n (by omega)).trans ((hs_n (by omega)).trans ((hs_n (by omega)).trans ((hs_n (by omega)).trans ((hs_n (by omega)).trans ((hs_n (by omega)).trans hM6.2.2)))))))), hM7, hM8, hM9, ((hs_n (by omega)).trans hs_e), hs_e, ((hs_n (by omega)).trans ((hs_n (by omega)).trans ((hs_n (by omega)).trans ((hs_n (by omega)).trans ((hs_n (by omega)).trans ((hs_n (by omega)).trans hs_e)))))), ((hs_n (by omega)).trans ((hs_n (by omega)).trans ((hs_n (by omega)).trans ((hs_n (by omega)).trans ((hs_n (by omega)).trans hs_e)))))⟩, hPt.cg (fun a9 h8 h9 => ((hs_n (by omega)).trans ((hs_n (by omega)).trans ((hs_n (by omega)).trans ((hs_n (by omega)).trans ((hs_n (by omega)).trans ((hs_n (by omega)).trans ((hs_n (by omega)).trans rfl)))))))), hEx.cg (fun a9 h8 h9 => ((hs_n (by omega)).trans ((hs_n (by omega)).trans ((hs_n (by omega)).trans ((hs_n (by omega)).trans ((hs_n (by omega)).trans ((hs_n (by omega)).trans ((hs_n (by omega)).trans rfl))))))))⟩ (fun a9 h9 => ((hs_n (by omega)).trans ((hs_n (by omega)).trans ((hs_n (by omega)).trans ((hs_n (by omega)).trans ((hs_n (by omega)).trans ((hs_n (by omega)).trans ((hs_n (by omega)).trans rfl))))))))
          · refine r_iconst (z := -1) dX10_make_63 ?_
            refine r_ireturn hq dX10_make_64 rfl rfl rfl ?_
            exact hQ _ h K C S (Or.inl ⟨by omega, rfl, rfl, rfl, rfl⟩) hI (fun _ _ => rfl)
        · refine r_iconst (z := 1) dX10_make_31 ?_
          refine r_goto 36 dX10_make_32 (by decide) ?_
          refine r_istore (L2 := [_, _, _, _, _, _, _]) dX10_make_36 (nlt rfl) rfl ?_
          refine r_iload dX10_make_38 rfl ?_
          refine r_if_eq 54 dX10_make_40 (by decide) ⟨by decide, by decide⟩ (fun c_40 => by exfalso; omega) (fun c_40 => ?_)
          refine r_iload dX10_make_43 rfl ?_
          refine r_callS (av := [.int (iZ (y))]) dX10_make_45 lkX10_isRegister ml_X10_84 stX10_isRegister ⟨Nat.le_of_ble_eq_true rfl, Nat.le_of_ble_eq_true rfl⟩ rfl rfl (nle rfl) ⟨Nat.le_of_ble_eq_true rfl, Nat.le_of_ble_eq_true rfl⟩ (c_X10_isRegister (x := y) hy (fun b45 hb45 => ?_))
          show G _ _ _ _ _ _ _ 48 _ _ _
          refine r_if_ne 65 dX10_make_48 (by decide) (by rcases hb45 with ⟨y, _⟩ | ⟨y, _⟩ <;> exact ⟨by omega, by omega⟩) (fun c_48 => ?_) (fun c_48 => ?_)
          · obtain ⟨k, c, s, ek, ec, es, hr, hrb⟩ := hR.get (i := x.toNat) (by omega)
            obtain ⟨hk1, hk6, hcb, hsb, hc0⟩ := id hrb
            obtain ⟨k2, c2, s2, ek2, ec2, es2, hr2, hrb2⟩ := hR.get (i := y.toNat) (by omega)
            obtain ⟨hk12, hk62, hcb2, hsb2, hc02⟩ := id hrb2
            refine r_aload_n dX10_make_65 rfl rfl ?_
            refine gf_X10_53 dX10_make_66 (by omega) hO rfl ?_
            refine r_iload_n dX10_make_69 rfl rfl ?_
            refine r_aload_n dX10_make_70 rfl rfl ?_
            refine gf_X10_18 dX10_make_71 (by omega) hO rfl ?_
            refine r_iload_n dX10_make_74 rfl rfl ?_
            refine r_aaload dX10_make_75 (by omega) hR6 (by decide) (by omega) (by omega) (by decide) (hRg _ (by omega)) ?_
            refine r_aload_n dX10_make_76 rfl rfl ?_
            refine gf_X10_18 dX10_make_77 (by omega) hO rfl ?_
            refine r_iload dX10_make_80 rfl ?_
            refine r_if_eq 90 dX10_make_82 (by decide) ⟨by decide, by decide⟩ (fun c_82 => by exfalso; omega) (fun c_82 => ?_)
            refine r_iload dX10_make_85 rfl ?_
            refine r_goto 91 dX10_make_87 (by decide) ?_
            refine r_aaload dX10_make_91 (by omega) hR6 (by decide) (by omega) (by omega) (by decide) (hRg _ (by omega)) ?_
            refine r_iload dX10_make_92 rfl ?_
            refine r_callV (av := [.int (iZ (w)), .ref (106 + 3 * x.toNat), .ref (106 + 3 * y.toNat), .int (iZ (d))]) dX10_make_94 lkX1_build ml_X10_193 imX1_build seX1_build (by omega) (rfl : vwCl[1]? = _) ⟨_, hM1⟩ ⟨Nat.le_of_ble_eq_true rfl, Nat.le_of_ble_eq_true rfl⟩ rfl rfl (nle rfl) ⟨Nat.le_of_ble_eq_true rfl, Nat.le_of_ble_eq_true rfl⟩ (c_X1_build (q := 76) (r := 106 + 3 * x.toNat) (r2 := 106 + 3 * y.toNat) (k := k) (l := k2) (what := w) (ddi := d) (c := c) (s := s) (d := c2) (t := s2) hM1 (by omega) hM2 hM2b hM3 hMc hMd hMa hMb (RowAt.to hr.1 hr.2.1 hr.2.2) (by omega) (by omega) hk1 hk6 hcb hsb (RowAt.to hr2.1 hr2.2.1 hr2.2.2) (by omega) (by omega) hk12 hk62 hcb2 hsb2 (RowAt.to hM6.1 hM6.2.1 hM6.2.2) hM7 hM8 hM9 (by omega) (by omega) (by omega) hM2c hM4 hc0 hM5 (by omega) (by omega) (fun b94 mo8 m8 s8 x8 y8 x7 y7 hm80 hm8b hs8b hb94 => ?_))
            show G _ _ _ _ _ _ _ 97 _ _ _
            refine r_if_ne 103 dX10_make_97 (by decide) (by rcases hb94 with ⟨y, _⟩ | ⟨y, _⟩ <;> exact ⟨by omega, by omega⟩) (fun c_97 => ?_) (fun c_97 => ?_)
            · obtain ⟨hmo, hso, emo, hlaw, hnum⟩ : mOk w k k2 d.toNat c c2 ∧ sOk w (mK w k k2) (ex k c s) (ex k2 c2 s2) d ∧ mo8 = (mK w k k2 : Int) ∧ (∀ j, 1 ≤ j → j ≤ mK w k k2 → m8 j = mLaw w k k2 d.toNat c c2 j) ∧ (∀ n, n < mK w k k2 → s8 n = mNum w (ex k c s) (ex k2 c2 s2) d n) := by
                rcases hb94 with ⟨_, y⟩ | ⟨y, _⟩
                · exact y
                · exact absurd y c_97
              subst emo
              have hmK := mK_in (l := k2) (dd := d.toNat) (c := c) (d := c2) hk1 hk6 hk12 hmo
              obtain ⟨k3, c3, s3, ek3, ec3, es3, hr3, hrb3⟩ := hR.get (i := to.toNat) (by omega)
              refine r_aload_n dX10_make_103 rfl rfl ?_
              refine gf_X10_18 dX10_make_104 (by omega) ((hs_n (by omega)).trans ((hs_n (by omega)).trans ((hs_n (by omega)).trans ((hs_n (by omega)).trans ((hs_n (by omega)).trans ((hs_n (by omega)).trans ((hs_n (by omega)).trans hO))))))) rfl ?_
              refine r_iload_n dX10_make_107 rfl rfl ?_
              refine r_aaload dX10_make_108 (by omega) ((hs_n (by omega)).trans ((hs_n (by omega)).trans ((hs_n (by omega)).trans ((hs_n (by omega)).trans ((hs_n (by omega)).trans ((hs_n (by omega)).trans ((hs_n (by omega)).trans hR6))))))) (by decide) (by omega) (by omega) (by decide) (hRg _ (by omega)) ?_
              refine r_aload_n dX10_make_109 rfl rfl ?_
              refine gf_X10_53 dX10_make_110 (by omega) ((hs_n (by omega)).trans ((hs_n (by omega)).trans ((hs_n (by omega)).trans ((hs_n (by omega)).trans ((hs_n (by omega)).trans ((hs_n (by omega)).trans ((hs_n (by omega)).trans hO))))))) rfl ?_
              refine gf_X10_197 dX10_make_113 (by omega) ((hs_n (by omega)).trans ((hs_n (by omega)).trans ((hs_n (by omega)).trans ((hs_n (by omega)).trans ((hs_n (by omega)).trans ((hs_n (by omega)).trans ((hs_n (by omega)).trans hM1))))))) rfl ?_
              refine r_callV (av := [.ref (76 + 1)]) dX10_make_116 lkX7_become ml_X10_92 imX7_become seX7_become (by omega) (rfl : vwCl[7]? = _) ⟨_, ((hs_n (by omega)).trans ((hs_n (by omega)).trans ((hs_n (by omega)).trans ((hs_n (by omega)).trans ((hs_n (by omega)).trans ((hs_n (by omega)).trans ((hs_n (by omega)).trans hr3.1)))))))⟩ ⟨Nat.le_of_ble_eq_true rfl, Nat.le_of_ble_eq_true rfl⟩ rfl rfl (nle rfl) ⟨Nat.le_of_ble_eq_true rfl, Nat.le_of_ble_eq_true rfl⟩ (c_X7_become (r := 106 + 3 * to.toNat) (o := 76 + 1) (k := k3) (k2 := mK w k k2) (c := c3) (s := s3) (c2 := m8) (s2 := s8) (RowAt.to ((hs_n (by omega)).trans ((hs_n (by omega)).trans ((hs_n (by omega)).trans ((hs_n (by omega)).trans ((hs_n (by omega)).trans ((hs_n (by omega)).trans ((hs_n (by omega)).trans hr3.1))))))) ((hs_n (by omega)).trans ((hs_n (by omega)).trans ((hs_n (by omega)).trans ((hs_n (by omega)).trans ((hs_n (by omega)).trans ((hs_n (by omega)).trans ((hs_n (by omega)).trans hr3.2.1))))))) ((hs_n (by omega)).trans ((hs_n (by omega)).trans ((hs_n (by omega)).trans ((hs_n (by omega)).trans ((hs_n (by omega)).trans ((hs_n (by omega)).trans ((hs_n (by omega)).trans hr3.2.2)))))))) (RowAt.to ((hs_n (by omega)).trans ((hs_n (by omega)).trans ((hs_n (by omega)).trans ((hs_n (by omega)).trans hs_e)))) ((hs_n (by omega)).trans ((hs_n (by omega)).trans ((hs_n (by omega)).trans hs_e))) ((hs_n (by omega)).trans ((hs_n (by omega)).trans hs_e))) (by omega) (by omega) (by omega) (fun bc116 bs116 hbc116 hbs116 => ?_))
              show G _ _ _ _ _ _ _ 119 _ _ _
              refine r_aload_n dX10_make_119 rfl rfl ?_
              refine gf_X10_18 dX10_make_120 (by omega) ((hs_n (by omega)).trans ((hs_n (by omega)).trans ((hs_n (by omega)).trans ((hs_n (by omega)).trans ((hs_n (by omega)).trans ((hs_n (by omega)).trans ((hs_n (by omega)).trans ((hs_n (by omega)).trans ((hs_n (by omega)).trans ((hs_n (by omega)).trans hO)))))))))) rfl ?_
              refine r_iload_n dX10_make_123 rfl rfl ?_
              refine r_aaload dX10_make_124 (by omega) ((hs_n (by omega)).trans ((hs_n (by omega)).trans ((hs_n (by omega)).trans ((hs_n (by omega)).trans ((hs_n (by omega)).trans ((hs_n (by omega)).trans ((hs_n (by omega)).trans ((hs_n (by omega)).trans ((hs_n (by omega)).trans ((hs_n (by omega)).trans hR6)))))))))) (by decide) (by omega) (by omega) (by decide) (hRg _ (by omega)) ?_
              refine gf_X10_96 dX10_make_125 (by omega) ((hs_n (by omega)).trans ((hs_n (by omega)).trans hs_e)) rfl ?_
              refine r_ireturn hq dX10_make_128 rfl rfl rfl ?_
              refine hQ _ _ (upK K to.toNat (mK w k k2)) (upK C to.toNat bc116) (upK S to.toNat bs116) (Or.inr ⟨⟨by omega, by omega, by omega, by omega, by omega, by omega, by omega, by omega, by omega, by omega⟩, y.toNat, by omega, by omega, by omega, Or.inr ?_⟩) ⟨hO.cg (fun a9 h8 h9 => ((hs_n (by omega)).trans ((hs_n (by omega)).trans ((hs_n (by omega)).trans ((hs_n (by omega)).trans ((hs_n (by omega)).trans ((hs_n (by omega)).trans ((hs_n (by omega)).trans ((hs_n (by omega)).trans ((hs_n (by omega)).trans ((hs_n (by omega)).trans rfl))))))))))), hT.cg (fun a9 h8 h9 => ((hs_n (by omega)).trans ((hs_n (by omega)).trans ((hs_n (by omega)).trans ((hs_n (by omega)).trans ((hs_n (by omega)).trans ((hs_n (by omega)).trans ((hs_n (by omega)).trans ((hs_n (by omega)).trans ((hs_n (by omega)).trans ((hs_n (by omega)).trans rfl))))))))))), (hR.up (by omega) ((hs_n (by omega)).trans ((hs_n (by omega)).trans ((hs_n (by omega)).trans ((hs_n (by omega)).trans ((hs_n (by omega)).trans ((hs_n (by omega)).trans ((hs_n (by omega)).trans ((hs_n (by omega)).trans ((hs_n (by omega)).trans ((hs_n (by omega)).trans rfl)))))))))) (RowAt.to ((hs_n (by omega)).trans ((hs_n (by omega)).trans hs_e)) ((hs_n (by omega)).trans hs_e) hs_e) ⟨hmK.1, hmK.2, fun j hj => by rw [hbc116 j hj]; exact hm8b j hj, fun j hj => by rw [hbs116 j hj]; exact hs8b j hj, by rw [hbc116 0 (by omega)]; exact hm80⟩ (fun a9 h7 h8 h9 => ((hs_n (by omega)).trans ((hs_n (by omega)).trans ((hs_n (by omega)).trans ((hs_n (by omega)).trans ((hs_n (by omega)).trans ((hs_n (by omega)).trans ((hs_n (by omega)).trans ((hs_n (by omega)).trans ((hs_n (by omega)).trans ((hs_n (by omega)).trans rfl)))))))))))), hNu.cg (fun a9 h8 h9 => ((hs_n (by omega)).trans ((hs_n (by omega)).trans ((hs_n (by omega)).trans ((hs_n (by omega)).trans ((hs_n (by omega)).trans ((hs_n (by omega)).trans ((hs_n (by omega)).trans ((hs_n (by omega)).trans ((hs_n (by omega)).trans ((hs_n (by omega)).trans rfl))))))))))), hRs.cg (fun a9 h8 h9 => ((hs_n (by omega)).trans ((hs_n (by omega)).trans ((hs_n (by omega)).trans ((hs_n (by omega)).trans ((hs_n (by omega)).trans ((hs_n (by omega)).trans ((hs_n (by omega)).trans ((hs_n (by omega)).trans ((hs_n (by omega)).trans ((hs_n (by omega)).trans rfl))))))))))), hRd.cg (fun a9 h8 h9 => ((hs_n (by omega)).trans ((hs_n (by omega)).trans ((hs_n (by omega)).trans ((hs_n (by omega)).trans ((hs_n (by omega)).trans ((hs_n (by omega)).trans ((hs_n (by omega)).trans ((hs_n (by omega)).trans ((hs_n (by omega)).trans ((hs_n (by omega)).trans rfl))))))))))), hLg.cg (fun a9 h8 h9 => ((hs_n (by omega)).trans ((hs_n (by omega)).trans ((hs_n (by omega)).trans ((hs_n (by omega)).trans ((hs_n (by omega)).trans ((hs_n (by omega)).trans ((hs_n (by omega)).trans ((hs_n (by omega)).trans ((hs_n (by omega)).trans ((hs_n (by omega)).trans rfl))))))))))), ⟨_, _, _, _, _, _, _, _, _, ((hs_n (by omega)).trans ((hs_n (by omega)).trans ((hs_n (by omega)).trans ((hs_n (by omega)).trans ((hs_n (by omega)).trans ((hs_n (by omega)).trans ((hs_n (by omega)).trans ((hs_n (by omega)).trans ((hs_n (by omega)).trans ((hs_n (by omega)).trans hM1)))))))))), ((hs_n (by omega)).trans ((hs_n (by omega)).trans ((hs_n (by omega)).trans ((hs_n (by omega)).trans ((hs_n (by omega)).trans ((hs_n (by omega)).trans ((hs_n (by omega)).trans hs_e))))))), ((hs_n (by omega)).trans ((hs_n (by omega)).trans ((hs_n (by omega)).trans ((hs_n (by omega)).trans ((hs_n (by omega)).trans ((hs_n (by omega)).trans hs_e)))))), ((hs_n (by omega)).trans ((hs_n (by omega)).trans ((hs_n (by omega)).trans ((hs_n (by omega)).trans ((hs_n (by omega)).trans hs_e))))), hm8b, hs8b, hm80, (RowAt.to ((hs_n (by omega)).trans ((hs_n (by omega)).trans ((hs_n (by omega)).trans ((hs_n (by omega)).trans ((hs_n (by omega)).trans ((hs_n (by omega)).trans ((hs_n (by omega)).trans ((hs_n (by omega)).trans ((hs_n (by omega)).trans ((hs_n (by omega)).trans hM6.1)))))))))) ((hs_n (by omega)).trans ((hs_n (by omega)).trans ((hs_n (by omega)).trans ((hs_n (by omega)).trans ((hs_n (by omega)).trans ((hs_n (by omega)).trans ((hs_n (by omega)).trans ((hs_n (by omega)).trans ((hs_n (by omega)).trans ((hs_n (by omega)).trans hM6.2.1)))))))))) ((hs_n (by omega)).trans ((hs_n (by omega)).trans ((hs_n (by omega)).trans ((hs_n (by omega)).trans ((hs_n (by omega)).trans ((hs_n (by omega)).trans ((hs_n (by omega)).trans ((hs_n (by omega)).trans ((hs_n (by omega)).trans ((hs_n (by omega)).trans hM6.2.2))))))))))), hM7, hM8, hM9, ((hs_n (by omega)).trans ((hs_n (by omega)).trans ((hs_n (by omega)).trans ((hs_n (by omega)).trans hs_e)))), ((hs_n (by omega)).trans ((hs_n (by omega)).trans ((hs_n (by omega)).trans hs_e))), ((hs_n (by omega)).trans ((hs_n (by omega)).trans ((hs_n (by omega)).trans ((hs_n (by omega)).trans ((hs_n (by omega)).trans ((hs_n (by omega)).trans ((hs_n (by omega)).trans ((hs_n (by omega)).trans ((hs_n (by omega)).trans hs_e))))))))), ((hs_n (by omega)).trans ((hs_n (by omega)).trans ((hs_n (by omega)).trans ((hs_n (by omega)).trans ((hs_n (by omega)).trans ((hs_n (by omega)).trans ((hs_n (by omega)).trans ((hs_n (by omega)).trans hs_e))))))))⟩, hPt.cg (fun a9 h8 h9 => ((hs_n (by omega)).trans ((hs_n (by omega)).trans ((hs_n (by omega)).trans ((hs_n (by omega)).trans ((hs_n (by omega)).trans ((hs_n (by omega)).trans ((hs_n (by omega)).trans ((hs_n (by omega)).trans ((hs_n (by omega)).trans ((hs_n (by omega)).trans rfl))))))))))), hEx.cg (fun a9 h8 h9 => ((hs_n (by omega)).trans ((hs_n (by omega)).trans ((hs_n (by omega)).trans ((hs_n (by omega)).trans ((hs_n (by omega)).trans ((hs_n (by omega)).trans ((hs_n (by omega)).trans ((hs_n (by omega)).trans ((hs_n (by omega)).trans ((hs_n (by omega)).trans rfl)))))))))))⟩ (fun a9 h9 => ((hs_n (by omega)).trans ((hs_n (by omega)).trans ((hs_n (by omega)).trans ((hs_n (by omega)).trans ((hs_n (by omega)).trans ((hs_n (by omega)).trans ((hs_n (by omega)).trans ((hs_n (by omega)).trans ((hs_n (by omega)).trans ((hs_n (by omega)).trans rfl)))))))))))
              rw [← ek, ← ec, ← es, ← ek2, ← ec2, ← es2]
              exact ⟨hmo, hso, bc116, bs116, fun j a b => (hbc116 j (by have := hmK.2; omega)).trans (hlaw j a b), fun n a => (hbs116 n (by have := hmK.2; omega)).trans (hnum n a), rfl, rfl, rfl, rfl⟩
            · refine r_bipush (z := -3) dX10_make_100 (by decide) ?_
              refine r_ireturn hq dX10_make_102 rfl rfl rfl ?_
              have hno : ¬ (mOk w k k2 d.toNat c c2 ∧ sOk w (mK w k k2) (ex k c s) (ex k2 c2 s2) d) := by
                rcases hb94 with ⟨y, _⟩ | ⟨_, y⟩
                · omega
                · exact y
              refine hQ _ _ K C S (Or.inr ⟨⟨by omega, by omega, by omega, by omega, by omega, by omega, by omega, by omega, by omega, by omega⟩, y.toNat, by omega, by omega, by omega, Or.inl ⟨by rw [← ek, ← ec, ← es, ← ek2, ← ec2, ← es2]; exact hno, rfl, rfl, rfl, rfl⟩⟩) ⟨hO.cg (fun a9 h8 h9 => ((hs_n (by omega)).trans ((hs_n (by omega)).trans ((hs_n (by omega)).trans ((hs_n (by omega)).trans ((hs_n (by omega)).trans ((hs_n (by omega)).trans ((hs_n (by omega)).trans rfl)))))))), hT.cg (fun a9 h8 h9 => ((hs_n (by omega)).trans ((hs_n (by omega)).trans ((hs_n (by omega)).trans ((hs_n (by omega)).trans ((hs_n (by omega)).trans ((hs_n (by omega)).trans ((hs_n (by omega)).trans rfl)))))))), hR.cg ((hs_n (by omega)).trans ((hs_n (by omega)).trans ((hs_n (by omega)).trans ((hs_n (by omega)).trans ((hs_n (by omega)).trans ((hs_n (by omega)).trans ((hs_n (by omega)).trans rfl))))))) (fun a9 h8 h9 => ((hs_n (by omega)).trans ((hs_n (by omega)).trans ((hs_n (by omega)).trans ((hs_n (by omega)).trans ((hs_n (by omega)).trans ((hs_n (by omega)).trans ((hs_n (by omega)).trans rfl)))))))), hNu.cg (fun a9 h8 h9 => ((hs_n (by omega)).trans ((hs_n (by omega)).trans ((hs_n (by omega)).trans ((hs_n (by omega)).trans ((hs_n (by omega)).trans ((hs_n (by omega)).trans ((hs_n (by omega)).trans rfl)))))))), hRs.cg (fun a9 h8 h9 => ((hs_n (by omega)).trans ((hs_n (by omega)).trans ((hs_n (by omega)).trans ((hs_n (by omega)).trans ((hs_n (by omega)).trans ((hs_n (by omega)).trans ((hs_n (by omega)).trans rfl)))))))), hRd.cg (fun a9 h8 h9 => ((hs_n (by omega)).trans ((hs_n (by omega)).trans ((hs_n (by omega)).trans ((hs_n (by omega)).trans ((hs_n (by omega)).trans ((hs_n (by omega)).trans ((hs_n (by omega)).trans rfl)))))))), hLg.cg (fun a9 h8 h9 => ((hs_n (by omega)).trans ((hs_n (by omega)).trans ((hs_n (by omega)).trans ((hs_n (by omega)).trans ((hs_n (by omega)).trans ((hs_n (by omega)).trans ((hs_n (by omega)).trans rfl)))))))), ⟨_, _, _, _, _, _, _, _, _, ((hs_n (by omega)).trans ((hs_n (by omega)).trans ((hs_n (by omega)).trans ((hs_n (by omega)).trans ((hs_n (by omega)).trans ((hs_n (by omega)).trans ((hs_n (by omega)).trans hM1))))))), ((hs_n (by omega)).trans ((hs_n (by omega)).trans ((hs_n (by omega)).trans ((hs_n (by omega)).trans hs_e)))), ((hs_n (by omega)).trans ((hs_n (by omega)).trans ((hs_n (by omega)).trans hs_e))), ((hs_n (by omega)).trans ((hs_n (by omega)).trans hs_e)), hm8b, hs8b, hm80, (RowAt.to ((hs_n (by omega)).trans ((hs_n (by omega)).trans ((hs_n (by omega)).trans ((hs_n (by omega)).trans ((hs_n (by omega)).trans ((hs_n (by omega)).trans ((hs_n (by omega)).trans hM6.1))))))) ((hs_n (by omega)).trans ((hs_n (by omega)).trans ((hs_n (by omega)).trans ((hs_n (by omega)).trans ((hs_n (by omega)).trans ((hs_n (by omega)).trans ((hs_n (by omega)).trans hM6.2.1))))))) ((hs_n (by omega)).trans ((hs_n (by omega)).trans ((hs_n (by omega)).trans ((hs_n (by omega)).trans ((hs_n (by omega)).trans ((hs_n (by omega)).trans ((hs_n (by omega)).trans hM6.2.2)))))))), hM7, hM8, hM9, ((hs_n (by omega)).trans hs_e), hs_e, ((hs_n (by omega)).trans ((hs_n (by omega)).trans ((hs_n (by omega)).trans ((hs_n (by omega)).trans ((hs_n (by omega)).trans ((hs_n (by omega)).trans hs_e)))))), ((hs_n (by omega)).trans ((hs_n (by omega)).trans ((hs_n (by omega)).trans ((hs_n (by omega)).trans ((hs_n (by omega)).trans hs_e)))))⟩, hPt.cg (fun a9 h8 h9 => ((hs_n (by omega)).trans ((hs_n (by omega)).trans ((hs_n (by omega)).trans ((hs_n (by omega)).trans ((hs_n (by omega)).trans ((hs_n (by omega)).trans ((hs_n (by omega)).trans rfl)))))))), hEx.cg (fun a9 h8 h9 => ((hs_n (by omega)).trans ((hs_n (by omega)).trans ((hs_n (by omega)).trans ((hs_n (by omega)).trans ((hs_n (by omega)).trans ((hs_n (by omega)).trans ((hs_n (by omega)).trans rfl))))))))⟩ (fun a9 h9 => ((hs_n (by omega)).trans ((hs_n (by omega)).trans ((hs_n (by omega)).trans ((hs_n (by omega)).trans ((hs_n (by omega)).trans ((hs_n (by omega)).trans ((hs_n (by omega)).trans rfl))))))))
          · refine r_goto 63 dX10_make_51 (by decide) ?_
            refine r_iconst (z := -1) dX10_make_63 ?_
            refine r_ireturn hq dX10_make_64 rfl rfl rfl ?_
            exact hQ _ h K C S (Or.inl ⟨by omega, rfl, rfl, rfl, rfl⟩) hI (fun _ _ => rfl)
      · refine r_iconst (z := -1) dX10_make_24 ?_
        refine r_ireturn hq dX10_make_25 rfl rfl rfl ?_
        exact hQ _ h K C S (Or.inl ⟨by omega, rfl, rfl, rfl, rfl⟩) hI (fun _ _ => rfl)
