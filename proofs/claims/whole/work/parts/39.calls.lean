def SPwrite (n : Int) (v : Int64) (tb : Nat → Int) (ln : Nat) (r : Int) (tb2 : Nat → Int) (ln2 : Nat) : Prop := (¬ (1 ≤ n ∧ n ≤ 8) ∧ r = -1 ∧ tb2 = tb ∧ ln2 = ln) ∨ (1 ≤ n ∧ n ≤ 8 ∧ 100 < (ln : Int) + n ∧ r = -3 ∧ tb2 = tb ∧ ln2 = ln) ∨ (1 ≤ n ∧ n ≤ 8 ∧ (ln : Int) + n ≤ 100 ∧ r = (ln : Int) + n ∧ tb2 = appn tb ln n.toNat v n.toNat ∧ ln2 = ln + n.toNat)
theorem appn_b {b : Nat → Int} {l n t : Nat} {v : Int64} (h : ∀ j, j < 100 → 0 ≤ b j ∧ b j ≤ 255) : ∀ j, j < 100 → 0 ≤ appn b l n v t j ∧ appn b l n v t j ≤ 255 := fun j hj => by
  unfold appn
  split
  · exact bytv_in _ _
  · exact h j hj
theorem u_append {N : Nat} {h : Hp} {Q : QP} {t ln : Nat} {n nu be vz : Int} {v : Int64} {b : Nat → Int} (hvz : vz = v.toInt) (ht : h t = TXo t (ln : Int) nu be) (hb : h (t + 1) = aI 100 b) (hN : t + 1 < N) (hl : ln ≤ 100) (hn0 : 1 ≤ n) (hn8 : n ≤ 8) (hQ : ∀ (z : Int) (b2 : Nat → Int) (ln2 : Nat), (z = 0 ∧ 100 < (ln : Int) + n ∧ b2 = b ∧ ln2 = ln ∨ z = 1 ∧ (ln : Int) + n ≤ 100 ∧ b2 = appn b ln n.toNat v n.toNat ∧ ln2 = ln + n.toNat) → Q (some (.int (iZ z))) N (hs (hs h (t + 1) (aI 100 b2)) t (TXo t (ln2 : Int) nu be))) : Runs mX8_append [.ref t, .int (iZ n), .long (lZ vz)] N h Q := by
  refine c_X8_append (ln := ln) (nn := n.toNat) hvz ht hb hN rfl (by omega) hn0 hn8 (by omega) (fun w => ?_) (fun w => ?_)
  · have := hQ 0 b ln (Or.inl ⟨rfl, w, rfl, rfl⟩)
    rw [hs_id hb, hs_id ht] at this
    exact this
  · have := hQ 1 _ (ln + n.toNat) (Or.inr ⟨rfl, w, rfl, rfl⟩)
    rw [show ((ln + n.toNat : Nat) : Int) = (ln : Int) + n by omega] at this
    exact this
theorem u_findFault {N : Nat} {h : Hp} {Q : QP} {t k ln : Nat} {nu be : Int} {b c s : Nat → Int} (ht : h t = TXo t (ln : Int) nu be) (hb : h (t + 1) = aI 100 b) (hr : RowAt h (t + 2) k c s) (hrb : RB k c s) (hN : t + 4 < N) (hl : ln ≤ 100) (hbb : ∀ j, j < 100 → 0 ≤ b j ∧ b j ≤ 255) (hQ : ∀ (r : Int) (k2 : Nat) (c2 s2 c3 s3 : Nat → Int) (nu2 be2 : Int) (k9 : Nat), Par (ln : Int) b r k2 c2 s2 → (r = -4 → k9 = k2 ∧ (∀ j, 1 ≤ j → j ≤ k2 → c3 j = c2 j) ∧ ∀ j, j < k2 → s3 j = s2 j) → RB k9 c3 s3 → Q (some (.int (iZ r))) N (hs (hs (hs (hs h t (TXo t (ln : Int) nu2 be2)) (t + 2 + 1) (aL 7 c3)) (t + 2) (ob 7 [.int (iZ (k9 : Int)), .ref (t + 2 + 1), .ref (t + 2 + 2)])) (t + 2 + 2) (aL 6 s3))) : Runs mX8_findFault [.ref t] N h Q := by
  refine c_X8_findFault ht hb hr hN (by omega) (by omega) hbb (fun r k2 c2 s2 c3 s3 nu2 be2 ko hP h4 hcb hsb hko hc0 => ?_)
  obtain ⟨k9, e9, hk1, hk6⟩ : ∃ k9 : Nat, ko = (k9 : Int) ∧ 1 ≤ k9 ∧ k9 ≤ 6 := by
    rcases hko with e | ⟨k9, e1, e2, e3⟩
    · exact ⟨k, e, hrb.1, hrb.2.1⟩
    · exact ⟨k9, e1, e2, e3⟩
  subst e9
  exact hQ r k2 c2 s2 c3 s3 nu2 be2 k9 hP (fun w => ⟨by have := (h4 w).1; omega, (h4 w).2⟩) ⟨hk1, hk6, hcb hrb.2.2.1, hsb hrb.2.2.2.1, hc0.trans hrb.2.2.2.2⟩
set_option maxHeartbeats 2000000 in
set_option maxRecDepth 20000 in
theorem c_X10_write {N : Nat} {h : Hp} {Q : QP} {tb : Nat → Int} {ln : Nat} {K : Nat → Nat} {C S : Nat → Nat → Int} {p : Int} {vs : Nat → Int} {sz : Nat} {n vz : Int} {v : Int64} (hI : CI h tb ln K C S p vs sz) (hN : 124 ≤ N) (hn : rI n) (hvz : vz = v.toInt) (hQ : ∀ (r : Int) (h2 : Hp) (tb2 : Nat → Int) (ln2 : Nat), SPwrite n v tb ln r tb2 ln2 → CI h2 tb2 ln2 K C S p vs sz → OUT h h2 → Q (some (.int (iZ r))) N h2) : Runs mX10_write [.ref (0), .int (iZ (n)), .long (lZ (vz))] N h Q := by
  obtain ⟨hO, hT, hR, hNu, hRs, hRd, hLg, hMk, hPt, hEx⟩ := id hI
  obtain ⟨tk, tc, ts, tnu, tbe, hT1, hT2, hTr, hTrb, hTl, hTb⟩ := id hT
  refine run_start (own := RX10) rfl (by decide) (nle rfl) rfl (fun X hq hini => ?_)
  show G X RX10 cX10_write mX10_write.rm N 0 0 0 [some (.ref (0)), some (.int (iZ (n))), some (.long (lZ (vz))), none] [] h
  refine r_iload_n dX10_write_0 rfl rfl ?_
  refine r_iconst (z := 1) dX10_write_1 ?_
  refine r_icmp_lt 11 dX10_write_2 (by decide) hn ⟨by decide, by decide⟩ (fun c_2 => ?_) (fun c_2 => ?_)
  · refine r_iconst (z := -1) dX10_write_11 ?_
    refine r_ireturn hq dX10_write_12 rfl rfl rfl ?_
    exact hQ _ h tb ln (Or.inl ⟨by omega, rfl, rfl, rfl⟩) hI (fun _ _ => rfl)
  · refine r_iload_n dX10_write_5 rfl rfl ?_
    refine r_bipush (z := 8) dX10_write_6 (by decide) ?_
    refine r_icmp_le 13 dX10_write_8 (by decide) hn ⟨by decide, by decide⟩ (fun c_8 => ?_) (fun c_8 => ?_)
    · refine r_aload_n dX10_write_13 rfl rfl ?_
      refine gf_X10_10 dX10_write_14 (by omega) hO rfl ?_
      refine r_iload_n dX10_write_17 rfl rfl ?_
      refine r_lload_n dX10_write_18 rfl rfl ?_
      refine r_callV (av := [.int (iZ (n)), .long (lZ (vz))]) dX10_write_19 lkX8_append ml_X10_72 imX8_append seX8_append (by omega) (rfl : vwCl[8]? = _) ⟨_, hT1⟩ ⟨Nat.le_of_ble_eq_true rfl, Nat.le_of_ble_eq_true rfl⟩ rfl rfl (nle rfl) ⟨Nat.le_of_ble_eq_true rfl, Nat.le_of_ble_eq_true rfl⟩ (u_append (t := 1) (ln := ln) (n := n) (v := v) (b := tb) hvz hT1 hT2 (by omega) hTl (by omega) (by omega) (fun z19 b19 l19 hz19 => ?_))
      show G _ _ _ _ _ _ _ 22 _ _ _
      refine r_if_eq 35 dX10_write_22 (by decide) (by rcases hz19 with ⟨y, _⟩ | ⟨y, _⟩ <;> exact ⟨by omega, by omega⟩) (fun c_22 => ?_) (fun c_22 => ?_)
      · refine r_bipush (z := -3) dX10_write_35 (by decide) ?_
        refine r_ireturn hq dX10_write_37 rfl rfl rfl ?_
        have hz1 : 100 < (ln : Int) + n ∧ b19 = tb ∧ l19 = ln := by
          rcases hz19 with ⟨_, y⟩ | ⟨y, _⟩
          · exact y
          · omega
        refine hQ _ _ b19 l19 (Or.inr (Or.inl ⟨by omega, by omega, hz1.1, rfl, hz1.2.1, hz1.2.2⟩)) ⟨hO.cg (fun a9 h8 h9 => ((hs_n (by omega)).trans ((hs_n (by omega)).trans rfl))), ⟨tk, tc, ts, tnu, tbe, hs_e, ((hs_n (by omega)).trans hs_e), hTr.cg (fun a9 h8 h9 => ((hs_n (by omega)).trans ((hs_n (by omega)).trans rfl))), hTrb, by omega, by rw [hz1.2.1]; exact hTb⟩, hR.cg ((hs_n (by omega)).trans ((hs_n (by omega)).trans rfl)) (fun a9 h8 h9 => ((hs_n (by omega)).trans ((hs_n (by omega)).trans rfl))), hNu.cg (fun a9 h8 h9 => ((hs_n (by omega)).trans ((hs_n (by omega)).trans rfl))), hRs.cg (fun a9 h8 h9 => ((hs_n (by omega)).trans ((hs_n (by omega)).trans rfl))), hRd.cg (fun a9 h8 h9 => ((hs_n (by omega)).trans ((hs_n (by omega)).trans rfl))), hLg.cg (fun a9 h8 h9 => ((hs_n (by omega)).trans ((hs_n (by omega)).trans rfl))), hMk.cg (fun a9 h8 h9 => ((hs_n (by omega)).trans ((hs_n (by omega)).trans rfl))), hPt.cg (fun a9 h8 h9 => ((hs_n (by omega)).trans ((hs_n (by omega)).trans rfl))), hEx.cg (fun a9 h8 h9 => ((hs_n (by omega)).trans ((hs_n (by omega)).trans rfl)))⟩ (fun a9 h9 => ((hs_n (by omega)).trans ((hs_n (by omega)).trans rfl)))
      · refine r_aload_n dX10_write_25 rfl rfl ?_
        refine gf_X10_10 dX10_write_26 (by omega) ((hs_n (by omega)).trans ((hs_n (by omega)).trans hO)) rfl ?_
        refine gf_X10_76 dX10_write_29 (by omega) hs_e rfl ?_
        refine r_goto 37 dX10_write_32 (by decide) ?_
        refine r_ireturn hq dX10_write_37 rfl rfl rfl ?_
        have hz1 : (ln : Int) + n ≤ 100 ∧ b19 = appn tb ln n.toNat v n.toNat ∧ l19 = ln + n.toNat := by
          rcases hz19 with ⟨y, _⟩ | ⟨_, y⟩
          · omega
          · exact y
        refine hQ _ _ b19 l19 (Or.inr (Or.inr ⟨by omega, by omega, hz1.1, by omega, hz1.2.1, hz1.2.2⟩)) ⟨hO.cg (fun a9 h8 h9 => ((hs_n (by omega)).trans ((hs_n (by omega)).trans rfl))), ⟨tk, tc, ts, tnu, tbe, hs_e, ((hs_n (by omega)).trans hs_e), hTr.cg (fun a9 h8 h9 => ((hs_n (by omega)).trans ((hs_n (by omega)).trans rfl))), hTrb, by omega, by rw [hz1.2.1]; exact appn_b hTb⟩, hR.cg ((hs_n (by omega)).trans ((hs_n (by omega)).trans rfl)) (fun a9 h8 h9 => ((hs_n (by omega)).trans ((hs_n (by omega)).trans rfl))), hNu.cg (fun a9 h8 h9 => ((hs_n (by omega)).trans ((hs_n (by omega)).trans rfl))), hRs.cg (fun a9 h8 h9 => ((hs_n (by omega)).trans ((hs_n (by omega)).trans rfl))), hRd.cg (fun a9 h8 h9 => ((hs_n (by omega)).trans ((hs_n (by omega)).trans rfl))), hLg.cg (fun a9 h8 h9 => ((hs_n (by omega)).trans ((hs_n (by omega)).trans rfl))), hMk.cg (fun a9 h8 h9 => ((hs_n (by omega)).trans ((hs_n (by omega)).trans rfl))), hPt.cg (fun a9 h8 h9 => ((hs_n (by omega)).trans ((hs_n (by omega)).trans rfl))), hEx.cg (fun a9 h8 h9 => ((hs_n (by omega)).trans ((hs_n (by omega)).trans rfl)))⟩ (fun a9 h9 => ((hs_n (by omega)).trans ((hs_n (by omega)).trans rfl)))
    · refine r_iconst (z := -1) dX10_write_11 ?_
      refine r_ireturn hq dX10_write_12 rfl rfl rfl ?_
      exact hQ _ h tb ln (Or.inl ⟨by omega, rfl, rfl, rfl⟩) hI (fun _ _ => rfl)
set_option maxHeartbeats 2000000 in
set_option maxRecDepth 20000 in
theorem c_X10_wipe {N : Nat} {h : Hp} {Q : QP} {tb : Nat → Int} {ln : Nat} {K : Nat → Nat} {C S : Nat → Nat → Int} {p : Int} {vs : Nat → Int} {sz : Nat} (hI : CI h tb ln K C S p vs sz) (hN : 124 ≤ N) (hQ : ∀ h2 : Hp, CI h2 tb 0 K C S p vs sz → OUT h h2 → Q (some (.int (iZ (ln : Int)))) N h2) : Runs mX10_wipe [.ref (0)] N h Q := by
  obtain ⟨hO, hT, hR, hNu, hRs, hRd, hLg, hMk, hPt, hEx⟩ := id hI
  obtain ⟨tk, tc, ts, tnu, tbe, hT1, hT2, hTr, hTrb, hTl, hTb⟩ := id hT
  refine run_start (own := RX10) rfl (by decide) (nle rfl) rfl (fun X hq hini => ?_)
  show G X RX10 cX10_wipe mX10_wipe.rm N 0 0 0 [some (.ref (0)), none] [] h
  refine r_aload_n dX10_wipe_0 rfl rfl ?_
  refine gf_X10_10 dX10_wipe_1 (by omega) hO rfl ?_
  refine gf_X10_76 dX10_wipe_4 (by omega) hT1 rfl ?_
  refine r_istore_n (L2 := [_, _]) dX10_wipe_7 rfl (nlt rfl) rfl ?_
  refine r_aload_n dX10_wipe_8 rfl rfl ?_
  refine gf_X10_10 dX10_wipe_9 (by omega) hO rfl ?_
  refine r_iconst (z := 0) dX10_wipe_12 ?_
  refine pf_X10_76 (fs2 := [_, _, _, _, _]) dX10_wipe_13 (fun _ _ => rfl) (fun _ _ => rfl) (nlt rfl) (by omega) hT1 rfl ?_
  refine r_iload_n dX10_wipe_16 rfl rfl ?_
  refine r_ireturn hq dX10_wipe_17 rfl rfl rfl ?_
  refine hQ _ ⟨hO.cg (fun a9 h8 h9 => ((hs_n (by omega)).trans rfl)), ⟨tk, tc, ts, tnu, tbe, hs_e, ((hs_n (by omega)).trans hT2), hTr.cg (fun a9 h8 h9 => ((hs_n (by omega)).trans rfl)), hTrb, by omega, hTb⟩, hR.cg ((hs_n (by omega)).trans rfl) (fun a9 h8 h9 => ((hs_n (by omega)).trans rfl)), hNu.cg (fun a9 h8 h9 => ((hs_n (by omega)).trans rfl)), hRs.cg (fun a9 h8 h9 => ((hs_n (by omega)).trans rfl)), hRd.cg (fun a9 h8 h9 => ((hs_n (by omega)).trans rfl)), hLg.cg (fun a9 h8 h9 => ((hs_n (by omega)).trans rfl)), hMk.cg (fun a9 h8 h9 => ((hs_n (by omega)).trans rfl)), hPt.cg (fun a9 h8 h9 => ((hs_n (by omega)).trans rfl)), hEx.cg (fun a9 h8 h9 => ((hs_n (by omega)).trans rfl))⟩ (fun a9 h9 => ((hs_n (by omega)).trans rfl))
set_option maxHeartbeats 2000000 in
set_option maxRecDepth 20000 in
theorem c_X10_fault {N : Nat} {h : Hp} {Q : QP} {tb : Nat → Int} {ln : Nat} {K : Nat → Nat} {C S : Nat → Nat → Int} {p : Int} {vs : Nat → Int} {sz : Nat} (hI : CI h tb ln K C S p vs sz) (hN : 124 ≤ N) (hQ : ∀ (r : Int) (h2 : Hp), (∃ k c s, Par (ln : Int) tb r k c s) → CI h2 tb ln K C S p vs sz → OUT h h2 → Q (some (.int (iZ r))) N h2) : Runs mX10_fault [.ref (0)] N h Q := by
  obtain ⟨hO, hT, hR, hNu, hRs, hRd, hLg, hMk, hPt, hEx⟩ := id hI
  obtain ⟨tk, tc, ts, tnu, tbe, hT1, hT2, hTr, hTrb, hTl, hTb⟩ := id hT
  refine run_start (own := RX10) rfl (by decide) (nle rfl) rfl (fun X hq hini => ?_)
  show G X RX10 cX10_fault mX10_fault.rm N 0 0 0 [some (.ref (0))] [] h
  refine r_aload_n dX10_fault_0 rfl rfl ?_
  refine gf_X10_10 dX10_fault_1 (by omega) hO rfl ?_
  refine r_callV (av := []) dX10_fault_4 lkX8_findFault ml_X10_80 imX8_findFault seX8_findFault (by omega) (rfl : vwCl[8]? = _) ⟨_, hT1⟩ ⟨Nat.le_of_ble_eq_true rfl, Nat.le_of_ble_eq_true rfl⟩ rfl rfl (nle rfl) ⟨Nat.le_of_ble_eq_true rfl, Nat.le_of_ble_eq_true rfl⟩ (u_findFault (t := 1) (k := tk) (ln := ln) (b := tb) (c := tc) (s := ts) hT1 hT2 (RowAt.to hTr.1 hTr.2.1 hTr.2.2) hTrb (by omega) hTl hTb (fun r4 kp4 cp4 sp4 c4 s4 nu4 be4 k4 hP4 hp44 hRB4 => ?_))
  show G _ _ _ _ _ _ _ 7 _ _ _
  refine r_ireturn hq dX10_fault_7 rfl rfl rfl ?_
  refine hQ _ _ ⟨_, _, _, hP4⟩ ⟨hO.cg (fun a9 h8 h9 => ((hs_n (by omega)).trans ((hs_n (by omega)).trans ((hs_n (by omega)).trans ((hs_n (by omega)).trans rfl))))), ⟨k4, c4, s4, nu4, be4, ((hs_n (by omega)).trans ((hs_n (by omega)).trans ((hs_n (by omega)).trans hs_e))), ((hs_n (by omega)).trans ((hs_n (by omega)).trans ((hs_n (by omega)).trans ((hs_n (by omega)).trans hT2)))), (RowAt.to ((hs_n (by omega)).trans hs_e) ((hs_n (by omega)).trans ((hs_n (by omega)).trans hs_e)) hs_e), hRB4, hTl, hTb⟩, hR.cg ((hs_n (by omega)).trans ((hs_n (by omega)).trans ((hs_n (by omega)).trans ((hs_n (by omega)).trans rfl)))) (fun a9 h8 h9 => ((hs_n (by omega)).trans ((hs_n (by omega)).trans ((hs_n (by omega)).trans ((hs_n (by omega)).trans rfl))))), hNu.cg (fun a9 h8 h9 => ((hs_n (by omega)).trans ((hs_n (by omega)).trans ((hs_n (by omega)).trans ((hs_n (by omega)).trans rfl))))), hRs.cg (fun a9 h8 h9 => ((hs_n (by omega)).trans ((hs_n (by omega)).trans ((hs_n (by omega)).trans ((hs_n (by omega)).trans rfl))))), hRd.cg (fun a9 h8 h9 => ((hs_n (by omega)).trans ((hs_n (by omega)).trans ((hs_n (by omega)).trans ((hs_n (by omega)).trans rfl))))), hLg.cg (fun a9 h8 h9 => ((hs_n (by omega)).trans ((hs_n (by omega)).trans ((hs_n (by omega)).trans ((hs_n (by omega)).trans rfl))))), hMk.cg (fun a9 h8 h9 => ((hs_n (by omega)).trans ((hs_n (by omega)).trans ((hs_n (by omega)).trans ((hs_n (by omega)).trans rfl))))), hPt.cg (fun a9 h8 h9 => ((hs_n (by omega)).trans ((hs_n (by omega)).trans ((hs_n (by omega)).trans ((hs_n (by omega)).trans rfl))))), hEx.cg (fun a9 h8 h9 => ((hs_n (by omega)).trans ((hs_n (by omega)).trans ((hs_n (by omega)).trans ((hs_n (by omega)).trans rfl)))))⟩ (fun a9 h9 => ((hs_n (by omega)).trans ((hs_n (by omega)).trans ((hs_n (by omega)).trans ((hs_n (by omega)).trans rfl)))))
def upK {T : Type} (f : Nat → T) (i : Nat) (x : T) : Nat → T := fun j => if j = i then x else f j
theorem upK_e {T : Type} {f : Nat → T} {i : Nat} {x : T} : upK f i x i = x := if_pos rfl
theorem upK_n {T : Type} {f : Nat → T} {i j : Nat} {x : T} (h : j ≠ i) : upK f i x j = f j := if_neg h
def SPtake (i : Int) (tb : Nat → Int) (ln : Nat) (K : Nat → Nat) (C S : Nat → Nat → Int) (r : Int) (K2 : Nat → Nat) (C2 S2 : Nat → Nat → Int) : Prop := (¬ (0 ≤ i ∧ i ≤ 5) ∧ r = -1 ∧ K2 = K ∧ C2 = C ∧ S2 = S) ∨ (0 ≤ i ∧ i ≤ 5 ∧ (∃ f k c s, Par (ln : Int) tb f k c s ∧ f ≠ -4) ∧ r = -2 ∧ K2 = K ∧ C2 = C ∧ S2 = S) ∨ (0 ≤ i ∧ i ≤ 5 ∧ ∃ (k : Nat) (c s c3 s3 : Nat → Int), Par (ln : Int) tb (-4) k c s ∧ (∀ j, 1 ≤ j → j ≤ k → c3 j = c j) ∧ (∀ j, j < k → s3 j = s j) ∧ r = (k : Int) ∧ K2 = upK K i.toNat k ∧ C2 = upK C i.toNat c3 ∧ S2 = upK S i.toNat s3)
theorem RGI.up {h h2 : Hp} {K : Nat → Nat} {C S : Nat → Nat → Int} {i k : Nat} {c s : Nat → Int} (F : RGI h K C S) (hi : i < 6) (H0 : h2 6 = h 6) (hr : RowAt h2 (106 + 3 * i) k c s) (hb : RB k c s) (H : ∀ a, 106 ≤ a → a < 124 → (a < 106 + 3 * i ∨ 106 + 3 * i + 3 ≤ a) → h2 a = h a) : RGI h2 (upK K i k) (upK C i c) (upK S i s) := by
  obtain ⟨⟨g, a1, a2⟩, a3⟩ := F
  refine ⟨⟨g, H0.trans a1, a2⟩, fun j hj => ?_⟩
  by_cases z : j = i
  · subst z; rw [upK_e, upK_e, upK_e]; exact ⟨hr, hb⟩
  · rw [upK_n z, upK_n z, upK_n z]
    exact ⟨(a3 j hj).1.cg (fun a h8 h9 => H a (by omega) (by omega) (by omega)), (a3 j hj).2⟩
theorem RB.cg {k : Nat} {c s c2 s2 : Nat → Int} (h : RB k c s) (hc : ∀ j, j < 7 → c2 j = c j) (hs : ∀ j, j < 6 → s2 j = s j) : RB k c2 s2 := ⟨h.1, h.2.1, fun j hj => by rw [hc j hj]; exact h.2.2.1 j hj, fun j hj => by rw [hs j hj]; exact h.2.2.2.1 j hj, by rw [hc 0 (by omega)]; exact h.2.2.2.2⟩
set_option maxHeartbeats 2000000 in
set_option maxRecDepth 20000 in
theorem c_X10_take {N : Nat} {h : Hp} {Q : QP} {tb : Nat → Int} {ln : Nat} {K : Nat → Nat} {C S : Nat → Nat → Int} {p : Int} {vs : Nat → Int} {sz : Nat} {i : Int} (hI : CI h tb ln K C S p vs sz) (hN : 124 ≤ N) (hi : rI i) (hQ : ∀ (r : Int) (h2 : Hp) (K2 : Nat → Nat) (C2 S2 : Nat → Nat → Int), SPtake i tb ln K C S r K2 C2 S2 → CI h2 tb ln K2 C2 S2 p vs sz → OUT h h2 → Q (some (.int (iZ r))) N h2) : Runs mX10_take [.ref (0), .int (iZ (i))] N h Q := by
  obtain ⟨hO, hT, hR, hNu, hRs, hRd, hLg, hMk, hPt, hEx⟩ := id hI
  obtain ⟨tk, tc, ts, tnu, tbe, hT1, hT2, hTr, hTrb, hTl, hTb⟩ := id hT
  obtain ⟨rg, hR6, hRg⟩ := hR.1
  refine run_start (own := RX10) rfl (by decide) (nle rfl) rfl (fun X hq hini => ?_)
  show G X RX10 cX10_take mX10_take.rm N 0 0 0 [some (.ref (0)), some (.int (iZ (i)))] [] h
  refine r_iload_n dX10_take_0 rfl rfl ?_
  refine r_callS (av := [.int (iZ (i))]) dX10_take_1 lkX10_isRegister ml_X10_84 stX10_isRegister ⟨Nat.le_of_ble_eq_true rfl, Nat.le_of_ble_eq_true rfl⟩ rfl rfl (nle rfl) ⟨Nat.le_of_ble_eq_true rfl, Nat.le_of_ble_eq_true rfl⟩ (c_X10_isRegister (x := i) hi (fun b1 hb1 => ?_))
  show G _ _ _ _ _ _ _ 4 _ _ _
  refine r_if_ne 9 dX10_take_4 (by decide) (by rcases hb1 with ⟨y, _⟩ | ⟨y, _⟩ <;> exact ⟨by omega, by omega⟩) (fun c_4 => ?_) (fun c_4 => ?_)
  · refine r_aload_n dX10_take_9 rfl rfl ?_
    refine gf_X10_10 dX10_take_10 (by omega) hO rfl ?_
    refine r_callV (av := []) dX10_take_13 lkX8_findFault ml_X10_80 imX8_findFault seX8_findFault (by omega) (rfl : vwCl[8]? = _) ⟨_, hT1⟩ ⟨Nat.le_of_ble_eq_true rfl, Nat.le_of_ble_eq_true rfl⟩ rfl rfl (nle rfl) ⟨Nat.le_of_ble_eq_true rfl, Nat.le_of_ble_eq_true rfl⟩ (u_findFault (t := 1) (k := tk) (ln := ln) (b := tb) (c := tc) (s := ts) hT1 hT2 (RowAt.to hTr.1 hTr.2.1 hTr.2.2) hTrb (by omega) hTl hTb (fun r13 kp13 cp13 sp13 c13 s13 nu13 be13 k13 hP13 hp413 hRB13 => ?_))
    show G _ _ _ _ _ _ _ 16 _ _ _
    refine r_bipush (z := -4) dX10_take_16 (by decide) ?_
    refine r_icmp_eq 24 dX10_take_18 (by decide) (by rcases hP13.bd (by omega) with y | y <;> exact ⟨by omega, by omega⟩) ⟨by decide, by decide⟩ (fun c_18 => ?_) (fun c_18 => ?_)
    · obtain ⟨k, c, s, ek, ec, es, hr, hrb⟩ := hR.get (i := i.toNat) (by omega)
      obtain ⟨hk1, hk6, hcb, hsb, hc0⟩ := id hrb
      refine r_aload_n dX10_take_24 rfl rfl ?_
      refine gf_X10_18 dX10_take_25 (by omega) ((hs_n (by omega)).trans ((hs_n (by omega)).trans ((hs_n (by omega)).trans ((hs_n (by omega)).trans hO)))) rfl ?_
      refine r_iload_n dX10_take_28 rfl rfl ?_
      refine r_aaload dX10_take_29 (by omega) ((hs_n (by omega)).trans ((hs_n (by omega)).trans ((hs_n (by omega)).trans ((hs_n (by omega)).trans hR6)))) (by decide) (by omega) (by omega) (by decide) (hRg _ (by omega)) ?_
      refine r_aload_n dX10_take_30 rfl rfl ?_
      refine gf_X10_10 dX10_take_31 (by omega) ((hs_n (by omega)).trans ((hs_n (by omega)).trans ((hs_n (by omega)).trans ((hs_n (by omega)).trans hO)))) rfl ?_
      refine gf_X10_88 dX10_take_34 (by omega) ((hs_n (by omega)).trans ((hs_n (by omega)).trans ((hs_n (by omega)).trans hs_e))) rfl ?_
      refine r_callV (av := [.ref (1 + 2)]) dX10_take_37 lkX7_become ml_X10_92 imX7_become seX7_become (by omega) (rfl : vwCl[7]? = _) ⟨_, ((hs_n (by omega)).trans ((hs_n (by omega)).trans ((hs_n (by omega)).trans ((hs_n (by omega)).trans hr.1))))⟩ ⟨Nat.le_of_ble_eq_true rfl, Nat.le_of_ble_eq_true rfl⟩ rfl rfl (nle rfl) ⟨Nat.le_of_ble_eq_true rfl, Nat.le_of_ble_eq_true rfl⟩ (c_X7_become (r := 106 + 3 * i.toNat) (o := 1 + 2) (k := k) (k2 := k13) (c := c) (s := s) (c2 := c13) (s2 := s13) (RowAt.to ((hs_n (by omega)).trans ((hs_n (by omega)).trans ((hs_n (by omega)).trans ((hs_n (by omega)).trans hr.1)))) ((hs_n (by omega)).trans ((hs_n (by omega)).trans ((hs_n (by omega)).trans ((hs_n (by omega)).trans hr.2.1)))) ((hs_n (by omega)).trans ((hs_n (by omega)).trans ((hs_n (by omega)).trans ((hs_n (by omega)).trans hr.2.2))))) (RowAt.to ((hs_n (by omega)).trans hs_e) ((hs_n (by omega)).trans ((hs_n (by omega)).trans hs_e)) hs_e) (by omega) (by omega) (by omega) (fun bc37 bs37 hbc37 hbs37 => ?_))
      show G _ _ _ _ _ _ _ 40 _ _ _
      refine r_aload_n dX10_take_40 rfl rfl ?_
      refine gf_X10_18 dX10_take_41 (by omega) ((hs_n (by omega)).trans ((hs_n (by omega)).trans ((hs_n (by omega)).trans ((hs_n (by omega)).trans ((hs_n (by omega)).trans ((hs_n (by omega)).trans ((hs_n (by omega)).trans hO))))))) rfl ?_
      refine r_iload_n dX10_take_44 rfl rfl ?_
      refine r_aaload dX10_take_45 (by omega) ((hs_n (by omega)).trans ((hs_n (by omega)).trans ((hs_n (by omega)).trans ((hs_n (by omega)).trans ((hs_n (by omega)).trans ((hs_n (by omega)).trans ((hs_n (by omega)).trans hR6))))))) (by decide) (by omega) (by omega) (by decide) (hRg _ (by omega)) ?_
      refine gf_X10_96 dX10_take_46 (by omega) ((hs_n (by omega)).trans ((hs_n (by omega)).trans hs_e)) rfl ?_
      refine r_ireturn hq dX10_take_49 rfl rfl rfl ?_
      rw [c_18] at hP13
      obtain ⟨q1, q2, q3⟩ := hp413 c_18
      refine hQ _ _ _ _ _ (Or.inr (Or.inr ⟨by omega, by omega, kp13, cp13, sp13, bc37, bs37, hP13, fun j a b => (hbc37 j (by rw [← q1] at b; have := hRB13.2.1; omega)).trans (q2 j a b), fun j a => (hbs37 j (by rw [← q1] at a; have := hRB13.2.1; omega)).trans (q3 j a), by rw [q1], rfl, rfl, rfl⟩)) ⟨hO.cg (fun a9 h8 h9 => ((hs_n (by omega)).trans ((hs_n (by omega)).trans ((hs_n (by omega)).trans ((hs_n (by omega)).trans ((hs_n (by omega)).trans ((hs_n (by omega)).trans ((hs_n (by omega)).trans rfl)))))))), ⟨k13, c13, s13, nu13, be13, ((hs_n (by omega)).trans ((hs_n (by omega)).trans ((hs_n (by omega)).trans ((hs_n (by omega)).trans ((hs_n (by omega)).trans ((hs_n (by omega)).trans hs_e)))))), ((hs_n (by omega)).trans ((hs_n (by omega)).trans ((hs_n (by omega)).trans ((hs_n (by omega)).trans ((hs_n (by omega)).trans ((hs_n (by omega)).trans ((hs_n (by omega)).trans hT2))))))), (RowAt.to ((hs_n (by omega)).trans ((hs_n (by omega)).trans ((hs_n (by omega)).trans ((hs_n (by omega)).trans hs_e)))) ((hs_n (by omega)).trans ((hs_n (by omega)).trans ((hs_n (by omega)).trans ((hs_n (by omega)).trans ((hs_n (by omega)).trans hs_e))))) ((hs_n (by omega)).trans ((hs_n (by omega)).trans ((hs_n (by omega)).trans hs_e)))), hRB13, hTl, hTb⟩, (by rw [← q1]; exact hR.up (by omega) ((hs_n (by omega)).trans ((hs_n (by omega)).trans ((hs_n (by omega)).trans ((hs_n (by omega)).trans ((hs_n (by omega)).trans ((hs_n (by omega)).trans ((hs_n (by omega)).trans rfl))))))) (RowAt.to ((hs_n (by omega)).trans ((hs_n (by omega)).trans hs_e)) ((hs_n (by omega)).trans hs_e) hs_e) (hRB13.cg hbc37 hbs37) (fun a9 h7 h8 h9 => ((hs_n (by omega)).trans ((hs_n (by omega)).trans ((hs_n (by omega)).trans ((hs_n (by omega)).trans ((hs_n (by omega)).trans ((hs_n (by omega)).trans ((hs_n (by omega)).trans rfl))))))))), hNu.cg (fun a9 h8 h9 => ((hs_n (by omega)).trans ((hs_n (by omega)).trans ((hs_n (by omega)).trans ((hs_n (by omega)).trans ((hs_n (by omega)).trans ((hs_n (by omega)).trans ((hs_n (by omega)).trans rfl)))))))), hRs.cg (fun a9 h8 h9 => ((hs_n (by omega)).trans ((hs_n (by omega)).trans ((hs_n (by omega)).trans ((hs_n (by omega)).trans ((hs_n (by omega)).trans ((hs_n (by omega)).trans ((hs_n (by omega)).trans rfl)))))))), hRd.cg (fun a9 h8 h9 => ((hs_n (by omega)).trans ((hs_n (by omega)).trans ((hs_n (by omega)).trans ((hs_n (by omega)).trans ((hs_n (by omega)).trans ((hs_n (by omega)).trans ((hs_n (by omega)).trans rfl)))))))), hLg.cg (fun a9 h8 h9 => ((hs_n (by omega)).trans ((hs_n (by omega)).trans ((hs_n (by omega)).trans ((hs_n (by omega)).trans ((hs_n (by omega)).trans ((hs_n (by omega)).trans ((hs_n (by omega)).trans rfl)))))))), hMk.cg (fun a9 h8 h9 => ((hs_n (by omega)).trans ((hs_n (by omega)).trans ((hs_n (by omega)).trans ((hs_n (by omega)).trans ((hs_n (by omega)).trans ((hs_n (by omega)).trans ((hs_n (by omega)).trans rfl)))))))), hPt.cg (fun a9 h8 h9 => ((hs_n (by omega)).trans ((hs_n (by omega)).trans ((hs_n (by omega)).trans ((hs_n (by omega)).trans ((hs_n (by omega)).trans ((hs_n (by omega)).trans ((hs_n (by omega)).trans rfl)))))))), hEx.cg (fun a9 h8 h9 => ((hs_n (by omega)).trans ((hs_n (by omega)).trans ((hs_n (by omega)).trans ((hs_n (by omega)).trans ((hs_n (by omega)).trans ((hs_n (by omega)).trans ((hs_n (by omega)).trans rfl))))))))⟩ (fun a9 h9 => ((hs_n (by omega)).trans ((hs_n (by omega)).trans ((hs_n (by omega)).trans ((hs_n (by omega)).trans ((hs_n (by omega)).trans ((hs_n (by omega)).trans ((hs_n (by omega)).trans rfl))))))))
    · refine r_bipush (z := -2) dX10_take_21 (by decide) ?_
      refine r_ireturn hq dX10_take_23 rfl rfl rfl ?_
      refine hQ _ _ K C S (Or.inr (Or.inl ⟨by omega, by omega, ⟨_, _, _, _, hP13, c_18⟩, rfl, rfl, rfl, rfl⟩)) ⟨hO.cg (fun a9 h8 h9 => ((hs_n (by omega)).trans ((hs_n (by omega)).trans ((hs_n (by omega)).trans ((hs_n (by omega)).trans rfl))))), ⟨k13, c13, s13, nu13, be13, ((hs_n (by omega)).trans ((hs_n (by omega)).trans ((hs_n (by omega)).trans hs_e))), ((hs_n (by omega)).trans ((hs_n (by omega)).trans ((hs_n (by omega)).trans ((hs_n (by omega)).trans hT2)))), (RowAt.to ((hs_n (by omega)).trans hs_e) ((hs_n (by omega)).trans ((hs_n (by omega)).trans hs_e)) hs_e), hRB13, hTl, hTb⟩, hR.cg ((hs_n (by omega)).trans ((hs_n (by omega)).trans ((hs_n (by omega)).trans ((hs_n (by omega)).trans rfl)))) (fun a9 h8 h9 => ((hs_n (by omega)).trans ((hs_n (by omega)).trans ((hs_n (by omega)).trans ((hs_n (by omega)).trans rfl))))), hNu.cg (fun a9 h8 h9 => ((hs_n (by omega)).trans ((hs_n (by omega)).trans ((hs_n (by omega)).trans ((hs_n (by omega)).trans rfl))))), hRs.cg (fun a9 h8 h9 => ((hs_n (by omega)).trans ((hs_n (by omega)).trans ((hs_n (by omega)).trans ((hs_n (by omega)).trans rfl))))), hRd.cg (fun a9 h8 h9 => ((hs_n (by omega)).trans ((hs_n (by omega)).trans ((hs_n (by omega)).trans ((hs_n (by omega)).trans rfl))))), hLg.cg (fun a9 h8 h9 => ((hs_n (by omega)).trans ((hs_n (by omega)).trans ((hs_n (by omega)).trans ((hs_n (by omega)).trans rfl))))), hMk.cg (fun a9 h8 h9 => ((hs_n (by omega)).trans ((hs_n (by omega)).trans ((hs_n (by omega)).trans ((hs_n (by omega)).trans rfl))))), hPt.cg (fun a9 h8 h9 => ((hs_n (by omega)).trans ((hs_n (by omega)).trans ((hs_n (by omega)).trans ((hs_n (by omega)).trans rfl))))), hEx.cg (fun a9 h8 h9 => ((hs_n (by omega)).trans ((hs_n (by omega)).trans ((hs_n (by omega)).trans ((hs_n (by omega)).trans rfl)))))⟩ (fun a9 h9 => ((hs_n (by omega)).trans ((hs_n (by omega)).trans ((hs_n (by omega)).trans ((hs_n (by omega)).trans rfl)))))
  · refine r_iconst (z := -1) dX10_take_7 ?_
    refine r_ireturn hq dX10_take_8 rfl rfl rfl ?_
    exact hQ _ h K C S (Or.inl ⟨by omega, rfl, rfl, rfl, rfl⟩) hI (fun _ _ => rfl)
def SPtold (i w j : Int) (K : Nat → Nat) (C S : Nat → Nat → Int) (r : Int) : Prop := (¬ (0 ≤ i ∧ i ≤ 5) ∧ r = -10000000) ∨ (0 ≤ i ∧ i ≤ 5 ∧ ((w = 0 ∧ r = (K i.toNat : Int)) ∨ (w = 1 ∧ 1 ≤ j ∧ j ≤ (K i.toNat : Int) ∧ r = C i.toNat j.toNat) ∨ (w = 2 ∧ 0 ≤ j ∧ j ≤ (K i.toNat : Int) - 1 ∧ r = S i.toNat j.toNat) ∨ (w ≠ 0 ∧ ¬ (w = 1 ∧ 1 ≤ j ∧ j ≤ (K i.toNat : Int)) ∧ ¬ (w = 2 ∧ 0 ≤ j ∧ j ≤ (K i.toNat : Int) - 1) ∧ r = -10000000)))
set_option maxHeartbeats 2000000 in
set_option maxRecDepth 20000 in
theorem c_X10_told {N : Nat} {h : Hp} {Q : QP} {tb : Nat → Int} {ln : Nat} {K : Nat → Nat} {C S : Nat → Nat → Int} {p : Int} {vs : Nat → Int} {sz : Nat} {i w j : Int} (hI : CI h tb ln K C S p vs sz) (hN : 124 ≤ N) (hi : rI i) (hw : rI w) (hj : rI j) (hQ : ∀ (r : Int) (h2 : Hp), SPtold i w j K C S r → CI h2 tb ln K C S p vs sz → OUT h h2 → Q (some (.int (iZ r))) N h2) : Runs mX10_told [.ref (0), .int (iZ (i)), .int (iZ (w)), .int (iZ (j))] N h Q := by
  obtain ⟨hO, hT, hR, hNu, hRs, hRd, hLg, hMk, hPt, hEx⟩ := id hI
  obtain ⟨rg, hR6, hRg⟩ := hR.1
  refine run_start (own := RX10) rfl (by decide) (nle rfl) rfl (fun X hq hini => ?_)
  show G X RX10 cX10_told mX10_told.rm N 0 0 0 [some (.ref (0)), some (.int (iZ (i))), some (.int (iZ (w))), some (.int (iZ (j))), none] [] h
  refine r_iload_n dX10_told_0 rfl rfl ?_
  refine r_callS (av := [.int (iZ (i))]) dX10_told_1 lkX10_isRegister ml_X10_84 stX10_isRegister ⟨Nat.le_of_ble_eq_true rfl, Nat.le_of_ble_eq_true rfl⟩ rfl rfl (nle rfl) ⟨Nat.le_of_ble_eq_true rfl, Nat.le_of_ble_eq_true rfl⟩ (c_X10_isRegister (x := i) hi (fun b1 hb1 => ?_))
  show G _ _ _ _ _ _ _ 4 _ _ _
  refine r_if_ne 10 dX10_told_4 (by decide) (by rcases hb1 with ⟨y, _⟩ | ⟨y, _⟩ <;> exact ⟨by omega, by omega⟩) (fun c_4 => ?_) (fun c_4 => ?_)
  · obtain ⟨k, c, s, ek, ec, es, hr, hrb⟩ := hR.get (i := i.toNat) (by omega)
    obtain ⟨hk1, hk6, hcb, hsb, hc0⟩ := id hrb
    refine r_aload_n dX10_told_10 rfl rfl ?_
    refine gf_X10_18 dX10_told_11 (by omega) hO rfl ?_
    refine r_iload_n dX10_told_14 rfl rfl ?_
    refine r_aaload dX10_told_15 (by omega) hR6 (by decide) (by omega) (by omega) (by decide) (hRg _ (by omega)) ?_
    refine r_astore (L2 := [_, _, _, _, _]) dX10_told_16 (nlt rfl) rfl ?_
    refine r_iload_n dX10_told_18 rfl rfl ?_
    refine r_if_ne 28 dX10_told_19 (by decide) hw (fun c_19 => ?_) (fun c_19 => ?_)
    · refine r_iload_n dX10_told_28 rfl rfl ?_
      refine r_iconst (z := 1) dX10_told_29 ?_
      refine r_icmp_ne 55 dX10_told_30 (by decide) hw ⟨by decide, by decide⟩ (fun c_30 => ?_) (fun c_30 => ?_)
      · refine r_iload_n dX10_told_55 rfl rfl ?_
        refine r_iconst (z := 2) dX10_told_56 ?_
        refine r_icmp_ne 84 dX10_told_57 (by decide) hw ⟨by decide, by decide⟩ (fun c_57 => ?_) (fun c_57 => ?_)
        · refine r_ldc (z := -10000000) dX10_told_84 kc_X10_99 ?_
          refine r_ireturn hq dX10_told_86 rfl rfl rfl ?_
          exact hQ _ h (Or.inr ⟨by omega, by omega, Or.inr (Or.inr (Or.inr ⟨by omega, by omega, by omega, rfl⟩))⟩) hI (fun _ _ => rfl)
        · refine r_iload_n dX10_told_60 rfl rfl ?_
          refine r_iconst (z := 0) dX10_told_61 ?_
          refine r_aload dX10_told_62 rfl ?_
          refine gf_X10_96 dX10_told_64 (by omega) hr.1 rfl ?_
          refine r_iconst (z := 1) dX10_told_67 ?_
          refine r_isub dX10_told_68 ?_
          refine r_callS (av := [.int (iZ (j)), .int (iZ (0)), .int (iZ ((k : Int) - 1))]) dX10_told_69 lkX10_isIn ml_X10_100 stX10_isIn ⟨Nat.le_of_ble_eq_true rfl, Nat.le_of_ble_eq_true rfl⟩ rfl rfl (nle rfl) ⟨Nat.le_of_ble_eq_true rfl, Nat.le_of_ble_eq_true rfl⟩ (c_X10_isIn (x := j) (l := 0) (m := (k : Int) - 1) hj ⟨by decide, by decide⟩ ⟨by omega, by omega⟩ (fun b69 hb69 => ?_))
          show G _ _ _ _ _ _ _ 72 _ _ _
          refine r_if_eq 84 dX10_told_72 (by decide) (by rcases hb69 with ⟨y, _⟩ | ⟨y, _⟩ <;> exact ⟨by omega, by omega⟩) (fun c_72 => ?_) (fun c_72 => ?_)
          · refine r_ldc (z := -10000000) dX10_told_84 kc_X10_99 ?_
            refine r_ireturn hq dX10_told_86 rfl rfl rfl ?_
            exact hQ _ h (Or.inr ⟨by omega, by omega, Or.inr (Or.inr (Or.inr ⟨by omega, by omega, by omega, rfl⟩))⟩) hI (fun _ _ => rfl)
          · refine r_aload dX10_told_75 rfl ?_
            refine gf_X10_107 dX10_told_77 (by omega) hr.1 rfl ?_
            refine r_iload_n dX10_told_80 rfl rfl ?_
            refine r_laload dX10_told_81 (by omega) hr.2.2 (by omega) (by omega) (by decide) ?_
            refine r_l2i dX10_told_82 ?_
            refine r_ireturn hq dX10_told_83 rfl rfl rfl ?_
            exact hQ _ h (Or.inr ⟨by omega, by omega, Or.inr (Or.inr (Or.inl ⟨by omega, by omega, by omega, by rw [es]⟩))⟩) hI (fun _ _ => rfl)
      · refine r_iload_n dX10_told_33 rfl rfl ?_
        refine r_iconst (z := 1) dX10_told_34 ?_
        refine r_aload dX10_told_35 rfl ?_
        refine gf_X10_96 dX10_told_37 (by omega) hr.1 rfl ?_
        refine r_callS (av := [.int (iZ (j)), .int (iZ (1)), .int (iZ ((k : Int)))]) dX10_told_40 lkX10_isIn ml_X10_100 stX10_isIn ⟨Nat.le_of_ble_eq_true rfl, Nat.le_of_ble_eq_true rfl⟩ rfl rfl (nle rfl) ⟨Nat.le_of_ble_eq_true rfl, Nat.le_of_ble_eq_true rfl⟩ (c_X10_isIn (x := j) (l := 1) (m := (k : Int)) hj ⟨by decide, by decide⟩ ⟨by omega, by omega⟩ (fun b40 hb40 => ?_))
        show G _ _ _ _ _ _ _ 43 _ _ _
        refine r_if_eq 55 dX10_told_43 (by decide) (by rcases hb40 with ⟨y, _⟩ | ⟨y, _⟩ <;> exact ⟨by omega, by omega⟩) (fun c_43 => ?_) (fun c_43 => ?_)
        · refine r_iload_n dX10_told_55 rfl rfl ?_
          refine r_iconst (z := 2) dX10_told_56 ?_
          refine r_icmp_ne 84 dX10_told_57 (by decide) hw ⟨by decide, by decide⟩ (fun c_57 => ?_) (fun c_57 => ?_)
          · refine r_ldc (z := -10000000) dX10_told_84 kc_X10_99 ?_
            refine r_ireturn hq dX10_told_86 rfl rfl rfl ?_
            exact hQ _ h (Or.inr ⟨by omega, by omega, Or.inr (Or.inr (Or.inr ⟨by omega, by omega, by omega, rfl⟩))⟩) hI (fun _ _ => rfl)
          · refine r_iload_n dX10_told_60 rfl rfl ?_
            refine r_iconst (z := 0) dX10_told_61 ?_
            refine r_aload dX10_told_62 rfl ?_
            refine gf_X10_96 dX10_told_64 (by omega) hr.1 rfl ?_
            refine r_iconst (z := 1) dX10_told_67 ?_
            refine r_isub dX10_told_68 ?_
            refine r_callS (av := [.int (iZ (j)), .int (iZ (0)), .int (iZ ((k : Int) - 1))]) dX10_told_69 lkX10_isIn ml_X10_100 stX10_isIn ⟨Nat.le_of_ble_eq_true rfl, Nat.le_of_ble_eq_true rfl⟩ rfl rfl (nle rfl) ⟨Nat.le_of_ble_eq_true rfl, Nat.le_of_ble_eq_true rfl⟩ (c_X10_isIn (x := j) (l := 0) (m := (k : Int) - 1) hj ⟨by decide, by decide⟩ ⟨by omega, by omega⟩ (fun b69 hb69 => ?_))
            show G _ _ _ _ _ _ _ 72 _ _ _
            refine r_if_eq 84 dX10_told_72 (by decide) (by rcases hb69 with ⟨y, _⟩ | ⟨y, _⟩ <;> exact ⟨by omega, by omega⟩) (fun c_72 => ?_) (fun c_72 => ?_)
            · refine r_ldc (z := -10000000) dX10_told_84 kc_X10_99 ?_
              refine r_ireturn hq dX10_told_86 rfl rfl rfl ?_
              exact hQ _ h (Or.inr ⟨by omega, by omega, Or.inr (Or.inr (Or.inr ⟨by omega, by omega, by omega, rfl⟩))⟩) hI (fun _ _ => rfl)
            · refine r_aload dX10_told_75 rfl ?_
              refine gf_X10_107 dX10_told_77 (by omega) hr.1 rfl ?_
              refine r_iload_n dX10_told_80 rfl rfl ?_
              refine r_laload dX10_told_81 (by omega) hr.2.2 (by omega) (by omega) (by decide) ?_
              refine r_l2i dX10_told_82 ?_
              refine r_ireturn hq dX10_told_83 rfl rfl rfl ?_
              exact hQ _ h (Or.inr ⟨by omega, by omega, Or.inr (Or.inr (Or.inl ⟨by omega, by omega, by omega, by rw [es]⟩))⟩) hI (fun _ _ => rfl)
        · refine r_aload dX10_told_46 rfl ?_
          refine gf_X10_104 dX10_told_48 (by omega) hr.1 rfl ?_
          refine r_iload_n dX10_told_51 rfl rfl ?_
          refine r_laload dX10_told_52 (by omega) hr.2.1 (by omega) (by omega) (by decide) ?_
          refine r_l2i dX10_told_53 ?_
          refine r_ireturn hq dX10_told_54 rfl rfl rfl ?_
          exact hQ _ h (Or.inr ⟨by omega, by omega, Or.inr (Or.inl ⟨by omega, by omega, by omega, by rw [ec]⟩)⟩) hI (fun _ _ => rfl)
    · refine r_aload dX10_told_22 rfl ?_
      refine gf_X10_96 dX10_told_24 (by omega) hr.1 rfl ?_
      refine r_ireturn hq dX10_told_27 rfl rfl rfl ?_
      exact hQ _ h (Or.inr ⟨by omega, by omega, Or.inl ⟨by omega, by rw [ek]⟩⟩) hI (fun _ _ => rfl)
  · refine r_ldc (z := -10000000) dX10_told_7 kc_X10_99 ?_
    refine r_ireturn hq dX10_told_9 rfl rfl rfl ?_
    exact hQ _ h (Or.inl ⟨by omega, rfl⟩) hI (fun _ _ => rfl)
def SPexact (i n : Int) (K : Nat → Nat) (C S : Nat → Nat → Int) (r : Int) : Prop := (¬ (0 ≤ i ∧ i ≤ 5 ∧ 0 ≤ n ∧ n ≤ 2000) ∧ r = -1000000000000000000) ∨ (0 ≤ i ∧ i ≤ 5 ∧ 0 ≤ n ∧ n ≤ 2000 ∧ ∃ t, Told (K i.toNat) (C i.toNat) (S i.toNat) (n.toNat + 1) t ∧ ((n < (t : Int) ∧ r = ex (K i.toNat) (C i.toNat) (S i.toNat) n.toNat) ∨ ((t : Int) ≤ n ∧ r = -1000000000000000005)))
set_option maxHeartbeats 2000000 in
set_option maxRecDepth 20000 in
theorem c_X10_exact {N : Nat} {h : Hp} {Q : QP} {tb : Nat → Int} {ln : Nat} {K : Nat → Nat} {C S : Nat → Nat → Int} {p : Int} {vs : Nat → Int} {sz : Nat} {i n : Int} (hI : CI h tb ln K C S p vs sz) (hN : 124 ≤ N) (hi : rI i) (hn : rI n) (hQ : ∀ (r : Int) (h2 : Hp), SPexact i n K C S r → CI h2 tb ln K C S p vs sz → OUT h h2 → Q (some (.long (lZ r))) N h2) : Runs mX10_exact [.ref (0), .int (iZ (i)), .int (iZ (n))] N h Q := by
  obtain ⟨hO, hT, hR, hNu, hRs, hRd, hLg, hMk, hPt, hEx⟩ := id hI
  obtain ⟨rg, hR6, hRg⟩ := hR.1
  obtain ⟨exf, exg, hE1, hE2⟩ := id hEx
  refine run_start (own := RX10) rfl (by decide) (nle rfl) rfl (fun X hq hini => ?_)
  show G X RX10 cX10_exact mX10_exact.rm N 0 0 0 [some (.ref (0)), some (.int (iZ (i))), some (.int (iZ (n)))] [] h
  refine r_iload_n dX10_exact_0 rfl rfl ?_
  refine r_callS (av := [.int (iZ (i))]) dX10_exact_1 lkX10_isRegister ml_X10_84 stX10_isRegister ⟨Nat.le_of_ble_eq_true rfl, Nat.le_of_ble_eq_true rfl⟩ rfl rfl (nle rfl) ⟨Nat.le_of_ble_eq_true rfl, Nat.le_of_ble_eq_true rfl⟩ (c_X10_isRegister (x := i) hi (fun b1 hb1 => ?_))
  show G _ _ _ _ _ _ _ 4 _ _ _
  refine r_if_eq 18 dX10_exact_4 (by decide) (by rcases hb1 with ⟨y, _⟩ | ⟨y, _⟩ <;> exact ⟨by omega, by omega⟩) (fun c_4 => ?_) (fun c_4 => ?_)
  · refine r_ldc2 (z := -1000000000000000000) dX10_exact_18 kc_X10_110 ?_
    refine r_lreturn hq dX10_exact_21 rfl rfl rfl ?_
    exact hQ _ h (Or.inl ⟨by omega, rfl⟩) hI (fun _ _ => rfl)
  · refine r_iload_n dX10_exact_7 rfl rfl ?_
    refine r_iconst (z := 0) dX10_exact_8 ?_
    refine r_sipush (z := 2000) dX10_exact_9 (by decide) ?_
    refine r_callS (av := [.int (iZ (n)), .int (iZ (0)), .int (iZ (2000))]) dX10_exact_12 lkX10_isIn ml_X10_100 stX10_isIn ⟨Nat.le_of_ble_eq_true rfl, Nat.le_of_ble_eq_true rfl⟩ rfl rfl (nle rfl) ⟨Nat.le_of_ble_eq_true rfl, Nat.le_of_ble_eq_true rfl⟩ (c_X10_isIn (x := n) (l := 0) (m := 2000) hn ⟨by decide, by decide⟩ ⟨by decide, by decide⟩ (fun b12 hb12 => ?_))
    show G _ _ _ _ _ _ _ 15 _ _ _
    refine r_if_ne 22 dX10_exact_15 (by decide) (by rcases hb12 with ⟨y, _⟩ | ⟨y, _⟩ <;> exact ⟨by omega, by omega⟩) (fun c_15 => ?_) (fun c_15 => ?_)
    · obtain ⟨k, c, s, ek, ec, es, hr, hrb⟩ := hR.get (i := i.toNat) (by omega)
      obtain ⟨hk1, hk6, hcb, hsb, hc0⟩ := id hrb
      refine r_aload_n dX10_exact_22 rfl rfl ?_
      refine gf_X10_18 dX10_exact_23 (by omega) hO rfl ?_
      refine r_iload_n dX10_exact_26 rfl rfl ?_
      refine r_aaload dX10_exact_27 (by omega) hR6 (by decide) (by omega) (by omega) (by decide) (hRg _ (by omega)) ?_
      refine r_aload_n dX10_exact_28 rfl rfl ?_
      refine gf_X10_64 dX10_exact_29 (by omega) hO rfl ?_
      refine r_iload_n dX10_exact_32 rfl rfl ?_
      refine r_callV (av := [.ref (104), .int (iZ (n))]) dX10_exact_33 lkX7_tellNumbers ml_X10_112 imX7_tellNumbers seX7_tellNumbers (by omega) (rfl : vwCl[7]? = _) ⟨_, hr.1⟩ ⟨Nat.le_of_ble_eq_true rfl, Nat.le_of_ble_eq_true rfl⟩ rfl rfl (nle rfl) ⟨Nat.le_of_ble_eq_true rfl, Nat.le_of_ble_eq_true rfl⟩ (c_X7_tellNumbers (r := 106 + 3 * i.toNat) (k := k) (q := 104) (M := 2001) (last := n.toNat) (c := c) (s := s) (f := exf) (by omega) (RowAt.to hr.1 hr.2.1 hr.2.2) (by omega) hE1 (by omega) (by omega) (by omega) (by omega) hk1 hk6 (by decide) (by decide) (by omega) hcb (fun j hj => hsb j (by omega)) (fun t33 F33 hT33 hF33 hG33 => ?_))
      show G _ _ _ _ _ _ _ 36 _ _ _
      have hm9 : min (n.toNat + 1) 2001 = n.toNat + 1 := by omega
      rw [hm9] at hT33
      refine r_iload_n dX10_exact_36 rfl rfl ?_
      refine r_icmp_le 49 dX10_exact_37 (by decide) (by have := hT33.1; exact ⟨by omega, by omega⟩) ⟨by omega, by omega⟩ (fun c_37 => ?_) (fun c_37 => ?_)
      · refine r_ldc2 (z := -1000000000000000005) dX10_exact_49 kc_X10_116 ?_
        refine r_lreturn hq dX10_exact_52 rfl rfl rfl ?_
        refine hQ _ _ (Or.inr ⟨by omega, by omega, by omega, by omega, t33, by rw [← ek, ← ec, ← es]; exact hT33, Or.inr ⟨by omega, rfl⟩⟩) ⟨hO.cg (fun a9 h8 h9 => ((hs_n (by omega)).trans rfl)), hT.cg (fun a9 h8 h9 => ((hs_n (by omega)).trans rfl)), hR.cg ((hs_n (by omega)).trans rfl) (fun a9 h8 h9 => ((hs_n (by omega)).trans rfl)), hNu.cg (fun a9 h8 h9 => ((hs_n (by omega)).trans rfl)), hRs.cg (fun a9 h8 h9 => ((hs_n (by omega)).trans rfl)), hRd.cg (fun a9 h8 h9 => ((hs_n (by omega)).trans rfl)), hLg.cg (fun a9 h8 h9 => ((hs_n (by omega)).trans rfl)), hMk.cg (fun a9 h8 h9 => ((hs_n (by omega)).trans rfl)), hPt.cg (fun a9 h8 h9 => ((hs_n (by omega)).trans rfl)), ⟨_, _, hs_e, ((hs_n (by omega)).trans hE2)⟩⟩ (fun a9 h9 => ((hs_n (by omega)).trans rfl))
      · refine r_aload_n dX10_exact_40 rfl rfl ?_
        refine gf_X10_64 dX10_exact_41 (by omega) ((hs_n (by omega)).trans hO) rfl ?_
        refine r_iload_n dX10_exact_44 rfl rfl ?_
        refine r_laload dX10_exact_45 (by omega) hs_e (by omega) (by omega) (by decide) ?_
        refine r_goto 52 dX10_exact_46 (by decide) ?_
        refine r_lreturn hq dX10_exact_52 rfl rfl rfl ?_
        rw [hF33 n.toNat (by omega)]
        refine hQ _ _ (Or.inr ⟨by omega, by omega, by omega, by omega, t33, by rw [← ek, ← ec, ← es]; exact hT33, Or.inl ⟨by omega, by rw [ek, ec, es]⟩⟩) ⟨hO.cg (fun a9 h8 h9 => ((hs_n (by omega)).trans rfl)), hT.cg (fun a9 h8 h9 => ((hs_n (by omega)).trans rfl)), hR.cg ((hs_n (by omega)).trans rfl) (fun a9 h8 h9 => ((hs_n (by omega)).trans rfl)), hNu.cg (fun a9 h8 h9 => ((hs_n (by omega)).trans rfl)), hRs.cg (fun a9 h8 h9 => ((hs_n (by omega)).trans rfl)), hRd.cg (fun a9 h8 h9 => ((hs_n (by omega)).trans rfl)), hLg.cg (fun a9 h8 h9 => ((hs_n (by omega)).trans rfl)), hMk.cg (fun a9 h8 h9 => ((hs_n (by omega)).trans rfl)), hPt.cg (fun a9 h8 h9 => ((hs_n (by omega)).trans rfl)), ⟨_, _, hs_e, ((hs_n (by omega)).trans hE2)⟩⟩ (fun a9 h9 => ((hs_n (by omega)).trans rfl))
    · refine r_ldc2 (z := -1000000000000000000) dX10_exact_18 kc_X10_110 ?_
      refine r_lreturn hq dX10_exact_21 rfl rfl rfl ?_
      exact hQ _ h (Or.inl ⟨by omega, rfl⟩) hI (fun _ _ => rfl)
def SPcount (w : Int) (ln sz : Nat) (K : Nat → Nat) (r : Int) : Prop := (w = 0 ∧ r = (ln : Int)) ∨ (w = 1 ∧ r = (sz : Int)) ∨ (w = 2 ∧ r = sm (fun i => (K i : Int)) 6) ∨ (w ≠ 0 ∧ w ≠ 1 ∧ w ≠ 2 ∧ r = -1)
set_option maxHeartbeats 2000000 in
set_option maxRecDepth 20000 in
theorem c_X10_ordersTogether {N : Nat} {h : Hp} {Q : QP} {tb : Nat → Int} {ln : Nat} {K : Nat → Nat} {C S : Nat → Nat → Int} {p : Int} {vs : Nat → Int} {sz : Nat} (hI : CI h tb ln K C S p vs sz) (hN : 124 ≤ N) (hQ : Q (some (.int (iZ (sm (fun i => (K i : Int)) 6)))) N h) : Runs mX10_ordersTogether [.ref (0)] N h Q := by
  obtain ⟨hO, hT, hR, hNu, hRs, hRd, hLg, hMk, hPt, hEx⟩ := id hI
  obtain ⟨rg, hR6, hRg⟩ := hR.1
  refine run_start (own := RX10) rfl (by decide) (nle rfl) rfl (fun X hq hini => ?_)
  show G X RX10 cX10_ordersTogether mX10_ordersTogether.rm N 0 0 0 [some (.ref (0)), none, none] [] h
  refine r_iconst (z := 0) dX10_ordersTogether_0 ?_
  refine r_istore_n (L2 := [_, _, none]) dX10_ordersTogether_1 rfl (nlt rfl) rfl ?_
  refine r_iconst (z := 0) dX10_ordersTogether_2 ?_
  refine r_istore_n (L2 := [_, _, _]) dX10_ordersTogether_3 rfl (nlt rfl) rfl ?_
  have lp4 : ∀ (fu4 : Nat) (sum : Int) (i : Int) (j : Nat), (7 - i) < (fu4 : Int) → (i = (j : Int)) → (j ≤ 6) → (sum = sm (fun i => (K i : Int)) j) → G X RX10 cX10_ordersTogether mX10_ordersTogether.rm N 0 0 4 [some (.ref (0)), some (.int (iZ (sum))), some (.int (iZ (i)))] [] h := by
    intro fu4
    induction fu4 with
    | zero => intro sum i j hm ei j6 es9; exfalso; omega
    | succ fu4 ih4 =>
      intro sum i j hms4 ei j6 es9
      refine r_iload_n dX10_ordersTogether_4 rfl rfl ?_
      refine r_bipush (z := 6) dX10_ordersTogether_5 (by decide) ?_
      refine r_icmp_ge 28 dX10_ordersTogether_7 (by decide) ⟨by omega, by omega⟩ ⟨by decide, by decide⟩ (fun c_7 => ?_) (fun c_7 => ?_)
      · refine r_iload_n dX10_ordersTogether_28 rfl rfl ?_
        refine r_ireturn hq dX10_ordersTogether_29 rfl rfl rfl ?_
        have j9 : j = 6 := by omega
        rw [es9, j9]
        exact hQ
      · obtain ⟨k, c, s, ek, ec, es, hr, hrb⟩ := hR.get (i := i.toNat) (by omega)
        obtain ⟨hk1, hk6, hcb, hsb, hc0⟩ := id hrb
        have ein : i.toNat = j := by omega
        refine r_iload_n dX10_ordersTogether_10 rfl rfl ?_
        refine r_aload_n dX10_ordersTogether_11 rfl rfl ?_
        refine gf_X10_18 dX10_ordersTogether_12 (by omega) hO rfl ?_
        refine r_iload_n dX10_ordersTogether_15 rfl rfl ?_
        refine r_aaload dX10_ordersTogether_16 (by omega) hR6 (by decide) (by omega) (by omega) (by decide) (hRg _ (by omega)) ?_
        refine gf_X10_96 dX10_ordersTogether_17 (by omega) hr.1 rfl ?_
        refine r_iadd dX10_ordersTogether_20 ?_
        refine r_istore_n (L2 := [_, _, _]) dX10_ordersTogether_21 rfl (nlt rfl) rfl ?_
        refine r_iinc (L2 := [_, _, _]) dX10_ordersTogether_22 (nlt rfl) rfl rfl ?_
        refine r_goto 4 dX10_ordersTogether_25 (by decide) ?_
        exact ih4 (sum + (k : Int)) (i + 1) ((j + 1)) (by omega) (by omega) (by omega) (by rw [sm_s, ← es9, ek, ein])
  exact lp4 ((7 : Int) + 1).toNat (0) (0) (0) (by omega) rfl (by decide) rfl
set_option maxHeartbeats 2000000 in
set_option maxRecDepth 20000 in
theorem c_X10_count {N : Nat} {h : Hp} {Q : QP} {tb : Nat → Int} {ln : Nat} {K : Nat → Nat} {C S : Nat → Nat → Int} {p : Int} {vs : Nat → Int} {sz : Nat} {w : Int} (hI : CI h tb ln K C S p vs sz) (hN : 124 ≤ N) (hw : rI w) (hQ : ∀ (r : Int) (h2 : Hp), SPcount w ln sz K r → CI h2 tb ln K C S p vs sz → OUT h h2 → Q (some (.int (iZ r))) N h2) : Runs mX10_count [.ref (0), .int (iZ (w))] N h Q := by
  obtain ⟨hO, hT, hR, hNu, hRs, hRd, hLg, hMk, hPt, hEx⟩ := id hI
  obtain ⟨tk, tc, ts, tnu, tbe, hT1, hT2, hTr, hTrb, hTl, hTb⟩ := id hT
  obtain ⟨nsp, ng, nF, nld, nlw, hN1, hN2, hN3, hN4, hN5, hN6, hN7, hN8, hN9, hNs, hNp, hNv⟩ := id hNu
  obtain ⟨wk, wm, wt, wd, wlw, wsw, hW1, hW2, hW3⟩ := id hN9
  refine run_start (own := RX10) rfl (by decide) (nle rfl) rfl (fun X hq hini => ?_)
  show G X RX10 cX10_count mX10_count.rm N 0 0 0 [some (.ref (0)), some (.int (iZ (w)))] [] h
  refine r_iload_n dX10_count_0 rfl rfl ?_
  refine r_if_ne 12 dX10_count_1 (by decide) hw (fun c_1 => ?_) (fun c_1 => ?_)
  · refine r_iload_n dX10_count_12 rfl rfl ?_
    refine r_iconst (z := 1) dX10_count_13 ?_
    refine r_icmp_ne 25 dX10_count_14 (by decide) hw ⟨by decide, by decide⟩ (fun c_14 => ?_) (fun c_14 => ?_)
    · refine r_iload_n dX10_count_25 rfl rfl ?_
      refine r_iconst (z := 2) dX10_count_26 ?_
      refine r_icmp_ne 37 dX10_count_27 (by decide) hw ⟨by decide, by decide⟩ (fun c_27 => ?_) (fun c_27 => ?_)
      · refine r_iconst (z := -1) dX10_count_37 ?_
        refine r_ireturn hq dX10_count_38 rfl rfl rfl ?_
        exact hQ _ h (Or.inr (Or.inr (Or.inr ⟨by omega, by omega, by omega, rfl⟩))) hI (fun _ _ => rfl)
      · refine r_aload_n dX10_count_30 rfl rfl ?_
        refine r_callV (av := []) dX10_count_31 lkX10_ordersTogether ml_X10_225 imX10_ordersTogether seX10_ordersTogether (by omega) (rfl : vwCl[10]? = _) ⟨_, hO⟩ ⟨Nat.le_of_ble_eq_true rfl, Nat.le_of_ble_eq_true rfl⟩ rfl rfl (nle rfl) ⟨Nat.le_of_ble_eq_true rfl, Nat.le_of_ble_eq_true rfl⟩ (c_X10_ordersTogether hI hN ?_)
        show G _ _ _ _ _ _ _ 34 _ _ _
        refine r_goto 38 dX10_count_34 (by decide) ?_
        refine r_ireturn hq dX10_count_38 rfl rfl rfl ?_
        exact hQ _ h (Or.inr (Or.inr (Or.inl ⟨by omega, rfl⟩))) hI (fun _ _ => rfl)
    · refine r_aload_n dX10_count_17 rfl rfl ?_
      refine gf_X10_25 dX10_count_18 (by omega) hO rfl ?_
      refine gf_X10_166 dX10_count_21 (by omega) hN1 rfl ?_
      refine r_ireturn hq dX10_count_24 rfl rfl rfl ?_
      exact hQ _ h (Or.inr (Or.inl ⟨by omega, rfl⟩)) hI (fun _ _ => rfl)
  · refine r_aload_n dX10_count_4 rfl rfl ?_
    refine gf_X10_10 dX10_count_5 (by omega) hO rfl ?_
    refine gf_X10_76 dX10_count_8 (by omega) hT1 rfl ?_
    refine r_ireturn hq dX10_count_11 rfl rfl rfl ?_
    exact hQ _ h (Or.inl ⟨by omega, rfl⟩) hI (fun _ _ => rfl)
