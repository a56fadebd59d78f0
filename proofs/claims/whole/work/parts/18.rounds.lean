abbrev RDo (q : Nat) (ta tu : Int) : ACell := ob 6 [.ref (q + 1), .ref (q + 4), .ref (q + 5), .int (iZ ta), .int (iZ tu)]
set_option maxHeartbeats 2000000 in
set_option maxRecDepth 20000 in
theorem c_X6_findTurn {N : Nat} {h : Hp} {Q : QP} {q k : Nat} {m ta tu : Int} {lw sw c s ea la : Nat → Int} (hq0 : h q = RDo q ta tu) (hea : h (q + 4) = aL 55 ea) (hla : h (q + 5) = aL 64 la) (ho : h (q + 1) = WKo (q + 1) (k : Int) m (m ^ (k - 1)) (cdf m (rs k c s m) 55 k)) (h1 : h (q + 1 + 1) = aI 7 lw) (h2 : h (q + 1 + 2) = aI 6 sw) (hN : q + 5 < N) (hk0 : 0 < k) (hk : k ≤ 6) (hm2 : 2 ≤ m) (hm : m ≤ 1000) (hlw : ∀ j, 1 ≤ j → j ≤ k → lw j = c j % m) (hsw : ∀ j, j < k → sw j = rs k c s m (55 + j)) (he54 : ea 54 = cdf m (rs k c s m) 54 k) (hla2 : ∀ p, p < 55 → la (p % 64) = cdf m (rs k c s m) p k) (hQ : ∀ (l : Nat) (sw2 la2 : Nat → Int) (cd2 : Int), 1 ≤ l → l ≤ 100001 → (∀ l2, 0 < l2 → l2 < l → ¬ eqS k (rs k c s m) 54 (54 + l2)) → (l ≤ 100000 → eqS k (rs k c s m) 54 (54 + l) ∧ ∀ p, p ≤ 54 + l → 54 + l < p + 64 → la2 (p % 64) = cdf m (rs k c s m) p k) → Q (some (.int (iZ (l : Int)))) N (hs (hs (hs h (q + 1 + 2) (aI 6 sw2)) (q + 1) (WKo (q + 1) (k : Int) m (m ^ (k - 1)) cd2)) (q + 5) (aL 64 la2))) : Runs mX6_findTurn [.ref (q)] N h Q := by
  have hsin := rs_in (k := k) (c := c) (s := s) (m := m) (by omega)
  have p2 := pow18 hm2 hm (j := k) hk
  have cin := fun n => cdf_in (m := m) (by omega) hsin n k
  refine run_start (own := RX6) rfl (by decide) (nle rfl) rfl (fun X hq hini => ?_)
  show G X RX6 cX6_findTurn mX6_findTurn.rm N 0 0 0 [some (.ref (q)), none] [] h
  refine r_iconst (z := 1) dX6_findTurn_0 ?_
  refine r_istore_n (L2 := [_, _]) dX6_findTurn_1 rfl (nlt rfl) rfl ?_
  have lp2 : ∀ (fu2 : Nat) (sw : Nat → Int) (la : Nat → Int) (i : Int) (n : Nat), (100002 - i) < (fu2 : Int) → (i + 54 = (n : Int)) → (i ≤ 100001) → (55 ≤ n) → (∀ j, j < k → sw j = rs k c s m (n + j)) → (∀ l2, 0 < l2 → 54 + l2 < n → ¬ eqS k (rs k c s m) 54 (54 + l2)) → (∀ p, p < n → n ≤ p + 64 → la (p % 64) = cdf m (rs k c s m) p k) → G X RX6 cX6_findTurn mX6_findTurn.rm N 0 0 2 [some (.ref (q)), some (.int (iZ (i)))] [] (hs (hs (hs h (q + 1 + 2) (aI 6 (sw))) (q + 1) (ob 9 [.ref (q + 1 + 1), .ref (q + 1 + 2), .int (iZ ((k : Int))), .int (iZ (m)), .long (lZ (m ^ (k - 1))), .long (lZ (cdf m (rs k c s m) n k))])) (q + 5) (aL 64 (la))) := by
    intro fu2
    induction fu2 with
    | zero => intro sw la i n hm ei i1 n55 hsw hno hla3; exfalso; omega
    | succ fu2 ih2 =>
      intro sw la i n hms2 ei i1 n55 hsw hno hla3
      refine r_iload_n dX6_findTurn_2 rfl rfl ?_
      refine r_ldc (z := 100000) dX6_findTurn_3 kc_X6_47 ?_
      refine r_icmp_gt 60 dX6_findTurn_5 (by decide) ⟨by omega, by omega⟩ ⟨by decide, by decide⟩ (fun c_5 => ?_) (fun c_5 => ?_)
      · refine r_ldc (z := 100001) dX6_findTurn_60 kc_X6_48 ?_
        refine r_ireturn hq dX6_findTurn_62 rfl rfl rfl ?_
        exact hQ 100001 _ _ _ (by omega) (by omega) (fun l2 h8 h9 => hno l2 h8 (by omega)) (fun z => by omega)
      · refine r_aload_n dX6_findTurn_8 rfl rfl ?_
        refine gf_X6_22 dX6_findTurn_9 (by omega) ((hs_n (by omega)).trans ((hs_n (by omega)).trans ((hs_n (by omega)).trans hq0))) rfl ?_
        refine r_bipush (z := 54) dX6_findTurn_12 (by decide) ?_
        refine r_iload_n dX6_findTurn_14 rfl rfl ?_
        refine r_iadd dX6_findTurn_15 ?_
        refine r_bipush (z := 64) dX6_findTurn_16 (by decide) ?_
        refine r_iremp dX6_findTurn_18 ⟨by omega, by omega⟩ ⟨by decide, by decide⟩ (by omega) (by decide) ?_
        have eix : ((54 + i) % 64).toNat = n % 64 := by omega
        refine r_aload_n dX6_findTurn_19 rfl rfl ?_
        refine gf_X6_12 dX6_findTurn_20 (by omega) ((hs_n (by omega)).trans ((hs_n (by omega)).trans ((hs_n (by omega)).trans hq0))) rfl ?_
        refine gf_X6_36 dX6_findTurn_23 (by omega) ((hs_n (by omega)).trans hs_e) rfl ?_
        refine r_lastore dX6_findTurn_26 (by omega) hs_e (by omega) (by omega) (by decide) ?_
        refine g_heap hs_hs ?_
        refine r_aload_n dX6_findTurn_27 rfl rfl ?_
        refine gf_X6_12 dX6_findTurn_28 (by omega) ((hs_n (by omega)).trans ((hs_n (by omega)).trans ((hs_n (by omega)).trans hq0))) rfl ?_
        refine gf_X6_36 dX6_findTurn_31 (by omega) ((hs_n (by omega)).trans hs_e) rfl ?_
        refine r_aload_n dX6_findTurn_34 rfl rfl ?_
        refine gf_X6_18 dX6_findTurn_35 (by omega) ((hs_n (by omega)).trans ((hs_n (by omega)).trans ((hs_n (by omega)).trans hq0))) rfl ?_
        refine r_bipush (z := 54) dX6_findTurn_38 (by decide) ?_
        refine r_laload dX6_findTurn_40 (by omega) ((hs_n (by omega)).trans ((hs_n (by omega)).trans ((hs_n (by omega)).trans hea))) (by omega) (by omega) (by decide) ?_
        have e54 : ea (54 : Int).toNat = ea 54 := rfl
        have cn := cin n
        have c54 := cin 54
        rw [← he54] at c54
        refine r_lcmp_ne 47 dX6_findTurn_41 dX6_findTurn_42 (by decide) ⟨by omega, by omega⟩ (by show rL (ea 54); exact ⟨by omega, by omega⟩) (fun c_41 => ?_) (fun c_41 => ?_)
        · have hne : ¬ eqS k (rs k c s m) 54 n := fun z => c_41 (by rw [e54, he54]; exact ((eqS_code (by omega) hsin).mpr z).symm)
          refine r_aload_n dX6_findTurn_47 rfl rfl ?_
          refine gf_X6_12 dX6_findTurn_48 (by omega) ((hs_n (by omega)).trans ((hs_n (by omega)).trans ((hs_n (by omega)).trans hq0))) rfl ?_
          refine r_callV (av := []) dX6_findTurn_51 lkX9_step ml_X6_40 imX9_step seX9_step (by omega) (rfl : vwCl[9]? = _) ⟨_, ((hs_n (by omega)).trans hs_e)⟩ ⟨Nat.le_of_ble_eq_true rfl, Nat.le_of_ble_eq_true rfl⟩ rfl rfl (nle rfl) ⟨Nat.le_of_ble_eq_true rfl, Nat.le_of_ble_eq_true rfl⟩ (c_X9_step (w := q + 1) (k := k) (n := n) (m := m) (lw := lw) (sw := sw) (c := c) (s := s) ((hs_n (by omega)).trans hs_e) ((hs_n (by omega)).trans ((hs_n (by omega)).trans ((hs_n (by omega)).trans h1))) ((hs_n (by omega)).trans ((hs_n (by omega)).trans hs_e)) (by omega) (by omega) (by omega) (by omega) (by omega) hlw hsw (fun st51 hst51 => ?_))
          refine g_heap (h2 := (hs (hs (hs h (q + 1 + 2) (aI 6 (st51))) (q + 1) (ob 9 [.ref (q + 1 + 1), .ref (q + 1 + 2), .int (iZ ((k : Int))), .int (iZ (m)), .long (lZ (m ^ (k - 1))), .long (lZ (cdf m (rs k c s m) (n + 1) k))])) (q + 5) (aL 64 (uA (la) ((54 + i) % 64).toNat (cdf m (rs k c s m) n k))))) (by funext z9; simp only [hs]; (repeat' split) <;> first | rfl | (exfalso; omega)) ?_
          show G _ _ _ _ _ _ _ 54 _ _ _
          refine r_iinc (L2 := [_, _]) dX6_findTurn_54 (nlt rfl) rfl rfl ?_
          refine r_goto 2 dX6_findTurn_57 (by decide) ?_
          exact ih2 (st51) (uA (la) ((54 + i) % 64).toNat (cdf m (rs k c s m) n k)) (i + 1) ((n + 1)) (by omega) (by omega) (by omega) (by omega) hst51 (fun l2 h8 h9 => by by_cases z : 54 + l2 = n; (rw [z]; exact hne); exact hno l2 h8 (by omega)) (fun p h8 h9 => by rw [eix]; by_cases z : p = n; (subst z; rw [uA_e]); rw [uA_n (by omega)]; exact hla3 p (by omega) (by omega))
        · refine r_iload_n dX6_findTurn_45 rfl rfl ?_
          refine r_ireturn hq dX6_findTurn_46 rfl rfl rfl ?_
          have hyes : eqS k (rs k c s m) 54 n := (eqS_code (by omega) hsin).mp (by rw [← he54]; exact c_41.symm)
          have e9 : i = ((n - 54 : Nat) : Int) := by omega
          have e8 : 54 + (n - 54) = n := by omega
          have hfin := hQ (n - 54) sw (uA la ((54 + i) % 64).toNat (cdf m (rs k c s m) n k)) (cdf m (rs k c s m) n k) (by omega) (by omega) (fun l2 h8 h9 => hno l2 h8 (by omega)) (fun _ => ⟨by rw [e8]; exact hyes, fun p h8 h9 => by rw [eix]; by_cases z : p = n; (subst z; rw [uA_e]); rw [uA_n (by omega)]; exact hla3 p (by omega) (by omega)⟩)
          rw [← e9] at hfin
          exact hfin
  refine g_heap (hs_id (c := aI 6 (sw)) h2).symm ?_
  refine g_heap (hs_id (c := ob 9 [.ref (q + 1 + 1), .ref (q + 1 + 2), .int (iZ ((k : Int))), .int (iZ (m)), .long (lZ (m ^ (k - 1))), .long (lZ (cdf m (rs k c s m) 55 k))]) ((hs_n (by omega)).trans ho)).symm ?_
  refine g_heap (hs_id (c := aL 64 (la)) ((hs_n (by omega)).trans ((hs_n (by omega)).trans hla))).symm ?_
  exact lp2 ((100002 : Int) + 1).toNat (sw) (la) (1) (55) (by omega) (by decide) (by decide) (by decide) hsw (fun l2 h8 h9 => by omega) (fun p h8 h9 => hla2 p h8)
