abbrev RDo (q : Nat) (ta tu : Int) : ACell := ob 6 [.ref (q + 1), .ref (q + 4), .ref (q + 5), .int (iZ ta), .int (iZ tu)]
set_option maxHeartbeats 2000000 in
set_option maxRecDepth 20000 in
theorem c_X6_findTurn {N : Nat} {h : Hp} {Q : QP} {q k : Nat} {m ta tu : Int} {lw sw c s ea la : Nat → Int} (hq0 : h q = RDo q ta tu) (hea : h (q + 4) = aL 55 ea) (hla : h (q + 5) = aL 64 la) (ho : h (q + 1) = WKo (q + 1) (k : Int) m (m ^ (k - 1)) (cdf m (rs k c s m) 55 k)) (h1 : h (q + 1 + 1) = aI 7 lw) (h2 : h (q + 1 + 2) = aI 6 sw) (hN : q + 5 < N) (hk0 : 0 < k) (hk : k ≤ 6) (hm2 : 2 ≤ m) (hm : m ≤ 1000) (hlw : ∀ j, 1 ≤ j → j ≤ k → lw j = c j % m) (hsw : ∀ j, j < k → sw j = rs k c s m (55 + j)) (he54 : ea 54 = cdf m (rs k c s m) 54 k) (hla2 : ∀ p, p < 55 → la (p % 64) = cdf m (rs k c s m) p k) (hQ : ∀ (l : Nat) (sw2 la2 : Nat → Int) (cd2 : Int), 1 ≤ l → l ≤ 100001 → (∀ l2, 0 < l2 → l2 < l → ¬ eqS k (rs k c s m) 54 (54 + l2)) → (l ≤ 100000 → eqS k (rs k c s m) 54 (54 + l) ∧ ∀ p, p ≤ 54 + l → 54 + l < p + 64 → la2 (p % 64) = cdf m (rs k c s m) p k) → Q (some (.int (iZ (l : Int)))) N (hs (hs (hs h (q + 1 + 2) (aI 6 sw2)) (q + 1) (WKo (q + 1) (k : Int) m (m ^ (k - 1)) cd2)) (q + 5) (aL 64 la2))) : Runs mX6_findTurn [.ref (q)] N h Q := by
  have hsin := rs_in (k := k) (c := c) (s := s) (m := m) (by omega)
  have p2 := pow18 hm2 hm (j := k) hk
  have cin := fun n => cdf_in (m := m) (by omega) hsin n k
  refine run_start (own := RX6) rfl (by decide) (nle rfl) rfl (fun X hq hini => ?_)
  show G X RX6 cX6_findTurn mX6_findTurn.rm N 0 0 0 [some (.ref (q)), none] [] h
  refine r_iconst (z := 1) dX6_findTurn_0 ?_
  refine r_istore_n (L2 := [_, _]) dX6_findTurn_1 rfl (nlt rfl) rfl ?_
  have lp2 : ∀ (fu2 : Nat) (sw : Nat → Int) (la : Nat → Int) (i : Int) (n : Nat), (100002 - i) < (fu2 : Int) → (i + 54 = (n : Int)) → (i ≤ 100001) → (55 ≤ n) → (∀ j, j < k → sw j = rs k c s m (n + j)) → (∀ l2, 0 < l2 → 54 + l2 < n → ¬ eqS k (rs k c s m) 54 (54 + l2)) → (∀ p, p < n → n ≤ p + 64 → la (p % 64) = cdf m (rs k c s m) p k) → G X RX6 cX6_findTurn mX6_findTurn.rm N 0 0 2 [some (.ref (q)), some (.int (iZ (i)))] [] (hs (hs (hs h (q + 1 + 2) (aI 6 (sw))) (q + 1) (ob 9 [.ref (q + 1 + 1), .ref (q + 1 + 2), .int (iZ ((k : Int))), .int (iZ (m)), .long (lZ (m ^ (k - 1))), .long (lZ (cdf m (rs k c s m) n k))])) (q + 5) (aL 64 (la))) := by
    intro fu2
    induction fu2 with
    | zero => intro sw la i n hm ei i1 n55 hsw hno hla3; exfalso; omega
    | succ fu2 ih2 =>
      intro sw la i n hms2 ei i1 n55 hsw hno hla3
      refine r_iload_n dX6_findTurn_2 rfl rfl ?_
      refine r_ldc (z := 100000) dX6_findTurn_3 kc_X6_47 ?_
      refine r_icmp_gt 60 dX6_findTurn_5 (by decide) ⟨by omega, by omega⟩ ⟨by decide, by decide⟩ (fun c_5 => ?_) (fun c_5 => ?_)
      · refine r_ldc (z := 100001) dX6_findTurn_60 kc_X6_48 ?_
        refine r_ireturn hq dX6_findTurn_62 rfl rfl rfl ?_
        exact hQ 100001 _ _ _ (by omega) (by omega) (fun l2 h8 h9 => hno l2 h8 (by omega)) (fun z => by omega)
      · refine r_aload_n dX6_findTurn_8 rfl rfl ?_
        refine gf_X6_22 dX6_findTurn_9 (by omega) ((hs_n (by omega)).trans ((hs_n (by omega)).trans ((hs_n (by omega)).trans hq0))) rfl ?_
        refine r_bipush (z := 54) dX6_findTurn_12 (by decide) ?_
        refine r_iload_n dX6_findTurn_14 rfl rfl ?_
        refine r_iadd dX6_findTurn_15 ?_
        refine r_bipush (z := 64) dX6_findTurn_16 (by decide) ?_
        refine r_iremp dX6_findTurn_18 ⟨by omega, by omega⟩ ⟨by decide, by decide⟩ (by omega) (by decide) ?_
        have eix : ((54 + i) % 64).toNat = n % 64 := by omega
        refine r_aload_n dX6_findTurn_19 rfl rfl ?_
        refine gf_X6_12 dX6_findTurn_20 (by omega) ((hs_n (by omega)).trans ((hs_n (by omega)).trans ((hs_n (by omega)).trans hq0))) rfl ?_
        refine gf_X6_36 dX6_findTurn_23 (by omega) ((hs_n (by omega)).trans hs_e) rfl ?_
        refine r_lastore dX6_findTurn_26 (by omega) hs_e (by omega) (by omega) (by decide) ?_
        refine g_heap (h2 := (hs (hs (hs h (q + 1 + 2) (aI 6 (sw))) (q + 1) (ob 9 [.ref (q + 1 + 1), .ref (q + 1 + 2), .int (iZ ((k : Int))), .int (iZ (m)), .long (lZ (m ^ (k - 1))), .long (lZ (cdf m (rs k c s m) n k))])) (q + 5) (aL 64 (uA (la) ((54 + i) % 64).toNat (cdf m (rs k c s m) n k))))) hs_hs ?_
        refine r_aload_n dX6_findTurn_27 rfl rfl ?_
        refine gf_X6_12 dX6_findTurn_28 (by omega) ((hs_n (by omega)).trans ((hs_n (by omega)).trans ((hs_n (by omega)).trans hq0))) rfl ?_
        refine gf_X6_36 dX6_findTurn_31 (by omega) ((hs_n (by omega)).trans hs_e) rfl ?_
        refine r_aload_n dX6_findTurn_34 rfl rfl ?_
        refine gf_X6_18 dX6_findTurn_35 (by omega) ((hs_n (by omega)).trans ((hs_n (by omega)).trans ((hs_n (by omega)).trans hq0))) rfl ?_
        refine r_bipush (z := 54) dX6_findTurn_38 (by decide) ?_
        refine r_laload dX6_findTurn_40 (by omega) ((hs_n (by omega)).trans ((hs_n (by omega)).trans ((hs_n (by omega)).trans hea))) (by omega) (by omega) (by decide) ?_
        have e54 : ea (54 : Int).toNat = ea 54 := rfl
        have cn := cin n
        have c54 := cin 54
        rw [← he54] at c54
        refine r_lcmp_ne 47 dX6_findTurn_41 dX6_findTurn_42 (by decide) ⟨by omega, by omega⟩ (by show rL (ea 54); exact ⟨by omega, by omega⟩) (fun c_41 => ?_) (fun c_41 => ?_)
        · have hne : ¬ eqS k (rs k c s m) 54 n := fun z => c_41 (by rw [e54, he54]; exact ((eqS_code (by omega) hsin).mpr z).symm)
          refine r_aload_n dX6_findTurn_47 rfl rfl ?_
          refine gf_X6_12 dX6_findTurn_48 (by omega) ((hs_n (by omega)).trans ((hs_n (by omega)).trans ((hs_n (by omega)).trans hq0))) rfl ?_
          refine r_callV (av := []) dX6_findTurn_51 lkX9_step ml_X6_40 imX9_step seX9_step (by omega) (rfl : vwCl[9]? = _) ⟨_, ((hs_n (by omega)).trans hs_e)⟩ ⟨Nat.le_of_ble_eq_true rfl, Nat.le_of_ble_eq_true rfl⟩ rfl rfl (nle rfl) ⟨Nat.le_of_ble_eq_true rfl, Nat.le_of_ble_eq_true rfl⟩ (c_X9_step (w := q + 1) (k := k) (n := n) (m := m) (lw := lw) (sw := sw) (c := c) (s := s) ((hs_n (by omega)).trans hs_e) ((hs_n (by omega)).trans ((hs_n (by omega)).trans ((hs_n (by omega)).trans h1))) ((hs_n (by omega)).trans ((hs_n (by omega)).trans hs_e)) (by omega) (by omega) (by omega) (by omega) (by omega) hlw hsw (fun st51 hst51 => ?_))
          refine g_heap (h2 := (hs (hs (hs h (q + 1 + 2) (aI 6 (st51))) (q + 1) (ob 9 [.ref (q + 1 + 1), .ref (q + 1 + 2), .int (iZ ((k : Int))), .int (iZ (m)), .long (lZ (m ^ (k - 1))), .long (lZ (cdf m (rs k c s m) (n + 1) k))])) (q + 5) (aL 64 (uA (la) ((54 + i) % 64).toNat (cdf m (rs k c s m) n k))))) ((congrArg (fun x9 => hs x9 (q + 1) (ob 9 [.ref (q + 1 + 1), .ref (q + 1 + 2), .int (iZ ((k : Int))), .int (iZ (m)), .long (lZ (m ^ (k - 1))), .long (lZ (cdf m (rs k c s m) (n + 1) k))])) (hs_put (by omega) (hs_put (by omega) hs_hs))).trans (hs_put (by omega) hs_hs)) ?_
          show G _ _ _ _ _ _ _ 54 _ _ _
          refine r_iinc (L2 := [_, _]) dX6_findTurn_54 (nlt rfl) rfl rfl ?_
          refine r_goto 2 dX6_findTurn_57 (by decide) ?_
          exact ih2 (st51) (uA (la) ((54 + i) % 64).toNat (cdf m (rs k c s m) n k)) (i + 1) ((n + 1)) (by omega) (by omega) (by omega) (by omega) hst51 (fun l2 h8 h9 => by by_cases z : 54 + l2 = n; (rw [z]; exact hne); exact hno l2 h8 (by omega)) (fun p h8 h9 => by rw [eix]; by_cases z : p = n; (subst z; rw [uA_e]); rw [uA_n (by omega)]; exact hla3 p (by omega) (by omega))
        · refine r_iload_n dX6_findTurn_45 rfl rfl ?_
          refine r_ireturn hq dX6_findTurn_46 rfl rfl rfl ?_
          have hyes : eqS k (rs k c s m) 54 n := (eqS_code (by omega) hsin).mp (by rw [← he54]; exact c_41.symm)
          have e9 : i = ((n - 54 : Nat) : Int) := by omega
          have e8 : 54 + (n - 54) = n := by omega
          have hfin := hQ (n - 54) sw (uA la ((54 + i) % 64).toNat (cdf m (rs k c s m) n k)) (cdf m (rs k c s m) n k) (by omega) (by omega) (fun l2 h8 h9 => hno l2 h8 (by omega)) (fun _ => ⟨by rw [e8]; exact hyes, fun p h8 h9 => by rw [eix]; by_cases z : p = n; (subst z; rw [uA_e]); rw [uA_n (by omega)]; exact hla3 p (by omega) (by omega)⟩)
          rw [← e9] at hfin
          exact hfin
  refine g_heap (hs_id (c := aI 6 (sw)) h2).symm ?_
  refine g_heap (hs_id (c := ob 9 [.ref (q + 1 + 1), .ref (q + 1 + 2), .int (iZ ((k : Int))), .int (iZ (m)), .long (lZ (m ^ (k - 1))), .long (lZ (cdf m (rs k c s m) 55 k))]) ((hs_n (by omega)).trans ho)).symm ?_
  refine g_heap (hs_id (c := aL 64 (la)) ((hs_n (by omega)).trans ((hs_n (by omega)).trans hla))).symm ?_
  exact lp2 ((100002 : Int) + 1).toNat (sw) (la) (1) (55) (by omega) (by decide) (by decide) (by decide) hsw (fun l2 h8 h9 => by omega) (fun p h8 h9 => hla2 p h8)
theorem cyc {k : Nat} {c s : Nat → Int} {m : Int} (h0 : 0 < k) {a p : Nat} (h : eqS k (rs k c s m) a (a + p)) : ∀ j : Nat, eqS k (rs k c s m) a (a + j * p)
  | 0 => by rw [Nat.zero_mul]; exact eqS.rf
  | j + 1 => by
    have h1 := eqS_shift h0 (cyc h0 h j) p
    have e : a + j * p + p = a + (j + 1) * p := by rw [Nat.add_mul, Nat.one_mul]; omega
    rw [e] at h1
    exact h.tr h1
theorem onCycle {k : Nat} {c s : Nat → Int} {m : Int} (h0 : 0 < k) {a p l : Nat} (hp : 0 < p) (hl : eqS k (rs k c s m) 54 (54 + l)) (h : eqS k (rs k c s m) a (a + p)) : eqS k (rs k c s m) a (a + l) := by
  have h1 := cyc h0 h 54
  have h2 := eqS_shift h0 hl (a + 54 * p - 54)
  have hp2 : 54 * 1 ≤ 54 * p := Nat.mul_le_mul_left 54 hp
  have e1 : 54 + (a + 54 * p - 54) = a + 54 * p := by omega
  have e2 : 54 + l + (a + 54 * p - 54) = a + 54 * p + l := by omega
  rw [e1, e2] at h2
  have h3 := eqS_shift h0 h1 l
  have e3 : a + 54 * p + l = a + 54 * p + l := rfl
  exact h1.tr (h2.tr h3.sy)
/-- how often v stands among the first n -/
def cntR (g : Nat → Int) (v : Int) : Nat → Int
  | 0 => 0
  | n + 1 => cntR g v n + if g n = v then 1 else 0
theorem cntR_in (g : Nat → Int) (v : Int) : ∀ n : Nat, 0 ≤ cntR g v n ∧ cntR g v n ≤ n
  | 0 => by simp [cntR]
  | n + 1 => by
    have := cntR_in g v n
    show 0 ≤ cntR g v n + (if g n = v then 1 else 0) ∧ cntR g v n + (if g n = v then 1 else 0) ≤ ((n + 1 : Nat) : Int)
    by_cases z : g n = v
    · rw [if_pos z]; omega
    · rw [if_neg z]; omega
def FirstR (g : Nat → Int) (v : Int) (T : Nat) (r : Int) : Prop := (∃ n : Nat, n < T ∧ g n = v ∧ (∀ n2, n2 < n → g n2 ≠ v) ∧ r = (n : Int)) ∨ ((∀ n, n < T → g n ≠ v) ∧ r = -4)
theorem FirstR.one {g : Nat → Int} {v : Int} {T : Nat} {r r2 : Int} (h1 : FirstR g v T r) (h2 : FirstR g v T r2) : r = r2 := by
  rcases h1 with ⟨n, a1, a2, a3, a4⟩ | ⟨a1, a2⟩ <;> rcases h2 with ⟨n2, b1, b2, b3, b4⟩ | ⟨b1, b2⟩
  · rcases Nat.lt_trichotomy n n2 with q | q | q
    · exact absurd a2 (b3 n q)
    · omega
    · exact absurd b2 (a3 n2 q)
  · exact absurd a2 (b1 n a1)
  · exact absurd b2 (a1 n2 b1)
  · omega
/-- what a row's rounds are: ok is 1, tail u and round l; or ok is 0, they are too long -/
def RdR (k : Nat) (g : Nat → Int) (ok u l : Int) : Prop := (ok = 1 ∧ ∃ un ln : Nat, RND k g un ln ∧ un + ln ≤ 100000 ∧ u = (un : Int) ∧ l = (ln : Int)) ∨ (ok = 0 ∧ ∀ un ln : Nat, RND k g un ln → 100000 < un + ln)
theorem RdR.one {k : Nat} {g : Nat → Int} {ok u l ok2 u2 l2 : Int} (h1 : RdR k g ok u l) (h2 : RdR k g ok2 u2 l2) : ok = ok2 ∧ (ok = 1 → u = u2 ∧ l = l2) := by
  rcases h1 with ⟨a1, un, ln, a2, a3, a4, a5⟩ | ⟨a1, a2⟩ <;> rcases h2 with ⟨b1, un2, ln2, b2, b3, b4, b5⟩ | ⟨b1, b2⟩
  · have := a2.one b2
    exact ⟨by omega, fun _ => ⟨by omega, by omega⟩⟩
  · have := b2 un ln a2; omega
  · have := a2 un2 ln2 b2; omega
  · exact ⟨by omega, fun z => by omega⟩
theorem RowAt.to {h : Hp} {r k : Nat} {c s : Nat → Int} (a : h r = ob 7 [.int (iZ (k : Int)), .ref (r + 1), .ref (r + 2)]) (b : h (r + 1) = aL 7 c) (d : h (r + 2) = aL 6 s) : RowAt h r k c s := ⟨a, b, d⟩
set_option maxHeartbeats 8000000 in
set_option maxRecDepth 20000 in
theorem c_X6_find {N : Nat} {h : Hp} {Q : QP} {q r k : Nat} {m ta tu k9 m9 t9 d9 : Int} {lw sw c s ea la : Nat → Int} (hq0 : h q = RDo q ta tu) (hea : h (q + 4) = aL 55 ea) (hla : h (q + 5) = aL 64 la) (ho : h (q + 1) = WKo (q + 1) k9 m9 t9 d9) (h1 : h (q + 1 + 1) = aI 7 lw) (h2 : h (q + 1 + 2) = aI 6 sw) (hN : q + 5 < N) (hk0 : 0 < k) (hk : k ≤ 6) (hm2 : 2 ≤ m) (hm : m ≤ 1000) (hr : RowAt h r k c s) (hrN : r + 2 < N) (hrw : r + 2 < q ∨ q + 5 < r) (hcb : ∀ j, j < 7 → -100000 ≤ c j ∧ c j ≤ 100000) (hsb : ∀ j, j < 6 → -1000000 ≤ s j ∧ s j ≤ 1000000) (hQ : ∀ (ok k8 m8 tp8 cd8 ta8 tu8 : Int) (lw8 sw8 ea8 la8 : Nat → Int), (ok = 1 ∨ ok = 0) → RdR k (rs k c s m) ok ta8 tu8 → Q (some (.int (iZ ok))) N (hs (hs (hs (hs (hs (hs h (q + 1) (WKo (q + 1) k8 m8 tp8 cd8)) (q + 1 + 1) (aI 7 lw8)) (q + 1 + 2) (aI 6 sw8)) (q + 4) (aL 55 ea8)) (q + 5) (aL 64 la8)) q (RDo q ta8 tu8))) : Runs mX6_find [.ref (q), .ref (r), .int (iZ (m))] N h Q := by
  have hsin := rs_in (k := k) (c := c) (s := s) (m := m) (by omega)
  have p2 := pow18 hm2 hm (j := k) hk
  have cin := fun n => cdf_in (m := m) (by omega) hsin n k
  refine run_start (own := RX6) rfl (by decide) (nle rfl) rfl (fun X hq hini => ?_)
  show G X RX6 cX6_find mX6_find.rm N 0 0 0 [some (.ref (q)), some (.ref (r)), some (.int (iZ (m))), none] [] h
  refine r_aload_n dX6_find_0 rfl rfl ?_
  refine gf_X6_12 dX6_find_1 (by omega) hq0 rfl ?_
  refine r_aload_n dX6_find_4 rfl rfl ?_
  refine r_iload_n dX6_find_5 rfl rfl ?_
  refine r_callV (av := [.ref (r), .int (iZ (m))]) dX6_find_6 lkX9_begin ml_X6_32 imX9_begin seX9_begin (by omega) (rfl : vwCl[9]? = _) ⟨_, ho⟩ ⟨Nat.le_of_ble_eq_true rfl, Nat.le_of_ble_eq_true rfl⟩ rfl rfl (nle rfl) ⟨Nat.le_of_ble_eq_true rfl, Nat.le_of_ble_eq_true rfl⟩ (c_X9_begin (w := q + 1) (r := r) (k := k) (m := m) (k9 := k9) (m9 := m9) (t9 := t9) (d9 := d9) (lw := lw) (sw := sw) (c := c) (s := s) ho h1 h2 (by omega) (by omega) (by omega) (by omega) (by omega) (RowAt.to hr.1 hr.2.1 hr.2.2) (by omega) (by omega) hcb hsb (fun lw6 sw6 hlw6 hsw6 => ?_))
  have hsw6 : ∀ j, j < k → sw6 j = rs k c s m (0 + j) := fun j hj => by rw [Nat.zero_add]; exact hsw6 j hj
  show G _ _ _ _ _ _ _ 9 _ _ _
  refine r_iconst (z := 0) dX6_find_9 ?_
  refine r_istore_n (L2 := [_, _, _, _]) dX6_find_10 rfl (nlt rfl) rfl ?_
  have lp11 : ∀ (fu11 : Nat) (sw1 : Nat → Int) (ea1 : Nat → Int) (la1 : Nat → Int) (i : Int) (n : Nat), (56 - i) < (fu11 : Int) → (i = (n : Int)) → (n ≤ 55) → (∀ j, j < k → sw1 j = rs k c s m (n + j)) → (∀ p, p < n → ea1 p = cdf m (rs k c s m) p k) → (∀ p, p < n → la1 (p % 64) = cdf m (rs k c s m) p k) → G X RX6 cX6_find mX6_find.rm N 0 0 11 [some (.ref (q)), some (.ref (r)), some (.int (iZ (m))), some (.int (iZ (i)))] [] (hs (hs (hs (hs (hs h (q + 1) (ob 9 [.ref (q + 1 + 1), .ref (q + 1 + 2), .int (iZ ((k : Int))), .int (iZ (m)), .long (lZ (m ^ (k - 1))), .long (lZ (cdf m (rs k c s m) n k))])) (q + 1 + 1) (aI 7 (lw6))) (q + 1 + 2) (aI 6 (sw1))) (q + 4) (aL 55 (ea1))) (q + 5) (aL 64 (la1))) := by
    intro fu11
    induction fu11 with
    | zero => intro sw1 ea1 la1 i n hm ei n55 hsw hea1 hla1; exfalso; omega
    | succ fu11 ih11 =>
      intro sw1 ea1 la1 i n hms11 ei n55 hsw hea1 hla1
      refine r_iload_n dX6_find_11 rfl rfl ?_
      refine r_bipush (z := 54) dX6_find_12 (by decide) ?_
      refine r_icmp_gt 59 dX6_find_14 (by decide) ⟨by omega, by omega⟩ ⟨by decide, by decide⟩ (fun c_14 => ?_) (fun c_14 => ?_)
      · have n9 : n = 55 := by omega
        subst n9
        have hlw6 := hlw6
        have hsw55 := hsw
        have he54 := hea1 54 (by omega)
        have hla55 := hla1
        refine r_aload_n dX6_find_59 rfl rfl ?_
        refine r_aload_n dX6_find_60 rfl rfl ?_
        refine r_callV (av := []) dX6_find_61 lkX6_findTurn ml_X6_43 imX6_findTurn seX6_findTurn (by omega) (rfl : vwCl[6]? = _) ⟨_, ((hs_n (by omega)).trans ((hs_n (by omega)).trans ((hs_n (by omega)).trans ((hs_n (by omega)).trans ((hs_n (by omega)).trans hq0)))))⟩ ⟨Nat.le_of_ble_eq_true rfl, Nat.le_of_ble_eq_true rfl⟩ rfl rfl (nle rfl) ⟨Nat.le_of_ble_eq_true rfl, Nat.le_of_ble_eq_true rfl⟩ (c_X6_findTurn (q := q) (k := k) (m := m) (ta := ta) (tu := tu) (lw := lw6) (sw := sw1) (c := c) (s := s) (ea := ea1) (la := la1) ((hs_n (by omega)).trans ((hs_n (by omega)).trans ((hs_n (by omega)).trans ((hs_n (by omega)).trans ((hs_n (by omega)).trans hq0))))) ((hs_n (by omega)).trans hs_e) hs_e ((hs_n (by omega)).trans ((hs_n (by omega)).trans ((hs_n (by omega)).trans ((hs_n (by omega)).trans hs_e)))) ((hs_n (by omega)).trans ((hs_n (by omega)).trans ((hs_n (by omega)).trans hs_e))) ((hs_n (by omega)).trans ((hs_n (by omega)).trans hs_e)) (by omega) hk0 hk hm2 hm hlw6 hsw55 he54 hla55 (fun l sw8 la8 cd8 hl1 hl2 hno hyes => ?_))
        refine g_heap (h2 := (hs (hs (hs (hs (hs h (q + 1) (ob 9 [.ref (q + 1 + 1), .ref (q + 1 + 2), .int (iZ ((k : Int))), .int (iZ (m)), .long (lZ (m ^ (k - 1))), .long (lZ (cd8))])) (q + 1 + 1) (aI 7 (lw6))) (q + 1 + 2) (aI 6 (sw8))) (q + 4) (aL 55 (ea1))) (q + 5) (aL 64 (la8)))) ((congrArg (fun x9 => hs x9 (q + 5) (aL 64 (la8))) ((congrArg (fun x9 => hs x9 (q + 1) (ob 9 [.ref (q + 1 + 1), .ref (q + 1 + 2), .int (iZ ((k : Int))), .int (iZ (m)), .long (lZ (m ^ (k - 1))), .long (lZ (cd8))])) (hs_put (by omega) (hs_put (by omega) hs_hs))).trans (hs_put (by omega) (hs_put (by omega) (hs_put (by omega) (hs_put (by omega) hs_hs)))))).trans hs_hs) ?_
        show G _ _ _ _ _ _ _ 64 _ _ _
        refine pf_X6_29 (fs2 := [_, _, _, _, _]) dX6_find_64 (fun _ _ => rfl) (fun _ _ => rfl) (nlt rfl) (by omega) ((hs_n (by omega)).trans ((hs_n (by omega)).trans ((hs_n (by omega)).trans ((hs_n (by omega)).trans ((hs_n (by omega)).trans hq0))))) rfl ?_
        refine r_aload_n dX6_find_67 rfl rfl ?_
        refine gf_X6_29 dX6_find_68 (by omega) hs_e rfl ?_
        refine r_ldc (z := 100000) dX6_find_71 kc_X6_47 ?_
        refine r_icmp_le 78 dX6_find_73 (by decide) ⟨by omega, by omega⟩ ⟨by decide, by decide⟩ (fun c_73 => ?_) (fun c_73 => ?_)
        · have hl9 : l ≤ 100000 := by omega
          obtain ⟨hyes1, hla8⟩ := hyes hl9
          refine r_aload_n dX6_find_78 rfl rfl ?_
          refine r_bipush (z := 54) dX6_find_79 (by decide) ?_
          refine pf_X6_25 (fs2 := [_, _, _, _, _]) dX6_find_81 (fun _ _ => rfl) (fun _ _ => rfl) (nlt rfl) (by omega) hs_e rfl ?_
          refine g_heap (h2 := (hs (hs (hs (hs (hs (hs h (q + 1) (ob 9 [.ref (q + 1 + 1), .ref (q + 1 + 2), .int (iZ ((k : Int))), .int (iZ (m)), .long (lZ (m ^ (k - 1))), .long (lZ (cd8))])) (q + 1 + 1) (aI 7 (lw6))) (q + 1 + 2) (aI 6 (sw8))) (q + 4) (aL 55 (ea1))) (q + 5) (aL 64 (la8))) (q) (ob 6 [.ref (q + 1), .ref (q + 4), .ref (q + 5), .int (iZ (54)), .int (iZ ((l : Int)))]))) hs_hs ?_
          have lp84 : ∀ (fu84 : Nat) (ta2 : Int) (u : Nat), (ta2 + 1) < (fu84 : Int) → (ta2 = (u : Int)) → (u ≤ 54) → (eqS k (rs k c s m) u (u + l)) → G X RX6 cX6_find mX6_find.rm N 0 0 84 [some (.ref (q)), some (.ref (r)), some (.int (iZ (m))), none] [] (hs (hs (hs (hs (hs (hs h (q + 1) (ob 9 [.ref (q + 1 + 1), .ref (q + 1 + 2), .int (iZ ((k : Int))), .int (iZ (m)), .long (lZ (m ^ (k - 1))), .long (lZ (cd8))])) (q + 1 + 1) (aI 7 (lw6))) (q + 1 + 2) (aI 6 (sw8))) (q + 4) (aL 55 (ea1))) (q + 5) (aL 64 (la8))) (q) (ob 6 [.ref (q + 1), .ref (q + 4), .ref (q + 5), .int (iZ (ta2)), .int (iZ ((l : Int)))])) := by
            intro fu84
            induction fu84 with
            | zero => intro ta2 u hm eta u54 hu; exfalso; omega
            | succ fu84 ih84 =>
              intro ta2 u hms84 eta u54 hu
              refine r_aload_n dX6_find_84 rfl rfl ?_
              refine gf_X6_25 dX6_find_85 (by omega) hs_e rfl ?_
              refine r_if_le 138 dX6_find_88 (by decide) ⟨by omega, by omega⟩ (fun c_88 => ?_) (fun c_88 => ?_)
              · have hne9 : u = 0 := by omega
                have hrnd : RND k (rs k c s m) u l := ⟨by omega, hu, fun l2 h8 h9 z => hno l2 h8 h9 (by have z2 := eqS_shift hk0 z (54 - u); have e3 : u + (54 - u) = 54 := (by omega); have e4 : u + l2 + (54 - u) = 54 + l2 := (by omega); rw [e3, e4] at z2; exact z2), fun u2 h8 l2 h9 z => by
                  first
                  | (exfalso; omega)
                  | (refine hne8 (onCycle hk0 h9 hyes1 ?_)
                     have z2 := eqS_shift hk0 z (u - 1 - u2)
                     have e3 : u2 + (u - 1 - u2) = u - 1 := (by omega)
                     have e4 : u2 + l2 + (u - 1 - u2) = u - 1 + l2 := (by omega)
                     rw [e3, e4] at z2
                     exact z2)⟩
                refine r_aload_n dX6_find_138 rfl rfl ?_
                refine gf_X6_25 dX6_find_139 (by omega) hs_e rfl ?_
                refine r_aload_n dX6_find_142 rfl rfl ?_
                refine gf_X6_29 dX6_find_143 (by omega) hs_e rfl ?_
                refine r_iadd dX6_find_146 ?_
                refine r_ldc (z := 100000) dX6_find_147 kc_X6_47 ?_
                refine r_icmp_gt 156 dX6_find_149 (by decide) ⟨by omega, by omega⟩ ⟨by decide, by decide⟩ (fun c_149 => ?_) (fun c_149 => ?_)
                · refine r_iconst (z := 0) dX6_find_156 ?_
                  refine r_zreturn hq dX6_find_157 rfl (by decide) rfl rfl ?_
                  exact hQ 0 _ _ _ _ ta2 (l : Int) _ _ _ _ (Or.inr rfl) (Or.inr ⟨rfl, fun un ln hr9 => by have := hr9.one hrnd; omega⟩)
                · refine r_iconst (z := 1) dX6_find_152 ?_
                  refine r_goto 157 dX6_find_153 (by decide) ?_
                  refine r_zreturn hq dX6_find_157 rfl (by decide) rfl rfl ?_
                  exact hQ 1 _ _ _ _ ta2 (l : Int) _ _ _ _ (Or.inl rfl) (Or.inl ⟨rfl, u, l, hrnd, by omega, eta, rfl⟩)
              · have hu0 : 0 < u := by omega
                have e1 : (ta2 - 1).toNat = u - 1 := by omega
                have e2 : ((ta2 - 1 + (l : Int)) % 64).toNat = (u - 1 + l) % 64 := by omega
                have g1 : ea1 (ta2 - 1).toNat = cdf m (rs k c s m) (u - 1) k := by rw [e1]; exact hea1 _ (by omega)
                have g2 : la8 ((ta2 - 1 + (l : Int)) % 64).toNat = cdf m (rs k c s m) (u - 1 + l) k := by rw [e2]; exact hla8 _ (by omega) (by omega)
                have cn1 := cin (u - 1)
                have cn2 := cin (u - 1 + l)
                rw [← g1] at cn1
                rw [← g2] at cn2
                refine r_aload_n dX6_find_91 rfl rfl ?_
                refine gf_X6_18 dX6_find_92 (by omega) hs_e rfl ?_
                refine r_aload_n dX6_find_95 rfl rfl ?_
                refine gf_X6_25 dX6_find_96 (by omega) hs_e rfl ?_
                refine r_iconst (z := 1) dX6_find_99 ?_
                refine r_isub dX6_find_100 ?_
                refine r_laload dX6_find_101 (by omega) ((hs_n (by omega)).trans ((hs_n (by omega)).trans hs_e)) (by omega) (by omega) (by decide) ?_
                refine r_aload_n dX6_find_102 rfl rfl ?_
                refine gf_X6_22 dX6_find_103 (by omega) hs_e rfl ?_
                refine r_aload_n dX6_find_106 rfl rfl ?_
                refine gf_X6_25 dX6_find_107 (by omega) hs_e rfl ?_
                refine r_iconst (z := 1) dX6_find_110 ?_
                refine r_isub dX6_find_111 ?_
                refine r_aload_n dX6_find_112 rfl rfl ?_
                refine gf_X6_29 dX6_find_113 (by omega) hs_e rfl ?_
                refine r_iadd dX6_find_116 ?_
                refine r_bipush (z := 64) dX6_find_117 (by decide) ?_
                refine r_iremp dX6_find_119 ⟨by omega, by omega⟩ ⟨by decide, by decide⟩ (by omega) (by decide) ?_
                refine r_laload dX6_find_120 (by omega) ((hs_n (by omega)).trans hs_e) (by omega) (by omega) (by decide) ?_
                refine r_lcmp_ne 138 dX6_find_121 dX6_find_122 (by decide) ⟨by omega, by omega⟩ ⟨by omega, by omega⟩ (fun c_121 => ?_) (fun c_121 => ?_)
                · have hne8 : ¬ eqS k (rs k c s m) (u - 1) (u - 1 + l) := fun z => c_121 (by rw [g1, g2]; exact (eqS_code (by omega) hsin).mpr z)
                  have hrnd : RND k (rs k c s m) u l := ⟨by omega, hu, fun l2 h8 h9 z => hno l2 h8 h9 (by have z2 := eqS_shift hk0 z (54 - u); have e3 : u + (54 - u) = 54 := (by omega); have e4 : u + l2 + (54 - u) = 54 + l2 := (by omega); rw [e3, e4] at z2; exact z2), fun u2 h8 l2 h9 z => by
                    first
                    | (exfalso; omega)
                    | (refine hne8 (onCycle hk0 h9 hyes1 ?_)
                       have z2 := eqS_shift hk0 z (u - 1 - u2)
                       have e3 : u2 + (u - 1 - u2) = u - 1 := (by omega)
                       have e4 : u2 + l2 + (u - 1 - u2) = u - 1 + l2 := (by omega)
                       rw [e3, e4] at z2
                       exact z2)⟩
                  refine r_aload_n dX6_find_138 rfl rfl ?_
                  refine gf_X6_25 dX6_find_139 (by omega) hs_e rfl ?_
                  refine r_aload_n dX6_find_142 rfl rfl ?_
                  refine gf_X6_29 dX6_find_143 (by omega) hs_e rfl ?_
                  refine r_iadd dX6_find_146 ?_
                  refine r_ldc (z := 100000) dX6_find_147 kc_X6_47 ?_
                  refine r_icmp_gt 156 dX6_find_149 (by decide) ⟨by omega, by omega⟩ ⟨by decide, by decide⟩ (fun c_149 => ?_) (fun c_149 => ?_)
                  · refine r_iconst (z := 0) dX6_find_156 ?_
                    refine r_zreturn hq dX6_find_157 rfl (by decide) rfl rfl ?_
                    exact hQ 0 _ _ _ _ ta2 (l : Int) _ _ _ _ (Or.inr rfl) (Or.inr ⟨rfl, fun un ln hr9 => by have := hr9.one hrnd; omega⟩)
                  · refine r_iconst (z := 1) dX6_find_152 ?_
                    refine r_goto 157 dX6_find_153 (by decide) ?_
                    refine r_zreturn hq dX6_find_157 rfl (by decide) rfl rfl ?_
                    exact hQ 1 _ _ _ _ ta2 (l : Int) _ _ _ _ (Or.inl rfl) (Or.inl ⟨rfl, u, l, hrnd, by omega, eta, rfl⟩)
                · have heq9 : eqS k (rs k c s m) (u - 1) (u - 1 + l) := (eqS_code (by omega) hsin).mp (by rw [← g1, ← g2]; exact c_121)
                  refine r_aload_n dX6_find_125 rfl rfl ?_
                  refine r_dup dX6_find_126 rfl ?_
                  refine gf_X6_25 dX6_find_127 (by omega) hs_e rfl ?_
                  refine r_iconst (z := 1) dX6_find_130 ?_
                  refine r_isub dX6_find_131 ?_
                  refine pf_X6_25 (fs2 := [_, _, _, _, _]) dX6_find_132 (fun _ _ => rfl) (fun _ _ => rfl) (nlt rfl) (by omega) hs_e rfl ?_
                  refine g_heap (h2 := (hs (hs (hs (hs (hs (hs h (q + 1) (ob 9 [.ref (q + 1 + 1), .ref (q + 1 + 2), .int (iZ ((k : Int))), .int (iZ (m)), .long (lZ (m ^ (k - 1))), .long (lZ (cd8))])) (q + 1 + 1) (aI 7 (lw6))) (q + 1 + 2) (aI 6 (sw8))) (q + 4) (aL 55 (ea1))) (q + 5) (aL 64 (la8))) (q) (ob 6 [.ref (q + 1), .ref (q + 4), .ref (q + 5), .int (iZ (ta2 - 1)), .int (iZ ((l : Int)))]))) hs_hs ?_
                  refine r_goto 84 dX6_find_135 (by decide) ?_
                  exact ih84 (ta2 - 1) ((u - 1)) (by omega) (by omega) (by omega) (by have e7 : u - 1 + l = u + l - 1 := (by omega); exact heq9)
          refine r_mask [true, true, true, false] (L2 := [_, _, _, none]) rfl ?_
          exact lp84 ((55 : Int) + 1).toNat (54) (54) (by omega) rfl (by decide) hyes1
        · refine r_iconst (z := 0) dX6_find_76 ?_
          refine r_zreturn hq dX6_find_77 rfl (by decide) rfl rfl ?_
          exact hQ 0 _ _ _ _ ta (l : Int) _ _ _ _ (Or.inr rfl) (Or.inr ⟨rfl, fun un ln hr9 => by
            have h54 := tail54 hk0 hk hm2 hm hr9.2.1
            by_cases z : ln < l
            · exact absurd h54 (hno ln hr9.1 z)
            · omega⟩)
      · have ein : i.toNat = n := by omega
        have ein2 : (i % 64).toNat = n % 64 := by omega
        refine r_aload_n dX6_find_17 rfl rfl ?_
        refine gf_X6_18 dX6_find_18 (by omega) ((hs_n (by omega)).trans ((hs_n (by omega)).trans ((hs_n (by omega)).trans ((hs_n (by omega)).trans ((hs_n (by omega)).trans hq0))))) rfl ?_
        refine r_iload_n dX6_find_21 rfl rfl ?_
        refine r_aload_n dX6_find_22 rfl rfl ?_
        refine gf_X6_12 dX6_find_23 (by omega) ((hs_n (by omega)).trans ((hs_n (by omega)).trans ((hs_n (by omega)).trans ((hs_n (by omega)).trans ((hs_n (by omega)).trans hq0))))) rfl ?_
        refine gf_X6_36 dX6_find_26 (by omega) ((hs_n (by omega)).trans ((hs_n (by omega)).trans ((hs_n (by omega)).trans ((hs_n (by omega)).trans hs_e)))) rfl ?_
        refine r_lastore dX6_find_29 (by omega) ((hs_n (by omega)).trans hs_e) (by omega) (by omega) (by decide) ?_
        refine g_heap (h2 := (hs (hs (hs (hs (hs h (q + 1) (ob 9 [.ref (q + 1 + 1), .ref (q + 1 + 2), .int (iZ ((k : Int))), .int (iZ (m)), .long (lZ (m ^ (k - 1))), .long (lZ (cdf m (rs k c s m) n k))])) (q + 1 + 1) (aI 7 (lw6))) (q + 1 + 2) (aI 6 (sw1))) (q + 4) (aL 55 (uA (ea1) (i).toNat (cdf m (rs k c s m) n k)))) (q + 5) (aL 64 (la1)))) (hs_put (by omega) hs_hs) ?_
        refine r_aload_n dX6_find_30 rfl rfl ?_
        refine gf_X6_22 dX6_find_31 (by omega) ((hs_n (by omega)).trans ((hs_n (by omega)).trans ((hs_n (by omega)).trans ((hs_n (by omega)).trans ((hs_n (by omega)).trans hq0))))) rfl ?_
        refine r_iload_n dX6_find_34 rfl rfl ?_
        refine r_bipush (z := 64) dX6_find_35 (by decide) ?_
        refine r_iremp dX6_find_37 ⟨by omega, by omega⟩ ⟨by decide, by decide⟩ (by omega) (by decide) ?_
        refine r_aload_n dX6_find_38 rfl rfl ?_
        refine gf_X6_12 dX6_find_39 (by omega) ((hs_n (by omega)).trans ((hs_n (by omega)).trans ((hs_n (by omega)).trans ((hs_n (by omega)).trans ((hs_n (by omega)).trans hq0))))) rfl ?_
        refine gf_X6_36 dX6_find_42 (by omega) ((hs_n (by omega)).trans ((hs_n (by omega)).trans ((hs_n (by omega)).trans ((hs_n (by omega)).trans hs_e)))) rfl ?_
        refine r_lastore dX6_find_45 (by omega) hs_e (by omega) (by omega) (by decide) ?_
        refine g_heap (h2 := (hs (hs (hs (hs (hs h (q + 1) (ob 9 [.ref (q + 1 + 1), .ref (q + 1 + 2), .int (iZ ((k : Int))), .int (iZ (m)), .long (lZ (m ^ (k - 1))), .long (lZ (cdf m (rs k c s m) n k))])) (q + 1 + 1) (aI 7 (lw6))) (q + 1 + 2) (aI 6 (sw1))) (q + 4) (aL 55 (uA (ea1) (i).toNat (cdf m (rs k c s m) n k)))) (q + 5) (aL 64 (uA (la1) (i % 64).toNat (cdf m (rs k c s m) n k))))) hs_hs ?_
        refine r_aload_n dX6_find_46 rfl rfl ?_
        refine gf_X6_12 dX6_find_47 (by omega) ((hs_n (by omega)).trans ((hs_n (by omega)).trans ((hs_n (by omega)).trans ((hs_n (by omega)).trans ((hs_n (by omega)).trans hq0))))) rfl ?_
        refine r_callV (av := []) dX6_find_50 lkX9_step ml_X6_40 imX9_step seX9_step (by omega) (rfl : vwCl[9]? = _) ⟨_, ((hs_n (by omega)).trans ((hs_n (by omega)).trans ((hs_n (by omega)).trans ((hs_n (by omega)).trans hs_e))))⟩ ⟨Nat.le_of_ble_eq_true rfl, Nat.le_of_ble_eq_true rfl⟩ rfl rfl (nle rfl) ⟨Nat.le_of_ble_eq_true rfl, Nat.le_of_ble_eq_true rfl⟩ (c_X9_step (w := q + 1) (k := k) (n := n) (m := m) (lw := lw6) (sw := sw1) (c := c) (s := s) ((hs_n (by omega)).trans ((hs_n (by omega)).trans ((hs_n (by omega)).trans ((hs_n (by omega)).trans hs_e)))) ((hs_n (by omega)).trans ((hs_n (by omega)).trans ((hs_n (by omega)).trans hs_e))) ((hs_n (by omega)).trans ((hs_n (by omega)).trans hs_e)) (by omega) (by omega) (by omega) (by omega) (by omega) hlw6 hsw (fun st50 hst50 => ?_))
        refine g_heap (h2 := (hs (hs (hs (hs (hs h (q + 1) (ob 9 [.ref (q + 1 + 1), .ref (q + 1 + 2), .int (iZ ((k : Int))), .int (iZ (m)), .long (lZ (m ^ (k - 1))), .long (lZ (cdf m (rs k c s m) (n + 1) k))])) (q + 1 + 1) (aI 7 (lw6))) (q + 1 + 2) (aI 6 (st50))) (q + 4) (aL 55 (uA (ea1) (i).toNat (cdf m (rs k c s m) n k)))) (q + 5) (aL 64 (uA (la1) (i % 64).toNat (cdf m (rs k c s m) n k))))) ((congrArg (fun x9 => hs x9 (q + 1) (ob 9 [.ref (q + 1 + 1), .ref (q + 1 + 2), .int (iZ ((k : Int))), .int (iZ (m)), .long (lZ (m ^ (k - 1))), .long (lZ (cdf m (rs k c s m) (n + 1) k))])) (hs_put (by omega) (hs_put (by omega) hs_hs))).trans (hs_put (by omega) (hs_put (by omega) (hs_put (by omega) (hs_put (by omega) hs_hs))))) ?_
        show G _ _ _ _ _ _ _ 53 _ _ _
        refine r_iinc (L2 := [_, _, _, _]) dX6_find_53 (nlt rfl) rfl rfl ?_
        refine r_goto 11 dX6_find_56 (by decide) ?_
        exact ih11 (st50) (uA (ea1) (i).toNat (cdf m (rs k c s m) n k)) (uA (la1) (i % 64).toNat (cdf m (rs k c s m) n k)) (i + 1) ((n + 1)) (by omega) (by omega) (by omega) hst50 (fun p h8 => by rw [ein]; by_cases z : p = n; (subst z; rw [uA_e]); rw [uA_n z]; exact hea1 p (by omega)) (fun p h8 => by rw [ein2]; by_cases z : p = n; (subst z; rw [Nat.mod_eq_of_lt (by omega), uA_e]); rw [uA_n (by omega)]; exact hla1 p (by omega))
  refine g_heap (hs_id (c := aL 55 (ea)) ((hs_n (by omega)).trans ((hs_n (by omega)).trans ((hs_n (by omega)).trans hea)))).symm ?_
  refine g_heap (hs_id (c := aL 64 (la)) ((hs_n (by omega)).trans ((hs_n (by omega)).trans ((hs_n (by omega)).trans ((hs_n (by omega)).trans hla))))).symm ?_
  exact lp11 ((56 : Int) + 1).toNat (sw6) (ea) (la) (0) (0) (by omega) rfl (by decide) hsw6 (fun p h8 => absurd h8 (Nat.not_lt_zero p)) (fun p h8 => absurd h8 (Nat.not_lt_zero p))
set_option maxHeartbeats 2000000 in
set_option maxRecDepth 20000 in
theorem c_X6_noughts {N : Nat} {h : Hp} {Q : QP} {q r k T : Nat} {m ta tu k9 m9 t9 d9 : Int} {lw sw c s ea la : Nat → Int} (hq0 : h q = RDo q ta tu) (hea : h (q + 4) = aL 55 ea) (hla : h (q + 5) = aL 64 la) (ho : h (q + 1) = WKo (q + 1) k9 m9 t9 d9) (h1 : h (q + 1 + 1) = aI 7 lw) (h2 : h (q + 1 + 2) = aI 6 sw) (hN : q + 5 < N) (hk0 : 0 < k) (hk : k ≤ 6) (hm2 : 2 ≤ m) (hm : m ≤ 1000) (hr : RowAt h r k c s) (hrN : r + 2 < N) (hrw : r + 2 < q ∨ q + 5 < r) (hcb : ∀ j, j < 7 → -100000 ≤ c j ∧ c j ≤ 100000) (hsb : ∀ j, j < 6 → -1000000 ≤ s j ∧ s j ≤ 1000000) (hT : ta + tu = (T : Int)) (hta0 : 0 ≤ ta) (hta : ta ≤ 1000000) (htu0 : 0 ≤ tu) (htu : tu ≤ 1000000) (hQ : ∀ (k8 m8 tp8 cd8 : Int) (lw8 sw8 : Nat → Int), Q (some (.int (iZ (cntR (rs k c s m) 0 T)))) N (hs (hs (hs h (q + 1) (WKo (q + 1) k8 m8 tp8 cd8)) (q + 1 + 1) (aI 7 lw8)) (q + 1 + 2) (aI 6 sw8))) : Runs mX6_noughts [.ref (q), .ref (r), .int (iZ (m))] N h Q := by
  have hsin := rs_in (k := k) (c := c) (s := s) (m := m) (by omega)
  have p2 := pow18 hm2 hm (j := k) hk
  have cin := fun n => cdf_in (m := m) (by omega) hsin n k
  refine run_start (own := RX6) rfl (by decide) (nle rfl) rfl (fun X hq hini => ?_)
  show G X RX6 cX6_noughts mX6_noughts.rm N 0 0 0 [some (.ref (q)), some (.ref (r)), some (.int (iZ (m))), none, none] [] h
  refine r_iconst (z := 0) dX6_noughts_0 ?_
  refine r_istore_n (L2 := [_, _, _, _, none]) dX6_noughts_1 rfl (nlt rfl) rfl ?_
  refine r_aload_n dX6_noughts_2 rfl rfl ?_
  refine gf_X6_12 dX6_noughts_3 (by omega) hq0 rfl ?_
  refine r_aload_n dX6_noughts_6 rfl rfl ?_
  refine r_iload_n dX6_noughts_7 rfl rfl ?_
  refine r_callV (av := [.ref (r), .int (iZ (m))]) dX6_noughts_8 lkX9_begin ml_X6_32 imX9_begin seX9_begin (by omega) (rfl : vwCl[9]? = _) ⟨_, ho⟩ ⟨Nat.le_of_ble_eq_true rfl, Nat.le_of_ble_eq_true rfl⟩ rfl rfl (nle rfl) ⟨Nat.le_of_ble_eq_true rfl, Nat.le_of_ble_eq_true rfl⟩ (c_X9_begin (w := q + 1) (r := r) (k := k) (m := m) (k9 := k9) (m9 := m9) (t9 := t9) (d9 := d9) (lw := lw) (sw := sw) (c := c) (s := s) ho h1 h2 (by omega) (by omega) (by omega) (by omega) (by omega) (RowAt.to hr.1 hr.2.1 hr.2.2) (by omega) (by omega) hcb hsb (fun lw8 sw8 hlw8 hsw8 => ?_))
  have hsw8 : ∀ j, j < k → sw8 j = rs k c s m (0 + j) := fun j hj => by rw [Nat.zero_add]; exact hsw8 j hj
  show G _ _ _ _ _ _ _ 11 _ _ _
  refine r_iconst (z := 0) dX6_noughts_11 ?_
  refine r_istore (L2 := [_, _, _, _, _]) dX6_noughts_12 (nlt rfl) rfl ?_
  have lp14 : ∀ (fu14 : Nat) (sw1 : Nat → Int) (see : Int) (i : Int) (n : Nat), ((T : Int) + 1 - i) < (fu14 : Int) → (i = (n : Int)) → (n ≤ T) → (∀ j, j < k → sw1 j = rs k c s m (n + j)) → (see = cntR (rs k c s m) 0 n) → G X RX6 cX6_noughts mX6_noughts.rm N 0 0 14 [some (.ref (q)), some (.ref (r)), some (.int (iZ (m))), some (.int (iZ (see))), some (.int (iZ (i)))] [] (hs (hs (hs h (q + 1) (ob 9 [.ref (q + 1 + 1), .ref (q + 1 + 2), .int (iZ ((k : Int))), .int (iZ (m)), .long (lZ (m ^ (k - 1))), .long (lZ (cdf m (rs k c s m) n k))])) (q + 1 + 1) (aI 7 (lw8))) (q + 1 + 2) (aI 6 (sw1))) := by
    intro fu14
    induction fu14 with
    | zero => intro sw1 see i n hm ei nT hsw es; exfalso; omega
    | succ fu14 ih14 =>
      intro sw1 see i n hms14 ei nT hsw es
      have s0 := hsin (n + 0)
      have e0 := hsw 0 hk0
      have cb := cntR_in (rs k c s m) 0 n
      rw [← es] at cb
      refine r_iload dX6_noughts_14 rfl ?_
      refine r_aload_n dX6_noughts_16 rfl rfl ?_
      refine gf_X6_25 dX6_noughts_17 (by omega) ((hs_n (by omega)).trans ((hs_n (by omega)).trans ((hs_n (by omega)).trans hq0))) rfl ?_
      refine r_aload_n dX6_noughts_20 rfl rfl ?_
      refine gf_X6_29 dX6_noughts_21 (by omega) ((hs_n (by omega)).trans ((hs_n (by omega)).trans ((hs_n (by omega)).trans hq0))) rfl ?_
      refine r_iadd dX6_noughts_24 ?_
      refine r_icmp_ge 54 dX6_noughts_25 (by decide) ⟨by omega, by omega⟩ ⟨by omega, by omega⟩ (fun c_25 => ?_) (fun c_25 => ?_)
      · have nT2 : n = T := by omega
        subst nT2
        refine r_iload_n dX6_noughts_54 rfl rfl ?_
        refine r_ireturn hq dX6_noughts_55 rfl rfl rfl ?_
        rw [es]; exact hQ _ _ _ _ _ _
      · refine r_aload_n dX6_noughts_28 rfl rfl ?_
        refine gf_X6_12 dX6_noughts_29 (by omega) ((hs_n (by omega)).trans ((hs_n (by omega)).trans ((hs_n (by omega)).trans hq0))) rfl ?_
        refine r_callV (av := []) dX6_noughts_32 lkX9_here ml_X6_49 imX9_here seX9_here (by omega) (rfl : vwCl[9]? = _) ⟨_, ((hs_n (by omega)).trans ((hs_n (by omega)).trans hs_e))⟩ ⟨Nat.le_of_ble_eq_true rfl, Nat.le_of_ble_eq_true rfl⟩ rfl rfl (nle rfl) ⟨Nat.le_of_ble_eq_true rfl, Nat.le_of_ble_eq_true rfl⟩ (c_X9_here (w := q + 1) ((hs_n (by omega)).trans ((hs_n (by omega)).trans hs_e)) ((hs_n (by omega)).trans hs_e) hs_e (by omega) ?_)
        show G _ _ _ _ _ _ _ 35 _ _ _
        refine r_if_ne 41 dX6_noughts_35 (by decide) (by rw [hsw 0 hk0]; exact ⟨by omega, by omega⟩) (fun c_35 => ?_) (fun c_35 => ?_)
        · refine r_aload_n dX6_noughts_41 rfl rfl ?_
          refine gf_X6_12 dX6_noughts_42 (by omega) ((hs_n (by omega)).trans ((hs_n (by omega)).trans ((hs_n (by omega)).trans hq0))) rfl ?_
          refine r_callV (av := []) dX6_noughts_45 lkX9_step ml_X6_40 imX9_step seX9_step (by omega) (rfl : vwCl[9]? = _) ⟨_, ((hs_n (by omega)).trans ((hs_n (by omega)).trans hs_e))⟩ ⟨Nat.le_of_ble_eq_true rfl, Nat.le_of_ble_eq_true rfl⟩ rfl rfl (nle rfl) ⟨Nat.le_of_ble_eq_true rfl, Nat.le_of_ble_eq_true rfl⟩ (c_X9_step (w := q + 1) (k := k) (n := n) (m := m) (lw := lw8) (sw := sw1) (c := c) (s := s) ((hs_n (by omega)).trans ((hs_n (by omega)).trans hs_e)) ((hs_n (by omega)).trans hs_e) hs_e (by omega) (by omega) (by omega) (by omega) (by omega) hlw8 hsw (fun st45 hst45 => ?_))
          refine g_heap (h2 := (hs (hs (hs h (q + 1) (ob 9 [.ref (q + 1 + 1), .ref (q + 1 + 2), .int (iZ ((k : Int))), .int (iZ (m)), .long (lZ (m ^ (k - 1))), .long (lZ (cdf m (rs k c s m) (n + 1) k))])) (q + 1 + 1) (aI 7 (lw8))) (q + 1 + 2) (aI 6 (st45)))) ((congrArg (fun x9 => hs x9 (q + 1) (ob 9 [.ref (q + 1 + 1), .ref (q + 1 + 2), .int (iZ ((k : Int))), .int (iZ (m)), .long (lZ (m ^ (k - 1))), .long (lZ (cdf m (rs k c s m) (n + 1) k))])) hs_hs).trans (hs_put (by omega) (hs_put (by omega) hs_hs))) ?_
          show G _ _ _ _ _ _ _ 48 _ _ _
          refine r_iinc (L2 := [_, _, _, _, _]) dX6_noughts_48 (nlt rfl) rfl rfl ?_
          refine r_goto 14 dX6_noughts_51 (by decide) ?_
          exact ih14 (st45) (see) (i + 1) ((n + 1)) (by omega) (by omega) (by omega) hst45 (by show _ = cntR (rs k c s m) 0 n + (if rs k c s m n = 0 then 1 else 0); rw [← es, if_neg (by rw [Nat.add_zero] at e0; omega), Int.add_zero])
        · refine r_iinc (L2 := [_, _, _, _, _]) dX6_noughts_38 (nlt rfl) rfl rfl ?_
          refine r_aload_n dX6_noughts_41 rfl rfl ?_
          refine gf_X6_12 dX6_noughts_42 (by omega) ((hs_n (by omega)).trans ((hs_n (by omega)).trans ((hs_n (by omega)).trans hq0))) rfl ?_
          refine r_callV (av := []) dX6_noughts_45 lkX9_step ml_X6_40 imX9_step seX9_step (by omega) (rfl : vwCl[9]? = _) ⟨_, ((hs_n (by omega)).trans ((hs_n (by omega)).trans hs_e))⟩ ⟨Nat.le_of_ble_eq_true rfl, Nat.le_of_ble_eq_true rfl⟩ rfl rfl (nle rfl) ⟨Nat.le_of_ble_eq_true rfl, Nat.le_of_ble_eq_true rfl⟩ (c_X9_step (w := q + 1) (k := k) (n := n) (m := m) (lw := lw8) (sw := sw1) (c := c) (s := s) ((hs_n (by omega)).trans ((hs_n (by omega)).trans hs_e)) ((hs_n (by omega)).trans hs_e) hs_e (by omega) (by omega) (by omega) (by omega) (by omega) hlw8 hsw (fun st45 hst45 => ?_))
          refine g_heap (h2 := (hs (hs (hs h (q + 1) (ob 9 [.ref (q + 1 + 1), .ref (q + 1 + 2), .int (iZ ((k : Int))), .int (iZ (m)), .long (lZ (m ^ (k - 1))), .long (lZ (cdf m (rs k c s m) (n + 1) k))])) (q + 1 + 1) (aI 7 (lw8))) (q + 1 + 2) (aI 6 (st45)))) ((congrArg (fun x9 => hs x9 (q + 1) (ob 9 [.ref (q + 1 + 1), .ref (q + 1 + 2), .int (iZ ((k : Int))), .int (iZ (m)), .long (lZ (m ^ (k - 1))), .long (lZ (cdf m (rs k c s m) (n + 1) k))])) hs_hs).trans (hs_put (by omega) (hs_put (by omega) hs_hs))) ?_
          show G _ _ _ _ _ _ _ 48 _ _ _
          refine r_iinc (L2 := [_, _, _, _, _]) dX6_noughts_48 (nlt rfl) rfl rfl ?_
          refine r_goto 14 dX6_noughts_51 (by decide) ?_
          exact ih14 (st45) (see + 1) (i + 1) ((n + 1)) (by omega) (by omega) (by omega) hst45 (by show _ = cntR (rs k c s m) 0 n + (if rs k c s m n = 0 then 1 else 0); rw [← es, if_pos (by rw [Nat.add_zero] at e0; omega)])
  exact lp14 (((T : Int) + 1 : Int) + 1).toNat (sw8) (0) (0) (0) (by omega) rfl (by omega) hsw8 rfl
set_option maxHeartbeats 2000000 in
set_option maxRecDepth 20000 in
theorem c_X6_leastPlaceOf {N : Nat} {h : Hp} {Q : QP} {q r k T : Nat} {m ta tu k9 m9 t9 d9 v : Int} {lw sw c s ea la : Nat → Int} (hq0 : h q = RDo q ta tu) (hea : h (q + 4) = aL 55 ea) (hla : h (q + 5) = aL 64 la) (ho : h (q + 1) = WKo (q + 1) k9 m9 t9 d9) (h1 : h (q + 1 + 1) = aI 7 lw) (h2 : h (q + 1 + 2) = aI 6 sw) (hN : q + 5 < N) (hk0 : 0 < k) (hk : k ≤ 6) (hm2 : 2 ≤ m) (hm : m ≤ 1000) (hr : RowAt h r k c s) (hrN : r + 2 < N) (hrw : r + 2 < q ∨ q + 5 < r) (hcb : ∀ j, j < 7 → -100000 ≤ c j ∧ c j ≤ 100000) (hsb : ∀ j, j < 6 → -1000000 ≤ s j ∧ s j ≤ 1000000) (hT : ta + tu = (T : Int)) (hta0 : 0 ≤ ta) (hta : ta ≤ 1000000) (htu0 : 0 ≤ tu) (htu : tu ≤ 1000000) (hv : rI v) (hQ : ∀ (z k8 m8 tp8 cd8 : Int) (lw8 sw8 : Nat → Int), FirstR (rs k c s m) v T z → Q (some (.int (iZ z))) N (hs (hs (hs h (q + 1) (WKo (q + 1) k8 m8 tp8 cd8)) (q + 1 + 1) (aI 7 lw8)) (q + 1 + 2) (aI 6 sw8))) : Runs mX6_leastPlaceOf [.ref (q), .ref (r), .int (iZ (m)), .int (iZ (v))] N h Q := by
  have hsin := rs_in (k := k) (c := c) (s := s) (m := m) (by omega)
  have p2 := pow18 hm2 hm (j := k) hk
  have cin := fun n => cdf_in (m := m) (by omega) hsin n k
  refine run_start (own := RX6) rfl (by decide) (nle rfl) rfl (fun X hq hini => ?_)
  show G X RX6 cX6_leastPlaceOf mX6_leastPlaceOf.rm N 0 0 0 [some (.ref (q)), some (.ref (r)), some (.int (iZ (m))), some (.int (iZ (v))), none] [] h
  refine r_aload_n dX6_leastPlaceOf_0 rfl rfl ?_
  refine gf_X6_12 dX6_leastPlaceOf_1 (by omega) hq0 rfl ?_
  refine r_aload_n dX6_leastPlaceOf_4 rfl rfl ?_
  refine r_iload_n dX6_leastPlaceOf_5 rfl rfl ?_
  refine r_callV (av := [.ref (r), .int (iZ (m))]) dX6_leastPlaceOf_6 lkX9_begin ml_X6_32 imX9_begin seX9_begin (by omega) (rfl : vwCl[9]? = _) ⟨_, ho⟩ ⟨Nat.le_of_ble_eq_true rfl, Nat.le_of_ble_eq_true rfl⟩ rfl rfl (nle rfl) ⟨Nat.le_of_ble_eq_true rfl, Nat.le_of_ble_eq_true rfl⟩ (c_X9_begin (w := q + 1) (r := r) (k := k) (m := m) (k9 := k9) (m9 := m9) (t9 := t9) (d9 := d9) (lw := lw) (sw := sw) (c := c) (s := s) ho h1 h2 (by omega) (by omega) (by omega) (by omega) (by omega) (RowAt.to hr.1 hr.2.1 hr.2.2) (by omega) (by omega) hcb hsb (fun lw6 sw6 hlw6 hsw6 => ?_))
  have hsw6 : ∀ j, j < k → sw6 j = rs k c s m (0 + j) := fun j hj => by rw [Nat.zero_add]; exact hsw6 j hj
  show G _ _ _ _ _ _ _ 9 _ _ _
  refine r_iconst (z := 0) dX6_leastPlaceOf_9 ?_
  refine r_istore (L2 := [_, _, _, _, _]) dX6_leastPlaceOf_10 (nlt rfl) rfl ?_
  have lp12 : ∀ (fu12 : Nat) (sw1 : Nat → Int) (i : Int) (n : Nat), ((T : Int) + 1 - i) < (fu12 : Int) → (i = (n : Int)) → (n ≤ T) → (∀ j, j < k → sw1 j = rs k c s m (n + j)) → (∀ n2, n2 < n → rs k c s m n2 ≠ v) → G X RX6 cX6_leastPlaceOf mX6_leastPlaceOf.rm N 0 0 12 [some (.ref (q)), some (.ref (r)), some (.int (iZ (m))), some (.int (iZ (v))), some (.int (iZ (i)))] [] (hs (hs (hs h (q + 1) (ob 9 [.ref (q + 1 + 1), .ref (q + 1 + 2), .int (iZ ((k : Int))), .int (iZ (m)), .long (lZ (m ^ (k - 1))), .long (lZ (cdf m (rs k c s m) n k))])) (q + 1 + 1) (aI 7 (lw6))) (q + 1 + 2) (aI 6 (sw1))) := by
    intro fu12
    induction fu12 with
    | zero => intro sw1 i n hm ei nT hsw hne; exfalso; omega
    | succ fu12 ih12 =>
      intro sw1 i n hms12 ei nT hsw hne
      have s0 := hsin (n + 0)
      have e0 := hsw 0 hk0
      refine r_iload dX6_leastPlaceOf_12 rfl ?_
      refine r_aload_n dX6_leastPlaceOf_14 rfl rfl ?_
      refine gf_X6_25 dX6_leastPlaceOf_15 (by omega) ((hs_n (by omega)).trans ((hs_n (by omega)).trans ((hs_n (by omega)).trans hq0))) rfl ?_
      refine r_aload_n dX6_leastPlaceOf_18 rfl rfl ?_
      refine gf_X6_29 dX6_leastPlaceOf_19 (by omega) ((hs_n (by omega)).trans ((hs_n (by omega)).trans ((hs_n (by omega)).trans hq0))) rfl ?_
      refine r_iadd dX6_leastPlaceOf_22 ?_
      refine r_icmp_ge 53 dX6_leastPlaceOf_23 (by decide) ⟨by omega, by omega⟩ ⟨by omega, by omega⟩ (fun c_23 => ?_) (fun c_23 => ?_)
      · refine r_bipush (z := -4) dX6_leastPlaceOf_53 (by decide) ?_
        refine r_ireturn hq dX6_leastPlaceOf_55 rfl rfl rfl ?_
        exact hQ _ _ _ _ _ _ _ (Or.inr ⟨fun n2 h8 => hne n2 (by omega), rfl⟩)
      · refine r_aload_n dX6_leastPlaceOf_26 rfl rfl ?_
        refine gf_X6_12 dX6_leastPlaceOf_27 (by omega) ((hs_n (by omega)).trans ((hs_n (by omega)).trans ((hs_n (by omega)).trans hq0))) rfl ?_
        refine r_callV (av := []) dX6_leastPlaceOf_30 lkX9_here ml_X6_49 imX9_here seX9_here (by omega) (rfl : vwCl[9]? = _) ⟨_, ((hs_n (by omega)).trans ((hs_n (by omega)).trans hs_e))⟩ ⟨Nat.le_of_ble_eq_true rfl, Nat.le_of_ble_eq_true rfl⟩ rfl rfl (nle rfl) ⟨Nat.le_of_ble_eq_true rfl, Nat.le_of_ble_eq_true rfl⟩ (c_X9_here (w := q + 1) ((hs_n (by omega)).trans ((hs_n (by omega)).trans hs_e)) ((hs_n (by omega)).trans hs_e) hs_e (by omega) ?_)
        show G _ _ _ _ _ _ _ 33 _ _ _
        refine r_iload_n dX6_leastPlaceOf_33 rfl rfl ?_
        refine r_icmp_ne 40 dX6_leastPlaceOf_34 (by decide) (by rw [hsw 0 hk0]; exact ⟨by omega, by omega⟩) hv (fun c_34 => ?_) (fun c_34 => ?_)
        · refine r_aload_n dX6_leastPlaceOf_40 rfl rfl ?_
          refine gf_X6_12 dX6_leastPlaceOf_41 (by omega) ((hs_n (by omega)).trans ((hs_n (by omega)).trans ((hs_n (by omega)).trans hq0))) rfl ?_
          refine r_callV (av := []) dX6_leastPlaceOf_44 lkX9_step ml_X6_40 imX9_step seX9_step (by omega) (rfl : vwCl[9]? = _) ⟨_, ((hs_n (by omega)).trans ((hs_n (by omega)).trans hs_e))⟩ ⟨Nat.le_of_ble_eq_true rfl, Nat.le_of_ble_eq_true rfl⟩ rfl rfl (nle rfl) ⟨Nat.le_of_ble_eq_true rfl, Nat.le_of_ble_eq_true rfl⟩ (c_X9_step (w := q + 1) (k := k) (n := n) (m := m) (lw := lw6) (sw := sw1) (c := c) (s := s) ((hs_n (by omega)).trans ((hs_n (by omega)).trans hs_e)) ((hs_n (by omega)).trans hs_e) hs_e (by omega) (by omega) (by omega) (by omega) (by omega) hlw6 hsw (fun st44 hst44 => ?_))
          refine g_heap (h2 := (hs (hs (hs h (q + 1) (ob 9 [.ref (q + 1 + 1), .ref (q + 1 + 2), .int (iZ ((k : Int))), .int (iZ (m)), .long (lZ (m ^ (k - 1))), .long (lZ (cdf m (rs k c s m) (n + 1) k))])) (q + 1 + 1) (aI 7 (lw6))) (q + 1 + 2) (aI 6 (st44)))) ((congrArg (fun x9 => hs x9 (q + 1) (ob 9 [.ref (q + 1 + 1), .ref (q + 1 + 2), .int (iZ ((k : Int))), .int (iZ (m)), .long (lZ (m ^ (k - 1))), .long (lZ (cdf m (rs k c s m) (n + 1) k))])) hs_hs).trans (hs_put (by omega) (hs_put (by omega) hs_hs))) ?_
          show G _ _ _ _ _ _ _ 47 _ _ _
          refine r_iinc (L2 := [_, _, _, _, _]) dX6_leastPlaceOf_47 (nlt rfl) rfl rfl ?_
          refine r_goto 12 dX6_leastPlaceOf_50 (by decide) ?_
          exact ih12 (st44) (i + 1) ((n + 1)) (by omega) (by omega) (by omega) hst44 (fun n2 h8 => by by_cases z : n2 = n; (subst z; rw [Nat.add_zero] at e0; omega); exact hne n2 (by omega))
        · refine r_iload dX6_leastPlaceOf_37 rfl ?_
          refine r_ireturn hq dX6_leastPlaceOf_39 rfl rfl rfl ?_
          exact hQ _ _ _ _ _ _ _ (Or.inl ⟨n, by omega, by rw [Nat.add_zero] at e0; omega, hne, ei⟩)
  exact lp12 (((T : Int) + 1 : Int) + 1).toNat (sw6) (0) (0) (by omega) rfl (by omega) hsw6 (fun n2 h8 => absurd h8 (Nat.not_lt_zero n2))
