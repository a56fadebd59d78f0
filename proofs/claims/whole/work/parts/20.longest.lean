abbrev LGo (q : Nat) (la tu : Int) : ACell := ob 0 [.ref (q + 1), .ref (q + 4), .ref (q + 7), .int (iZ la), .int (iZ tu)]
set_option maxHeartbeats 2000000 in
set_option maxRecDepth 20000 in
theorem c_X0_turnOfTried {N : Nat} {h : Hp} {Q : QP} {q k S L : Nat} {p la tu st k9 m9 t9 d9 : Int} {lw sw c s : Nat → Int} (hq0 : h q = LGo q la tu) (ho : h (q + 1) = WKo (q + 1) k9 m9 t9 d9) (h1 : h (q + 1 + 1) = aI 7 lw) (h2 : h (q + 1 + 2) = aI 6 sw) (hr : RowAt h (q + 4) k c s) (hN : q + 9 < N) (hk0 : 0 < k) (hk : k ≤ 6) (hp : p = 2 ∨ p = 3 ∨ p = 5 ∨ p = 7) (hcb : ∀ j, j < 7 → -100000 ≤ c j ∧ c j ≤ 100000) (hsb : ∀ j, j < 6 → -1000000 ≤ s j ∧ s j ≤ 1000000) (hst : st = (S : Int)) (hS : S ≤ 1000) (hL : RND k (rs k c s p) 0 L) (hL2 : L ≤ S) (hQ : ∀ (k8 m8 tp8 cd8 : Int) (lw8 sw8 : Nat → Int), Q (some (.int (iZ (L : Int)))) N (hs (hs (hs h (q + 1) (WKo (q + 1) k8 m8 tp8 cd8)) (q + 1 + 1) (aI 7 lw8)) (q + 1 + 2) (aI 6 sw8))) : Runs mX0_turnOfTried [.ref (q), .int (iZ (p)), .int (iZ (st))] N h Q := by
  have hsin := rs_in (k := k) (c := c) (s := s) (m := p) (by omega)
  have p2 := pow18 (m := p) (by omega) (by omega) (j := k) hk
  have cin := fun n => cdf_in (m := p) (by omega) hsin n k
  have hL0 := hL.1
  refine run_start (own := RX0) rfl (by decide) (nle rfl) rfl (fun X hq hini => ?_)
  show G X RX0 cX0_turnOfTried mX0_turnOfTried.rm N 0 0 0 [some (.ref (q)), some (.int (iZ (p))), some (.int (iZ (st))), none, none, none] [] h
  refine r_aload_n dX0_turnOfTried_0 rfl rfl ?_
  refine gf_X0_10 dX0_turnOfTried_1 (by omega) hq0 rfl ?_
  refine r_aload_n dX0_turnOfTried_4 rfl rfl ?_
  refine gf_X0_19 dX0_turnOfTried_5 (by omega) hq0 rfl ?_
  refine r_iload_n dX0_turnOfTried_8 rfl rfl ?_
  refine r_callV (av := [.ref (q + 4), .int (iZ (p))]) dX0_turnOfTried_9 lkX9_begin ml_X0_55 imX9_begin seX9_begin (by omega) (rfl : vwCl[9]? = _) ⟨_, ho⟩ ⟨Nat.le_of_ble_eq_true rfl, Nat.le_of_ble_eq_true rfl⟩ rfl rfl (nle rfl) ⟨Nat.le_of_ble_eq_true rfl, Nat.le_of_ble_eq_true rfl⟩ (c_X9_begin (w := q + 1) (r := q + 4) (k := k) (m := p) (k9 := k9) (m9 := m9) (t9 := t9) (d9 := d9) (lw := lw) (sw := sw) (c := c) (s := s) ho h1 h2 (by omega) (by omega) (by omega) (by omega) (by omega) (RowAt.to hr.1 hr.2.1 hr.2.2) (by omega) (by omega) hcb hsb (fun lw9 sw9 hlw9 hsw9 => ?_))
  have hsw9 : ∀ j, j < k → sw9 j = rs k c s p (0 + j) := fun j hj => by rw [Nat.zero_add]; exact hsw9 j hj
  show G _ _ _ _ _ _ _ 12 _ _ _
  refine r_aload_n dX0_turnOfTried_12 rfl rfl ?_
  refine gf_X0_10 dX0_turnOfTried_13 (by omega) ((hs_n (by omega)).trans ((hs_n (by omega)).trans ((hs_n (by omega)).trans hq0))) rfl ?_
  refine gf_X0_59 dX0_turnOfTried_16 (by omega) ((hs_n (by omega)).trans ((hs_n (by omega)).trans hs_e)) rfl ?_
  refine r_lstore_n (L2 := [_, _, _, _, none, none]) dX0_turnOfTried_19 rfl (nlt rfl) rfl ?_
  refine r_iconst (z := 1) dX0_turnOfTried_20 ?_
  refine r_istore (L2 := [_, _, _, _, none, _]) dX0_turnOfTried_21 (nlt rfl) rfl ?_
  have lp23 : ∀ (fu23 : Nat) (sw1 : Nat → Int) (i : Int) (n : Nat), ((S : Int) + 1 - i) < (fu23 : Int) → (i = (n : Int) + 1) → (n < S) → (∀ j, j < k → sw1 j = rs k c s p (n + j)) → (n < L) → G X RX0 cX0_turnOfTried mX0_turnOfTried.rm N 0 0 23 [some (.ref (q)), some (.int (iZ (p))), some (.int (iZ (st))), some (.long (lZ (cdf p (rs k c s p) 0 k))), none, some (.int (iZ (i)))] [] (hs (hs (hs h (q + 1) (ob 9 [.ref (q + 1 + 1), .ref (q + 1 + 2), .int (iZ ((k : Int))), .int (iZ (p)), .long (lZ (p ^ (k - 1))), .long (lZ (cdf p (rs k c s p) n k))])) (q + 1 + 1) (aI 7 (lw9))) (q + 1 + 2) (aI 6 (sw1))) := by
    intro fu23
    induction fu23 with
    | zero => intro sw1 i n hm ei nS hsw nL; exfalso; omega
    | succ fu23 ih23 =>
      intro sw1 i n hms23 ei nS hsw nL
      refine r_iload dX0_turnOfTried_23 rfl ?_
      refine r_iload_n dX0_turnOfTried_25 rfl rfl ?_
      refine r_icmp_ge 57 dX0_turnOfTried_26 (by decide) ⟨by omega, by omega⟩ ⟨by omega, by omega⟩ (fun c_26 => ?_) (fun c_26 => ?_)
      · have e9 : st = (L : Int) := by omega
        refine r_iload_n dX0_turnOfTried_57 rfl rfl ?_
        refine r_ireturn hq dX0_turnOfTried_58 rfl rfl rfl ?_
        rw [e9]; exact hQ _ _ _ _ _ _
      · refine r_aload_n dX0_turnOfTried_29 rfl rfl ?_
        refine gf_X0_10 dX0_turnOfTried_30 (by omega) ((hs_n (by omega)).trans ((hs_n (by omega)).trans ((hs_n (by omega)).trans hq0))) rfl ?_
        refine r_callV (av := []) dX0_turnOfTried_33 lkX9_step ml_X0_63 imX9_step seX9_step (by omega) (rfl : vwCl[9]? = _) ⟨_, ((hs_n (by omega)).trans ((hs_n (by omega)).trans hs_e))⟩ ⟨Nat.le_of_ble_eq_true rfl, Nat.le_of_ble_eq_true rfl⟩ rfl rfl (nle rfl) ⟨Nat.le_of_ble_eq_true rfl, Nat.le_of_ble_eq_true rfl⟩ (c_X9_step (w := q + 1) (k := k) (n := n) (m := p) (lw := lw9) (sw := sw1) (c := c) (s := s) ((hs_n (by omega)).trans ((hs_n (by omega)).trans hs_e)) ((hs_n (by omega)).trans hs_e) hs_e (by omega) (by omega) (by omega) (by omega) (by omega) hlw9 hsw (fun st33 hst33 => ?_))
        refine g_heap (h2 := (hs (hs (hs h (q + 1) (ob 9 [.ref (q + 1 + 1), .ref (q + 1 + 2), .int (iZ ((k : Int))), .int (iZ (p)), .long (lZ (p ^ (k - 1))), .long (lZ (cdf p (rs k c s p) (n + 1) k))])) (q + 1 + 1) (aI 7 (lw9))) (q + 1 + 2) (aI 6 (st33)))) ((congrArg (fun x9 => hs x9 (q + 1) (ob 9 [.ref (q + 1 + 1), .ref (q + 1 + 2), .int (iZ ((k : Int))), .int (iZ (p)), .long (lZ (p ^ (k - 1))), .long (lZ (cdf p (rs k c s p) (n + 1) k))])) hs_hs).trans (hs_put (by omega) (hs_put (by omega) hs_hs))) ?_
        show G _ _ _ _ _ _ _ 36 _ _ _
        refine r_aload_n dX0_turnOfTried_36 rfl rfl ?_
        refine gf_X0_10 dX0_turnOfTried_37 (by omega) ((hs_n (by omega)).trans ((hs_n (by omega)).trans ((hs_n (by omega)).trans hq0))) rfl ?_
        refine gf_X0_59 dX0_turnOfTried_40 (by omega) ((hs_n (by omega)).trans ((hs_n (by omega)).trans hs_e)) rfl ?_
        have cn0 := cin 0
        have cn1 := cin (n + 1)
        refine r_lload_n dX0_turnOfTried_43 rfl rfl ?_
        refine r_lcmp_ne 51 dX0_turnOfTried_44 dX0_turnOfTried_45 (by decide) ⟨by omega, by omega⟩ ⟨by omega, by omega⟩ (fun c_44 => ?_) (fun c_44 => ?_)
        · refine r_iinc (L2 := [_, _, _, _, none, _]) dX0_turnOfTried_51 (nlt rfl) rfl rfl ?_
          refine r_goto 23 dX0_turnOfTried_54 (by decide) ?_
          exact ih23 (st33) (i + 1) ((n + 1)) (by omega) (by omega) (by omega) hst33 (by have z9 : n + 1 ≠ L := fun z => c_44 (by have := hL.2.1; rw [← z, Nat.zero_add] at this; exact ((eqS_code (by omega) hsin).mpr this).symm); omega)
        · refine r_iload dX0_turnOfTried_48 rfl ?_
          refine r_ireturn hq dX0_turnOfTried_50 rfl rfl rfl ?_
          have h9 : eqS k (rs k c s p) 0 (0 + (n + 1)) := by rw [Nat.zero_add]; exact (eqS_code (by omega) hsin).mp c_44.symm
          have e9 : i = (L : Int) := by
            by_cases z : n + 1 < L
            · exact absurd h9 (hL.2.2.1 (n + 1) (by omega) z)
            · omega
          rw [e9]; exact hQ _ _ _ _ _ _
  exact lp23 (((S : Int) + 1 : Int) + 1).toNat (sw9) (1) (0) (by omega) rfl (by omega) hsw9 (by omega)
theorem natlt (k : Nat) : (0 : Int) ≤ (k : Int) := Int.natCast_nonneg k
set_option maxHeartbeats 2000000 in
set_option maxRecDepth 20000 in
theorem c_X0_tryLaw {N : Nat} {h : Hp} {Q : QP} {q k S kl : Nat} {p code sts la tu lk k9 m9 t9 d9 : Int} {lw sw c s lc lst : Nat → Int} (hq0 : h q = LGo q la tu) (ho : h (q + 1) = WKo (q + 1) k9 m9 t9 d9) (h1 : h (q + 1 + 1) = aI 7 lw) (h2 : h (q + 1 + 2) = aI 6 sw) (hr : RowAt h (q + 4) k c s) (hrl : h (q + 7) = ob 7 [.int (iZ lk), .ref (q + 7 + 1), .ref (q + 7 + 2)]) (hd1 : h (q + 7 + 1) = aL 7 lc) (hd2 : h (q + 7 + 2) = aL 6 lst) (hlk : lk = (kl : Int)) (hN : q + 9 < N) (hk0 : 0 < k) (hk : k ≤ 3) (hp : p = 2 ∨ p = 3 ∨ p = 5 ∨ p = 7) (hcb : ∀ j, j < 7 → -100000 ≤ c j ∧ c j ≤ 100000) (hsb : ∀ j, j < 6 → -1000000 ≤ s j ∧ s j ≤ 1000000) (hso : ∀ j, j < k → s j = sto k j) (hst : sts = (S : Int)) (hS : S ≤ 1000) (hSp : S = p.toNat ^ k) (hc0 : 0 ≤ code) (hc1 : code ≤ 1000) (hcp : code % p ≠ 0) (htu : 0 ≤ tu) (htu2 : tu ≤ 1000) (hla : 0 ≤ la) (hla2 : la ≤ 1000) (hQ : ∀ (l2 : Nat → Int) (k8 m8 tp8 cd8 : Int) (lw8 sw8 : Nat → Int) (la2 tu2 lk2 : Int) (lc2 lst2 : Nat → Int), (∀ j, j < 7 → -100000 ≤ l2 j ∧ l2 j ≤ 100000) → (∀ i, 1 ≤ i → i ≤ k → l2 i = lwd k p code i) → (tu < (Lf k p code : Int) → tu2 = (Lf k p code : Int) ∧ la2 = 1 ∧ lk2 = (k : Int) ∧ ∀ i, 1 ≤ i → i ≤ k → lc2 i = lwd k p code i) → (tu = (Lf k p code : Int) → tu2 = tu ∧ la2 = la + 1 ∧ lk2 = lk ∧ lc2 = lc) → ((Lf k p code : Int) < tu → tu2 = tu ∧ la2 = la ∧ lk2 = lk ∧ lc2 = lc) → Q none N (hs (hs (hs (hs (hs (hs (hs (hs h (q + 4 + 1) (aL 7 l2)) (q + 1) (WKo (q + 1) k8 m8 tp8 cd8)) (q + 1 + 1) (aI 7 lw8)) (q + 1 + 2) (aI 6 sw8)) q (LGo q la2 tu2)) (q + 7) (ob 7 [.int (iZ lk2), .ref (q + 7 + 1), .ref (q + 7 + 2)])) (q + 7 + 1) (aL 7 lc2)) (q + 7 + 2) (aL 6 lst2))) : Runs mX0_tryLaw [.ref (q), .int (iZ (code)), .int (iZ (p)), .int (iZ (sts))] N h Q := by
  subst hlk
  refine run_start (own := RX0) rfl (by decide) (nle rfl) rfl (fun X hq hini => ?_)
  show G X RX0 cX0_tryLaw mX0_tryLaw.rm N 0 0 0 [some (.ref (q)), some (.int (iZ (code))), some (.int (iZ (p))), some (.int (iZ (sts))), none, none] [] h
  refine r_iload_n dX0_tryLaw_0 rfl rfl ?_
  refine r_istore (L2 := [_, _, _, _, _, none]) dX0_tryLaw_1 (nlt rfl) rfl ?_
  refine r_aload_n dX0_tryLaw_3 rfl rfl ?_
  refine gf_X0_19 dX0_tryLaw_4 (by omega) hq0 rfl ?_
  refine gf_X0_33 dX0_tryLaw_7 (by omega) hr.1 rfl ?_
  refine r_istore (L2 := [_, _, _, _, _, _]) dX0_tryLaw_10 (nlt rfl) rfl ?_
  have lp12 : ∀ (fu12 : Nat) (l2 : Nat → Int) (left : Int) (i : Int) (j : Nat), (i + 1) < (fu12 : Int) → (i + (j : Int) = (k : Int)) → (j ≤ k) → (left = lft p code j) → (∀ u, k - j < u → u ≤ k → l2 u = lwd k p code u) → (∀ u, u < 7 → -100000 ≤ l2 u ∧ l2 u ≤ 100000) → G X RX0 cX0_tryLaw mX0_tryLaw.rm N 0 0 12 [some (.ref (q)), some (.int (iZ (code))), some (.int (iZ (p))), some (.int (iZ (sts))), some (.int (iZ (left))), some (.int (iZ (i)))] [] (hs h (q + 4 + 1) (aL 7 (l2))) := by
    intro fu12
    induction fu12 with
    | zero => intro l2 left i j hm ei jk el hl2 hcb2; exfalso; omega
    | succ fu12 ih12 =>
      intro l2 left i j hms12 ei jk el hl2 hcb2
      refine r_iload dX0_tryLaw_12 rfl ?_
      refine r_iconst (z := 1) dX0_tryLaw_14 ?_
      refine r_icmp_lt 45 dX0_tryLaw_15 (by decide) ⟨by omega, by omega⟩ ⟨by decide, by decide⟩ (fun c_15 => ?_) (fun c_15 => ?_)
      · have j9 : j = k := by omega
        have hl2d : ∀ u, 1 ≤ u → u ≤ k → l2 u = lwd k p code u := fun u h8 h9 => hl2 u (by omega) h9
        have hfs := Lf_spec (k := k) hk0 hp hcp
        have hrse : rs k l2 s p = rs k (lwd k p code) (sto k) p := by
          funext n
          unfold rs
          rw [ex_cong hl2d hso hk0]
        have hLf : RND k (rs k l2 s p) 0 (Lf k p code) := by rw [hrse]; exact hfs.1
        have hLS : Lf k p code ≤ S := by rw [hSp]; exact hfs.2
        refine r_aload_n dX0_tryLaw_45 rfl rfl ?_
        refine r_iload_n dX0_tryLaw_46 rfl rfl ?_
        refine r_iload_n dX0_tryLaw_47 rfl rfl ?_
        refine r_callV (av := [.int (iZ (p)), .int (iZ (sts))]) dX0_tryLaw_48 lkX0_turnOfTried ml_X0_47 imX0_turnOfTried seX0_turnOfTried (by omega) (rfl : vwCl[0]? = _) ⟨_, ((hs_n (by omega)).trans hq0)⟩ ⟨Nat.le_of_ble_eq_true rfl, Nat.le_of_ble_eq_true rfl⟩ rfl rfl (nle rfl) ⟨Nat.le_of_ble_eq_true rfl, Nat.le_of_ble_eq_true rfl⟩ (c_X0_turnOfTried (q := q) (k := k) (S := S) (L := Lf k p code) (p := p) (la := la) (tu := tu) (st := sts) (k9 := k9) (m9 := m9) (t9 := t9) (d9 := d9) (lw := lw) (sw := sw) (c := l2) (s := s) ((hs_n (by omega)).trans hq0) ((hs_n (by omega)).trans ho) ((hs_n (by omega)).trans h1) ((hs_n (by omega)).trans h2) (RowAt.to ((hs_n (by omega)).trans hr.1) hs_e ((hs_n (by omega)).trans hr.2.2)) (by omega) hk0 (by omega) hp hcb2 hsb hst (by omega) hLf (by omega) (fun k8 m8 tp8 cd8 lw8 sw8 => ?_))
        show G _ _ _ _ _ _ _ 51 _ _ _
        refine r_istore (L2 := [_, _, _, _, _, _]) dX0_tryLaw_51 (nlt rfl) rfl ?_
        refine r_iload dX0_tryLaw_53 rfl ?_
        refine r_aload_n dX0_tryLaw_55 rfl rfl ?_
        refine gf_X0_30 dX0_tryLaw_56 (by omega) ((hs_n (by omega)).trans ((hs_n (by omega)).trans ((hs_n (by omega)).trans ((hs_n (by omega)).trans hq0)))) rfl ?_
        refine r_icmp_le 84 dX0_tryLaw_59 (by decide) ⟨by omega, by omega⟩ ⟨by omega, by omega⟩ (fun c_59 => ?_) (fun c_59 => ?_)
        · refine r_iload dX0_tryLaw_84 rfl ?_
          refine r_aload_n dX0_tryLaw_86 rfl rfl ?_
          refine gf_X0_30 dX0_tryLaw_87 (by omega) ((hs_n (by omega)).trans ((hs_n (by omega)).trans ((hs_n (by omega)).trans ((hs_n (by omega)).trans hq0)))) rfl ?_
          refine r_icmp_ne 103 dX0_tryLaw_90 (by decide) ⟨by omega, by omega⟩ ⟨by omega, by omega⟩ (fun c_90 => ?_) (fun c_90 => ?_)
          · refine r_return hq dX0_tryLaw_103 rfl rfl rfl ?_
            have hfin := hQ l2 k8 m8 tp8 cd8 lw8 sw8 (la) tu (kl : Int) lc lst hcb2 hl2d (fun z => by omega) (fun z => ⟨rfl, by omega, rfl, rfl⟩) (fun z => ⟨rfl, by omega, rfl, rfl⟩)
            rw [hs_id (h := hs (hs (hs (hs h (q + 4 + 1) (aL 7 l2)) (q + 1) (WKo (q + 1) k8 m8 tp8 cd8)) (q + 1 + 1) (aI 7 lw8)) (q + 1 + 2) (aI 6 sw8)) ((hs_n (by omega)).trans ((hs_n (by omega)).trans ((hs_n (by omega)).trans ((hs_n (by omega)).trans hq0))))] at hfin
            rw [hs_id (a := q + 7) ((hs_n (by omega)).trans ((hs_n (by omega)).trans ((hs_n (by omega)).trans ((hs_n (by omega)).trans hrl))))] at hfin
            rw [hs_id (a := q + 7 + 1) ((hs_n (by omega)).trans ((hs_n (by omega)).trans ((hs_n (by omega)).trans ((hs_n (by omega)).trans hd1))))] at hfin
            rw [hs_id (a := q + 7 + 2) ((hs_n (by omega)).trans ((hs_n (by omega)).trans ((hs_n (by omega)).trans ((hs_n (by omega)).trans hd2))))] at hfin
            exact hfin
          · refine r_aload_n dX0_tryLaw_93 rfl rfl ?_
            refine r_dup dX0_tryLaw_94 rfl ?_
            refine gf_X0_26 dX0_tryLaw_95 (by omega) ((hs_n (by omega)).trans ((hs_n (by omega)).trans ((hs_n (by omega)).trans ((hs_n (by omega)).trans hq0)))) rfl ?_
            refine r_iconst (z := 1) dX0_tryLaw_98 ?_
            refine r_iadd dX0_tryLaw_99 ?_
            refine pf_X0_26 (fs2 := [_, _, _, _, _]) dX0_tryLaw_100 (fun _ _ => rfl) (fun _ _ => rfl) (nlt rfl) (by omega) ((hs_n (by omega)).trans ((hs_n (by omega)).trans ((hs_n (by omega)).trans ((hs_n (by omega)).trans hq0)))) rfl ?_
            refine r_return hq dX0_tryLaw_103 rfl rfl rfl ?_
            have hfin := hQ l2 k8 m8 tp8 cd8 lw8 sw8 (la + 1) tu (kl : Int) lc lst hcb2 hl2d (fun z => by omega) (fun z => ⟨rfl, by omega, rfl, rfl⟩) (fun z => ⟨rfl, by omega, rfl, rfl⟩)
            rw [hs_id (a := q + 7) ((hs_n (by omega)).trans ((hs_n (by omega)).trans ((hs_n (by omega)).trans ((hs_n (by omega)).trans ((hs_n (by omega)).trans hrl)))))] at hfin
            rw [hs_id (a := q + 7 + 1) ((hs_n (by omega)).trans ((hs_n (by omega)).trans ((hs_n (by omega)).trans ((hs_n (by omega)).trans ((hs_n (by omega)).trans hd1)))))] at hfin
            rw [hs_id (a := q + 7 + 2) ((hs_n (by omega)).trans ((hs_n (by omega)).trans ((hs_n (by omega)).trans ((hs_n (by omega)).trans ((hs_n (by omega)).trans hd2)))))] at hfin
            exact hfin
        · refine r_aload_n dX0_tryLaw_62 rfl rfl ?_
          refine r_iload dX0_tryLaw_63 rfl ?_
          refine pf_X0_30 (fs2 := [_, _, _, _, _]) dX0_tryLaw_65 (fun _ _ => rfl) (fun _ _ => rfl) (nlt rfl) (by omega) ((hs_n (by omega)).trans ((hs_n (by omega)).trans ((hs_n (by omega)).trans ((hs_n (by omega)).trans hq0)))) rfl ?_
          refine r_aload_n dX0_tryLaw_68 rfl rfl ?_
          refine r_iconst (z := 0) dX0_tryLaw_69 ?_
          refine pf_X0_26 (fs2 := [_, _, _, _, _]) dX0_tryLaw_70 (fun _ _ => rfl) (fun _ _ => rfl) (nlt rfl) (by omega) hs_e rfl ?_
          refine g_heap (h2 := (hs (hs (hs (hs (hs h (q + 4 + 1) (aL 7 (l2))) (q + 1) (ob 9 [.ref (q + 1 + 1), .ref (q + 1 + 2), .int (iZ (k8)), .int (iZ (m8)), .long (lZ (tp8)), .long (lZ (cd8))])) (q + 1 + 1) (aI 7 (lw8))) (q + 1 + 2) (aI 6 (sw8))) (q) (ob 0 [.ref (q + 1), .ref (q + 4), .ref (q + 7), .int (iZ (0)), .int (iZ ((Lf k p code : Int)))]))) hs_hs ?_
          refine r_aload_n dX0_tryLaw_73 rfl rfl ?_
          refine gf_X0_23 dX0_tryLaw_74 (by omega) hs_e rfl ?_
          refine r_aload_n dX0_tryLaw_77 rfl rfl ?_
          refine gf_X0_19 dX0_tryLaw_78 (by omega) hs_e rfl ?_
          refine r_callV (av := [.ref (q + 4)]) dX0_tryLaw_81 lkX7_become ml_X0_51 imX7_become seX7_become (by omega) (rfl : vwCl[7]? = _) ⟨_, ((hs_n (by omega)).trans ((hs_n (by omega)).trans ((hs_n (by omega)).trans ((hs_n (by omega)).trans ((hs_n (by omega)).trans hrl)))))⟩ ⟨Nat.le_of_ble_eq_true rfl, Nat.le_of_ble_eq_true rfl⟩ rfl rfl (nle rfl) ⟨Nat.le_of_ble_eq_true rfl, Nat.le_of_ble_eq_true rfl⟩ (c_X7_become (r := q + 7) (o := q + 4) (k := kl) (k2 := k) (c := lc) (s := lst) (c2 := l2) (s2 := s) (RowAt.to ((hs_n (by omega)).trans ((hs_n (by omega)).trans ((hs_n (by omega)).trans ((hs_n (by omega)).trans ((hs_n (by omega)).trans hrl))))) ((hs_n (by omega)).trans ((hs_n (by omega)).trans ((hs_n (by omega)).trans ((hs_n (by omega)).trans ((hs_n (by omega)).trans hd1))))) ((hs_n (by omega)).trans ((hs_n (by omega)).trans ((hs_n (by omega)).trans ((hs_n (by omega)).trans ((hs_n (by omega)).trans hd2)))))) (RowAt.to ((hs_n (by omega)).trans ((hs_n (by omega)).trans ((hs_n (by omega)).trans ((hs_n (by omega)).trans ((hs_n (by omega)).trans hr.1))))) ((hs_n (by omega)).trans ((hs_n (by omega)).trans ((hs_n (by omega)).trans ((hs_n (by omega)).trans hs_e)))) ((hs_n (by omega)).trans ((hs_n (by omega)).trans ((hs_n (by omega)).trans ((hs_n (by omega)).trans ((hs_n (by omega)).trans hr.2.2)))))) (by omega) (by omega) (by omega) (fun bc81 bs81 hbc81 hbs81 => ?_))
          show G _ _ _ _ _ _ _ 84 _ _ _
          refine r_iload dX0_tryLaw_84 rfl ?_
          refine r_aload_n dX0_tryLaw_86 rfl rfl ?_
          refine gf_X0_30 dX0_tryLaw_87 (by omega) ((hs_n (by omega)).trans ((hs_n (by omega)).trans ((hs_n (by omega)).trans hs_e))) rfl ?_
          refine r_icmp_ne 103 dX0_tryLaw_90 (by decide) ⟨by omega, by omega⟩ ⟨by omega, by omega⟩ (fun c_90 => ?_) (fun c_90 => ?_)
          · refine r_return hq dX0_tryLaw_103 rfl rfl rfl ?_
            exact hQ l2 _ _ _ _ _ _ _ _ _ _ _ hcb2 hl2d (fun _ => ⟨rfl, by omega, rfl, fun i h8 h9 => by rw [hbc81 i (by omega)]; exact hl2d i h8 h9⟩) (fun z => by omega) (fun z => by omega)
          · refine r_aload_n dX0_tryLaw_93 rfl rfl ?_
            refine r_dup dX0_tryLaw_94 rfl ?_
            refine gf_X0_26 dX0_tryLaw_95 (by omega) ((hs_n (by omega)).trans ((hs_n (by omega)).trans ((hs_n (by omega)).trans hs_e))) rfl ?_
            refine r_iconst (z := 1) dX0_tryLaw_98 ?_
            refine r_iadd dX0_tryLaw_99 ?_
            refine pf_X0_26 (fs2 := [_, _, _, _, _]) dX0_tryLaw_100 (fun _ _ => rfl) (fun _ _ => rfl) (nlt rfl) (by omega) ((hs_n (by omega)).trans ((hs_n (by omega)).trans ((hs_n (by omega)).trans hs_e))) rfl ?_
            refine g_heap (h2 := (hs (hs (hs (hs (hs (hs (hs (hs h (q + 4 + 1) (aL 7 (l2))) (q + 1) (ob 9 [.ref (q + 1 + 1), .ref (q + 1 + 2), .int (iZ (k8)), .int (iZ (m8)), .long (lZ (tp8)), .long (lZ (cd8))])) (q + 1 + 1) (aI 7 (lw8))) (q + 1 + 2) (aI 6 (sw8))) (q) (ob 0 [.ref (q + 1), .ref (q + 4), .ref (q + 7), .int (iZ (0 + 1)), .int (iZ ((Lf k p code : Int)))])) (q + 7) (ob 7 [.int (iZ ((k : Int))), .ref (q + 7 + 1), .ref (q + 7 + 2)])) (q + 7 + 1) (aL 7 (bc81))) (q + 7 + 2) (aL 6 (bs81)))) (hs_put (by omega) (hs_put (by omega) (hs_put (by omega) hs_hs))) ?_
            refine r_return hq dX0_tryLaw_103 rfl rfl rfl ?_
            exact hQ l2 _ _ _ _ _ _ _ _ _ _ _ hcb2 hl2d (fun _ => ⟨rfl, by omega, rfl, fun i h8 h9 => by rw [hbc81 i (by omega)]; exact hl2d i h8 h9⟩) (fun z => by omega) (fun z => by omega)
      · have ein : i.toNat = k - j := by omega
        have lfb := lft_in (p := p) (by omega) hc0 j
        rw [← el] at lfb
        have pm := emod_bd left (show 0 < p by omega)
        refine r_aload_n dX0_tryLaw_18 rfl rfl ?_
        refine gf_X0_19 dX0_tryLaw_19 (by omega) ((hs_n (by omega)).trans hq0) rfl ?_
        refine gf_X0_44 dX0_tryLaw_22 (by omega) ((hs_n (by omega)).trans hr.1) rfl ?_
        refine r_iload dX0_tryLaw_25 rfl ?_
        refine r_iload dX0_tryLaw_27 rfl ?_
        refine r_iload_n dX0_tryLaw_29 rfl rfl ?_
        refine r_iremp dX0_tryLaw_30 ⟨by omega, by omega⟩ ⟨by omega, by omega⟩ (by omega) (by omega) ?_
        have eb_30 := emod_bd (left) (show 0 < p by omega)
        refine r_i2l dX0_tryLaw_31 ⟨by omega, by omega⟩ ?_
        refine r_lastore dX0_tryLaw_32 (by omega) hs_e (by omega) (by omega) (by decide) ?_
        refine g_heap (h2 := (hs h (q + 4 + 1) (aL 7 (uA (l2) (i).toNat (left % p))))) hs_hs ?_
        refine r_iload dX0_tryLaw_33 rfl ?_
        refine r_iload_n dX0_tryLaw_35 rfl rfl ?_
        refine r_idivp dX0_tryLaw_36 ⟨by omega, by omega⟩ ⟨by omega, by omega⟩ (by omega) (by omega) ?_
        refine r_istore (L2 := [_, _, _, _, _, _]) dX0_tryLaw_37 (nlt rfl) rfl ?_
        refine r_iinc (L2 := [_, _, _, _, _, _]) dX0_tryLaw_39 (nlt rfl) rfl rfl ?_
        refine r_goto 12 dX0_tryLaw_42 (by decide) ?_
        exact ih12 (uA (l2) (i).toNat (left % p)) (left / p) (i + (-1)) ((j + 1)) (by omega) (by omega) (by omega) (by rw [el]; rfl) (fun u h8 h9 => by rw [ein]; by_cases z : u = k - j; (subst z; rw [uA_e, el]; unfold lwd; have e9 : k - (k - j) = j := (by omega); rw [e9]); rw [uA_n z]; exact hl2 u (by omega) h9) (fun u h8 => by by_cases z : u = i.toNat; (subst z; rw [uA_e]; omega); rw [uA_n z]; exact hcb2 u h8)
  refine g_heap (hs_id (c := aL 7 (c)) hr.2.1).symm ?_
  exact lp12 (((k : Int) + 1 : Int) + 1).toNat (c) (code) ((k : Int)) (0) (by omega) (by omega) (by omega) rfl (fun u h8 h9 => by omega) hcb
theorem fLg_mono (k : Nat) (p : Int) (n : Nat) : (fLg k p n).1 ≤ (fLg k p (n + 1)).1 := by
  show _ ≤ (if (n : Int) % p = 0 then fLg k p n else if (fLg k p n).1 < (Lf k p n : Int) then ((Lf k p n : Int), 1, (n : Int)) else if (Lf k p n : Int) = (fLg k p n).1 then ((fLg k p n).1, (fLg k p n).2.1 + 1, (fLg k p n).2.2) else fLg k p n).1
  by_cases h1 : (n : Int) % p = 0
  · rw [if_pos h1]; exact Int.le_refl _
  · rw [if_neg h1]
    by_cases h2 : (fLg k p n).1 < (Lf k p n : Int)
    · rw [if_pos h2]; exact Int.le_of_lt h2
    · rw [if_neg h2]
      by_cases h3 : (Lf k p n : Int) = (fLg k p n).1
      · rw [if_pos h3]; exact Int.le_refl _
      · rw [if_neg h3]; exact Int.le_refl _
theorem fLg_pos {k : Nat} {p : Int} (h0 : 0 < k) (hp : p = 2 ∨ p = 3 ∨ p = 5 ∨ p = 7) : ∀ n, 0 < (fLg k p (n + 2)).1
  | 0 => by
    have h1 : (1 : Int) % p ≠ 0 := by rcases hp with e | e | e | e <;> subst e <;> decide
    have h2 := (Lf_spec (k := k) (code := 1) h0 hp h1).1.1
    have e0 : fLg k p 1 = (0, 0, 0) := by
      show (if ((0 : Nat) : Int) % p = 0 then fLg k p 0 else _) = _
      rw [if_pos (by simp)]; rfl
    show 0 < (if ((1 : Nat) : Int) % p = 0 then fLg k p 1 else if (fLg k p 1).1 < (Lf k p (1 : Nat) : Int) then ((Lf k p (1 : Nat) : Int), 1, ((1 : Nat) : Int)) else _).1
    rw [if_neg (show ¬ ((1 : Nat) : Int) % p = 0 from h1), if_pos (by rw [e0]; show (0 : Int) < _; exact Int.natCast_pos.mpr h2)]
    exact Int.natCast_pos.mpr h2
  | n + 1 => Int.lt_of_lt_of_le (fLg_pos h0 hp n) (fLg_mono k p (n + 2))
theorem pow343 {p : Int} (hp : p = 2 ∨ p = 3 ∨ p = 5 ∨ p = 7) {k : Nat} (h0 : 0 < k) (hk : k ≤ 3) : p ^ k = ((p.toNat ^ k : Nat) : Int) ∧ 2 ≤ p.toNat ^ k ∧ p.toNat ^ k ≤ 343 := by
  rcases hp with e | e | e | e <;> subst e <;> rcases (show k = 1 ∨ k = 2 ∨ k = 3 by omega) with e | e | e <;> subst e <;> decide
theorem pow343b {p : Int} (hp : p = 2 ∨ p = 3 ∨ p = 5 ∨ p = 7) {j : Nat} (hk : j ≤ 3) : 1 ≤ p ^ j ∧ p ^ j ≤ 343 := by
  rcases hp with e | e | e | e <;> subst e <;> rcases (show j = 0 ∨ j = 1 ∨ j = 2 ∨ j = 3 by omega) with e | e | e | e <;> subst e <;> decide
set_option maxHeartbeats 8000000 in
set_option maxRecDepth 20000 in
theorem c_X0_search {N : Nat} {h : Hp} {Q : QP} {q k k1 kl0 : Nat} {ki p la0 tu0 lk0 k9 m9 t9 d9 : Int} {lw sw c s lc lst : Nat → Int} (hq0 : h q = LGo q la0 tu0) (ho : h (q + 1) = WKo (q + 1) k9 m9 t9 d9) (h1 : h (q + 1 + 1) = aI 7 lw) (h2 : h (q + 1 + 2) = aI 6 sw) (hr : RowAt h (q + 4) k1 c s) (hrl : h (q + 7) = ob 7 [.int (iZ lk0), .ref (q + 7 + 1), .ref (q + 7 + 2)]) (hd1 : h (q + 7 + 1) = aL 7 lc) (hd2 : h (q + 7 + 2) = aL 6 lst) (hlk0 : lk0 = (kl0 : Int)) (hN : q + 9 < N) (hki : ki = (k : Int)) (hk0 : 0 < k) (hk : k ≤ 3) (hp : p = 2 ∨ p = 3 ∨ p = 5 ∨ p = 7) (hcb : ∀ j, j < 7 → -100000 ≤ c j ∧ c j ≤ 100000) (hsb : ∀ j, j < 6 → -1000000 ≤ s j ∧ s j ≤ 1000000) (hQ : ∀ (l2 s2 : Nat → Int) (k8 m8 tp8 cd8 : Int) (lw8 sw8 : Nat → Int) (lk2 : Int) (lc2 lst2 : Nat → Int), (∀ j, j < 7 → -100000 ≤ l2 j ∧ l2 j ≤ 100000) → (∀ j, j < 6 → -1000000 ≤ s2 j ∧ s2 j ≤ 1000000) → lk2 = (k : Int) → (∀ i, 1 ≤ i → i ≤ k → lc2 i = lwd k p (fLg k p (p.toNat ^ k)).2.2 i) → Q none N (hs (hs (hs (hs (hs (hs (hs (hs (hs (hs h q (LGo q (fLg k p (p.toNat ^ k)).2.1 (fLg k p (p.toNat ^ k)).1)) (q + 4) (ob 7 [.int (iZ (k : Int)), .ref (q + 4 + 1), .ref (q + 4 + 2)])) (q + 4 + 2) (aL 6 s2)) (q + 4 + 1) (aL 7 l2)) (q + 1) (WKo (q + 1) k8 m8 tp8 cd8)) (q + 1 + 1) (aI 7 lw8)) (q + 1 + 2) (aI 6 sw8)) (q + 7) (ob 7 [.int (iZ lk2), .ref (q + 7 + 1), .ref (q + 7 + 2)])) (q + 7 + 1) (aL 7 lc2)) (q + 7 + 2) (aL 6 lst2))) : Runs mX0_search [.ref (q), .int (iZ (ki)), .int (iZ (p))] N h Q := by
  obtain ⟨S, hSp⟩ : ∃ S : Nat, S = p.toNat ^ k := ⟨_, rfl⟩
  have hpw := pow343 hp hk0 hk
  rw [← hSp] at hpw
  refine run_start (own := RX0) rfl (by decide) (nle rfl) rfl (fun X hq hini => ?_)
  show G X RX0 cX0_search mX0_search.rm N 0 0 0 [some (.ref (q)), some (.int (iZ (ki))), some (.int (iZ (p))), none, none] [] h
  refine r_aload_n dX0_search_0 rfl rfl ?_
  refine r_iconst (z := 0) dX0_search_1 ?_
  refine pf_X0_26 (fs2 := [_, _, _, _, _]) dX0_search_2 (fun _ _ => rfl) (fun _ _ => rfl) (nlt rfl) (by omega) hq0 rfl ?_
  refine r_aload_n dX0_search_5 rfl rfl ?_
  refine r_iconst (z := 0) dX0_search_6 ?_
  refine pf_X0_30 (fs2 := [_, _, _, _, _]) dX0_search_7 (fun _ _ => rfl) (fun _ _ => rfl) (nlt rfl) (by omega) hs_e rfl ?_
  refine g_heap (h2 := (hs h (q) (ob 0 [.ref (q + 1), .ref (q + 4), .ref (q + 7), .int (iZ (0)), .int (iZ (0))]))) hs_hs ?_
  refine r_aload_n dX0_search_10 rfl rfl ?_
  refine gf_X0_19 dX0_search_11 (by omega) hs_e rfl ?_
  refine r_iload_n dX0_search_14 rfl rfl ?_
  refine pf_X0_33 (fs2 := [_, _, _]) dX0_search_15 (fun _ _ => rfl) (fun _ _ => rfl) (nlt rfl) (by omega) ((hs_n (by omega)).trans hr.1) rfl ?_
  refine r_iconst (z := 1) dX0_search_18 ?_
  refine r_istore_n (L2 := [_, _, _, _, none]) dX0_search_19 rfl (nlt rfl) rfl ?_
  refine r_iconst (z := 0) dX0_search_20 ?_
  refine r_istore (L2 := [_, _, _, _, _]) dX0_search_21 (nlt rfl) rfl ?_
  have lp23 : ∀ (fu23 : Nat) (s2 : Nat → Int) (co : Int) (i : Int) (j : Nat), ((k : Int) + 1 - i) < (fu23 : Int) → (i = (j : Int)) → (j ≤ k) → (co = p ^ j) → (∀ u, u < j → s2 u = sto k u) → (∀ u, u < 6 → -1000000 ≤ s2 u ∧ s2 u ≤ 1000000) → G X RX0 cX0_search mX0_search.rm N 0 0 23 [some (.ref (q)), some (.int (iZ (ki))), some (.int (iZ (p))), some (.int (iZ (co))), some (.int (iZ (i)))] [] (hs (hs (hs h (q) (ob 0 [.ref (q + 1), .ref (q + 4), .ref (q + 7), .int (iZ (0)), .int (iZ (0))])) (q + 4) (ob 7 [.int (iZ (ki)), .ref (q + 4 + 1), .ref (q + 4 + 2)])) (q + 4 + 2) (aL 6 (s2))) := by
    intro fu23
    induction fu23 with
    | zero => intro s2 co i j hm ei jk eco hs2 hsb2; exfalso; omega
    | succ fu23 ih23 =>
      intro s2 co i j hms23 ei jk eco hs2 hsb2
      refine r_iload dX0_search_23 rfl ?_
      refine r_iload_n dX0_search_25 rfl rfl ?_
      refine r_icmp_ge 62 dX0_search_26 (by decide) ⟨by omega, by omega⟩ ⟨by omega, by omega⟩ (fun c_26 => ?_) (fun c_26 => ?_)
      · refine r_iconst (z := 0) dX0_search_62 ?_
        refine r_istore (L2 := [_, _, _, _, _]) dX0_search_63 (nlt rfl) rfl ?_
        have ecoS : co = (S : Int) := by
          have j9 : j = k := by omega
          rw [eco, j9]; exact hpw.1
        have hso2 : ∀ u, u < k → s2 u = sto k u := fun u h8 => hs2 u (by omega)
        have lp65 : ∀ (fu65 : Nat) (lq : Int) (tq : Int) (l2 : Nat → Int) (k8 : Int) (m8 : Int) (tp8 : Int) (cd8 : Int) (lw8 : Nat → Int) (sw8 : Nat → Int) (lk : Int) (lc2 : Nat → Int) (lst2 : Nat → Int) (i : Int) (n : Nat) (kl : Nat), ((S : Int) + 1 - i) < (fu65 : Int) → (i = (n : Int)) → (n ≤ S) → (lq = (fLg k p n).2.1) → (tq = (fLg k p n).1) → (∀ u, u < 7 → -100000 ≤ l2 u ∧ l2 u ≤ 100000) → (lk = (kl : Int)) → (0 < (fLg k p n).1 → lk = (k : Int) ∧ ∀ u, 1 ≤ u → u ≤ k → lc2 u = lwd k p (fLg k p n).2.2 u) → ((fLg k p n).1 ≤ 343) → G X RX0 cX0_search mX0_search.rm N 0 0 65 [some (.ref (q)), some (.int (iZ (ki))), some (.int (iZ (p))), some (.int (iZ (co))), some (.int (iZ (i)))] [] (hs (hs (hs (hs (hs (hs (hs (hs (hs (hs h (q) (ob 0 [.ref (q + 1), .ref (q + 4), .ref (q + 7), .int (iZ (lq)), .int (iZ (tq))])) (q + 4) (ob 7 [.int (iZ (ki)), .ref (q + 4 + 1), .ref (q + 4 + 2)])) (q + 4 + 2) (aL 6 (s2))) (q + 4 + 1) (aL 7 (l2))) (q + 1) (ob 9 [.ref (q + 1 + 1), .ref (q + 1 + 2), .int (iZ (k8)), .int (iZ (m8)), .long (lZ (tp8)), .long (lZ (cd8))])) (q + 1 + 1) (aI 7 (lw8))) (q + 1 + 2) (aI 6 (sw8))) (q + 7) (ob 7 [.int (iZ (lk)), .ref (q + 7 + 1), .ref (q + 7 + 2)])) (q + 7 + 1) (aL 7 (lc2))) (q + 7 + 2) (aL 6 (lst2))) := by
          intro fu65
          induction fu65 with
          | zero => intro lq tq l2 k8 m8 tp8 cd8 lw8 sw8 lk lc2 lst2 i n kl hm ei nS elq etq hcb2 elk hld hb343; exfalso; omega
          | succ fu65 ih65 =>
            intro lq tq l2 k8 m8 tp8 cd8 lw8 sw8 lk lc2 lst2 i n kl hms65 ei nS elq etq hcb2 elk hld hb343
            have fin := fLg_in k p n
            refine r_iload dX0_search_65 rfl ?_
            refine r_iload_n dX0_search_67 rfl rfl ?_
            refine r_icmp_ge 92 dX0_search_68 (by decide) ⟨by omega, by omega⟩ ⟨by omega, by omega⟩ (fun c_68 => ?_) (fun c_68 => ?_)
            · refine r_return hq dX0_search_92 rfl rfl rfl ?_
              have n9 : n = S := by omega
              have hpos : 0 < (fLg k p n).1 := by rw [n9]; have e9 : S = S - 2 + 2 := (by omega); rw [e9]; exact fLg_pos hk0 hp _
              obtain ⟨g1, g2⟩ := hld hpos
              rw [n9, hSp] at elq etq g2
              rw [elq, etq]
              have hfin := hQ l2 s2 k8 m8 tp8 cd8 lw8 sw8 lk lc2 lst2 hcb2 hsb2 g1 g2
              rw [hki]
              exact hfin
            · refine r_iload dX0_search_71 rfl ?_
              refine r_iload_n dX0_search_73 rfl rfl ?_
              refine r_iremp dX0_search_74 ⟨by omega, by omega⟩ ⟨by omega, by omega⟩ (by omega) (by omega) ?_
              have eb_74 := emod_bd (i) (show 0 < p by omega)
              refine r_if_eq 86 dX0_search_75 (by decide) ⟨by omega, by omega⟩ (fun c_75 => ?_) (fun c_75 => ?_)
              · have hF1 : fLg k p (n + 1) = fLg k p n := by
                  show (if (n : Int) % p = 0 then fLg k p n else _) = _
                  rw [if_pos (by rw [← ei]; exact c_75)]
                refine r_iinc (L2 := [_, _, _, _, _]) dX0_search_86 (nlt rfl) rfl rfl ?_
                refine r_goto 65 dX0_search_89 (by decide) ?_
                exact ih65 (lq) (tq) (l2) (k8) (m8) (tp8) (cd8) (lw8) (sw8) (lk) (lc2) (lst2) (i + 1) ((n + 1)) (kl) (by omega) (by omega) (by omega) (by rw [hF1]; exact elq) (by rw [hF1]; exact etq) hcb2 elk (by rw [hF1]; exact hld) (by rw [hF1]; exact hb343)
              · refine r_aload_n dX0_search_78 rfl rfl ?_
                refine r_iload dX0_search_79 rfl ?_
                refine r_iload_n dX0_search_81 rfl rfl ?_
                refine r_iload_n dX0_search_82 rfl rfl ?_
                refine r_callV (av := [.int (iZ (i)), .int (iZ (p)), .int (iZ (co))]) dX0_search_83 lkX0_tryLaw ml_X0_40 imX0_tryLaw seX0_tryLaw (by omega) (rfl : vwCl[0]? = _) ⟨_, ((hs_n (by omega)).trans ((hs_n (by omega)).trans ((hs_n (by omega)).trans ((hs_n (by omega)).trans ((hs_n (by omega)).trans ((hs_n (by omega)).trans ((hs_n (by omega)).trans ((hs_n (by omega)).trans ((hs_n (by omega)).trans hs_e)))))))))⟩ ⟨Nat.le_of_ble_eq_true rfl, Nat.le_of_ble_eq_true rfl⟩ rfl rfl (nle rfl) ⟨Nat.le_of_ble_eq_true rfl, Nat.le_of_ble_eq_true rfl⟩ (c_X0_tryLaw (q := q) (k := k) (S := S) (kl := kl) (p := p) (code := i) (sts := co) (la := lq) (tu := tq) (lk := lk) (k9 := k8) (m9 := m8) (t9 := tp8) (d9 := cd8) (lw := lw8) (sw := sw8) (c := l2) (s := s2) (lc := lc2) (lst := lst2) ((hs_n (by omega)).trans ((hs_n (by omega)).trans ((hs_n (by omega)).trans ((hs_n (by omega)).trans ((hs_n (by omega)).trans ((hs_n (by omega)).trans ((hs_n (by omega)).trans ((hs_n (by omega)).trans ((hs_n (by omega)).trans hs_e))))))))) ((hs_n (by omega)).trans ((hs_n (by omega)).trans ((hs_n (by omega)).trans ((hs_n (by omega)).trans ((hs_n (by omega)).trans hs_e))))) ((hs_n (by omega)).trans ((hs_n (by omega)).trans ((hs_n (by omega)).trans ((hs_n (by omega)).trans hs_e)))) ((hs_n (by omega)).trans ((hs_n (by omega)).trans ((hs_n (by omega)).trans hs_e))) (RowAt.to (by rw [← hki]; exact ((hs_n (by omega)).trans ((hs_n (by omega)).trans ((hs_n (by omega)).trans ((hs_n (by omega)).trans ((hs_n (by omega)).trans ((hs_n (by omega)).trans ((hs_n (by omega)).trans ((hs_n (by omega)).trans hs_e))))))))) ((hs_n (by omega)).trans ((hs_n (by omega)).trans ((hs_n (by omega)).trans ((hs_n (by omega)).trans ((hs_n (by omega)).trans ((hs_n (by omega)).trans hs_e)))))) ((hs_n (by omega)).trans ((hs_n (by omega)).trans ((hs_n (by omega)).trans ((hs_n (by omega)).trans ((hs_n (by omega)).trans ((hs_n (by omega)).trans ((hs_n (by omega)).trans hs_e)))))))) ((hs_n (by omega)).trans ((hs_n (by omega)).trans hs_e)) ((hs_n (by omega)).trans hs_e) hs_e elk (by omega) hk0 (by omega) hp hcb2 hsb2 hso2 (by omega) (by omega) hSp (by omega) (by omega) c_75 (by omega) (by omega) (by omega) (by omega) (fun l3 k7 m7 tp7 cd7 lw7 sw7 la3 tu3 lk3 lc3 lst3 hcb3 hl3 hA hB hC => ?_))
                refine g_heap (h2 := (hs (hs (hs (hs (hs (hs (hs (hs (hs (hs h (q) (ob 0 [.ref (q + 1), .ref (q + 4), .ref (q + 7), .int (iZ (la3)), .int (iZ (tu3))])) (q + 4) (ob 7 [.int (iZ (ki)), .ref (q + 4 + 1), .ref (q + 4 + 2)])) (q + 4 + 2) (aL 6 (s2))) (q + 4 + 1) (aL 7 (l3))) (q + 1) (ob 9 [.ref (q + 1 + 1), .ref (q + 1 + 2), .int (iZ (k7)), .int (iZ (m7)), .long (lZ (tp7)), .long (lZ (cd7))])) (q + 1 + 1) (aI 7 (lw7))) (q + 1 + 2) (aI 6 (sw7))) (q + 7) (ob 7 [.int (iZ (lk3)), .ref (q + 7 + 1), .ref (q + 7 + 2)])) (q + 7 + 1) (aL 7 (lc3))) (q + 7 + 2) (aL 6 (lst3)))) ((congrArg (fun x9 => hs x9 (q + 7 + 2) (aL 6 (lst3))) ((congrArg (fun x9 => hs x9 (q + 7 + 1) (aL 7 (lc3))) ((congrArg (fun x9 => hs x9 (q + 7) (ob 7 [.int (iZ (lk3)), .ref (q + 7 + 1), .ref (q + 7 + 2)])) ((congrArg (fun x9 => hs x9 (q) (ob 0 [.ref (q + 1), .ref (q + 4), .ref (q + 7), .int (iZ (la3)), .int (iZ (tu3))])) ((congrArg (fun x9 => hs x9 (q + 1 + 2) (aI 6 (sw7))) ((congrArg (fun x9 => hs x9 (q + 1 + 1) (aI 7 (lw7))) ((congrArg (fun x9 => hs x9 (q + 1) (ob 9 [.ref (q + 1 + 1), .ref (q + 1 + 2), .int (iZ (k7)), .int (iZ (m7)), .long (lZ (tp7)), .long (lZ (cd7))])) (hs_put (by omega) (hs_put (by omega) (hs_put (by omega) (hs_put (by omega) (hs_put (by omega) (hs_put (by omega) hs_hs))))))).trans (hs_put (by omega) (hs_put (by omega) (hs_put (by omega) (hs_put (by omega) (hs_put (by omega) hs_hs))))))).trans (hs_put (by omega) (hs_put (by omega) (hs_put (by omega) (hs_put (by omega) hs_hs)))))).trans (hs_put (by omega) (hs_put (by omega) (hs_put (by omega) hs_hs))))).trans (hs_put (by omega) (hs_put (by omega) (hs_put (by omega) (hs_put (by omega) (hs_put (by omega) (hs_put (by omega) (hs_put (by omega) (hs_put (by omega) (hs_put (by omega) hs_hs))))))))))).trans (hs_put (by omega) (hs_put (by omega) hs_hs)))).trans (hs_put (by omega) hs_hs))).trans hs_hs) ?_
                show G _ _ _ _ _ _ _ 86 _ _ _
                have hcn : ¬ (n : Int) % p = 0 := by rw [← ei]; exact c_75
                have hLb := (Lf_spec (k := k) hk0 hp hcn).2
                rw [← hSp] at hLb
                rw [ei] at hA hB hC hl3
                have hG : la3 = (fLg k p (n + 1)).2.1 ∧ tu3 = (fLg k p (n + 1)).1 ∧ lk3 = (lk3.toNat : Int) ∧ (0 < (fLg k p (n + 1)).1 → lk3 = (k : Int) ∧ ∀ u, 1 ≤ u → u ≤ k → lc3 u = lwd k p (fLg k p (n + 1)).2.2 u) ∧ (fLg k p (n + 1)).1 ≤ 343 := by
                  have hun : fLg k p (n + 1) = (if (n : Int) % p = 0 then fLg k p n else if (fLg k p n).1 < (Lf k p n : Int) then ((Lf k p n : Int), 1, (n : Int)) else if (Lf k p n : Int) = (fLg k p n).1 then ((fLg k p n).1, (fLg k p n).2.1 + 1, (fLg k p n).2.2) else fLg k p n) := rfl
                  rw [if_neg hcn] at hun
                  rcases Int.lt_trichotomy tq (Lf k p n : Int) with z | z | z
                  · obtain ⟨a1, a2, a3, a4⟩ := hA z
                    rw [if_pos (by rw [← etq]; exact z)] at hun
                    rw [hun]
                    exact ⟨a2, a1, by omega, fun _ => ⟨a3, a4⟩, by show (Lf k p n : Int) ≤ 343; omega⟩
                  · obtain ⟨a1, a2, a3, a4⟩ := hB z
                    rw [if_neg (by rw [← etq]; omega), if_pos (by rw [← etq]; exact z.symm)] at hun
                    rw [hun]
                    exact ⟨by rw [a2, elq], by rw [a1, etq], by omega, fun w => by rw [a3, a4]; exact hld w, hb343⟩
                  · obtain ⟨a1, a2, a3, a4⟩ := hC z
                    rw [if_neg (by rw [← etq]; omega), if_neg (by rw [← etq]; omega)] at hun
                    rw [hun]
                    exact ⟨by rw [a2, elq], by rw [a1, etq], by omega, fun w => by rw [a3, a4]; exact hld w, hb343⟩
                refine r_iinc (L2 := [_, _, _, _, _]) dX0_search_86 (nlt rfl) rfl rfl ?_
                refine r_goto 65 dX0_search_89 (by decide) ?_
                exact ih65 (la3) (tu3) (l3) (k7) (m7) (tp7) (cd7) (lw7) (sw7) (lk3) (lc3) (lst3) (i + 1) ((n + 1)) (lk3.toNat) (by omega) (by omega) (by omega) hG.1 hG.2.1 hcb3 hG.2.2.1 hG.2.2.2.1 hG.2.2.2.2
        refine g_heap (hs_id (c := aL 7 (c)) ((hs_n (by omega)).trans ((hs_n (by omega)).trans ((hs_n (by omega)).trans hr.2.1)))).symm ?_
        refine g_heap (hs_id (c := ob 9 [.ref (q + 1 + 1), .ref (q + 1 + 2), .int (iZ (k9)), .int (iZ (m9)), .long (lZ (t9)), .long (lZ (d9))]) ((hs_n (by omega)).trans ((hs_n (by omega)).trans ((hs_n (by omega)).trans ((hs_n (by omega)).trans ho))))).symm ?_
        refine g_heap (hs_id (c := aI 7 (lw)) ((hs_n (by omega)).trans ((hs_n (by omega)).trans ((hs_n (by omega)).trans ((hs_n (by omega)).trans ((hs_n (by omega)).trans h1)))))).symm ?_
        refine g_heap (hs_id (c := aI 6 (sw)) ((hs_n (by omega)).trans ((hs_n (by omega)).trans ((hs_n (by omega)).trans ((hs_n (by omega)).trans ((hs_n (by omega)).trans ((hs_n (by omega)).trans h2))))))).symm ?_
        refine g_heap (hs_id (c := ob 7 [.int (iZ (lk0)), .ref (q + 7 + 1), .ref (q + 7 + 2)]) ((hs_n (by omega)).trans ((hs_n (by omega)).trans ((hs_n (by omega)).trans ((hs_n (by omega)).trans ((hs_n (by omega)).trans ((hs_n (by omega)).trans ((hs_n (by omega)).trans hrl)))))))).symm ?_
        refine g_heap (hs_id (c := aL 7 (lc)) ((hs_n (by omega)).trans ((hs_n (by omega)).trans ((hs_n (by omega)).trans ((hs_n (by omega)).trans ((hs_n (by omega)).trans ((hs_n (by omega)).trans ((hs_n (by omega)).trans ((hs_n (by omega)).trans hd1))))))))).symm ?_
        refine g_heap (hs_id (c := aL 6 (lst)) ((hs_n (by omega)).trans ((hs_n (by omega)).trans ((hs_n (by omega)).trans ((hs_n (by omega)).trans ((hs_n (by omega)).trans ((hs_n (by omega)).trans ((hs_n (by omega)).trans ((hs_n (by omega)).trans ((hs_n (by omega)).trans hd2)))))))))).symm ?_
        exact lp65 (((S : Int) + 1 : Int) + 1).toNat (0) (0) (c) (k9) (m9) (t9) (d9) (lw) (sw) (lk0) (lc) (lst) (0) (0) (kl0) (by omega) rfl (by omega) rfl rfl hcb hlk0 (fun z => absurd z (Int.lt_irrefl 0)) (show (0 : Int) ≤ 343 by decide)
      · refine r_aload_n dX0_search_29 rfl rfl ?_
        refine gf_X0_19 dX0_search_30 (by omega) ((hs_n (by omega)).trans ((hs_n (by omega)).trans hs_e)) rfl ?_
        refine gf_X0_36 dX0_search_33 (by omega) ((hs_n (by omega)).trans hs_e) rfl ?_
        refine r_iload dX0_search_36 rfl ?_
        refine r_iload dX0_search_38 rfl ?_
        refine r_iload_n dX0_search_40 rfl rfl ?_
        refine r_iconst (z := 1) dX0_search_41 ?_
        refine r_isub dX0_search_42 ?_
        have ein : i.toNat = j := by omega
        have pb := pow343b hp (j := j) (by omega)
        refine r_icmp_ne 50 dX0_search_43 (by decide) ⟨by omega, by omega⟩ ⟨by omega, by omega⟩ (fun c_43 => ?_) (fun c_43 => ?_)
        · refine r_lconst (z := 0) dX0_search_50 (by decide) ?_
          refine r_lastore dX0_search_51 (by omega) hs_e (by omega) (by omega) (by decide) ?_
          refine g_heap (h2 := (hs (hs (hs h (q) (ob 0 [.ref (q + 1), .ref (q + 4), .ref (q + 7), .int (iZ (0)), .int (iZ (0))])) (q + 4) (ob 7 [.int (iZ (ki)), .ref (q + 4 + 1), .ref (q + 4 + 2)])) (q + 4 + 2) (aL 6 (uA (s2) (i).toNat (0))))) hs_hs ?_
          refine r_iload_n dX0_search_52 rfl rfl ?_
          refine r_iload_n dX0_search_53 rfl rfl ?_
          refine r_imul dX0_search_54 ?_
          refine r_istore_n (L2 := [_, _, _, _, _]) dX0_search_55 rfl (nlt rfl) rfl ?_
          refine r_iinc (L2 := [_, _, _, _, _]) dX0_search_56 (nlt rfl) rfl rfl ?_
          refine r_goto 23 dX0_search_59 (by decide) ?_
          exact ih23 (uA (s2) (i).toNat (0)) (co * p) (i + 1) ((j + 1)) (by omega) (by omega) (by omega) (by rw [eco, Int.pow_succ]) (fun u h8 => by rw [ein]; by_cases z : u = j; (subst z; rw [uA_e]; unfold sto; rw [if_neg (by omega)]); rw [uA_n z]; exact hs2 u (by omega)) (fun u h8 => by by_cases z : u = i.toNat; (subst z; rw [uA_e]; omega); rw [uA_n z]; exact hsb2 u h8)
        · refine r_lconst (z := 1) dX0_search_46 (by decide) ?_
          refine r_goto 51 dX0_search_47 (by decide) ?_
          refine r_lastore dX0_search_51 (by omega) hs_e (by omega) (by omega) (by decide) ?_
          refine g_heap (h2 := (hs (hs (hs h (q) (ob 0 [.ref (q + 1), .ref (q + 4), .ref (q + 7), .int (iZ (0)), .int (iZ (0))])) (q + 4) (ob 7 [.int (iZ (ki)), .ref (q + 4 + 1), .ref (q + 4 + 2)])) (q + 4 + 2) (aL 6 (uA (s2) (i).toNat (1))))) hs_hs ?_
          refine r_iload_n dX0_search_52 rfl rfl ?_
          refine r_iload_n dX0_search_53 rfl rfl ?_
          refine r_imul dX0_search_54 ?_
          refine r_istore_n (L2 := [_, _, _, _, _]) dX0_search_55 rfl (nlt rfl) rfl ?_
          refine r_iinc (L2 := [_, _, _, _, _]) dX0_search_56 (nlt rfl) rfl rfl ?_
          refine r_goto 23 dX0_search_59 (by decide) ?_
          exact ih23 (uA (s2) (i).toNat (1)) (co * p) (i + 1) ((j + 1)) (by omega) (by omega) (by omega) (by rw [eco, Int.pow_succ]) (fun u h8 => by rw [ein]; by_cases z : u = j; (subst z; rw [uA_e]; unfold sto; rw [if_pos (by omega)]); rw [uA_n z]; exact hs2 u (by omega)) (fun u h8 => by by_cases z : u = i.toNat; (subst z; rw [uA_e]; omega); rw [uA_n z]; exact hsb2 u h8)
  refine g_heap (hs_id (c := aL 6 (s)) ((hs_n (by omega)).trans ((hs_n (by omega)).trans hr.2.2))).symm ?_
  exact lp23 (((k : Int) + 1 : Int) + 1).toNat (s) (1) (0) (0) (by omega) rfl (by omega) (by simp) (fun u h8 => absurd h8 (Nat.not_lt_zero u)) hsb
