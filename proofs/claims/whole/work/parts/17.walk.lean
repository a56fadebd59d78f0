abbrev WKo (w : Nat) (k m tp cd : Int) : ACell := ob 9 [.ref (w + 1), .ref (w + 2), .int (iZ k), .int (iZ m), .long (lZ tp), .long (lZ cd)]
theorem pow_bd {m : Int} (h1 : 2 ≤ m) (h2 : m ≤ 1000) : ∀ j : Nat, j ≤ 6 → 1 ≤ m ^ j ∧ m ^ j ≤ 1000 ^ j := by
  intro j
  induction j with
  | zero => intro _; simp
  | succ j ih =>
    intro hj
    have := ih (by omega)
    rw [Int.pow_succ, Int.pow_succ]
    have a := Int.mul_le_mul this.2 h2 (by omega) (Int.le_of_lt (Int.pow_pos (by decide)))
    have b := Int.mul_le_mul this.1 (show (1 : Int) ≤ m by omega) (by decide) (by omega)
    omega
theorem pow18 {m : Int} (h1 : 2 ≤ m) (h2 : m ≤ 1000) {j : Nat} (hj : j ≤ 6) : 1 ≤ m ^ j ∧ m ^ j ≤ 1000000000000000000 := by
  have := pow_bd h1 h2 j hj
  have h3 : (1000 : Int) ^ j ≤ 1000 ^ 6 := by
    rcases (show j = 0 ∨ j = 1 ∨ j = 2 ∨ j = 3 ∨ j = 4 ∨ j = 5 ∨ j = 6 by omega) with e | e | e | e | e | e | e <;> subst e <;> decide
  have h4 : (1000 : Int) ^ 6 = 1000000000000000000 := by decide
  omega
theorem rs_lt {k : Nat} {c s : Nat → Int} {m : Int} {n : Nat} (h : n < k) : rs k c s m n = s n % m := by show ex k c s n % m = _; rw [ex_lt h]
set_option maxHeartbeats 2000000 in
set_option maxRecDepth 20000 in
theorem c_X9_begin {N : Nat} {h : Hp} {Q : QP} {w r k : Nat} {m k9 m9 t9 d9 : Int} {lw sw c s : Nat → Int} (ho : h w = WKo w k9 m9 t9 d9) (h1 : h (w + 1) = aI 7 lw) (h2 : h (w + 2) = aI 6 sw) (hN : w + 2 < N) (hk0 : 0 < k) (hk : k ≤ 6) (hm2 : 2 ≤ m) (hm : m ≤ 1000) (hr : RowAt h r k c s) (hrN : r + 2 < N) (hrw : r + 2 < w ∨ w + 2 < r) (hcb : ∀ j, j < 7 → -100000 ≤ c j ∧ c j ≤ 100000) (hsb : ∀ j, j < 6 → -1000000 ≤ s j ∧ s j ≤ 1000000) (hQ : ∀ l2 s2 : Nat → Int, (∀ j, 1 ≤ j → j ≤ k → l2 j = c j % m) → (∀ j, j < k → s2 j = rs k c s m j) → Q none N (hs (hs (hs h w (WKo w (k : Int) m (m ^ (k - 1)) (cdf m (rs k c s m) 0 k))) (w + 1) (aI 7 l2)) (w + 2) (aI 6 s2))) : Runs mX9_begin [.ref (w), .ref (r), .int (iZ (m))] N h Q := by
  refine run_start (own := RX9) rfl (by decide) (nle rfl) rfl (fun X hq hini => ?_)
  show G X RX9 cX9_begin mX9_begin.rm N 0 0 0 [some (.ref (w)), some (.ref (r)), some (.int (iZ (m))), none] [] h
  refine r_aload_n dX9_begin_0 rfl rfl ?_
  refine r_aload_n dX9_begin_1 rfl rfl ?_
  refine gf_X9_32 dX9_begin_2 (by omega) hr.1 rfl ?_
  refine pf_X9_18 (fs2 := [_, _, _, _, _, _]) dX9_begin_5 (fun _ _ => rfl) (fun _ _ => rfl) (nlt rfl) (by omega) ho rfl ?_
  refine r_aload_n dX9_begin_8 rfl rfl ?_
  refine r_iload_n dX9_begin_9 rfl rfl ?_
  refine pf_X9_22 (fs2 := [_, _, _, _, _, _]) dX9_begin_10 (fun _ _ => rfl) (fun _ _ => rfl) (nlt rfl) (by omega) hs_e rfl ?_
  refine g_heap hs_hs ?_
  refine r_aload_n dX9_begin_13 rfl rfl ?_
  refine r_lconst (z := 1) dX9_begin_14 (by decide) ?_
  refine pf_X9_25 (fs2 := [_, _, _, _, _, _]) dX9_begin_15 (fun _ _ => rfl) (fun _ _ => rfl) (nlt rfl) (by omega) hs_e rfl ?_
  refine g_heap hs_hs ?_
  refine r_aload_n dX9_begin_18 rfl rfl ?_
  refine r_lconst (z := 0) dX9_begin_19 (by decide) ?_
  refine pf_X9_29 (fs2 := [_, _, _, _, _, _]) dX9_begin_20 (fun _ _ => rfl) (fun _ _ => rfl) (nlt rfl) (by omega) hs_e rfl ?_
  refine g_heap hs_hs ?_
  refine r_iconst (z := 0) dX9_begin_23 ?_
  refine r_istore_n (L2 := [_, _, _, _]) dX9_begin_24 rfl (nlt rfl) rfl ?_
  have lp25 : ∀ (fu25 : Nat) (tp : Int) (cd : Int) (l2 : Nat → Int) (s2 : Nat → Int) (i : Int) (j : Nat), ((k : Int) + 1 - i) < (fu25 : Int) → (i = (j : Int)) → (j ≤ k) → (∀ u, 1 ≤ u → u ≤ j → l2 u = c u % m) → (∀ u, u < j → s2 u = rs k c s m u) → (cd = cdf m (rs k c s m) 0 j) → (tp = if j = 0 then 1 else m ^ (j - 1)) → G X RX9 cX9_begin mX9_begin.rm N 0 0 25 [some (.ref (w)), some (.ref (r)), some (.int (iZ (m))), some (.int (iZ (i)))] [] (hs (hs (hs h (w) (ob 9 [.ref (w + 1), .ref (w + 2), .int (iZ ((k : Int))), .int (iZ (m)), .long (lZ (tp)), .long (lZ (cd))])) (w + 1) (aI 7 (l2))) (w + 2) (aI 6 (s2))) := by
    intro fu25
    induction fu25 with
    | zero => intro tp cd l2 s2 i j hm ei jk hl2 hs2 ecd etp; exfalso; omega
    | succ fu25 ih25 =>
      intro tp cd l2 s2 i j hms25 ei jk hl2 hs2 ecd etp
      refine r_iload_n dX9_begin_25 rfl rfl ?_
      refine r_aload_n dX9_begin_26 rfl rfl ?_
      refine gf_X9_18 dX9_begin_27 (by omega) ((hs_n (by omega)).trans ((hs_n (by omega)).trans hs_e)) rfl ?_
      refine r_icmp_ge 129 dX9_begin_30 (by decide) ⟨by omega, by omega⟩ ⟨by omega, by omega⟩ (fun c_30 => ?_) (fun c_30 => ?_)
      · refine r_return hq dX9_begin_129 rfl rfl rfl ?_
        have jk2 : j = k := by omega
        subst jk2
        rw [if_neg (by omega)] at etp
        rw [etp, ecd]
        exact hQ l2 s2 hl2 hs2
      · have e1 : (i + 1).toNat = j + 1 := by omega
        have e2 : i.toNat = j := by omega
        refine r_aload_n dX9_begin_33 rfl rfl ?_
        refine gf_X9_9 dX9_begin_34 (by omega) ((hs_n (by omega)).trans ((hs_n (by omega)).trans hs_e)) rfl ?_
        refine r_iload_n dX9_begin_37 rfl rfl ?_
        refine r_iconst (z := 1) dX9_begin_38 ?_
        refine r_iadd dX9_begin_39 ?_
        refine r_aload_n dX9_begin_40 rfl rfl ?_
        refine gf_X9_35 dX9_begin_41 (by omega) ((hs_n (by omega)).trans ((hs_n (by omega)).trans ((hs_n (by omega)).trans hr.1))) rfl ?_
        refine r_iload_n dX9_begin_44 rfl rfl ?_
        refine r_iconst (z := 1) dX9_begin_45 ?_
        refine r_iadd dX9_begin_46 ?_
        refine r_laload dX9_begin_47 (by omega) ((hs_n (by omega)).trans ((hs_n (by omega)).trans ((hs_n (by omega)).trans hr.2.1))) (by omega) (by omega) (by decide) ?_
        have b_47 := hcb (i + 1).toNat (by omega)
        refine r_aload_n dX9_begin_48 rfl rfl ?_
        refine gf_X9_22 dX9_begin_49 (by omega) ((hs_n (by omega)).trans ((hs_n (by omega)).trans hs_e)) rfl ?_
        refine r_i2l dX9_begin_52 ⟨by omega, by omega⟩ ?_
        refine r_floorMod dX9_begin_53 ml_X9_38 stJ9_floorMod_f86c9 lkJ9_floorMod_f86c9.1 lkJ9_floorMod_f86c9.2.1 ⟨by decide, by decide⟩ (nle rfl) ⟨Nat.zero_le _, Nat.zero_le _⟩ ⟨by omega, by omega⟩ ⟨by omega, by omega⟩ (by omega) ?_
        have eb_53 := emod_bd (c (i + 1).toNat) (show 0 < m by omega)
        refine r_l2i dX9_begin_56 ?_
        refine r_iastore dX9_begin_57 (by omega) ((hs_n (by omega)).trans hs_e) (by omega) (by omega) (by decide) ?_
        refine g_heap (h2 := (hs (hs (hs h (w) (ob 9 [.ref (w + 1), .ref (w + 2), .int (iZ ((k : Int))), .int (iZ (m)), .long (lZ (tp)), .long (lZ (cd))])) (w + 1) (aI 7 (uA (l2) (i + 1).toNat ((c (i + 1).toNat) % m)))) (w + 2) (aI 6 (s2)))) (by funext z9; simp only [hs]; (repeat' split) <;> first | rfl | (exfalso; omega)) ?_
        refine r_aload_n dX9_begin_58 rfl rfl ?_
        refine gf_X9_15 dX9_begin_59 (by omega) ((hs_n (by omega)).trans ((hs_n (by omega)).trans hs_e)) rfl ?_
        refine r_iload_n dX9_begin_62 rfl rfl ?_
        refine r_aload_n dX9_begin_63 rfl rfl ?_
        refine gf_X9_44 dX9_begin_64 (by omega) ((hs_n (by omega)).trans ((hs_n (by omega)).trans ((hs_n (by omega)).trans hr.1))) rfl ?_
        refine r_iload_n dX9_begin_67 rfl rfl ?_
        refine r_laload dX9_begin_68 (by omega) ((hs_n (by omega)).trans ((hs_n (by omega)).trans ((hs_n (by omega)).trans hr.2.2))) (by omega) (by omega) (by decide) ?_
        have b_68 := hsb (i).toNat (by omega)
        refine r_aload_n dX9_begin_69 rfl rfl ?_
        refine gf_X9_22 dX9_begin_70 (by omega) ((hs_n (by omega)).trans ((hs_n (by omega)).trans hs_e)) rfl ?_
        refine r_i2l dX9_begin_73 ⟨by omega, by omega⟩ ?_
        refine r_floorMod dX9_begin_74 ml_X9_38 stJ9_floorMod_f86c9 lkJ9_floorMod_f86c9.1 lkJ9_floorMod_f86c9.2.1 ⟨by decide, by decide⟩ (nle rfl) ⟨Nat.zero_le _, Nat.zero_le _⟩ ⟨by omega, by omega⟩ ⟨by omega, by omega⟩ (by omega) ?_
        have eb_74 := emod_bd (s (i).toNat) (show 0 < m by omega)
        refine r_l2i dX9_begin_77 ?_
        refine r_iastore dX9_begin_78 (by omega) hs_e (by omega) (by omega) (by decide) ?_
        refine g_heap hs_hs ?_
        refine r_aload_n dX9_begin_79 rfl rfl ?_
        refine r_aload_n dX9_begin_80 rfl rfl ?_
        refine gf_X9_29 dX9_begin_81 (by omega) ((hs_n (by omega)).trans ((hs_n (by omega)).trans hs_e)) rfl ?_
        refine r_aload_n dX9_begin_84 rfl rfl ?_
        refine gf_X9_22 dX9_begin_85 (by omega) ((hs_n (by omega)).trans ((hs_n (by omega)).trans hs_e)) rfl ?_
        refine r_i2l dX9_begin_88 ⟨by omega, by omega⟩ ?_
        refine r_lmul dX9_begin_89 ?_
        refine r_aload_n dX9_begin_90 rfl rfl ?_
        refine gf_X9_15 dX9_begin_91 (by omega) ((hs_n (by omega)).trans ((hs_n (by omega)).trans hs_e)) rfl ?_
        refine r_iload_n dX9_begin_94 rfl rfl ?_
        refine r_iaload dX9_begin_95 (by omega) hs_e (by omega) (by omega) (by decide) ?_
        refine r_i2l dX9_begin_96 (by rw [uA_e]; exact ⟨by omega, by omega⟩) ?_
        refine r_ladd dX9_begin_97 ?_
        refine pf_X9_29 (fs2 := [_, _, _, _, _, _]) dX9_begin_98 (fun _ _ => rfl) (fun _ _ => rfl) (nlt rfl) (by omega) ((hs_n (by omega)).trans ((hs_n (by omega)).trans hs_e)) rfl ?_
        refine g_heap (h2 := (hs (hs (hs h (w) (ob 9 [.ref (w + 1), .ref (w + 2), .int (iZ ((k : Int))), .int (iZ (m)), .long (lZ (tp)), .long (lZ ((cd * m) + ((uA (s2) (i).toNat ((s (i).toNat) % m)) (i).toNat)))])) (w + 1) (aI 7 (uA (l2) (i + 1).toNat ((c (i + 1).toNat) % m)))) (w + 2) (aI 6 (uA (s2) (i).toNat ((s (i).toNat) % m))))) (by funext z9; simp only [hs]; (repeat' split) <;> first | rfl | (exfalso; omega)) ?_
        refine r_aload_n dX9_begin_101 rfl rfl ?_
        refine r_iload_n dX9_begin_102 rfl rfl ?_
        refine r_if_ne 110 dX9_begin_103 (by decide) ⟨by omega, by omega⟩ (fun c_103 => ?_) (fun c_103 => ?_)
        · refine r_aload_n dX9_begin_110 rfl rfl ?_
          refine gf_X9_25 dX9_begin_111 (by omega) ((hs_n (by omega)).trans ((hs_n (by omega)).trans hs_e)) rfl ?_
          refine r_aload_n dX9_begin_114 rfl rfl ?_
          refine gf_X9_22 dX9_begin_115 (by omega) ((hs_n (by omega)).trans ((hs_n (by omega)).trans hs_e)) rfl ?_
          refine r_i2l dX9_begin_118 ⟨by omega, by omega⟩ ?_
          refine r_lmul dX9_begin_119 ?_
          refine pf_X9_25 (fs2 := [_, _, _, _, _, _]) dX9_begin_120 (fun _ _ => rfl) (fun _ _ => rfl) (nlt rfl) (by omega) ((hs_n (by omega)).trans ((hs_n (by omega)).trans hs_e)) rfl ?_
          refine g_heap (h2 := (hs (hs (hs h (w) (ob 9 [.ref (w + 1), .ref (w + 2), .int (iZ ((k : Int))), .int (iZ (m)), .long (lZ (tp * m)), .long (lZ ((cd * m) + ((uA (s2) (i).toNat ((s (i).toNat) % m)) (i).toNat)))])) (w + 1) (aI 7 (uA (l2) (i + 1).toNat ((c (i + 1).toNat) % m)))) (w + 2) (aI 6 (uA (s2) (i).toNat ((s (i).toNat) % m))))) (by funext z9; simp only [hs]; (repeat' split) <;> first | rfl | (exfalso; omega)) ?_
          refine r_iinc (L2 := [_, _, _, _]) dX9_begin_123 (nlt rfl) rfl rfl ?_
          refine r_goto 25 dX9_begin_126 (by decide) ?_
          exact ih25 (tp * m) ((cd * m) + ((uA (s2) (i).toNat ((s (i).toNat) % m)) (i).toNat)) (uA (l2) (i + 1).toNat ((c (i + 1).toNat) % m)) (uA (s2) (i).toNat ((s (i).toNat) % m)) (i + 1) ((j + 1)) (by omega) (by omega) (by omega) (fun u h8 h9 => by rw [e1]; by_cases z : u = j + 1; (subst z; rw [uA_e]); rw [uA_n z]; exact hl2 u h8 (by omega)) (fun u h8 => by rw [e2]; by_cases z : u = j; (subst z; rw [uA_e]; exact (rs_lt (by omega)).symm); rw [uA_n z]; exact hs2 u (by omega)) (by rw [uA_e, e2, ecd, ← rs_lt (k := k) (c := c) (s := s) (m := m) (show j < k by omega)]; show _ = cdf m (rs k c s m) 0 j * m + rs k c s m (0 + j); rw [Nat.zero_add]) (by rw [if_neg (by omega)]; rw [etp, if_neg (by omega)]; have e8 : j + 1 - 1 = j - 1 + 1 := (by omega); rw [e8, Int.pow_succ])
        · refine r_lconst (z := 1) dX9_begin_106 (by decide) ?_
          refine r_goto 120 dX9_begin_107 (by decide) ?_
          refine pf_X9_25 (fs2 := [_, _, _, _, _, _]) dX9_begin_120 (fun _ _ => rfl) (fun _ _ => rfl) (nlt rfl) (by omega) ((hs_n (by omega)).trans ((hs_n (by omega)).trans hs_e)) rfl ?_
          refine g_heap (h2 := (hs (hs (hs h (w) (ob 9 [.ref (w + 1), .ref (w + 2), .int (iZ ((k : Int))), .int (iZ (m)), .long (lZ (1)), .long (lZ ((cd * m) + ((uA (s2) (i).toNat ((s (i).toNat) % m)) (i).toNat)))])) (w + 1) (aI 7 (uA (l2) (i + 1).toNat ((c (i + 1).toNat) % m)))) (w + 2) (aI 6 (uA (s2) (i).toNat ((s (i).toNat) % m))))) (by funext z9; simp only [hs]; (repeat' split) <;> first | rfl | (exfalso; omega)) ?_
          refine r_iinc (L2 := [_, _, _, _]) dX9_begin_123 (nlt rfl) rfl rfl ?_
          refine r_goto 25 dX9_begin_126 (by decide) ?_
          exact ih25 (1) ((cd * m) + ((uA (s2) (i).toNat ((s (i).toNat) % m)) (i).toNat)) (uA (l2) (i + 1).toNat ((c (i + 1).toNat) % m)) (uA (s2) (i).toNat ((s (i).toNat) % m)) (i + 1) ((j + 1)) (by omega) (by omega) (by omega) (fun u h8 h9 => by rw [e1]; by_cases z : u = j + 1; (subst z; rw [uA_e]); rw [uA_n z]; exact hl2 u h8 (by omega)) (fun u h8 => by rw [e2]; by_cases z : u = j; (subst z; rw [uA_e]; exact (rs_lt (by omega)).symm); rw [uA_n z]; exact hs2 u (by omega)) (by rw [uA_e, e2, ecd, ← rs_lt (k := k) (c := c) (s := s) (m := m) (show j < k by omega)]; show _ = cdf m (rs k c s m) 0 j * m + rs k c s m (0 + j); rw [Nat.zero_add]) (by rw [if_neg (by omega)]; have j0 : j = 0 := (by omega); subst j0; simp)
  refine g_heap (hs_id (c := aI 7 (lw)) ((hs_n (by omega)).trans h1)).symm ?_
  refine g_heap (hs_id (c := aI 6 (sw)) ((hs_n (by omega)).trans ((hs_n (by omega)).trans h2))).symm ?_
  exact lp25 (((k : Int) + 1 : Int) + 1).toNat (1) (0) (lw) (sw) (0) (0) (by omega) rfl (by omega) (fun u h8 h9 => by omega) (fun u h8 => absurd h8 (Nat.not_lt_zero u)) rfl rfl
set_option maxHeartbeats 2000000 in
set_option maxRecDepth 20000 in
theorem c_X9_step {N : Nat} {h : Hp} {Q : QP} {w k n : Nat} {m : Int} {lw sw c s : Nat → Int} (ho : h w = WKo w (k : Int) m (m ^ (k - 1)) (cdf m (rs k c s m) n k)) (h1 : h (w + 1) = aI 7 lw) (h2 : h (w + 2) = aI 6 sw) (hN : w + 2 < N) (hk0 : 0 < k) (hk : k ≤ 6) (hm2 : 2 ≤ m) (hm : m ≤ 1000) (hlw : ∀ j, 1 ≤ j → j ≤ k → lw j = c j % m) (hsw : ∀ j, j < k → sw j = rs k c s m (n + j)) (hQ : ∀ s2 : Nat → Int, (∀ j, j < k → s2 j = rs k c s m (n + 1 + j)) → Q none N (hs (hs h (w + 2) (aI 6 s2)) w (WKo w (k : Int) m (m ^ (k - 1)) (cdf m (rs k c s m) (n + 1) k)))) : Runs mX9_step [.ref (w)] N h Q := by
  have hsin := rs_in (k := k) (c := c) (s := s) (m := m) (by omega)
  have p1 := pow18 hm2 hm (j := k - 1) (by omega)
  have p2 := pow18 hm2 hm (j := k) hk
  have cin := cdf_in (m := m) (by omega) hsin n k
  refine run_start (own := RX9) rfl (by decide) (nle rfl) rfl (fun X hq hini => ?_)
  show G X RX9 cX9_step mX9_step.rm N 0 0 0 [some (.ref (w)), none, none] [] h
  refine r_iconst (z := 0) dX9_step_0 ?_
  refine r_istore_n (L2 := [_, _, none]) dX9_step_1 rfl (nlt rfl) rfl ?_
  refine r_iconst (z := 1) dX9_step_2 ?_
  refine r_istore_n (L2 := [_, _, _]) dX9_step_3 rfl (nlt rfl) rfl ?_
  have lp4 : ∀ (fu4 : Nat) (sum : Int) (i : Int) (j : Nat), ((k : Int) + 2 - i) < (fu4 : Int) → (i = (j : Int) + 1) → (j ≤ k) → (sum = sm (fun t => lw (t + 1) * rs k c s m (n + k - 1 - t)) j) → (0 ≤ sum) → (sum ≤ (j : Int) * 1000000) → G X RX9 cX9_step mX9_step.rm N 0 0 4 [some (.ref (w)), some (.int (iZ (sum))), some (.int (iZ (i)))] [] h := by
    intro fu4
    induction fu4 with
    | zero => intro sum i j hm ei jk es s0 s1; exfalso; omega
    | succ fu4 ih4 =>
      intro sum i j hms4 ei jk es s0 s1
      refine r_iload_n dX9_step_4 rfl rfl ?_
      refine r_aload_n dX9_step_5 rfl rfl ?_
      refine gf_X9_18 dX9_step_6 (by omega) ho rfl ?_
      refine r_icmp_gt 39 dX9_step_9 (by decide) ⟨by omega, by omega⟩ ⟨by omega, by omega⟩ (fun c_9 => ?_) (fun c_9 => ?_)
      · refine r_iload_n dX9_step_39 rfl rfl ?_
        refine r_aload_n dX9_step_40 rfl rfl ?_
        refine gf_X9_22 dX9_step_41 (by omega) ho rfl ?_
        refine r_iremp dX9_step_44 ⟨by omega, by omega⟩ ⟨by omega, by omega⟩ (by omega) (by omega) ?_
        have eb_44 := emod_bd (sum) (show 0 < m by omega)
        refine r_istore_n (L2 := [_, _, _]) dX9_step_45 rfl (nlt rfl) rfl ?_
        have jk2 : j = k := by omega
        have hrr : sum % m = rs k c s m (n + k) := by
          rw [rs_rec hk0, es, jk2]
          refine (cg.sm (fun t ht => ?_)).emod
          rw [hlw (t + 1) (by omega) (by omega)]
          exact cg.md.mul cg.rf
        refine r_iconst (z := 1) dX9_step_46 ?_
        refine r_istore_n (L2 := [_, _, _]) dX9_step_47 rfl (nlt rfl) rfl ?_
        have lp48 : ∀ (fu48 : Nat) (F : Nat → Int) (i : Int) (v : Nat), ((k : Int) + 2 - i) < (fu48 : Int) → (i = (v : Int) + 1) → (v + 1 ≤ k) → (∀ u, u < v → F u = sw (u + 1)) → (∀ u, v ≤ u → F u = sw u) → G X RX9 cX9_step mX9_step.rm N 0 0 48 [some (.ref (w)), some (.int (iZ (sum % m))), some (.int (iZ (i)))] [] (hs h (w + 2) (aI 6 (F))) := by
          intro fu48
          induction fu48 with
          | zero => intro F i v hm ei2 vk hF1 hF2; exfalso; omega
          | succ fu48 ih48 =>
            intro F i v hms48 ei2 vk hF1 hF2
            refine r_iload_n dX9_step_48 rfl rfl ?_
            refine r_aload_n dX9_step_49 rfl rfl ?_
            refine gf_X9_18 dX9_step_50 (by omega) ((hs_n (by omega)).trans ho) rfl ?_
            refine r_icmp_ge 76 dX9_step_53 (by decide) ⟨by omega, by omega⟩ ⟨by omega, by omega⟩ (fun c_53 => ?_) (fun c_53 => ?_)
            · have v1 : v + 1 = k := by omega
              have e5 : ((k : Int) - 1).toNat = k - 1 := by omega
              refine r_aload_n dX9_step_76 rfl rfl ?_
              refine gf_X9_15 dX9_step_77 (by omega) ((hs_n (by omega)).trans ho) rfl ?_
              refine r_aload_n dX9_step_80 rfl rfl ?_
              refine gf_X9_18 dX9_step_81 (by omega) ((hs_n (by omega)).trans ho) rfl ?_
              refine r_iconst (z := 1) dX9_step_84 ?_
              refine r_isub dX9_step_85 ?_
              refine r_iload_n dX9_step_86 rfl rfl ?_
              refine r_iastore dX9_step_87 (by omega) hs_e (by omega) (by omega) (by decide) ?_
              refine g_heap hs_hs ?_
              refine r_aload_n dX9_step_88 rfl rfl ?_
              refine r_aload_n dX9_step_89 rfl rfl ?_
              refine gf_X9_29 dX9_step_90 (by omega) ((hs_n (by omega)).trans ho) rfl ?_
              refine r_aload_n dX9_step_93 rfl rfl ?_
              refine gf_X9_25 dX9_step_94 (by omega) ((hs_n (by omega)).trans ho) rfl ?_
              refine r_lremp dX9_step_97 ⟨by omega, by omega⟩ ⟨by omega, by omega⟩ (by omega) (by omega) ?_
              have eb_97 := emod_bd (cdf m (rs k c s m) n k) (show 0 < (m ^ (k - 1)) by omega)
              refine r_aload_n dX9_step_98 rfl rfl ?_
              refine gf_X9_22 dX9_step_99 (by omega) ((hs_n (by omega)).trans ho) rfl ?_
              refine r_i2l dX9_step_102 ⟨by omega, by omega⟩ ?_
              refine r_lmul dX9_step_103 ?_
              refine r_iload_n dX9_step_104 rfl rfl ?_
              refine r_i2l dX9_step_105 ⟨by omega, by omega⟩ ?_
              refine r_ladd dX9_step_106 ?_
              refine pf_X9_29 (fs2 := [_, _, _, _, _, _]) dX9_step_107 (fun _ _ => rfl) (fun _ _ => rfl) (nlt rfl) (by omega) ((hs_n (by omega)).trans ho) rfl ?_
              refine r_return hq dX9_step_110 rfl rfl rfl ?_
              rw [hrr, cdf_next hk0 (by omega) hsin]
              exact hQ _ (fun u hu => by rw [e5]; by_cases z : u = k - 1; (subst z; rw [uA_e]; congr 1; omega); rw [uA_n z, hF1 u (by omega), hsw _ (by omega)]; congr 1; omega)
            · have e3 : (i - 1).toNat = v := by omega
              have e4 : i.toNat = v + 1 := by omega
              refine r_aload_n dX9_step_56 rfl rfl ?_
              refine gf_X9_15 dX9_step_57 (by omega) ((hs_n (by omega)).trans ho) rfl ?_
              refine r_iload_n dX9_step_60 rfl rfl ?_
              refine r_iconst (z := 1) dX9_step_61 ?_
              refine r_isub dX9_step_62 ?_
              refine r_aload_n dX9_step_63 rfl rfl ?_
              refine gf_X9_15 dX9_step_64 (by omega) ((hs_n (by omega)).trans ho) rfl ?_
              refine r_iload_n dX9_step_67 rfl rfl ?_
              refine r_iaload dX9_step_68 (by omega) hs_e (by omega) (by omega) (by decide) ?_
              refine r_iastore dX9_step_69 (by omega) hs_e (by omega) (by omega) (by decide) ?_
              refine g_heap hs_hs ?_
              refine r_iinc (L2 := [_, _, _]) dX9_step_70 (nlt rfl) rfl rfl ?_
              refine r_goto 48 dX9_step_73 (by decide) ?_
              exact ih48 (uA (F) (i - 1).toNat (F (i).toNat)) (i + 1) ((v + 1)) (by omega) (by omega) (by omega) (fun u hu => by rw [e3]; by_cases z : u = v; (subst z; rw [uA_e, e4]; exact hF2 _ (by omega)); rw [uA_n z]; exact hF1 u (by omega)) (fun u hu => by rw [e3, uA_n (by omega)]; exact hF2 u (by omega))
        refine g_heap (hs_id (c := aI 6 (sw)) h2).symm ?_
        exact lp48 (((k : Int) + 2 : Int) + 1).toNat (sw) (1) (0) (by omega) rfl (by omega) (fun u hu => absurd hu (Nat.not_lt_zero u)) (fun u _ => rfl)
      · refine r_iload_n dX9_step_12 rfl rfl ?_
        refine r_aload_n dX9_step_13 rfl rfl ?_
        refine gf_X9_9 dX9_step_14 (by omega) ho rfl ?_
        refine r_iload_n dX9_step_17 rfl rfl ?_
        have eln : lw i.toNat = lw (j + 1) := by congr 1; omega
        refine r_iaload dX9_step_18 (by omega) h1 (by omega) (by omega) (by decide) ?_
        refine r_aload_n dX9_step_19 rfl rfl ?_
        refine gf_X9_15 dX9_step_20 (by omega) ho rfl ?_
        refine r_aload_n dX9_step_23 rfl rfl ?_
        refine gf_X9_18 dX9_step_24 (by omega) ho rfl ?_
        refine r_iload_n dX9_step_27 rfl rfl ?_
        refine r_isub dX9_step_28 ?_
        refine r_iaload dX9_step_29 (by omega) h2 (by omega) (by omega) (by decide) ?_
        have esn : sw ((k : Int) - i).toNat = rs k c s m (n + k - 1 - j) := by rw [hsw _ (by omega)]; congr 1; omega
        have l9 := hlw (j + 1) (by omega) (by omega)
        have l8 := emod_bd (c (j + 1)) (show 0 < m by omega)
        rw [← l9] at l8
        have s9 := hsin (n + k - 1 - j)
        have m30 : 0 ≤ lw i.toNat * sw ((k : Int) - i).toNat ∧ lw i.toNat * sw ((k : Int) - i).toNat ≤ 1000000 := by
          rw [eln, esn]
          have h5 := Int.mul_nonneg l8.1 s9.1
          have h6 := Int.mul_le_mul (show lw (j + 1) ≤ 1000 by omega) (show rs k c s m (n + k - 1 - j) ≤ 1000 by omega) s9.1 (by decide)
          omega
        refine r_imul dX9_step_30 ?_
        refine r_iadd dX9_step_31 ?_
        refine r_istore_n (L2 := [_, _, _]) dX9_step_32 rfl (nlt rfl) rfl ?_
        refine r_iinc (L2 := [_, _, _]) dX9_step_33 (nlt rfl) rfl rfl ?_
        refine r_goto 4 dX9_step_36 (by decide) ?_
        exact ih4 (sum + ((lw (i).toNat) * (sw ((k : Int) - i).toNat))) (i + 1) ((j + 1)) (by omega) (by omega) (by omega) (by rw [sm_s, ← es, eln, esn]) (by omega) (by omega)
  exact lp4 (((k : Int) + 2 : Int) + 1).toNat (0) (1) (0) (by omega) rfl (by omega) rfl (by decide) (by decide)
set_option maxHeartbeats 2000000 in
set_option maxRecDepth 20000 in
theorem c_X9_here {N : Nat} {h : Hp} {Q : QP} {w : Nat} {k m tp cd : Int} {lw sw : Nat → Int} (ho : h w = WKo w k m tp cd) (h1 : h (w + 1) = aI 7 lw) (h2 : h (w + 2) = aI 6 sw) (hN : w + 2 < N) (hQ : Q (some (.int (iZ (sw 0)))) N h) : Runs mX9_here [.ref (w)] N h Q := by
  refine run_start (own := RX9) rfl (by decide) (nle rfl) rfl (fun X hq hini => ?_)
  show G X RX9 cX9_here mX9_here.rm N 0 0 0 [some (.ref (w))] [] h
  refine r_aload_n dX9_here_0 rfl rfl ?_
  refine gf_X9_15 dX9_here_1 (by omega) ho rfl ?_
  refine r_iconst (z := 0) dX9_here_4 ?_
  refine r_iaload dX9_here_5 (by omega) h2 (by omega) (by omega) (by decide) ?_
  refine r_ireturn hq dX9_here_6 rfl rfl rfl ?_
  exact hQ
