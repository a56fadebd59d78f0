/-- the byte i of a long, from below -/
def bytv (v : Int64) (i : Nat) : Int := (((v.toBitVec >>> (8 * i)) &&& 255#64).toNat : Int)
theorem bytv_in (v : Int64) (i : Nat) : 0 ≤ bytv v i ∧ bytv v i ≤ 255 := by
  unfold bytv
  have h : ((v.toBitVec >>> (8 * i)) &&& 255#64).toNat ≤ 255 := by
    rw [BitVec.toNat_and]
    exact Nat.le_trans Nat.and_le_right (by decide)
  omega
theorem lZ_bv (x : BitVec 64) : (lZ (x.toNat : Int)).toBitVec = x := by
  show BitVec.ofInt 64 (x.toNat : Int) = x
  rw [BitVec.ofInt_natCast, BitVec.ofNat_toNat]
  simp
theorem sh_u (v : Int64) {i : Int} (h0 : 0 ≤ i) (h7 : i ≤ 7) : ((v.toUInt64 >>> ((iZ (8 * i)).toInt64.toUInt64 &&& Int64.toUInt64 63)).toInt64 &&& lZ 255) = lZ (bytv v i.toNat) := by
  apply Int64.toBitVec_inj.mp
  unfold bytv
  rw [lZ_bv]
  have e255 : (lZ 255).toBitVec = 255#64 := by decide
  rw [Int64.toBitVec_and, e255]
  congr 1
  rcases (show i = 0 ∨ i = 1 ∨ i = 2 ∨ i = 3 ∨ i = 4 ∨ i = 5 ∨ i = 6 ∨ i = 7 by omega) with e | e | e | e | e | e | e | e <;> subst e <;> rfl
theorem sh_s (v : Int64) {i : Int} (h0 : 0 ≤ i) (h7 : i ≤ 7) : ((v >>> ((iZ (8 * i)).toInt64 &&& 63)) &&& lZ 255) = lZ (bytv v i.toNat) := by
  apply Int64.toBitVec_inj.mp
  unfold bytv
  rw [lZ_bv]
  have e255 : (lZ 255).toBitVec = 255#64 := by decide
  rw [Int64.toBitVec_and, e255]
  have key : ∀ n : Nat, n ≤ 56 → (v.toBitVec.sshiftRight n) &&& 255#64 = (v.toBitVec >>> n) &&& 255#64 := by
    intro n hn
    apply BitVec.eq_of_getLsbD_eq
    intro j hj
    rw [BitVec.getLsbD_and, BitVec.getLsbD_and]
    by_cases z : j < 8
    · congr 1
      rw [BitVec.getLsbD_sshiftRight, BitVec.getLsbD_ushiftRight]
      have h1 : ¬ 64 ≤ j := by omega
      have h2 : n + j < 64 := by omega
      simp [h1, h2]
    · have : (255#64).getLsbD j = false := by
        have h9 : ∀ j : Fin 64, ¬ j.val < 8 → (255#64).getLsbD j.val = false := by decide
        exact h9 ⟨j, hj⟩ z
      rw [this, Bool.and_false, Bool.and_false]
  rcases (show i = 0 ∨ i = 1 ∨ i = 2 ∨ i = 3 ∨ i = 4 ∨ i = 5 ∨ i = 6 ∨ i = 7 by omega) with e | e | e | e | e | e | e | e <;> subst e <;> exact key _ (by decide)
/-- t bytes of the lowest n of v behind the first len of b -/
def appn (b : Nat → Int) (len n : Nat) (v : Int64) (t : Nat) : Nat → Int := fun j => if len ≤ j ∧ j < len + t then bytv v (n - 1 - (j - len)) else b j
theorem appn_s (b : Nat → Int) (len n : Nat) (v : Int64) (t : Nat) : uA (appn b len n v t) (len + t) (bytv v (n - 1 - t)) = appn b len n v (t + 1) := by
  funext j
  unfold uA appn
  by_cases e : j = len + t
  · subst e
    rw [if_pos rfl, if_pos ⟨by omega, by omega⟩]
    congr 1; omega
  · rw [if_neg e]
    by_cases z : len ≤ j ∧ j < len + t
    · rw [if_pos z, if_pos ⟨z.1, by omega⟩]
    · rw [if_neg z, if_neg (by omega)]
theorem appn_0 (b : Nat → Int) (len n : Nat) (v : Int64) : appn b len n v 0 = b := by
  funext j
  unfold appn
  rw [if_neg (by omega)]
theorem appn_in {b : Nat → Int} {len n : Nat} {v : Int64} {t : Nat} (h : ∀ j, j < 100 → 0 ≤ b j ∧ b j ≤ 255) : ∀ j, j < 100 → 0 ≤ appn b len n v t j ∧ appn b len n v t j ≤ 255 := by
  intro j hj
  unfold appn
  by_cases z : len ≤ j ∧ j < len + t
  · rw [if_pos z]; exact bytv_in _ _
  · rw [if_neg z]; exact h j hj
set_option maxHeartbeats 2000000 in
set_option maxRecDepth 20000 in
theorem c_X8_append {N : Nat} {h : Hp} {Q : QP} {t ln nn : Nat} {n len nu be vz : Int} {v : Int64} {b : Nat → Int} (hvz : vz = v.toInt) (ht : h t = TXo t len nu be) (hb : h (t + 1) = aI 100 b) (hN : t + 1 < N) (hln : len = (ln : Int)) (hl : len ≤ 100) (hn0 : 1 ≤ n) (hn8 : n ≤ 8) (hnn : n = (nn : Int)) (hQ1 : 100 < len + n → Q (some (.int (iZ 0))) N h) (hQ2 : len + n ≤ 100 → Q (some (.int (iZ 1))) N (hs (hs h (t + 1) (aI 100 (appn b ln nn v nn))) t (TXo t (len + n) nu be))) : Runs mX8_append [.ref (t), .int (iZ (n)), .long (lZ (vz))] N h Q := by
  refine run_start (own := RX8) rfl (by decide) (nle rfl) rfl (fun X hq hini => ?_)
  show G X RX8 cX8_append mX8_append.rm N 0 0 0 [some (.ref (t)), some (.int (iZ (n))), some (.long (lZ (vz))), none, none] [] h
  refine r_aload_n dX8_append_0 rfl rfl ?_
  refine gf_X8_15 dX8_append_1 (by omega) ht rfl ?_
  refine r_iload_n dX8_append_4 rfl rfl ?_
  refine r_iadd dX8_append_5 ?_
  refine r_bipush (z := 100) dX8_append_6 (by decide) ?_
  refine r_icmp_le 13 dX8_append_8 (by decide) ⟨by omega, by omega⟩ ⟨by decide, by decide⟩ (fun c_8 => ?_) (fun c_8 => ?_)
  · refine r_iload_n dX8_append_13 rfl rfl ?_
    refine r_iconst (z := 1) dX8_append_14 ?_
    refine r_isub dX8_append_15 ?_
    refine r_istore (L2 := [_, _, _, none, _]) dX8_append_16 (nlt rfl) rfl ?_
    have lp18 : ∀ (fu18 : Nat) (F : Nat → Int) (L : Int) (i : Int) (u : Nat), (i + 2) < (fu18 : Int) → (L = len + (u : Int)) → (i + (u : Int) + 1 = n) → (u ≤ nn) → (F = appn b ln nn v u) → G X RX8 cX8_append mX8_append.rm N 0 0 18 [some (.ref (t)), some (.int (iZ (n))), some (.long (lZ (vz))), none, some (.int (iZ (i)))] [] (hs (hs h (t + 1) (aI 100 (F))) (t) (ob 8 [.ref (t + 1), .int (iZ (L)), .ref (t + 2), .int (iZ (nu)), .int (iZ (be))])) := by
      intro fu18
      induction fu18 with
      | zero => intro F L i u hm eL ei un eF; exfalso; omega
      | succ fu18 ih18 =>
        intro F L i u hms18 eL ei un eF
        refine r_iload dX8_append_18 rfl ?_
        refine r_if_lt 60 dX8_append_20 (by decide) ⟨by omega, by omega⟩ (fun c_20 => ?_) (fun c_20 => ?_)
        · have eu : u = nn := by omega
          subst eu
          have eL2 : L = len + n := by omega
          refine r_iconst (z := 1) dX8_append_60 ?_
          refine r_zreturn hq dX8_append_61 rfl (by decide) rfl rfl ?_
          rw [eF, eL2]; exact hQ2 (by omega)
        · have eLn : L.toNat = ln + u := by omega
          have ein : i.toNat = nn - 1 - u := by omega
          have bb := bytv_in v i.toNat
          refine r_aload_n dX8_append_23 rfl rfl ?_
          refine gf_X8_9 dX8_append_24 (by omega) hs_e rfl ?_
          refine r_aload_n dX8_append_27 rfl rfl ?_
          refine gf_X8_15 dX8_append_28 (by omega) hs_e rfl ?_
          refine r_lload_n dX8_append_31 rfl rfl ?_
          refine r_bipush (z := 8) dX8_append_32 (by decide) ?_
          refine r_iload dX8_append_34 rfl ?_
          refine r_imul dX8_append_36 ?_
          refine r_lushr (z := lZ ((v.toUInt64 >>> ((iZ (8 * i)).toInt64.toUInt64 &&& Int64.toUInt64 63)).toInt64.toInt)) dX8_append_37 (by rw [hvz, lZ_x, lZ_x]) ?_
          refine r_ldc2 (z := 255) dX8_append_38 kc_X8_26 ?_
          refine r_land (z := lZ (bytv v i.toNat)) dX8_append_41 (by rw [lZ_x]; exact sh_u v (by omega) (by omega)) ?_
          refine r_l2i dX8_append_42 ?_
          refine r_iastore dX8_append_43 (by omega) ((hs_n (by omega)).trans hs_e) (by omega) (by omega) (by decide) ?_
          refine g_heap (h2 := (hs (hs h (t + 1) (aI 100 (uA (F) (L).toNat (bytv v i.toNat)))) (t) (ob 8 [.ref (t + 1), .int (iZ (L)), .ref (t + 2), .int (iZ (nu)), .int (iZ (be))]))) (hs_put (by omega) hs_hs) ?_
          refine r_aload_n dX8_append_44 rfl rfl ?_
          refine r_dup dX8_append_45 rfl ?_
          refine gf_X8_15 dX8_append_46 (by omega) hs_e rfl ?_
          refine r_iconst (z := 1) dX8_append_49 ?_
          refine r_iadd dX8_append_50 ?_
          refine pf_X8_15 (fs2 := [_, _, _, _, _]) dX8_append_51 (fun _ _ => rfl) (fun _ _ => rfl) (nlt rfl) (by omega) hs_e rfl ?_
          refine g_heap (h2 := (hs (hs h (t + 1) (aI 100 (uA (F) (L).toNat (bytv v i.toNat)))) (t) (ob 8 [.ref (t + 1), .int (iZ (L + 1)), .ref (t + 2), .int (iZ (nu)), .int (iZ (be))]))) hs_hs ?_
          refine r_iinc (L2 := [_, _, _, none, _]) dX8_append_54 (nlt rfl) rfl rfl ?_
          refine r_goto 18 dX8_append_57 (by decide) ?_
          exact ih18 (uA (F) (L).toNat (bytv v i.toNat)) (L + 1) (i + (-1)) (u + 1) (by omega) (by omega) (by omega) (by omega) (by rw [eF, eLn, ein]; exact appn_s _ _ _ _ _)
    refine g_heap (hs_id (c := aI 100 (b)) hb).symm ?_
    refine g_heap (hs_id (c := ob 8 [.ref (t + 1), .int (iZ (len)), .ref (t + 2), .int (iZ (nu)), .int (iZ (be))]) ((hs_n (by omega)).trans ht)).symm ?_
    exact lp18 ((n + 1 : Int) + 1).toNat (b) (len) (n - 1) (0) (by omega) (by omega) (by omega) (by omega) (appn_0 _ _ _ _).symm
  · refine r_iconst (z := 0) dX8_append_11 ?_
    refine r_zreturn hq dX8_append_12 rfl (by decide) rfl rfl ?_
    exact hQ1 (by omega)
set_option maxHeartbeats 2000000 in
set_option maxRecDepth 20000 in
theorem c_X8_findFault {N : Nat} {h : Hp} {Q : QP} {t k : Nat} {len nu be : Int} {b c s : Nat → Int} (ht : h t = TXo t len nu be) (hb : h (t + 1) = aI 100 b) (hr : RowAt h (t + 2) k c s) (hN : t + 4 < N) (hl0 : 0 ≤ len) (hl : len ≤ 100) (hbb : ∀ j, j < 100 → 0 ≤ b j ∧ b j ≤ 255) (hQ : ∀ (r : Int) (k2 : Nat) (c2 s2 c3 s3 : Nat → Int) (nu2 be2 ko : Int), Par len b r k2 c2 s2 → (r = -4 → ko = (k2 : Int) ∧ (∀ j, 1 ≤ j → j ≤ k2 → c3 j = c2 j) ∧ ∀ j, j < k2 → s3 j = s2 j) → ((∀ j, j < 7 → -100000 ≤ c j ∧ c j ≤ 100000) → ∀ j, j < 7 → -100000 ≤ c3 j ∧ c3 j ≤ 100000) → ((∀ j, j < 6 → -1000000 ≤ s j ∧ s j ≤ 1000000) → ∀ j, j < 6 → -1000000 ≤ s3 j ∧ s3 j ≤ 1000000) → (ko = (k : Int) ∨ ∃ k9 : Nat, ko = (k9 : Int) ∧ 1 ≤ k9 ∧ k9 ≤ 6) → c3 0 = c 0 → Q (some (.int (iZ r))) N (hs (hs (hs (hs h t (TXo t len nu2 be2)) (t + 2 + 1) (aL 7 c3)) (t + 2) (ob 7 [.int (iZ ko), .ref (t + 2 + 1), .ref (t + 2 + 2)])) (t + 2 + 2) (aL 6 s3))) : Runs mX8_findFault [.ref (t)] N h Q := by
  refine run_start (own := RX8) rfl (by decide) (nle rfl) rfl (fun X hq hini => ?_)
  show G X RX8 cX8_findFault mX8_findFault.rm N 0 0 0 [some (.ref (t)), none] [] h
  refine r_aload_n dX8_findFault_0 rfl rfl ?_
  refine r_callV (av := []) dX8_findFault_1 lkX8_readLaw ml_X8_28 imX8_readLaw seX8_readLaw (by omega) (rfl : vwCl[8]? = _) ⟨_, ht⟩ ⟨Nat.le_of_ble_eq_true rfl, Nat.le_of_ble_eq_true rfl⟩ rfl rfl (nle rfl) ⟨Nat.le_of_ble_eq_true rfl, Nat.le_of_ble_eq_true rfl⟩ (c_X8_readLaw (t := t) (k := k) (len := len) (nu := nu) (be := be) (b := b) (c := c) (s := s) ht hb hr (by omega) (by omega) (by omega) hbb (fun r1 k1 c1 c3 st1 nu1 be1 ko1 hlaw hok1 hcb1 hko1 hc01 => ?_))
  show G _ _ _ _ _ _ _ 4 _ _ _
  refine r_istore_n (L2 := [_, _]) dX8_findFault_4 rfl (nlt rfl) rfl ?_
  have hlb := hlaw.bd (by decide) hl0 rfl (fun j h1 h2 => by omega)
  refine r_iload_n dX8_findFault_5 rfl rfl ?_
  refine r_bipush (z := -4) dX8_findFault_6 (by decide) ?_
  refine r_icmp_ne 24 dX8_findFault_8 (by decide) (by rcases hlb with q | q <;> exact ⟨by omega, by omega⟩) ⟨by decide, by decide⟩ (fun c_8 => ?_) (fun c_8 => ?_)
  · refine r_iload_n dX8_findFault_24 rfl rfl ?_
    refine r_ireturn hq dX8_findFault_25 rfl rfl rfl ?_
    have hfin := hQ r1 k1 c1 (fun _ => 0) c3 s nu1 be1 ko1 (Or.inr ⟨c_8, k1, c1, st1, hlaw⟩) (fun z => absurd z c_8) hcb1 (fun z => z) hko1 hc01
    rw [hs_id (h := hs (hs (hs h t (TXo t len nu1 be1)) (t + 2 + 1) (aL 7 c3)) (t + 2) _) ((hs_n (by omega)).trans ((hs_n (by omega)).trans ((hs_n (by omega)).trans hr.2.2)))] at hfin
    exact hfin
  · have hr4 : r1 = -4 := by omega
    subst hr4
    have hok2 := hok1 rfl
    obtain ⟨-, hk1, hk6, hcbd, hst0, hst1⟩ : (-4 : Int) = -4 ∧ 1 ≤ k1 ∧ k1 ≤ 6 ∧ (∀ j, 1 ≤ j → j ≤ k1 → -100000 ≤ c1 j ∧ c1 j ≤ 100000) ∧ 0 ≤ st1 ∧ st1 ≤ len := by rcases hlb with q | q; exact q; (exfalso; omega)
    refine r_aload_n dX8_findFault_11 rfl rfl ?_
    refine r_aload_n dX8_findFault_12 rfl rfl ?_
    refine gf_X8_32 dX8_findFault_13 (by omega) ((hs_n (by omega)).trans ((hs_n (by omega)).trans hs_e)) rfl ?_
    refine r_iconst (z := 1) dX8_findFault_16 ?_
    refine r_iadd dX8_findFault_17 ?_
    refine r_callV (av := [.int (iZ (be1 + 1))]) dX8_findFault_18 lkX8_readStarts ml_X8_35 imX8_readStarts seX8_readStarts (by omega) (rfl : vwCl[8]? = _) ⟨_, ((hs_n (by omega)).trans ((hs_n (by omega)).trans hs_e))⟩ ⟨Nat.le_of_ble_eq_true rfl, Nat.le_of_ble_eq_true rfl⟩ rfl rfl (nle rfl) ⟨Nat.le_of_ble_eq_true rfl, Nat.le_of_ble_eq_true rfl⟩ (c_X8_readStarts (t := t) (k := k1) (ki := ko1) (len := len) (nu := nu1) (be := be1) (f := be1 + 1) (b := b) (c := c) (s := s) hok2.1 ((hs_n (by omega)).trans ((hs_n (by omega)).trans hs_e)) ((hs_n (by omega)).trans ((hs_n (by omega)).trans ((hs_n (by omega)).trans hb))) hs_e ((hs_n (by omega)).trans ((hs_n (by omega)).trans ((hs_n (by omega)).trans hr.2.2))) (by omega) (by omega) (by omega) (by omega) (by omega) (by omega) (by omega) hbb (fun r2 s2 s3 nu2 be2 hst hok3 hsb3 => ?_))
    refine g_heap (h2 := (hs (hs (hs (hs h (t) (ob 8 [.ref (t + 1), .int (iZ (len)), .ref (t + 2), .int (iZ (nu2)), .int (iZ (be2))])) (t + 2 + 1) (aL 7 (c3))) (t + 2) (ob 7 [.int (iZ (ko1)), .ref (t + 2 + 1), .ref (t + 2 + 2)])) (t + 2 + 2) (aL 6 (s3)))) ((congrArg (fun x9 => hs x9 (t + 2 + 2) (aL 6 (s3))) (hs_put (by omega) (hs_put (by omega) hs_hs))).trans rfl) ?_
    show G _ _ _ _ _ _ _ 21 _ _ _
    refine r_goto 25 dX8_findFault_21 (by decide) ?_
    refine r_ireturn hq dX8_findFault_25 rfl rfl rfl ?_
    have e9 : be1 + 1 = st1 := hok2.2.1
    rw [e9] at hst
    exact hQ _ k1 c1 s2 c3 s3 nu2 be2 ko1 (Or.inl ⟨st1, hlaw, hst⟩) (fun z => ⟨hok2.1, hok2.2.2, hok3 z⟩) hcb1 hsb3 hko1 hc01
