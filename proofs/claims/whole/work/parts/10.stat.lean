set_option maxHeartbeats 2000000 in
set_option maxRecDepth 20000 in
theorem c_X7_become {N : Nat} {h : Hp} {Q : QP} {r o k k2 : Nat} {c s c2 s2 : Nat → Int} (hr : RowAt h r k c s) (ho : RowAt h o k2 c2 s2) (hN : r + 2 < N) (hoN : o + 2 < N) (hro : r + 2 < o ∨ o + 2 < r) (hQ : ∀ c3 s3 : Nat → Int, (∀ j, j < 7 → c3 j = c2 j) → (∀ j, j < 6 → s3 j = s2 j) → Q none N (hs (hs (hs h r (ob 7 [.int (iZ (k2 : Int)), .ref (r + 1), .ref (r + 2)])) (r + 1) (aL 7 c3)) (r + 2) (aL 6 s3))) : Runs mX7_become [.ref (r), .ref (o)] N h Q := by
  refine run_start (own := RX7) rfl (by decide) (nle rfl) rfl (fun X hq hini => ?_)
  show G X RX7 cX7_become mX7_become.rm N 0 0 0 [some (.ref (r)), some (.ref (o))] [] h
  refine r_aload_n dX7_become_0 rfl rfl ?_
  refine r_aload_n dX7_become_1 rfl rfl ?_
  refine gf_X7_9 dX7_become_2 (by omega) ho.1 rfl ?_
  refine pf_X7_9 (fs2 := [_, _, _]) dX7_become_5 (fun _ _ => rfl) (fun _ _ => rfl) (nlt rfl) (by omega) hr.1 rfl ?_
  refine r_aload_n dX7_become_8 rfl rfl ?_
  refine gf_X7_15 dX7_become_9 (by omega) ((hs_n (by omega)).trans ho.1) rfl ?_
  refine r_iconst (z := 0) dX7_become_12 ?_
  refine r_aload_n dX7_become_13 rfl rfl ?_
  refine gf_X7_15 dX7_become_14 (by omega) hs_e rfl ?_
  refine r_iconst (z := 0) dX7_become_17 ?_
  refine r_aload_n dX7_become_18 rfl rfl ?_
  refine gf_X7_15 dX7_become_19 (by omega) hs_e rfl ?_
  refine r_arrlen (M := 7) dX7_become_22 (by omega) ((hs_n (by omega)).trans hr.2.1) (nlt rfl) rfl ?_
  show G _ _ _ _ _ _ _ _ _ (.int (iZ (7)) :: _) _
  refine r_copyL dX7_become_23 ml_X7_24 jna_copy jst_copy jin_System (by omega) (by omega) ((hs_n (by omega)).trans ho.2.1) ((hs_n (by omega)).trans hr.2.1) (by omega) (by omega) (by omega) (by omega) (by omega) (by decide) (by decide) ⟨by decide, by decide⟩ (nle rfl) ?_
  refine r_aload_n dX7_become_26 rfl rfl ?_
  refine gf_X7_19 dX7_become_27 (by omega) ((hs_n (by omega)).trans ((hs_n (by omega)).trans ho.1)) rfl ?_
  refine r_iconst (z := 0) dX7_become_30 ?_
  refine r_aload_n dX7_become_31 rfl rfl ?_
  refine gf_X7_19 dX7_become_32 (by omega) ((hs_n (by omega)).trans hs_e) rfl ?_
  refine r_iconst (z := 0) dX7_become_35 ?_
  refine r_aload_n dX7_become_36 rfl rfl ?_
  refine gf_X7_19 dX7_become_37 (by omega) ((hs_n (by omega)).trans hs_e) rfl ?_
  refine r_arrlen (M := 6) dX7_become_40 (by omega) ((hs_n (by omega)).trans ((hs_n (by omega)).trans hr.2.2)) (nlt rfl) rfl ?_
  show G _ _ _ _ _ _ _ _ _ (.int (iZ (6)) :: _) _
  refine r_copyL dX7_become_41 ml_X7_24 jna_copy jst_copy jin_System (by omega) (by omega) ((hs_n (by omega)).trans ((hs_n (by omega)).trans ho.2.2)) ((hs_n (by omega)).trans ((hs_n (by omega)).trans hr.2.2)) (by omega) (by omega) (by omega) (by omega) (by omega) (by decide) (by decide) ⟨by decide, by decide⟩ (nle rfl) ?_
  refine r_return hq dX7_become_44 rfl rfl rfl ?_
  exact hQ _ _ (fun j hj => by unfold cpy; rw [if_pos ⟨by omega, by show j < 0 + Int.toNat 7; omega⟩]; congr 1; show 0 + (j - 0) = j; omega) (fun j hj => by unfold cpy; rw [if_pos ⟨by omega, by show j < 0 + Int.toNat 6; omega⟩]; congr 1; show 0 + (j - 0) = j; omega)
/-- Horner: the polynomial's rest at x -/
def hv (c : Nat → Int) (x p : Int) : Nat → Int
  | 0 => 1
  | i + 1 => (hv c x p i * x - c (i + 1)) % p
theorem hv_in {c : Nat → Int} {x p : Int} (hp : 2 ≤ p) : ∀ i, 0 ≤ hv c x p i ∧ hv c x p i < p
  | 0 => by simp [hv]; omega
  | i + 1 => ⟨Int.emod_nonneg _ (by omega), Int.emod_lt_of_pos _ (by omega)⟩
theorem hv_cong {c c2 : Nat → Int} {x p : Int} : ∀ {i : Nat}, (∀ j, 1 ≤ j → j ≤ i → c j = c2 j) → hv c x p i = hv c2 x p i
  | 0, _ => rfl
  | i + 1, h => by
    show (hv c x p i * x - c (i + 1)) % p = (hv c2 x p i * x - c2 (i + 1)) % p
    rw [hv_cong (fun j h1 h2 => h j h1 (by omega)), h (i + 1) (by omega) (by omega)]
set_option maxHeartbeats 2000000 in
set_option maxRecDepth 20000 in
theorem c_X7_isRoot {N : Nat} {h : Hp} {Q : QP} {r k : Nat} {c s : Nat → Int} {x p : Int} (hr : RowAt h r k c s) (hN : r + 2 < N) (hk : k ≤ 6) (hc : ∀ j, j < 7 → -100000 ≤ c j ∧ c j ≤ 100000) (hx0 : 0 ≤ x) (hxp : x < p) (hp2 : 2 ≤ p) (hp : p ≤ 97) (hQ : ∀ b : Int, (b = 1 ∧ hv c x p k = 0 ∨ b = 0 ∧ hv c x p k ≠ 0) → Q (some (.int (iZ b))) N h) : Runs mX7_isRoot [.ref (r), .int (iZ (x)), .int (iZ (p))] N h Q := by
  refine run_start (own := RX7) rfl (by decide) (nle rfl) rfl (fun X hq hini => ?_)
  show G X RX7 cX7_isRoot mX7_isRoot.rm N 0 0 0 [some (.ref (r)), some (.int (iZ (x))), some (.int (iZ (p))), none, none] [] h
  refine r_iconst (z := 1) dX7_isRoot_0 ?_
  refine r_istore_n (L2 := [_, _, _, _, none]) dX7_isRoot_1 rfl (nlt rfl) rfl ?_
  refine r_iconst (z := 1) dX7_isRoot_2 ?_
  refine r_istore (L2 := [_, _, _, _, _]) dX7_isRoot_3 (nlt rfl) rfl ?_
  have lp5 : ∀ (fu5 : Nat) (v : Int) (i : Int) (j : Nat), ((k : Int) + 1 - i) < (fu5 : Int) → (i = (j : Int) + 1) → (j ≤ k) → (v = hv c x p j) → G X RX7 cX7_isRoot mX7_isRoot.rm N 0 0 5 [some (.ref (r)), some (.int (iZ (x))), some (.int (iZ (p))), some (.int (iZ (v))), some (.int (iZ (i)))] [] h := by
    intro fu5
    induction fu5 with
    | zero => intro v i j hm ei hj ev; exfalso; omega
    | succ fu5 ih5 =>
      intro v i j hms5 ei hj ev
      have vb := hv_in (c := c) (x := x) hp2 j
      rw [← ev] at vb
      refine r_iload dX7_isRoot_5 rfl ?_
      refine r_aload_n dX7_isRoot_7 rfl rfl ?_
      refine gf_X7_9 dX7_isRoot_8 (by omega) hr.1 rfl ?_
      refine r_icmp_gt 39 dX7_isRoot_11 (by decide) ⟨by omega, by omega⟩ ⟨by omega, by omega⟩ (fun c_11 => ?_) (fun c_11 => ?_)
      · have ejk : j = k := by omega
        subst ejk
        refine r_iload_n dX7_isRoot_39 rfl rfl ?_
        refine r_if_ne 47 dX7_isRoot_40 (by decide) ⟨by omega, by omega⟩ (fun c_40 => ?_) (fun c_40 => ?_)
        · refine r_iconst (z := 0) dX7_isRoot_47 ?_
          refine r_zreturn hq dX7_isRoot_48 rfl (by decide) rfl rfl ?_
          exact hQ _ (Or.inr ⟨rfl, by omega⟩)
        · refine r_iconst (z := 1) dX7_isRoot_43 ?_
          refine r_goto 48 dX7_isRoot_44 (by decide) ?_
          refine r_zreturn hq dX7_isRoot_48 rfl (by decide) rfl rfl ?_
          exact hQ _ (Or.inl ⟨rfl, by omega⟩)
      · refine r_iload_n dX7_isRoot_14 rfl rfl ?_
        refine r_iload_n dX7_isRoot_15 rfl rfl ?_
        have m16 := mulb (A := 97) (B := 97) (a := v) (b := x) (C := 9409) (by omega) (by omega) (by omega) (by omega) (by decide)
        have e2 : i.toNat = j + 1 := by omega
        have cb := hc i.toNat (by omega)
        refine r_imul dX7_isRoot_16 ?_
        refine r_i2l dX7_isRoot_17 ⟨by omega, by omega⟩ ?_
        refine r_aload_n dX7_isRoot_18 rfl rfl ?_
        refine gf_X7_15 dX7_isRoot_19 (by omega) hr.1 rfl ?_
        refine r_iload dX7_isRoot_22 rfl ?_
        refine r_laload dX7_isRoot_24 (by omega) hr.2.1 (by omega) (by omega) (by decide) ?_
        refine r_lsub dX7_isRoot_25 ?_
        refine r_iload_n dX7_isRoot_26 rfl rfl ?_
        refine r_i2l dX7_isRoot_27 ⟨by omega, by omega⟩ ?_
        refine r_floorMod dX7_isRoot_28 ml_X7_52 stJ9_floorMod_f86c9 lkJ9_floorMod_f86c9.1 lkJ9_floorMod_f86c9.2.1 ⟨by decide, by decide⟩ (nle rfl) ⟨Nat.zero_le _, Nat.zero_le _⟩ ⟨by omega, by omega⟩ ⟨by omega, by omega⟩ (by omega) ?_
        have eb_28 := emod_bd ((v * x) - (c (i).toNat)) (show 0 < p by omega)
        refine r_l2i dX7_isRoot_31 ?_
        refine r_istore_n (L2 := [_, _, _, _, _]) dX7_isRoot_32 rfl (nlt rfl) rfl ?_
        refine r_iinc (L2 := [_, _, _, _, _]) dX7_isRoot_33 (nlt rfl) rfl rfl ?_
        refine r_goto 5 dX7_isRoot_36 (by decide) ?_
        exact ih5 (((v * x) - (c (i).toNat)) % p) (i + 1) (j + 1) (by omega) (by omega) (by omega) (by rw [ev, e2]; rfl)
  exact lp5 (((k : Int) : Int) + 1).toNat (1) (1) (0) (by omega) rfl (by omega) rfl
set_option maxHeartbeats 2000000 in
set_option maxRecDepth 20000 in
theorem c_X10_isIn {N : Nat} {h : Hp} {Q : QP} {x l m : Int} (hx : rI x) (hl : rI l) (hm : rI m) (hQ : ∀ b : Int, (b = 1 ∧ l ≤ x ∧ x ≤ m ∨ b = 0 ∧ (x < l ∨ m < x)) → Q (some (.int (iZ b))) N h) : Runs mX10_isIn [.int (iZ (x)), .int (iZ (l)), .int (iZ (m))] N h Q := by
  refine run_start (own := RX10) rfl (by decide) (nle rfl) rfl (fun X hq hini => ?_)
  show G X RX10 cX10_isIn mX10_isIn.rm N 0 0 0 [some (.int (iZ (x))), some (.int (iZ (l))), some (.int (iZ (m)))] [] h
  refine r_iload_n dX10_isIn_0 rfl rfl ?_
  refine r_iload_n dX10_isIn_1 rfl rfl ?_
  refine r_icmp_lt 14 dX10_isIn_2 (by decide) hx hl (fun c_2 => ?_) (fun c_2 => ?_)
  · refine r_iconst (z := 0) dX10_isIn_14 ?_
    refine r_zreturn hq dX10_isIn_15 rfl (by decide) rfl rfl ?_
    exact hQ _ (by omega)
  · refine r_iload_n dX10_isIn_5 rfl rfl ?_
    refine r_iload_n dX10_isIn_6 rfl rfl ?_
    refine r_icmp_gt 14 dX10_isIn_7 (by decide) hx hm (fun c_7 => ?_) (fun c_7 => ?_)
    · refine r_iconst (z := 0) dX10_isIn_14 ?_
      refine r_zreturn hq dX10_isIn_15 rfl (by decide) rfl rfl ?_
      exact hQ _ (by omega)
    · refine r_iconst (z := 1) dX10_isIn_10 ?_
      refine r_goto 15 dX10_isIn_11 (by decide) ?_
      refine r_zreturn hq dX10_isIn_15 rfl (by decide) rfl rfl ?_
      exact hQ _ (by omega)
set_option maxHeartbeats 2000000 in
set_option maxRecDepth 20000 in
theorem c_X10_isRegister {N : Nat} {h : Hp} {Q : QP} {x : Int} (hx : rI x) (hQ : ∀ b : Int, (b = 1 ∧ 0 ≤ x ∧ x ≤ 5 ∨ b = 0 ∧ (x < 0 ∨ 5 < x)) → Q (some (.int (iZ b))) N h) : Runs mX10_isRegister [.int (iZ (x))] N h Q := by
  refine run_start (own := RX10) rfl (by decide) (nle rfl) rfl (fun X hq hini => ?_)
  show G X RX10 cX10_isRegister mX10_isRegister.rm N 0 0 0 [some (.int (iZ (x)))] [] h
  refine r_iload_n dX10_isRegister_0 rfl rfl ?_
  refine r_iconst (z := 0) dX10_isRegister_1 ?_
  refine r_iconst (z := 5) dX10_isRegister_2 ?_
  refine r_callS (av := [.int (iZ (x)), .int (iZ (0)), .int (iZ (5))]) dX10_isRegister_3 lkX10_isIn ml_X10_100 stX10_isIn ⟨Nat.le_of_ble_eq_true rfl, Nat.le_of_ble_eq_true rfl⟩ rfl rfl (nle rfl) ⟨Nat.le_of_ble_eq_true rfl, Nat.le_of_ble_eq_true rfl⟩ (c_X10_isIn (x := x) (l := 0) (m := 5) hx ⟨by decide, by decide⟩ ⟨by decide, by decide⟩ (fun b3 hb3 => ?_))
  show G _ _ _ _ _ _ _ 6 _ _ _
  refine r_zreturn hq dX10_isRegister_6 rfl (by omega) rfl rfl ?_
  exact hQ _ hb3
set_option maxHeartbeats 2000000 in
set_option maxRecDepth 20000 in
theorem c_X10_isPrime {N : Nat} {h : Hp} {Q : QP} {p : Int} (hp : rI p) (hQ : ∀ b : Int, (b = 1 ∧ Prm p ∨ b = 0 ∧ ¬ Prm p) → Q (some (.int (iZ b))) N h) : Runs mX10_isPrime [.int (iZ (p))] N h Q := by
  refine run_start (own := RX10) rfl (by decide) (nle rfl) rfl (fun X hq hini => ?_)
  show G X RX10 cX10_isPrime mX10_isPrime.rm N 0 0 0 [some (.int (iZ (p))), none] [] h
  refine r_iload_n dX10_isPrime_0 rfl rfl ?_
  refine r_iconst (z := 2) dX10_isPrime_1 ?_
  refine r_bipush (z := 97) dX10_isPrime_2 (by decide) ?_
  refine r_callS (av := [.int (iZ (p)), .int (iZ (2)), .int (iZ (97))]) dX10_isPrime_4 lkX10_isIn ml_X10_100 stX10_isIn ⟨Nat.le_of_ble_eq_true rfl, Nat.le_of_ble_eq_true rfl⟩ rfl rfl (nle rfl) ⟨Nat.le_of_ble_eq_true rfl, Nat.le_of_ble_eq_true rfl⟩ (c_X10_isIn (x := p) (l := 2) (m := 97) hp ⟨by decide, by decide⟩ ⟨by decide, by decide⟩ (fun b4 hb4 => ?_))
  show G _ _ _ _ _ _ _ 7 _ _ _
  refine r_if_ne 12 dX10_isPrime_7 (by decide) ⟨by omega, by omega⟩ (fun c_7 => ?_) (fun c_7 => ?_)
  · refine r_iconst (z := 2) dX10_isPrime_12 ?_
    refine r_istore_n (L2 := [_, _]) dX10_isPrime_13 rfl (nlt rfl) rfl ?_
    have lp14 : ∀ (fu14 : Nat) (d : Int), (12 - d) < (fu14 : Int) → (2 ≤ d) → (d ≤ 11) → (∀ t : Int, 2 ≤ t → t < d → p % t ≠ 0) → G X RX10 cX10_isPrime mX10_isPrime.rm N 0 0 14 [some (.int (iZ (p))), some (.int (iZ (d)))] [] h := by
      intro fu14
      induction fu14 with
      | zero => intro d hm d2 d11 hd; exfalso; omega
      | succ fu14 ih14 =>
        intro d hms14 d2 d11 hd
        refine r_iload_n dX10_isPrime_14 rfl rfl ?_
        refine r_iload_n dX10_isPrime_15 rfl rfl ?_
        have m16 := mulb (A := 11) (B := 11) (a := d) (b := d) (C := 121) (by omega) (by omega) (by omega) (by omega) (by decide)
        refine r_imul dX10_isPrime_16 ?_
        refine r_iload_n dX10_isPrime_17 rfl rfl ?_
        refine r_icmp_gt 35 dX10_isPrime_18 (by decide) ⟨by omega, by omega⟩ ⟨by omega, by omega⟩ (fun c_18 => ?_) (fun c_18 => ?_)
        · refine r_iconst (z := 1) dX10_isPrime_35 ?_
          refine r_zreturn hq dX10_isPrime_36 rfl (by decide) rfl rfl ?_
          exact hQ _ (Or.inl ⟨rfl, by omega, by omega, fun t h1 h2 => by
            by_cases z : t < d
            · exact hd t h1 z
            · have := Int.mul_le_mul (show d ≤ t by omega) (show d ≤ t by omega) (by omega) (by omega)
              omega⟩)
        · refine r_iload_n dX10_isPrime_21 rfl rfl ?_
          refine r_iload_n dX10_isPrime_22 rfl rfl ?_
          have d10 : d ≤ 10 := by
            by_cases z : d ≤ 10
            · exact z
            · have := Int.mul_le_mul (show (11 : Int) ≤ d by omega) (show (11 : Int) ≤ d by omega) (by decide) (by omega)
              omega
          have dm := Int.emod_nonneg p (show d ≠ 0 by omega)
          have dm2 := Int.emod_lt_of_pos p (show 0 < d by omega)
          refine r_iremp dX10_isPrime_23 ⟨by omega, by omega⟩ ⟨by omega, by omega⟩ (by omega) (by omega) ?_
          have eb_23 := emod_bd (p) (show 0 < d by omega)
          refine r_if_ne 29 dX10_isPrime_24 (by decide) ⟨by omega, by omega⟩ (fun c_24 => ?_) (fun c_24 => ?_)
          · refine r_iinc (L2 := [_, _]) dX10_isPrime_29 (nlt rfl) rfl rfl ?_
            refine r_goto 14 dX10_isPrime_32 (by decide) ?_
            exact ih14 (d + 1) (by omega) (by omega) (by omega) (fun t h1 h2 => by by_cases z : t = d; (subst z; exact c_24); exact hd t h1 (by omega))
          · refine r_iconst (z := 0) dX10_isPrime_27 ?_
            refine r_zreturn hq dX10_isPrime_28 rfl (by decide) rfl rfl ?_
            exact hQ _ (Or.inr ⟨rfl, fun w => w.2.2 d d2 (by omega) c_24⟩)
    exact lp14 ((10 : Int) + 1).toNat (2) (by omega) (by decide) (by decide) (fun t h1 h2 => absurd h1 (by omega))
  · refine r_iconst (z := 0) dX10_isPrime_10 ?_
    refine r_zreturn hq dX10_isPrime_11 rfl (by decide) rfl rfl ?_
    exact hQ _ (Or.inr ⟨rfl, fun w => by have := w.1; have := w.2.1; omega⟩)
def Part (a b : Int) : Prop := (a = 0 → b = 0) ∧ (a ≠ 0 → b % a = 0)
theorem tmod_zero {a b : Int} : b.tmod a = 0 ↔ b % a = 0 := by
  constructor
  · intro h; exact Int.emod_eq_zero_of_dvd (Int.dvd_of_tmod_eq_zero h)
  · intro h; exact Int.tmod_eq_zero_of_dvd (Int.dvd_of_emod_eq_zero h)
set_option maxHeartbeats 2000000 in
set_option maxRecDepth 20000 in
theorem c_X10_isPart {N : Nat} {h : Hp} {Q : QP} {a w : Int} (ha : -100000000000000000 ≤ a ∧ a ≤ 100000000000000000) (hw : -100000000000000000 ≤ w ∧ w ≤ 100000000000000000) (hQ : ∀ b : Int, (b = 1 ∧ Part a w ∨ b = 0 ∧ ¬ Part a w) → Q (some (.int (iZ b))) N h) : Runs mX10_isPart [.long (lZ (a)), .long (lZ (w))] N h Q := by
  refine run_start (own := RX10) rfl (by decide) (nle rfl) rfl (fun X hq hini => ?_)
  show G X RX10 cX10_isPart mX10_isPart.rm N 0 0 0 [some (.long (lZ (a))), none, some (.long (lZ (w))), none] [] h
  refine r_lload_n dX10_isPart_0 rfl rfl ?_
  refine r_lconst (z := 0) dX10_isPart_1 (by decide) ?_
  refine r_lcmp_ne 20 dX10_isPart_2 dX10_isPart_3 (by decide) ⟨by omega, by omega⟩ ⟨by decide, by decide⟩ (fun c_2 => ?_) (fun c_2 => ?_)
  · refine r_lload_n dX10_isPart_20 rfl rfl ?_
    refine r_lload_n dX10_isPart_21 rfl rfl ?_
    have tz := tmod_zero (a := a) (b := w)
    have tb : -100000000000000000 ≤ w.tmod a ∧ w.tmod a ≤ 100000000000000000 := by
      have h1 := Int.natAbs_tmod w a
      have h2 := Nat.mod_le w.natAbs a.natAbs
      omega
    refine r_lrem dX10_isPart_22 ⟨by omega, by omega⟩ ⟨by omega, by omega⟩ (by omega) (by omega) ?_
    refine r_lconst (z := 0) dX10_isPart_23 (by decide) ?_
    refine r_lcmp_ne 32 dX10_isPart_24 dX10_isPart_25 (by decide) ⟨by omega, by omega⟩ ⟨by decide, by decide⟩ (fun c_24 => ?_) (fun c_24 => ?_)
    · refine r_iconst (z := 0) dX10_isPart_32 ?_
      refine r_zreturn hq dX10_isPart_33 rfl (by decide) rfl rfl ?_
      exact hQ _ (Or.inr ⟨rfl, fun q => by first | exact c_22 (q.1 (by omega)) | exact c_7 (q.1 (by omega)) | (have := q.1; have := q.2; omega)⟩)
    · refine r_iconst (z := 1) dX10_isPart_28 ?_
      refine r_goto 33 dX10_isPart_29 (by decide) ?_
      refine r_zreturn hq dX10_isPart_33 rfl (by decide) rfl rfl ?_
      exact hQ _ (Or.inl ⟨rfl, fun _ => by omega, fun _ => by omega⟩)
  · refine r_lload_n dX10_isPart_6 rfl rfl ?_
    refine r_lconst (z := 0) dX10_isPart_7 (by decide) ?_
    refine r_lcmp_ne 16 dX10_isPart_8 dX10_isPart_9 (by decide) ⟨by omega, by omega⟩ ⟨by decide, by decide⟩ (fun c_8 => ?_) (fun c_8 => ?_)
    · refine r_iconst (z := 0) dX10_isPart_16 ?_
      refine r_goto 33 dX10_isPart_17 (by decide) ?_
      refine r_zreturn hq dX10_isPart_33 rfl (by decide) rfl rfl ?_
      exact hQ _ (Or.inr ⟨rfl, fun q => by first | exact c_22 (q.1 (by omega)) | exact c_7 (q.1 (by omega)) | (have := q.1; have := q.2; omega)⟩)
    · refine r_iconst (z := 1) dX10_isPart_12 ?_
      refine r_goto 33 dX10_isPart_13 (by decide) ?_
      refine r_zreturn hq dX10_isPart_33 rfl (by decide) rfl rfl ?_
      exact hQ _ (Or.inl ⟨rfl, fun _ => by omega, fun _ => by omega⟩)
set_option maxHeartbeats 2000000 in
set_option maxRecDepth 20000 in
theorem c_X10_isMeasure {N : Nat} {h : Hp} {Q : QP} {w d : Int} (hw : rI w) (hd : rI d) (hQ : ∀ b : Int, (b = 1 ∧ (w = 4 → 2 ≤ d ∧ d ≤ 6) ∧ (w = 6 → 0 ≤ d ∧ d ≤ 1000) ∧ (w = 7 → -1000 ≤ d ∧ d ≤ 1000) ∨ b = 0 ∧ ¬ ((w = 4 → 2 ≤ d ∧ d ≤ 6) ∧ (w = 6 → 0 ≤ d ∧ d ≤ 1000) ∧ (w = 7 → -1000 ≤ d ∧ d ≤ 1000))) → Q (some (.int (iZ b))) N h) : Runs mX10_isMeasure [.int (iZ (w)), .int (iZ (d))] N h Q := by
  refine run_start (own := RX10) rfl (by decide) (nle rfl) rfl (fun X hq hini => ?_)
  show G X RX10 cX10_isMeasure mX10_isMeasure.rm N 0 0 0 [some (.int (iZ (w))), some (.int (iZ (d)))] [] h
  refine r_iload_n dX10_isMeasure_0 rfl rfl ?_
  rcases (show w < 4 ∨ 7 < w ∨ w = 4 ∨ w = 5 ∨ w = 6 ∨ w = 7 by omega) with hs_1 | hs_1 | hs_1 | hs_1 | hs_1 | hs_1
  · refine r_tabOut 60 dX10_isMeasure_1 hw (by omega) (by decide) ?_
    refine r_iconst (z := 1) dX10_isMeasure_60 ?_
    refine r_zreturn hq dX10_isMeasure_61 rfl (by decide) rfl rfl ?_
    exact hQ _ (by omega)
  · refine r_tabOut 60 dX10_isMeasure_1 hw (by omega) (by decide) ?_
    refine r_iconst (z := 1) dX10_isMeasure_60 ?_
    refine r_zreturn hq dX10_isMeasure_61 rfl (by decide) rfl rfl ?_
    exact hQ _ (by omega)
  · refine r_tabIn (off := 31) 32 dX10_isMeasure_1 hw (by omega) (by omega) (by rw [hs_1]; rfl) (by decide) ?_
    refine r_iload_n dX10_isMeasure_32 rfl rfl ?_
    refine r_iconst (z := 2) dX10_isMeasure_33 ?_
    refine r_bipush (z := 6) dX10_isMeasure_34 (by decide) ?_
    refine r_callS (av := [.int (iZ (d)), .int (iZ (2)), .int (iZ (6))]) dX10_isMeasure_36 lkX10_isIn ml_X10_100 stX10_isIn ⟨Nat.le_of_ble_eq_true rfl, Nat.le_of_ble_eq_true rfl⟩ rfl rfl (nle rfl) ⟨Nat.le_of_ble_eq_true rfl, Nat.le_of_ble_eq_true rfl⟩ (c_X10_isIn (x := d) (l := 2) (m := 6) hd ⟨by decide, by decide⟩ ⟨by decide, by decide⟩ (fun b36 hb36 => ?_))
    show G _ _ _ _ _ _ _ 39 _ _ _
    refine r_zreturn hq dX10_isMeasure_39 rfl (by omega) rfl rfl ?_
    exact hQ _ (by omega)
  · refine r_tabIn (off := 59) 60 dX10_isMeasure_1 hw (by omega) (by omega) (by rw [hs_1]; rfl) (by decide) ?_
    refine r_iconst (z := 1) dX10_isMeasure_60 ?_
    refine r_zreturn hq dX10_isMeasure_61 rfl (by decide) rfl rfl ?_
    exact hQ _ (by omega)
  · refine r_tabIn (off := 39) 40 dX10_isMeasure_1 hw (by omega) (by omega) (by rw [hs_1]; rfl) (by decide) ?_
    refine r_iload_n dX10_isMeasure_40 rfl rfl ?_
    refine r_iconst (z := 0) dX10_isMeasure_41 ?_
    refine r_sipush (z := 1000) dX10_isMeasure_42 (by decide) ?_
    refine r_callS (av := [.int (iZ (d)), .int (iZ (0)), .int (iZ (1000))]) dX10_isMeasure_45 lkX10_isIn ml_X10_100 stX10_isIn ⟨Nat.le_of_ble_eq_true rfl, Nat.le_of_ble_eq_true rfl⟩ rfl rfl (nle rfl) ⟨Nat.le_of_ble_eq_true rfl, Nat.le_of_ble_eq_true rfl⟩ (c_X10_isIn (x := d) (l := 0) (m := 1000) hd ⟨by decide, by decide⟩ ⟨by decide, by decide⟩ (fun b45 hb45 => ?_))
    show G _ _ _ _ _ _ _ 48 _ _ _
    refine r_zreturn hq dX10_isMeasure_48 rfl (by omega) rfl rfl ?_
    exact hQ _ (by omega)
  · refine r_tabIn (off := 48) 49 dX10_isMeasure_1 hw (by omega) (by omega) (by rw [hs_1]; rfl) (by decide) ?_
    refine r_iload_n dX10_isMeasure_49 rfl rfl ?_
    refine r_sipush (z := -1000) dX10_isMeasure_50 (by decide) ?_
    refine r_sipush (z := 1000) dX10_isMeasure_53 (by decide) ?_
    refine r_callS (av := [.int (iZ (d)), .int (iZ ((-1000))), .int (iZ (1000))]) dX10_isMeasure_56 lkX10_isIn ml_X10_100 stX10_isIn ⟨Nat.le_of_ble_eq_true rfl, Nat.le_of_ble_eq_true rfl⟩ rfl rfl (nle rfl) ⟨Nat.le_of_ble_eq_true rfl, Nat.le_of_ble_eq_true rfl⟩ (c_X10_isIn (x := d) (l := (-1000)) (m := 1000) hd ⟨by decide, by decide⟩ ⟨by decide, by decide⟩ (fun b56 hb56 => ?_))
    show G _ _ _ _ _ _ _ 59 _ _ _
    refine r_zreturn hq dX10_isMeasure_59 rfl (by omega) rfl rfl ?_
    exact hQ _ (by omega)
set_option maxHeartbeats 2000000 in
set_option maxRecDepth 20000 in
theorem c_X10_commonPart {N : Nat} {h : Hp} {Q : QP} {a b0 : Int} (ha : -1000000000000000000 ≤ a ∧ a ≤ 1000000000000000000) (hb : -1000000000000000000 ≤ b0 ∧ b0 ≤ 1000000000000000000) (hQ : Q (some (.long (lZ (Int.gcd a b0 : Int)))) N h) : Runs mX10_commonPart [.long (lZ (a)), .long (lZ (b0))] N h Q := by
  refine run_start (own := RX10) rfl (by decide) (nle rfl) rfl (fun X hq hini => ?_)
  show G X RX10 cX10_commonPart mX10_commonPart.rm N 0 0 0 [some (.long (lZ (a))), none, some (.long (lZ (b0))), none, none, none, none, none, none, none, none] [] h
  refine r_lload_n dX10_commonPart_0 rfl rfl ?_
  refine r_absL dX10_commonPart_1 ml_X10_232 jst_abs jin_Math jcd_abs ⟨by decide, by decide⟩ (nle rfl) ⟨Nat.zero_le _, Nat.zero_le _⟩ ⟨by omega, by omega⟩ ?_
  refine r_lstore (L2 := [_, none, _, none, _, none, none, none, none, none, none]) dX10_commonPart_4 (nlt rfl) rfl ?_
  refine r_lload_n dX10_commonPart_6 rfl rfl ?_
  refine r_absL dX10_commonPart_7 ml_X10_232 jst_abs jin_Math jcd_abs ⟨by decide, by decide⟩ (nle rfl) ⟨Nat.zero_le _, Nat.zero_le _⟩ ⟨by omega, by omega⟩ ?_
  refine r_lstore (L2 := [_, none, _, none, _, none, _, none, none, none, none]) dX10_commonPart_10 (nlt rfl) rfl ?_
  refine r_iconst (z := 0) dX10_commonPart_12 ?_
  refine r_istore (L2 := [_, none, _, none, _, none, _, none, _, none, none]) dX10_commonPart_13 (nlt rfl) rfl ?_
  have lp15 : ∀ (fu15 : Nat) (g : Int) (l : Int) (i : Int) (e : Nat), (129 - i) < (fu15 : Int) → (0 ≤ i) → (0 ≤ g) → (g ≤ 1000000000000000000) → (0 ≤ l) → (l ≤ 1000000000000000000) → (Int.gcd g l = Int.gcd a b0) → (g * l < 2 ^ e) → (i + (e : Int) ≤ 122 ∨ (l ≤ g ∧ i + (e : Int) ≤ 123)) → (i ≤ 128) → G X RX10 cX10_commonPart mX10_commonPart.rm N 0 0 15 [none, none, none, none, some (.long (lZ (g))), none, some (.long (lZ (l))), none, some (.int (iZ (i))), none, none] [] h := by
    intro fu15
    induction fu15 with
    | zero => intro g l i e hm i0 g0 gM l0 lM hg hp hi i9; exfalso; omega
    | succ fu15 ih15 =>
      intro g l i e hms15 i0 g0 gM l0 lM hg hp hi i9
      refine r_iload dX10_commonPart_15 rfl ?_
      refine r_sipush (z := 128) dX10_commonPart_17 (by decide) ?_
      refine r_icmp_ge 51 dX10_commonPart_20 (by decide) ⟨by omega, by omega⟩ ⟨by decide, by decide⟩ (fun c_20 => ?_) (fun c_20 => ?_)
      · have e1 : l ≤ g → l = 0 := fun z => by
          by_cases l1 : 0 < l
          · have := euc_end l1 z hp; omega
          · omega
        have l9 : l = 0 := by omega
        refine r_lload dX10_commonPart_51 rfl ?_
        refine r_lreturn hq dX10_commonPart_53 rfl rfl rfl ?_
        subst l9; rw [Int.gcd_zero_right] at hg
        have e9 : g = ((Int.gcd a b0 : Nat) : Int) := by omega
        rw [e9]; exact hQ
      · refine r_lload dX10_commonPart_23 rfl ?_
        refine r_lconst (z := 0) dX10_commonPart_25 (by decide) ?_
        refine r_lcmp_eq 51 dX10_commonPart_26 dX10_commonPart_27 (by decide) ⟨by omega, by omega⟩ ⟨by decide, by decide⟩ (fun c_26 => ?_) (fun c_26 => ?_)
        · have l9 : l = 0 := c_26
          refine r_lload dX10_commonPart_51 rfl ?_
          refine r_lreturn hq dX10_commonPart_53 rfl rfl rfl ?_
          subst l9; rw [Int.gcd_zero_right] at hg
          have e9 : g = ((Int.gcd a b0 : Nat) : Int) := by omega
          rw [e9]; exact hQ
        · refine r_lload dX10_commonPart_30 rfl ?_
          refine r_lload dX10_commonPart_32 rfl ?_
          have l1 : 0 < l := by omega
          have r1 := Int.emod_nonneg g (show l ≠ 0 by omega)
          have r2 := Int.emod_lt_of_pos g l1
          obtain ⟨e9, hp9, he9⟩ : ∃ e9 : Nat, l * (g % l) < 2 ^ e9 ∧ (i + 1 + (e9 : Int) ≤ 123) := by
            by_cases z : l ≤ g
            · have e1 := euc_end l1 z hp
              obtain ⟨e2, rfl⟩ : ∃ e2, e = e2 + 1 := ⟨e - 1, by omega⟩
              exact ⟨e2, euc_half l1 z hp, by omega⟩
            · exact ⟨e, euc_keep l1 g0 hp, by omega⟩
          refine r_lremp dX10_commonPart_34 ⟨by omega, by omega⟩ ⟨by omega, by omega⟩ (by omega) (by omega) ?_
          have eb_34 := emod_bd (g) (show 0 < l by omega)
          refine r_lstore (L2 := [none, none, none, none, _, none, _, none, _, _, none]) dX10_commonPart_35 (nlt rfl) rfl ?_
          refine r_lload dX10_commonPart_37 rfl ?_
          refine r_lstore (L2 := [none, none, none, none, _, none, _, none, _, _, none]) dX10_commonPart_39 (nlt rfl) rfl ?_
          refine r_lload dX10_commonPart_41 rfl ?_
          refine r_lstore (L2 := [none, none, none, none, _, none, _, none, _, _, none]) dX10_commonPart_43 (nlt rfl) rfl ?_
          refine r_iinc (L2 := [none, none, none, none, _, none, _, none, _, _, none]) dX10_commonPart_45 (nlt rfl) rfl rfl ?_
          refine r_goto 15 dX10_commonPart_48 (by decide) ?_
          refine r_mask [false, false, false, false, true, false, true, false, true, false, false] (L2 := [none, none, none, none, _, none, _, none, _, none, none]) rfl ?_
          exact ih15 (l) (g % l) (i + 1) (e9) (by omega) (by omega) (by omega) (by omega) (by omega) (by omega) ((gcd_step g l).trans hg) hp9 (by omega) (by omega)
  refine r_mask [false, false, false, false, true, false, true, false, true, false, false] (L2 := [none, none, none, none, _, none, _, none, _, none, none]) rfl ?_
  exact lp15 ((129 : Int) + 1).toNat ((a.natAbs : Int)) ((b0.natAbs : Int)) (0) (122) (by omega) (by decide) (by omega) (by omega) (by omega) (by omega) (by unfold Int.gcd; rw [Int.natAbs_natCast, Int.natAbs_natCast]) (prod_lt (A := 1000000000000000000) (B := 1000000000000000000) (by omega) (by omega) (by omega) (by omega) (by decide)) (by omega) (by decide)
set_option maxHeartbeats 2000000 in
set_option maxRecDepth 20000 in
theorem c_X10_inverse {N : Nat} {h : Hp} {Q : QP} {a m : Int} (ha : -1000000000 ≤ a ∧ a ≤ 1000000000) (hm : 2 ≤ m ∧ m ≤ 1000000) (hgcd : Int.gcd a m = 1) (hQ : ∀ x : Int, IsInv a m x → Q (some (.int (iZ x))) N h) : Runs mX10_inverse [.long (lZ (a)), .int (iZ (m))] N h Q := by
  refine run_start (own := RX10) rfl (by decide) (nle rfl) rfl (fun X hq hini => ?_)
  show G X RX10 cX10_inverse mX10_inverse.rm N 0 0 0 [some (.long (lZ (a))), none, some (.int (iZ (m))), none, none, none, none, none, none, none, none, none, none, none, none, none, none, none] [] h
  refine r_iload_n dX10_inverse_0 rfl rfl ?_
  refine r_i2l dX10_inverse_1 ⟨by omega, by omega⟩ ?_
  refine r_lstore_n (L2 := [_, none, _, _, none, none, none, none, none, none, none, none, none, none, none, none, none, none]) dX10_inverse_2 rfl (nlt rfl) rfl ?_
  refine r_lload_n dX10_inverse_3 rfl rfl ?_
  refine r_iload_n dX10_inverse_4 rfl rfl ?_
  refine r_i2l dX10_inverse_5 ⟨by omega, by omega⟩ ?_
  refine r_floorMod dX10_inverse_6 ml_X10_236 stJ9_floorMod_f86c9 lkJ9_floorMod_f86c9.1 lkJ9_floorMod_f86c9.2.1 ⟨by decide, by decide⟩ (nle rfl) ⟨Nat.zero_le _, Nat.zero_le _⟩ ⟨by omega, by omega⟩ ⟨by omega, by omega⟩ (by omega) ?_
  have eb_6 := emod_bd (a) (show 0 < m by omega)
  refine r_lstore (L2 := [_, none, _, _, none, _, none, none, none, none, none, none, none, none, none, none, none, none]) dX10_inverse_9 (nlt rfl) rfl ?_
  refine r_lconst (z := 0) dX10_inverse_11 (by decide) ?_
  refine r_lstore (L2 := [_, none, _, _, none, _, none, _, none, none, none, none, none, none, none, none, none, none]) dX10_inverse_12 (nlt rfl) rfl ?_
  refine r_lconst (z := 1) dX10_inverse_14 (by decide) ?_
  refine r_lstore (L2 := [_, none, _, _, none, _, none, _, none, _, none, none, none, none, none, none, none, none]) dX10_inverse_15 (nlt rfl) rfl ?_
  refine r_iconst (z := 0) dX10_inverse_17 ?_
  refine r_istore (L2 := [_, none, _, _, none, _, none, _, none, _, none, _, none, none, none, none, none, none]) dX10_inverse_18 (nlt rfl) rfl ?_
  have lp20 : ∀ (fu20 : Nat) (g : Int) (l : Int) (tg : Int) (tl : Int) (i : Int) (e : Nat) (sg : Int) (u : Int) (v : Int), (129 - i) < (fu20 : Int) → (0 ≤ i) → (1 ≤ g) → (g ≤ 1000000) → (0 ≤ l) → (l ≤ 1000000) → (Int.gcd g l = 1) → (g * l < 2 ^ e) → (i + (e : Int) ≤ 62 ∨ (l ≤ g ∧ i + (e : Int) ≤ 63)) → (i ≤ 128) → ((a * tg) % m = g % m) → ((a * tl) % m = l % m) → (tg = -(sg * u)) → (tl = sg * v) → (sg = 1 ∨ sg = -1) → (0 ≤ u) → (0 ≤ v) → (g * v + l * u = m) → (u ≤ m) → G X RX10 cX10_inverse mX10_inverse.rm N 0 0 20 [some (.long (lZ (a))), none, some (.int (iZ (m))), some (.long (lZ (g))), none, some (.long (lZ (l))), none, some (.long (lZ (tg))), none, some (.long (lZ (tl))), none, some (.int (iZ (i))), none, none, none, none, none, none] [] h := by
    intro fu20
    induction fu20 with
    | zero => intro g l tg tl i e sg u v hm i0 g0 gM l0 lM hg hp hi i9 htg htl etg etl hsg u0 v0 hsum um; exfalso; omega
    | succ fu20 ih20 =>
      intro g l tg tl i e sg u v hms20 i0 g0 gM l0 lM hg hp hi i9 htg htl etg etl hsg u0 v0 hsum um
      refine r_iload dX10_inverse_20 rfl ?_
      refine r_sipush (z := 128) dX10_inverse_22 (by decide) ?_
      refine r_icmp_ge 81 dX10_inverse_25 (by decide) ⟨by omega, by omega⟩ ⟨by decide, by decide⟩ (fun c_25 => ?_) (fun c_25 => ?_)
      · have e1 : l ≤ g → l = 0 := fun z => by
          by_cases l1 : 0 < l
          · have := euc_end l1 z hp; omega
          · omega
        have l9 : l = 0 := by omega
        subst l9
        rw [Int.gcd_zero_right] at hg
        have g1 : g = 1 := by omega
        have tgb : -m ≤ tg ∧ tg ≤ m := by rcases hsg with q | q <;> (rw [etg, q]; omega)
        refine r_lload dX10_inverse_81 rfl ?_
        refine r_iload_n dX10_inverse_83 rfl rfl ?_
        refine r_i2l dX10_inverse_84 ⟨by omega, by omega⟩ ?_
        refine r_floorMod dX10_inverse_85 ml_X10_236 stJ9_floorMod_f86c9 lkJ9_floorMod_f86c9.1 lkJ9_floorMod_f86c9.2.1 ⟨by decide, by decide⟩ (nle rfl) ⟨Nat.zero_le _, Nat.zero_le _⟩ ⟨by omega, by omega⟩ ⟨by omega, by omega⟩ (by omega) ?_
        have eb_85 := emod_bd (tg) (show 0 < m by omega)
        refine r_l2i dX10_inverse_88 ?_
        refine r_ireturn hq dX10_inverse_89 rfl rfl rfl ?_
        exact hQ _ (IsInv.of hm.1 g1 htg)
      · refine r_lload dX10_inverse_28 rfl ?_
        refine r_lconst (z := 0) dX10_inverse_30 (by decide) ?_
        refine r_lcmp_eq 81 dX10_inverse_31 dX10_inverse_32 (by decide) ⟨by omega, by omega⟩ ⟨by decide, by decide⟩ (fun c_31 => ?_) (fun c_31 => ?_)
        · have e1 : l ≤ g → l = 0 := fun z => by
            by_cases l1 : 0 < l
            · have := euc_end l1 z hp; omega
            · omega
          have l9 : l = 0 := by omega
          subst l9
          rw [Int.gcd_zero_right] at hg
          have g1 : g = 1 := by omega
          have tgb : -m ≤ tg ∧ tg ≤ m := by rcases hsg with q | q <;> (rw [etg, q]; omega)
          refine r_lload dX10_inverse_81 rfl ?_
          refine r_iload_n dX10_inverse_83 rfl rfl ?_
          refine r_i2l dX10_inverse_84 ⟨by omega, by omega⟩ ?_
          refine r_floorMod dX10_inverse_85 ml_X10_236 stJ9_floorMod_f86c9 lkJ9_floorMod_f86c9.1 lkJ9_floorMod_f86c9.2.1 ⟨by decide, by decide⟩ (nle rfl) ⟨Nat.zero_le _, Nat.zero_le _⟩ ⟨by omega, by omega⟩ ⟨by omega, by omega⟩ (by omega) ?_
          have eb_85 := emod_bd (tg) (show 0 < m by omega)
          refine r_l2i dX10_inverse_88 ?_
          refine r_ireturn hq dX10_inverse_89 rfl rfl rfl ?_
          exact hQ _ (IsInv.of hm.1 g1 htg)
        · have l1 : 0 < l := by omega
          have r1 := Int.emod_nonneg g (show l ≠ 0 by omega)
          have r2 := Int.emod_lt_of_pos g l1
          have q0 : 0 ≤ g / l := Int.ediv_nonneg (by omega) (by omega)
          have er : g - g / l * l = g % l := by rw [Int.emod_def, Int.mul_comm]
          have vm : v ≤ m := by
            have h1 : 1 * v ≤ g * v := Int.mul_le_mul_of_nonneg_right g0 v0
            have h2 := Int.mul_nonneg l0 u0
            omega
          obtain ⟨e9, hp9, he9⟩ : ∃ e9 : Nat, l * (g % l) < 2 ^ e9 ∧ (i + 1 + (e9 : Int) ≤ 63) := by
            by_cases z : l ≤ g
            · have e1 := euc_end l1 z hp
              obtain ⟨e2, rfl⟩ : ∃ e2, e = e2 + 1 := ⟨e - 1, by omega⟩
              exact ⟨e2, euc_half l1 z hp, by omega⟩
            · exact ⟨e, euc_keep l1 (by omega) hp, by omega⟩
          refine r_lload_n dX10_inverse_35 rfl rfl ?_
          refine r_lload dX10_inverse_36 rfl ?_
          refine r_ldivp dX10_inverse_38 ⟨by omega, by omega⟩ ⟨by omega, by omega⟩ (by omega) (by omega) ?_
          refine r_lstore (L2 := [_, none, _, _, none, _, none, _, none, _, none, _, _, none, none, none, none, none]) dX10_inverse_39 (nlt rfl) rfl ?_
          refine r_lload_n dX10_inverse_41 rfl rfl ?_
          refine r_lload dX10_inverse_42 rfl ?_
          refine r_lload dX10_inverse_44 rfl ?_
          refine r_lmul dX10_inverse_46 ?_
          refine r_lsub dX10_inverse_47 ?_
          refine r_lstore (L2 := [_, none, _, _, none, _, none, _, none, _, none, _, _, none, _, none, none, none]) dX10_inverse_48 (nlt rfl) rfl ?_
          refine r_lload dX10_inverse_50 rfl ?_
          refine r_lload dX10_inverse_52 rfl ?_
          refine r_lload dX10_inverse_54 rfl ?_
          refine r_lmul dX10_inverse_56 ?_
          refine r_lsub dX10_inverse_57 ?_
          refine r_lstore (L2 := [_, none, _, _, none, _, none, _, none, _, none, _, _, none, _, none, _, none]) dX10_inverse_58 (nlt rfl) rfl ?_
          refine r_lload dX10_inverse_60 rfl ?_
          refine r_lstore_n (L2 := [_, none, _, _, none, _, none, _, none, _, none, _, _, none, _, none, _, none]) dX10_inverse_62 rfl (nlt rfl) rfl ?_
          refine r_lload dX10_inverse_63 rfl ?_
          refine r_lstore (L2 := [_, none, _, _, none, _, none, _, none, _, none, _, _, none, _, none, _, none]) dX10_inverse_65 (nlt rfl) rfl ?_
          refine r_lload dX10_inverse_67 rfl ?_
          refine r_lstore (L2 := [_, none, _, _, none, _, none, _, none, _, none, _, _, none, _, none, _, none]) dX10_inverse_69 (nlt rfl) rfl ?_
          refine r_lload dX10_inverse_71 rfl ?_
          refine r_lstore (L2 := [_, none, _, _, none, _, none, _, none, _, none, _, _, none, _, none, _, none]) dX10_inverse_73 (nlt rfl) rfl ?_
          refine r_iinc (L2 := [_, none, _, _, none, _, none, _, none, _, none, _, _, none, _, none, _, none]) dX10_inverse_75 (nlt rfl) rfl rfl ?_
          refine r_goto 20 dX10_inverse_78 (by decide) ?_
          refine r_mask [true, false, true, true, false, true, false, true, false, true, false, true, false, false, false, false, false, false] (L2 := [_, none, _, _, none, _, none, _, none, _, none, _, none, none, none, none, none, none]) rfl ?_
          exact ih20 (l) (g - ((g / l) * l)) (tl) (tg - ((g / l) * tl)) (i + 1) (e9) ((-sg)) (v) ((u + (g / l) * v)) (by omega) (by omega) (by omega) (by omega) (by rw [er]; exact r1) (by rw [er]; omega) (by rw [er]; exact (gcd_step g l).trans hg) (by rw [er]; exact hp9) (by rw [er]; omega) (by omega) htl (emod_sub_mul htg htl) (by rw [etl, Int.neg_mul, Int.neg_neg]) (by rw [etg, etl]; exact inv_sg sg u v (g / l)) (by omega) v0 (by have := Int.mul_nonneg q0 v0; omega) (by rw [er]; exact inv_sum hsum) vm
  exact lp20 ((129 : Int) + 1).toNat (m) (a % m) (0) (1) (0) (62) (1) (0) (1) (by omega) (by decide) (by omega) (by omega) (by omega) (by omega) (by rw [Int.gcd_comm, Int.emod_def, Int.gcd_comm, Int.gcd_sub_mul_left_right, Int.gcd_comm]; exact hgcd) (prod_lt (A := 1000000) (B := 1000000) (by omega) (by omega) (by omega) (by omega) (by decide)) (by omega) (by decide) (by rw [Int.mul_zero, Int.zero_emod, Int.emod_self]) (by rw [Int.mul_one, Int.emod_emod_of_dvd _ (Int.dvd_refl m)]) (by decide) (by decide) (Or.inl rfl) (by decide) (by decide) (by omega) (by omega)
