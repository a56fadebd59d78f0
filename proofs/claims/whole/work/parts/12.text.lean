abbrev TXo (t : Nat) (len nu be : Int) : ACell := ob 8 [.ref (t + 1), .int (iZ len), .ref (t + 2), .int (iZ nu), .int (iZ be)]
set_option maxHeartbeats 2000000 in
set_option maxRecDepth 20000 in
theorem c_X8_isByte {N : Nat} {h : Hp} {Q : QP} {t : Nat} {len nu be a : Int} {b : Nat → Int} {ch : Int} (ht : h t = TXo t len nu be) (hb : h (t + 1) = aI 100 b) (hN : t + 1 < N) (hl0 : 0 ≤ len) (hl : len ≤ 100) (ha0 : 0 ≤ a) (ha : a ≤ 1000) (hbb : ∀ j, j < 100 → 0 ≤ b j ∧ b j ≤ 255) (hch : rI ch) (hQ : ∀ z : Int, (z = 1 ∧ Byt len b a ch ∨ z = 0 ∧ ¬ Byt len b a ch) → Q (some (.int (iZ z))) N h) : Runs mX8_isByte [.ref (t), .int (iZ (a)), .int (iZ (ch))] N h Q := by
  refine run_start (own := RX8) rfl (by decide) (nle rfl) rfl (fun X hq hini => ?_)
  show G X RX8 cX8_isByte mX8_isByte.rm N 0 0 0 [some (.ref (t)), some (.int (iZ (a))), some (.int (iZ (ch)))] [] h
  refine r_iload_n dX8_isByte_0 rfl rfl ?_
  refine r_aload_n dX8_isByte_1 rfl rfl ?_
  refine gf_X8_15 dX8_isByte_2 (by omega) ht rfl ?_
  refine r_icmp_ge 22 dX8_isByte_5 (by decide) ⟨by omega, by omega⟩ ⟨by omega, by omega⟩ (fun c_5 => ?_) (fun c_5 => ?_)
  · refine r_iconst (z := 0) dX8_isByte_22 ?_
    refine r_zreturn hq dX8_isByte_23 rfl (by decide) rfl rfl ?_
    exact hQ _ (Or.inr ⟨rfl, fun q => by first | (have := q.1; have := q.2.1; have := q.2.2; omega) | (have := q.1; have := q.2; omega)⟩)
  · refine r_aload_n dX8_isByte_8 rfl rfl ?_
    refine gf_X8_9 dX8_isByte_9 (by omega) ht rfl ?_
    refine r_iload_n dX8_isByte_12 rfl rfl ?_
    refine r_iaload dX8_isByte_13 (by omega) hb (by omega) (by omega) (by decide) ?_
    have b_13 := hbb (a).toNat (by omega)
    refine r_iload_n dX8_isByte_14 rfl rfl ?_
    refine r_icmp_ne 22 dX8_isByte_15 (by decide) ⟨by omega, by omega⟩ hch (fun c_15 => ?_) (fun c_15 => ?_)
    · refine r_iconst (z := 0) dX8_isByte_22 ?_
      refine r_zreturn hq dX8_isByte_23 rfl (by decide) rfl rfl ?_
      exact hQ _ (Or.inr ⟨rfl, fun q => by first | (have := q.1; have := q.2.1; have := q.2.2; omega) | (have := q.1; have := q.2; omega)⟩)
    · refine r_iconst (z := 1) dX8_isByte_18 ?_
      refine r_goto 23 dX8_isByte_19 (by decide) ?_
      refine r_zreturn hq dX8_isByte_23 rfl (by decide) rfl rfl ?_
      exact hQ _ (Or.inl ⟨rfl, by first | exact ⟨by omega, by omega, by omega⟩ | exact ⟨by omega, by omega⟩⟩)
set_option maxHeartbeats 2000000 in
set_option maxRecDepth 20000 in
theorem c_X8_isFigure {N : Nat} {h : Hp} {Q : QP} {t : Nat} {len nu be a : Int} {b : Nat → Int} (ht : h t = TXo t len nu be) (hb : h (t + 1) = aI 100 b) (hN : t + 1 < N) (hl0 : 0 ≤ len) (hl : len ≤ 100) (ha0 : 0 ≤ a) (ha : a ≤ 1000) (hbb : ∀ j, j < 100 → 0 ≤ b j ∧ b j ≤ 255) (hQ : ∀ z : Int, (z = 1 ∧ Fig len b a ∨ z = 0 ∧ ¬ Fig len b a) → Q (some (.int (iZ z))) N h) : Runs mX8_isFigure [.ref (t), .int (iZ (a))] N h Q := by
  refine run_start (own := RX8) rfl (by decide) (nle rfl) rfl (fun X hq hini => ?_)
  show G X RX8 cX8_isFigure mX8_isFigure.rm N 0 0 0 [some (.ref (t)), some (.int (iZ (a)))] [] h
  refine r_iload_n dX8_isFigure_0 rfl rfl ?_
  refine r_aload_n dX8_isFigure_1 rfl rfl ?_
  refine gf_X8_15 dX8_isFigure_2 (by omega) ht rfl ?_
  refine r_icmp_ge 34 dX8_isFigure_5 (by decide) ⟨by omega, by omega⟩ ⟨by omega, by omega⟩ (fun c_5 => ?_) (fun c_5 => ?_)
  · refine r_iconst (z := 0) dX8_isFigure_34 ?_
    refine r_zreturn hq dX8_isFigure_35 rfl (by decide) rfl rfl ?_
    exact hQ _ (Or.inr ⟨rfl, fun q => by first | (have := q.1; have := q.2.1; have := q.2.2; omega) | (have := q.1; have := q.2; omega)⟩)
  · refine r_aload_n dX8_isFigure_8 rfl rfl ?_
    refine gf_X8_9 dX8_isFigure_9 (by omega) ht rfl ?_
    refine r_iload_n dX8_isFigure_12 rfl rfl ?_
    refine r_iaload dX8_isFigure_13 (by omega) hb (by omega) (by omega) (by decide) ?_
    have b_13 := hbb (a).toNat (by omega)
    refine r_bipush (z := 48) dX8_isFigure_14 (by decide) ?_
    refine r_icmp_lt 34 dX8_isFigure_16 (by decide) ⟨by omega, by omega⟩ ⟨by decide, by decide⟩ (fun c_16 => ?_) (fun c_16 => ?_)
    · refine r_iconst (z := 0) dX8_isFigure_34 ?_
      refine r_zreturn hq dX8_isFigure_35 rfl (by decide) rfl rfl ?_
      exact hQ _ (Or.inr ⟨rfl, fun q => by first | (have := q.1; have := q.2.1; have := q.2.2; omega) | (have := q.1; have := q.2; omega)⟩)
    · refine r_aload_n dX8_isFigure_19 rfl rfl ?_
      refine gf_X8_9 dX8_isFigure_20 (by omega) ht rfl ?_
      refine r_iload_n dX8_isFigure_23 rfl rfl ?_
      refine r_iaload dX8_isFigure_24 (by omega) hb (by omega) (by omega) (by decide) ?_
      have b_24 := hbb (a).toNat (by omega)
      refine r_bipush (z := 57) dX8_isFigure_25 (by decide) ?_
      refine r_icmp_gt 34 dX8_isFigure_27 (by decide) ⟨by omega, by omega⟩ ⟨by decide, by decide⟩ (fun c_27 => ?_) (fun c_27 => ?_)
      · refine r_iconst (z := 0) dX8_isFigure_34 ?_
        refine r_zreturn hq dX8_isFigure_35 rfl (by decide) rfl rfl ?_
        exact hQ _ (Or.inr ⟨rfl, fun q => by first | (have := q.1; have := q.2.1; have := q.2.2; omega) | (have := q.1; have := q.2; omega)⟩)
      · refine r_iconst (z := 1) dX8_isFigure_30 ?_
        refine r_goto 35 dX8_isFigure_31 (by decide) ?_
        refine r_zreturn hq dX8_isFigure_35 rfl (by decide) rfl rfl ?_
        exact hQ _ (Or.inl ⟨rfl, by first | exact ⟨by omega, by omega, by omega⟩ | exact ⟨by omega, by omega⟩⟩)
set_option maxHeartbeats 2000000 in
set_option maxRecDepth 20000 in
theorem c_X8_readNumber {N : Nat} {h : Hp} {Q : QP} {t : Nat} {len nu be f most : Int} {b : Nat → Int} (ht : h t = TXo t len nu be) (hb : h (t + 1) = aI 100 b) (hN : t + 1 < N) (hl0 : 0 ≤ len) (hl : len ≤ 100) (hf0 : 0 ≤ f) (hf : f ≤ len) (hbb : ∀ j, j < 100 → 0 ≤ b j ∧ b j ≤ 255) (hm0 : 0 ≤ most) (hm1 : most ≤ 1000000) (hQ : ∀ w v e : Int, NumR len b f most w v e → Q (some (.int (iZ w))) N (hs h t (TXo t len v e))) : Runs mX8_readNumber [.ref (t), .int (iZ (f)), .int (iZ (most))] N h Q := by
  refine run_start (own := RX8) rfl (by decide) (nle rfl) rfl (fun X hq hini => ?_)
  show G X RX8 cX8_readNumber mX8_readNumber.rm N 0 0 0 [some (.ref (t)), some (.int (iZ (f))), some (.int (iZ (most))), none, none] [] h
  refine r_aload_n dX8_readNumber_0 rfl rfl ?_
  refine r_iload_n dX8_readNumber_1 rfl rfl ?_
  refine r_bipush (z := 45) dX8_readNumber_2 (by decide) ?_
  refine r_callV (av := [.int (iZ (f)), .int (iZ (45))]) dX8_readNumber_4 lkX8_isByte ml_X8_51 imX8_isByte seX8_isByte (by omega) (rfl : vwCl[8]? = _) ⟨_, ht⟩ ⟨Nat.le_of_ble_eq_true rfl, Nat.le_of_ble_eq_true rfl⟩ rfl rfl (nle rfl) ⟨Nat.le_of_ble_eq_true rfl, Nat.le_of_ble_eq_true rfl⟩ (c_X8_isByte (len := len) (nu := nu) (be := be) (b := b) (a := f) (ch := 45) ht hb (by omega) (by omega) (by omega) (by omega) (by omega) hbb ⟨by decide, by decide⟩ (fun b4 hb4 => ?_))
  show G _ _ _ _ _ _ _ 7 _ _ _
  refine r_istore_n (L2 := [_, _, _, _, none]) dX8_readNumber_7 rfl (nlt rfl) rfl ?_
  refine r_iload_n dX8_readNumber_8 rfl rfl ?_
  refine r_if_eq 18 dX8_readNumber_9 (by decide) ⟨by omega, by omega⟩ (fun c_9 => ?_) (fun c_9 => ?_)
  · refine r_iload_n dX8_readNumber_18 rfl rfl ?_
    refine r_istore (L2 := [_, _, _, _, _]) dX8_readNumber_19 (nlt rfl) rfl ?_
    refine r_aload_n dX8_readNumber_21 rfl rfl ?_
    refine r_iconst (z := 0) dX8_readNumber_22 ?_
    refine pf_X8_48 (fs2 := [_, _, _, _, _]) dX8_readNumber_23 (fun _ _ => rfl) (fun _ _ => rfl) (nlt rfl) (by omega) ht rfl ?_
    refine r_aload_n dX8_readNumber_26 rfl rfl ?_
    refine r_iload dX8_readNumber_27 rfl ?_
    refine r_bipush (z := 48) dX8_readNumber_29 (by decide) ?_
    refine r_callV (av := [.int (iZ (f)), .int (iZ (48))]) dX8_readNumber_31 lkX8_isByte ml_X8_51 imX8_isByte seX8_isByte (by omega) (rfl : vwCl[8]? = _) ⟨_, hs_e⟩ ⟨Nat.le_of_ble_eq_true rfl, Nat.le_of_ble_eq_true rfl⟩ rfl rfl (nle rfl) ⟨Nat.le_of_ble_eq_true rfl, Nat.le_of_ble_eq_true rfl⟩ (c_X8_isByte (len := len) (nu := 0) (be := be) (b := b) (a := f) (ch := 48) hs_e ((hs_n (by omega)).trans hb) (by omega) (by omega) (by omega) (by omega) (by omega) hbb ⟨by decide, by decide⟩ (fun b31 hb31 => ?_))
    show G _ _ _ _ _ _ _ 34 _ _ _
    refine r_if_eq 52 dX8_readNumber_34 (by decide) ⟨by omega, by omega⟩ (fun c_34 => ?_) (fun c_34 => ?_)
    · refine r_aload_n dX8_readNumber_52 rfl rfl ?_
      refine r_iload dX8_readNumber_53 rfl ?_
      refine r_callV (av := [.int (iZ (f))]) dX8_readNumber_55 lkX8_isFigure ml_X8_62 imX8_isFigure seX8_isFigure (by omega) (rfl : vwCl[8]? = _) ⟨_, hs_e⟩ ⟨Nat.le_of_ble_eq_true rfl, Nat.le_of_ble_eq_true rfl⟩ rfl rfl (nle rfl) ⟨Nat.le_of_ble_eq_true rfl, Nat.le_of_ble_eq_true rfl⟩ (c_X8_isFigure (len := len) (nu := 0) (be := be) (b := b) (a := f) hs_e ((hs_n (by omega)).trans hb) (by omega) (by omega) (by omega) (by omega) (by omega) hbb (fun b55 hb55 => ?_))
      show G _ _ _ _ _ _ _ 58 _ _ _
      refine r_if_eq 72 dX8_readNumber_58 (by decide) ⟨by omega, by omega⟩ (fun c_58 => ?_) (fun c_58 => ?_)
      · refine r_iload dX8_readNumber_72 rfl ?_
        refine r_ireturn hq dX8_readNumber_74 rfl rfl rfl ?_
        exact hQ (f) 0 be ⟨_, (by rcases hb4 with q | q <;> first | exact Or.inl ⟨q.2, by omega⟩ | exact Or.inr ⟨q.2, by omega⟩ | (exfalso; omega)), Or.inr (Or.inl ⟨Or.inl (by rcases hb55 with q | q; (exfalso; omega); exact q.2), rfl⟩)⟩
      · refine r_aload_n dX8_readNumber_61 rfl rfl ?_
        refine r_iload dX8_readNumber_62 rfl ?_
        refine r_bipush (z := 48) dX8_readNumber_64 (by decide) ?_
        refine r_callV (av := [.int (iZ (f)), .int (iZ (48))]) dX8_readNumber_66 lkX8_isByte ml_X8_51 imX8_isByte seX8_isByte (by omega) (rfl : vwCl[8]? = _) ⟨_, hs_e⟩ ⟨Nat.le_of_ble_eq_true rfl, Nat.le_of_ble_eq_true rfl⟩ rfl rfl (nle rfl) ⟨Nat.le_of_ble_eq_true rfl, Nat.le_of_ble_eq_true rfl⟩ (c_X8_isByte (len := len) (nu := 0) (be := be) (b := b) (a := f) (ch := 48) hs_e ((hs_n (by omega)).trans hb) (by omega) (by omega) (by omega) (by omega) (by omega) hbb ⟨by decide, by decide⟩ (fun b66 hb66 => ?_))
        show G _ _ _ _ _ _ _ 69 _ _ _
        refine r_if_eq 75 dX8_readNumber_69 (by decide) ⟨by omega, by omega⟩ (fun c_69 => ?_) (fun c_69 => ?_)
        · have hfg0 : Fig len b (f) := by rcases hb55 with q | q; exact q.2; (exfalso; omega)
          have hnb0 : ¬ Byt len b (f) 48 := by rcases hb66 with q | q; (exfalso; omega); exact q.2
          have lp75 : ∀ (fu75 : Nat) (nu2 : Int) (i : Int) (n : Nat), (102 - i) < (fu75 : Int) → (i = (f) + (n : Int)) → (nu2 = dv b (f) n) → (∀ j : Nat, j < n → Fig len b ((f) + j)) → (0 ≤ nu2) → (nu2 ≤ most) → (i ≤ 101) → G X RX8 cX8_readNumber mX8_readNumber.rm N 0 0 75 [some (.ref (t)), some (.int (iZ (f))), some (.int (iZ (most))), some (.int (iZ (b4))), some (.int (iZ (i)))] [] (hs h (t) (ob 8 [.ref (t + 1), .int (iZ (len)), .ref (t + 2), .int (iZ (nu2)), .int (iZ (be))])) := by
            intro fu75
            induction fu75 with
            | zero => intro nu2 i n hm ei en hfig n0 nm i1; exfalso; omega
            | succ fu75 ih75 =>
              intro nu2 i n hms75 ei en hfig n0 nm i1
              refine r_iload dX8_readNumber_75 rfl ?_
              refine r_aload_n dX8_readNumber_77 rfl rfl ?_
              refine gf_X8_15 dX8_readNumber_78 (by omega) hs_e rfl ?_
              refine r_icmp_ge 131 dX8_readNumber_81 (by decide) ⟨by omega, by omega⟩ ⟨by omega, by omega⟩ (fun c_81 => ?_) (fun c_81 => ?_)
              · have hn1 : 1 ≤ n := by
                  cases n with
                  | zero => exfalso; have q9 := hfg0.1; have e9 : i = f := by omega
                            omega
                  | succ n => omega
                have hrun : Run len b (f) n := ⟨hn1, hfig, fun q => by have := q.1; omega⟩
                refine r_aload_n dX8_readNumber_131 rfl rfl ?_
                refine r_iload_n dX8_readNumber_132 rfl rfl ?_
                refine r_if_eq 144 dX8_readNumber_133 (by decide) ⟨by omega, by omega⟩ (fun c_133 => ?_) (fun c_133 => ?_)
                · refine r_aload_n dX8_readNumber_144 rfl rfl ?_
                  refine gf_X8_48 dX8_readNumber_145 (by omega) hs_e rfl ?_
                  refine pf_X8_48 (fs2 := [_, _, _, _, _]) dX8_readNumber_148 (fun _ _ => rfl) (fun _ _ => rfl) (nlt rfl) (by omega) hs_e rfl ?_
                  refine g_heap (h2 := (hs h (t) (ob 8 [.ref (t + 1), .int (iZ (len)), .ref (t + 2), .int (iZ (nu2)), .int (iZ (be))]))) hs_hs ?_
                  refine r_aload_n dX8_readNumber_151 rfl rfl ?_
                  refine r_iload dX8_readNumber_152 rfl ?_
                  refine pf_X8_32 (fs2 := [_, _, _, _, _]) dX8_readNumber_154 (fun _ _ => rfl) (fun _ _ => rfl) (nlt rfl) (by omega) hs_e rfl ?_
                  refine g_heap (h2 := (hs h (t) (ob 8 [.ref (t + 1), .int (iZ (len)), .ref (t + 2), .int (iZ (nu2)), .int (iZ (i))]))) hs_hs ?_
                  refine r_bipush (z := -4) dX8_readNumber_157 (by decide) ?_
                  refine r_ireturn hq dX8_readNumber_159 rfl rfl rfl ?_
                  exact hQ _ _ _ ⟨_, (by rcases hb4 with q | q <;> first | exact Or.inl ⟨q.2, by omega⟩ | exact Or.inr ⟨q.2, by omega⟩ | (exfalso; omega)), Or.inr (Or.inr ⟨hfg0, hnb0, n, hrun, Or.inl ⟨by omega, rfl, fun z => by omega, fun z => by omega, by omega⟩⟩)⟩
                · refine r_aload_n dX8_readNumber_136 rfl rfl ?_
                  refine gf_X8_48 dX8_readNumber_137 (by omega) hs_e rfl ?_
                  refine r_ineg dX8_readNumber_140 ?_
                  refine r_goto 148 dX8_readNumber_141 (by decide) ?_
                  refine pf_X8_48 (fs2 := [_, _, _, _, _]) dX8_readNumber_148 (fun _ _ => rfl) (fun _ _ => rfl) (nlt rfl) (by omega) hs_e rfl ?_
                  refine g_heap (h2 := (hs h (t) (ob 8 [.ref (t + 1), .int (iZ (len)), .ref (t + 2), .int (iZ (-nu2)), .int (iZ (be))]))) hs_hs ?_
                  refine r_aload_n dX8_readNumber_151 rfl rfl ?_
                  refine r_iload dX8_readNumber_152 rfl ?_
                  refine pf_X8_32 (fs2 := [_, _, _, _, _]) dX8_readNumber_154 (fun _ _ => rfl) (fun _ _ => rfl) (nlt rfl) (by omega) hs_e rfl ?_
                  refine g_heap (h2 := (hs h (t) (ob 8 [.ref (t + 1), .int (iZ (len)), .ref (t + 2), .int (iZ (-nu2)), .int (iZ (i))]))) hs_hs ?_
                  refine r_bipush (z := -4) dX8_readNumber_157 (by decide) ?_
                  refine r_ireturn hq dX8_readNumber_159 rfl rfl rfl ?_
                  exact hQ _ _ _ ⟨_, (by rcases hb4 with q | q <;> first | exact Or.inl ⟨q.2, by omega⟩ | exact Or.inr ⟨q.2, by omega⟩ | (exfalso; omega)), Or.inr (Or.inr ⟨hfg0, hnb0, n, hrun, Or.inl ⟨by omega, rfl, fun z => by omega, fun z => by omega, by omega⟩⟩)⟩
              · refine r_aload_n dX8_readNumber_84 rfl rfl ?_
                refine r_iload dX8_readNumber_85 rfl ?_
                refine r_callV (av := [.int (iZ (i))]) dX8_readNumber_87 lkX8_isFigure ml_X8_62 imX8_isFigure seX8_isFigure (by omega) (rfl : vwCl[8]? = _) ⟨_, hs_e⟩ ⟨Nat.le_of_ble_eq_true rfl, Nat.le_of_ble_eq_true rfl⟩ rfl rfl (nle rfl) ⟨Nat.le_of_ble_eq_true rfl, Nat.le_of_ble_eq_true rfl⟩ (c_X8_isFigure (len := len) (nu := nu2) (be := be) (b := b) (a := i) hs_e ((hs_n (by omega)).trans hb) (by omega) (by omega) (by omega) (by omega) (by omega) hbb (fun b87 hb87 => ?_))
                show G _ _ _ _ _ _ _ 90 _ _ _
                refine r_if_eq 131 dX8_readNumber_90 (by decide) ⟨by omega, by omega⟩ (fun c_90 => ?_) (fun c_90 => ?_)
                · have hn1 : 1 ≤ n := by
                    cases n with
                    | zero => exfalso; have q9 := hfg0.1; have e9 : i = f := by omega
                              rw [e9] at hb87; rcases hb87 with q | q; omega; exact absurd hfg0 q.2
                    | succ n => omega
                  have hrun : Run len b (f) n := ⟨hn1, hfig, fun q => by rw [← ei] at q; rcases hb87 with z | z; omega; exact z.2 q⟩
                  refine r_aload_n dX8_readNumber_131 rfl rfl ?_
                  refine r_iload_n dX8_readNumber_132 rfl rfl ?_
                  refine r_if_eq 144 dX8_readNumber_133 (by decide) ⟨by omega, by omega⟩ (fun c_133 => ?_) (fun c_133 => ?_)
                  · refine r_aload_n dX8_readNumber_144 rfl rfl ?_
                    refine gf_X8_48 dX8_readNumber_145 (by omega) hs_e rfl ?_
                    refine pf_X8_48 (fs2 := [_, _, _, _, _]) dX8_readNumber_148 (fun _ _ => rfl) (fun _ _ => rfl) (nlt rfl) (by omega) hs_e rfl ?_
                    refine g_heap (h2 := (hs h (t) (ob 8 [.ref (t + 1), .int (iZ (len)), .ref (t + 2), .int (iZ (nu2)), .int (iZ (be))]))) hs_hs ?_
                    refine r_aload_n dX8_readNumber_151 rfl rfl ?_
                    refine r_iload dX8_readNumber_152 rfl ?_
                    refine pf_X8_32 (fs2 := [_, _, _, _, _]) dX8_readNumber_154 (fun _ _ => rfl) (fun _ _ => rfl) (nlt rfl) (by omega) hs_e rfl ?_
                    refine g_heap (h2 := (hs h (t) (ob 8 [.ref (t + 1), .int (iZ (len)), .ref (t + 2), .int (iZ (nu2)), .int (iZ (i))]))) hs_hs ?_
                    refine r_bipush (z := -4) dX8_readNumber_157 (by decide) ?_
                    refine r_ireturn hq dX8_readNumber_159 rfl rfl rfl ?_
                    exact hQ _ _ _ ⟨_, (by rcases hb4 with q | q <;> first | exact Or.inl ⟨q.2, by omega⟩ | exact Or.inr ⟨q.2, by omega⟩ | (exfalso; omega)), Or.inr (Or.inr ⟨hfg0, hnb0, n, hrun, Or.inl ⟨by omega, rfl, fun z => by omega, fun z => by omega, by omega⟩⟩)⟩
                  · refine r_aload_n dX8_readNumber_136 rfl rfl ?_
                    refine gf_X8_48 dX8_readNumber_137 (by omega) hs_e rfl ?_
                    refine r_ineg dX8_readNumber_140 ?_
                    refine r_goto 148 dX8_readNumber_141 (by decide) ?_
                    refine pf_X8_48 (fs2 := [_, _, _, _, _]) dX8_readNumber_148 (fun _ _ => rfl) (fun _ _ => rfl) (nlt rfl) (by omega) hs_e rfl ?_
                    refine g_heap (h2 := (hs h (t) (ob 8 [.ref (t + 1), .int (iZ (len)), .ref (t + 2), .int (iZ (-nu2)), .int (iZ (be))]))) hs_hs ?_
                    refine r_aload_n dX8_readNumber_151 rfl rfl ?_
                    refine r_iload dX8_readNumber_152 rfl ?_
                    refine pf_X8_32 (fs2 := [_, _, _, _, _]) dX8_readNumber_154 (fun _ _ => rfl) (fun _ _ => rfl) (nlt rfl) (by omega) hs_e rfl ?_
                    refine g_heap (h2 := (hs h (t) (ob 8 [.ref (t + 1), .int (iZ (len)), .ref (t + 2), .int (iZ (-nu2)), .int (iZ (i))]))) hs_hs ?_
                    refine r_bipush (z := -4) dX8_readNumber_157 (by decide) ?_
                    refine r_ireturn hq dX8_readNumber_159 rfl rfl rfl ?_
                    exact hQ _ _ _ ⟨_, (by rcases hb4 with q | q <;> first | exact Or.inl ⟨q.2, by omega⟩ | exact Or.inr ⟨q.2, by omega⟩ | (exfalso; omega)), Or.inr (Or.inr ⟨hfg0, hnb0, n, hrun, Or.inl ⟨by omega, rfl, fun z => by omega, fun z => by omega, by omega⟩⟩)⟩
                · have hfg : Fig len b i := by rcases hb87 with q | q; exact q.2; (exfalso; omega)
                  have hg1 := hfg.1
                  have hg2 := hfg.2.1
                  have hg3 := hfg.2.2
                  refine r_aload_n dX8_readNumber_93 rfl rfl ?_
                  refine r_bipush (z := 10) dX8_readNumber_94 (by decide) ?_
                  refine r_aload_n dX8_readNumber_96 rfl rfl ?_
                  refine gf_X8_48 dX8_readNumber_97 (by omega) hs_e rfl ?_
                  refine r_imul dX8_readNumber_100 ?_
                  refine r_aload_n dX8_readNumber_101 rfl rfl ?_
                  refine gf_X8_9 dX8_readNumber_102 (by omega) hs_e rfl ?_
                  refine r_iload dX8_readNumber_105 rfl ?_
                  refine r_iaload dX8_readNumber_107 (by omega) ((hs_n (by omega)).trans hb) (by omega) (by omega) (by decide) ?_
                  have b_107 := hbb (i).toNat (by omega)
                  refine r_iadd dX8_readNumber_108 ?_
                  refine r_bipush (z := 48) dX8_readNumber_109 (by decide) ?_
                  refine r_isub dX8_readNumber_111 ?_
                  refine pf_X8_48 (fs2 := [_, _, _, _, _]) dX8_readNumber_112 (fun _ _ => rfl) (fun _ _ => rfl) (nlt rfl) (by omega) hs_e rfl ?_
                  refine g_heap (h2 := (hs h (t) (ob 8 [.ref (t + 1), .int (iZ (len)), .ref (t + 2), .int (iZ (((10 * nu2) + (b (i).toNat)) - 48)), .int (iZ (be))]))) hs_hs ?_
                  refine r_aload_n dX8_readNumber_115 rfl rfl ?_
                  refine gf_X8_48 dX8_readNumber_116 (by omega) hs_e rfl ?_
                  refine r_iload_n dX8_readNumber_119 rfl rfl ?_
                  refine r_icmp_le 125 dX8_readNumber_120 (by decide) ⟨by omega, by omega⟩ ⟨by omega, by omega⟩ (fun c_120 => ?_) (fun c_120 => ?_)
                  · refine r_iinc (L2 := [_, _, _, _, _]) dX8_readNumber_125 (nlt rfl) rfl rfl ?_
                    refine r_goto 75 dX8_readNumber_128 (by decide) ?_
                    exact ih75 (((10 * nu2) + (b (i).toNat)) - 48) (i + 1) (n + 1) (by omega) (by omega) (by show _ = 10 * dv b (f) n + b ((f) + (n : Int)).toNat - 48; rw [← en, ← ei]) (fun j hj => by by_cases z : j = n; (subst z; have hq := hb87; rw [ei] at hq; rcases hq with q | q; exact q.2; (exfalso; omega)); exact hfig j (by omega)) (by omega) (by omega) (by omega)
                  · refine r_iload_n dX8_readNumber_123 rfl rfl ?_
                    refine r_ireturn hq dX8_readNumber_124 rfl rfl rfl ?_
                    obtain ⟨m9, hm9, hr9⟩ := run_ex (len := len) (b := b) (a := f) (n := n + 1) (by omega) (fun j hj => by by_cases z : j = n; (subst z; rw [← ei]; exact hfg); exact hfig j (by omega))
                    have hdm := dv_mono (b := b) hm9 hr9.2.1
                    have hde : dv b (f) (n + 1) = 10 * nu2 + b i.toNat - 48 := by show 10 * dv b (f) n + b ((f) + (n : Int)).toNat - 48 = _; rw [← en, ← ei]
                    exact hQ _ _ _ ⟨_, (by rcases hb4 with q | q <;> first | exact Or.inl ⟨q.2, by omega⟩ | exact Or.inr ⟨q.2, by omega⟩ | (exfalso; omega)), Or.inr (Or.inr ⟨hfg0, hnb0, m9, hr9, Or.inr ⟨by omega, rfl⟩⟩)⟩
          exact lp75 ((102 : Int) + 1).toNat (0) (f) (0) (by omega) (by omega) rfl (fun j hj => absurd hj (Nat.not_lt_zero j)) (by omega) (by omega) (by omega)
        · refine r_iload dX8_readNumber_72 rfl ?_
          refine r_ireturn hq dX8_readNumber_74 rfl rfl rfl ?_
          exact hQ (f) 0 be ⟨_, (by rcases hb4 with q | q <;> first | exact Or.inl ⟨q.2, by omega⟩ | exact Or.inr ⟨q.2, by omega⟩ | (exfalso; omega)), Or.inr (Or.inl ⟨(by first | exact Or.inr ⟨by omega, by rcases hb66 with q | q; exact q.2; (exfalso; omega)⟩ | (exfalso; rcases hb31 with q | q; omega; rcases hb66 with z | z; exact q.2 z.2; omega)), rfl⟩)⟩
    · refine r_iload_n dX8_readNumber_37 rfl rfl ?_
      refine r_if_ne 52 dX8_readNumber_38 (by decide) ⟨by omega, by omega⟩ (fun c_38 => ?_) (fun c_38 => ?_)
      · refine r_aload_n dX8_readNumber_52 rfl rfl ?_
        refine r_iload dX8_readNumber_53 rfl ?_
        refine r_callV (av := [.int (iZ (f))]) dX8_readNumber_55 lkX8_isFigure ml_X8_62 imX8_isFigure seX8_isFigure (by omega) (rfl : vwCl[8]? = _) ⟨_, hs_e⟩ ⟨Nat.le_of_ble_eq_true rfl, Nat.le_of_ble_eq_true rfl⟩ rfl rfl (nle rfl) ⟨Nat.le_of_ble_eq_true rfl, Nat.le_of_ble_eq_true rfl⟩ (c_X8_isFigure (len := len) (nu := 0) (be := be) (b := b) (a := f) hs_e ((hs_n (by omega)).trans hb) (by omega) (by omega) (by omega) (by omega) (by omega) hbb (fun b55 hb55 => ?_))
        show G _ _ _ _ _ _ _ 58 _ _ _
        refine r_if_eq 72 dX8_readNumber_58 (by decide) ⟨by omega, by omega⟩ (fun c_58 => ?_) (fun c_58 => ?_)
        · refine r_iload dX8_readNumber_72 rfl ?_
          refine r_ireturn hq dX8_readNumber_74 rfl rfl rfl ?_
          exact hQ (f) 0 be ⟨_, (by rcases hb4 with q | q <;> first | exact Or.inl ⟨q.2, by omega⟩ | exact Or.inr ⟨q.2, by omega⟩ | (exfalso; omega)), Or.inr (Or.inl ⟨Or.inl (by rcases hb55 with q | q; (exfalso; omega); exact q.2), rfl⟩)⟩
        · refine r_aload_n dX8_readNumber_61 rfl rfl ?_
          refine r_iload dX8_readNumber_62 rfl ?_
          refine r_bipush (z := 48) dX8_readNumber_64 (by decide) ?_
          refine r_callV (av := [.int (iZ (f)), .int (iZ (48))]) dX8_readNumber_66 lkX8_isByte ml_X8_51 imX8_isByte seX8_isByte (by omega) (rfl : vwCl[8]? = _) ⟨_, hs_e⟩ ⟨Nat.le_of_ble_eq_true rfl, Nat.le_of_ble_eq_true rfl⟩ rfl rfl (nle rfl) ⟨Nat.le_of_ble_eq_true rfl, Nat.le_of_ble_eq_true rfl⟩ (c_X8_isByte (len := len) (nu := 0) (be := be) (b := b) (a := f) (ch := 48) hs_e ((hs_n (by omega)).trans hb) (by omega) (by omega) (by omega) (by omega) (by omega) hbb ⟨by decide, by decide⟩ (fun b66 hb66 => ?_))
          show G _ _ _ _ _ _ _ 69 _ _ _
          refine r_if_eq 75 dX8_readNumber_69 (by decide) ⟨by omega, by omega⟩ (fun c_69 => ?_) (fun c_69 => ?_)
          · have hfg0 : Fig len b (f) := by rcases hb55 with q | q; exact q.2; (exfalso; omega)
            have hnb0 : ¬ Byt len b (f) 48 := by rcases hb66 with q | q; (exfalso; omega); exact q.2
            have lp75 : ∀ (fu75 : Nat) (nu2 : Int) (i : Int) (n : Nat), (102 - i) < (fu75 : Int) → (i = (f) + (n : Int)) → (nu2 = dv b (f) n) → (∀ j : Nat, j < n → Fig len b ((f) + j)) → (0 ≤ nu2) → (nu2 ≤ most) → (i ≤ 101) → G X RX8 cX8_readNumber mX8_readNumber.rm N 0 0 75 [some (.ref (t)), some (.int (iZ (f))), some (.int (iZ (most))), some (.int (iZ (b4))), some (.int (iZ (i)))] [] (hs h (t) (ob 8 [.ref (t + 1), .int (iZ (len)), .ref (t + 2), .int (iZ (nu2)), .int (iZ (be))])) := by
              intro fu75
              induction fu75 with
              | zero => intro nu2 i n hm ei en hfig n0 nm i1; exfalso; omega
              | succ fu75 ih75 =>
                intro nu2 i n hms75 ei en hfig n0 nm i1
                refine r_iload dX8_readNumber_75 rfl ?_
                refine r_aload_n dX8_readNumber_77 rfl rfl ?_
                refine gf_X8_15 dX8_readNumber_78 (by omega) hs_e rfl ?_
                refine r_icmp_ge 131 dX8_readNumber_81 (by decide) ⟨by omega, by omega⟩ ⟨by omega, by omega⟩ (fun c_81 => ?_) (fun c_81 => ?_)
                · have hn1 : 1 ≤ n := by
                    cases n with
                    | zero => exfalso; have q9 := hfg0.1; have e9 : i = f := by omega
                              omega
                    | succ n => omega
                  have hrun : Run len b (f) n := ⟨hn1, hfig, fun q => by have := q.1; omega⟩
                  refine r_aload_n dX8_readNumber_131 rfl rfl ?_
                  refine r_iload_n dX8_readNumber_132 rfl rfl ?_
                  refine r_if_eq 144 dX8_readNumber_133 (by decide) ⟨by omega, by omega⟩ (fun c_133 => ?_) (fun c_133 => ?_)
                  · refine r_aload_n dX8_readNumber_144 rfl rfl ?_
                    refine gf_X8_48 dX8_readNumber_145 (by omega) hs_e rfl ?_
                    refine pf_X8_48 (fs2 := [_, _, _, _, _]) dX8_readNumber_148 (fun _ _ => rfl) (fun _ _ => rfl) (nlt rfl) (by omega) hs_e rfl ?_
                    refine g_heap (h2 := (hs h (t) (ob 8 [.ref (t + 1), .int (iZ (len)), .ref (t + 2), .int (iZ (nu2)), .int (iZ (be))]))) hs_hs ?_
                    refine r_aload_n dX8_readNumber_151 rfl rfl ?_
                    refine r_iload dX8_readNumber_152 rfl ?_
                    refine pf_X8_32 (fs2 := [_, _, _, _, _]) dX8_readNumber_154 (fun _ _ => rfl) (fun _ _ => rfl) (nlt rfl) (by omega) hs_e rfl ?_
                    refine g_heap (h2 := (hs h (t) (ob 8 [.ref (t + 1), .int (iZ (len)), .ref (t + 2), .int (iZ (nu2)), .int (iZ (i))]))) hs_hs ?_
                    refine r_bipush (z := -4) dX8_readNumber_157 (by decide) ?_
                    refine r_ireturn hq dX8_readNumber_159 rfl rfl rfl ?_
                    exact hQ _ _ _ ⟨_, (by rcases hb4 with q | q <;> first | exact Or.inl ⟨q.2, by omega⟩ | exact Or.inr ⟨q.2, by omega⟩ | (exfalso; omega)), Or.inr (Or.inr ⟨hfg0, hnb0, n, hrun, Or.inl ⟨by omega, rfl, fun z => by omega, fun z => by omega, by omega⟩⟩)⟩
                  · refine r_aload_n dX8_readNumber_136 rfl rfl ?_
                    refine gf_X8_48 dX8_readNumber_137 (by omega) hs_e rfl ?_
                    refine r_ineg dX8_readNumber_140 ?_
                    refine r_goto 148 dX8_readNumber_141 (by decide) ?_
                    refine pf_X8_48 (fs2 := [_, _, _, _, _]) dX8_readNumber_148 (fun _ _ => rfl) (fun _ _ => rfl) (nlt rfl) (by omega) hs_e rfl ?_
                    refine g_heap (h2 := (hs h (t) (ob 8 [.ref (t + 1), .int (iZ (len)), .ref (t + 2), .int (iZ (-nu2)), .int (iZ (be))]))) hs_hs ?_
                    refine r_aload_n dX8_readNumber_151 rfl rfl ?_
                    refine r_iload dX8_readNumber_152 rfl ?_
                    refine pf_X8_32 (fs2 := [_, _, _, _, _]) dX8_readNumber_154 (fun _ _ => rfl) (fun _ _ => rfl) (nlt rfl) (by omega) hs_e rfl ?_
                    refine g_heap (h2 := (hs h (t) (ob 8 [.ref (t + 1), .int (iZ (len)), .ref (t + 2), .int (iZ (-nu2)), .int (iZ (i))]))) hs_hs ?_
                    refine r_bipush (z := -4) dX8_readNumber_157 (by decide) ?_
                    refine r_ireturn hq dX8_readNumber_159 rfl rfl rfl ?_
                    exact hQ _ _ _ ⟨_, (by rcases hb4 with q | q <;> first | exact Or.inl ⟨q.2, by omega⟩ | exact Or.inr ⟨q.2, by omega⟩ | (exfalso; omega)), Or.inr (Or.inr ⟨hfg0, hnb0, n, hrun, Or.inl ⟨by omega, rfl, fun z => by omega, fun z => by omega, by omega⟩⟩)⟩
                · refine r_aload_n dX8_readNumber_84 rfl rfl ?_
                  refine r_iload dX8_readNumber_85 rfl ?_
                  refine r_callV (av := [.int (iZ (i))]) dX8_readNumber_87 lkX8_isFigure ml_X8_62 imX8_isFigure seX8_isFigure (by omega) (rfl : vwCl[8]? = _) ⟨_, hs_e⟩ ⟨Nat.le_of_ble_eq_true rfl, Nat.le_of_ble_eq_true rfl⟩ rfl rfl (nle rfl) ⟨Nat.le_of_ble_eq_true rfl, Nat.le_of_ble_eq_true rfl⟩ (c_X8_isFigure (len := len) (nu := nu2) (be := be) (b := b) (a := i) hs_e ((hs_n (by omega)).trans hb) (by omega) (by omega) (by omega) (by omega) (by omega) hbb (fun b87 hb87 => ?_))
                  show G _ _ _ _ _ _ _ 90 _ _ _
                  refine r_if_eq 131 dX8_readNumber_90 (by decide) ⟨by omega, by omega⟩ (fun c_90 => ?_) (fun c_90 => ?_)
                  · have hn1 : 1 ≤ n := by
                      cases n with
                      | zero => exfalso; have q9 := hfg0.1; have e9 : i = f := by omega
                                rw [e9] at hb87; rcases hb87 with q | q; omega; exact absurd hfg0 q.2
                      | succ n => omega
                    have hrun : Run len b (f) n := ⟨hn1, hfig, fun q => by rw [← ei] at q; rcases hb87 with z | z; omega; exact z.2 q⟩
                    refine r_aload_n dX8_readNumber_131 rfl rfl ?_
                    refine r_iload_n dX8_readNumber_132 rfl rfl ?_
                    refine r_if_eq 144 dX8_readNumber_133 (by decide) ⟨by omega, by omega⟩ (fun c_133 => ?_) (fun c_133 => ?_)
                    · refine r_aload_n dX8_readNumber_144 rfl rfl ?_
                      refine gf_X8_48 dX8_readNumber_145 (by omega) hs_e rfl ?_
                      refine pf_X8_48 (fs2 := [_, _, _, _, _]) dX8_readNumber_148 (fun _ _ => rfl) (fun _ _ => rfl) (nlt rfl) (by omega) hs_e rfl ?_
                      refine g_heap (h2 := (hs h (t) (ob 8 [.ref (t + 1), .int (iZ (len)), .ref (t + 2), .int (iZ (nu2)), .int (iZ (be))]))) hs_hs ?_
                      refine r_aload_n dX8_readNumber_151 rfl rfl ?_
                      refine r_iload dX8_readNumber_152 rfl ?_
                      refine pf_X8_32 (fs2 := [_, _, _, _, _]) dX8_readNumber_154 (fun _ _ => rfl) (fun _ _ => rfl) (nlt rfl) (by omega) hs_e rfl ?_
                      refine g_heap (h2 := (hs h (t) (ob 8 [.ref (t + 1), .int (iZ (len)), .ref (t + 2), .int (iZ (nu2)), .int (iZ (i))]))) hs_hs ?_
                      refine r_bipush (z := -4) dX8_readNumber_157 (by decide) ?_
                      refine r_ireturn hq dX8_readNumber_159 rfl rfl rfl ?_
                      exact hQ _ _ _ ⟨_, (by rcases hb4 with q | q <;> first | exact Or.inl ⟨q.2, by omega⟩ | exact Or.inr ⟨q.2, by omega⟩ | (exfalso; omega)), Or.inr (Or.inr ⟨hfg0, hnb0, n, hrun, Or.inl ⟨by omega, rfl, fun z => by omega, fun z => by omega, by omega⟩⟩)⟩
                    · refine r_aload_n dX8_readNumber_136 rfl rfl ?_
                      refine gf_X8_48 dX8_readNumber_137 (by omega) hs_e rfl ?_
                      refine r_ineg dX8_readNumber_140 ?_
                      refine r_goto 148 dX8_readNumber_141 (by decide) ?_
                      refine pf_X8_48 (fs2 := [_, _, _, _, _]) dX8_readNumber_148 (fun _ _ => rfl) (fun _ _ => rfl) (nlt rfl) (by omega) hs_e rfl ?_
                      refine g_heap (h2 := (hs h (t) (ob 8 [.ref (t + 1), .int (iZ (len)), .ref (t + 2), .int (iZ (-nu2)), .int (iZ (be))]))) hs_hs ?_
                      refine r_aload_n dX8_readNumber_151 rfl rfl ?_
                      refine r_iload dX8_readNumber_152 rfl ?_
                      refine pf_X8_32 (fs2 := [_, _, _, _, _]) dX8_readNumber_154 (fun _ _ => rfl) (fun _ _ => rfl) (nlt rfl) (by omega) hs_e rfl ?_
                      refine g_heap (h2 := (hs h (t) (ob 8 [.ref (t + 1), .int (iZ (len)), .ref (t + 2), .int (iZ (-nu2)), .int (iZ (i))]))) hs_hs ?_
                      refine r_bipush (z := -4) dX8_readNumber_157 (by decide) ?_
                      refine r_ireturn hq dX8_readNumber_159 rfl rfl rfl ?_
                      exact hQ _ _ _ ⟨_, (by rcases hb4 with q | q <;> first | exact Or.inl ⟨q.2, by omega⟩ | exact Or.inr ⟨q.2, by omega⟩ | (exfalso; omega)), Or.inr (Or.inr ⟨hfg0, hnb0, n, hrun, Or.inl ⟨by omega, rfl, fun z => by omega, fun z => by omega, by omega⟩⟩)⟩
                  · have hfg : Fig len b i := by rcases hb87 with q | q; exact q.2; (exfalso; omega)
                    have hg1 := hfg.1
                    have hg2 := hfg.2.1
                    have hg3 := hfg.2.2
                    refine r_aload_n dX8_readNumber_93 rfl rfl ?_
                    refine r_bipush (z := 10) dX8_readNumber_94 (by decide) ?_
                    refine r_aload_n dX8_readNumber_96 rfl rfl ?_
                    refine gf_X8_48 dX8_readNumber_97 (by omega) hs_e rfl ?_
                    refine r_imul dX8_readNumber_100 ?_
                    refine r_aload_n dX8_readNumber_101 rfl rfl ?_
                    refine gf_X8_9 dX8_readNumber_102 (by omega) hs_e rfl ?_
                    refine r_iload dX8_readNumber_105 rfl ?_
                    refine r_iaload dX8_readNumber_107 (by omega) ((hs_n (by omega)).trans hb) (by omega) (by omega) (by decide) ?_
                    have b_107 := hbb (i).toNat (by omega)
                    refine r_iadd dX8_readNumber_108 ?_
                    refine r_bipush (z := 48) dX8_readNumber_109 (by decide) ?_
                    refine r_isub dX8_readNumber_111 ?_
                    refine pf_X8_48 (fs2 := [_, _, _, _, _]) dX8_readNumber_112 (fun _ _ => rfl) (fun _ _ => rfl) (nlt rfl) (by omega) hs_e rfl ?_
                    refine g_heap (h2 := (hs h (t) (ob 8 [.ref (t + 1), .int (iZ (len)), .ref (t + 2), .int (iZ (((10 * nu2) + (b (i).toNat)) - 48)), .int (iZ (be))]))) hs_hs ?_
                    refine r_aload_n dX8_readNumber_115 rfl rfl ?_
                    refine gf_X8_48 dX8_readNumber_116 (by omega) hs_e rfl ?_
                    refine r_iload_n dX8_readNumber_119 rfl rfl ?_
                    refine r_icmp_le 125 dX8_readNumber_120 (by decide) ⟨by omega, by omega⟩ ⟨by omega, by omega⟩ (fun c_120 => ?_) (fun c_120 => ?_)
                    · refine r_iinc (L2 := [_, _, _, _, _]) dX8_readNumber_125 (nlt rfl) rfl rfl ?_
                      refine r_goto 75 dX8_readNumber_128 (by decide) ?_
                      exact ih75 (((10 * nu2) + (b (i).toNat)) - 48) (i + 1) (n + 1) (by omega) (by omega) (by show _ = 10 * dv b (f) n + b ((f) + (n : Int)).toNat - 48; rw [← en, ← ei]) (fun j hj => by by_cases z : j = n; (subst z; have hq := hb87; rw [ei] at hq; rcases hq with q | q; exact q.2; (exfalso; omega)); exact hfig j (by omega)) (by omega) (by omega) (by omega)
                    · refine r_iload_n dX8_readNumber_123 rfl rfl ?_
                      refine r_ireturn hq dX8_readNumber_124 rfl rfl rfl ?_
                      obtain ⟨m9, hm9, hr9⟩ := run_ex (len := len) (b := b) (a := f) (n := n + 1) (by omega) (fun j hj => by by_cases z : j = n; (subst z; rw [← ei]; exact hfg); exact hfig j (by omega))
                      have hdm := dv_mono (b := b) hm9 hr9.2.1
                      have hde : dv b (f) (n + 1) = 10 * nu2 + b i.toNat - 48 := by show 10 * dv b (f) n + b ((f) + (n : Int)).toNat - 48 = _; rw [← en, ← ei]
                      exact hQ _ _ _ ⟨_, (by rcases hb4 with q | q <;> first | exact Or.inl ⟨q.2, by omega⟩ | exact Or.inr ⟨q.2, by omega⟩ | (exfalso; omega)), Or.inr (Or.inr ⟨hfg0, hnb0, m9, hr9, Or.inr ⟨by omega, rfl⟩⟩)⟩
            exact lp75 ((102 : Int) + 1).toNat (0) (f) (0) (by omega) (by omega) rfl (fun j hj => absurd hj (Nat.not_lt_zero j)) (by omega) (by omega) (by omega)
          · refine r_iload dX8_readNumber_72 rfl ?_
            refine r_ireturn hq dX8_readNumber_74 rfl rfl rfl ?_
            exact hQ (f) 0 be ⟨_, (by rcases hb4 with q | q <;> first | exact Or.inl ⟨q.2, by omega⟩ | exact Or.inr ⟨q.2, by omega⟩ | (exfalso; omega)), Or.inr (Or.inl ⟨(by first | exact Or.inr ⟨by omega, by rcases hb66 with q | q; exact q.2; (exfalso; omega)⟩ | (exfalso; rcases hb31 with q | q; omega; rcases hb66 with z | z; exact q.2 z.2; omega)), rfl⟩)⟩
      · refine r_aload_n dX8_readNumber_41 rfl rfl ?_
        refine r_iload dX8_readNumber_42 rfl ?_
        refine r_iconst (z := 1) dX8_readNumber_44 ?_
        refine r_iadd dX8_readNumber_45 ?_
        refine pf_X8_32 (fs2 := [_, _, _, _, _]) dX8_readNumber_46 (fun _ _ => rfl) (fun _ _ => rfl) (nlt rfl) (by omega) hs_e rfl ?_
        refine g_heap (h2 := (hs h (t) (ob 8 [.ref (t + 1), .int (iZ (len)), .ref (t + 2), .int (iZ (0)), .int (iZ (f + 1))]))) hs_hs ?_
        refine r_bipush (z := -4) dX8_readNumber_49 (by decide) ?_
        refine r_ireturn hq dX8_readNumber_51 rfl rfl rfl ?_
        exact hQ _ _ _ ⟨_, (by rcases hb4 with q | q <;> first | exact Or.inl ⟨q.2, by omega⟩ | exact Or.inr ⟨q.2, by omega⟩ | (exfalso; omega)), Or.inl ⟨by omega, by rcases hb31 with q | q; exact q.2; (exfalso; omega), rfl, rfl, rfl⟩⟩
  · refine r_iload_n dX8_readNumber_12 rfl rfl ?_
    refine r_iconst (z := 1) dX8_readNumber_13 ?_
    refine r_iadd dX8_readNumber_14 ?_
    refine r_goto 19 dX8_readNumber_15 (by decide) ?_
    refine r_istore (L2 := [_, _, _, _, _]) dX8_readNumber_19 (nlt rfl) rfl ?_
    refine r_aload_n dX8_readNumber_21 rfl rfl ?_
    refine r_iconst (z := 0) dX8_readNumber_22 ?_
    refine pf_X8_48 (fs2 := [_, _, _, _, _]) dX8_readNumber_23 (fun _ _ => rfl) (fun _ _ => rfl) (nlt rfl) (by omega) ht rfl ?_
    refine r_aload_n dX8_readNumber_26 rfl rfl ?_
    refine r_iload dX8_readNumber_27 rfl ?_
    refine r_bipush (z := 48) dX8_readNumber_29 (by decide) ?_
    refine r_callV (av := [.int (iZ (f + 1)), .int (iZ (48))]) dX8_readNumber_31 lkX8_isByte ml_X8_51 imX8_isByte seX8_isByte (by omega) (rfl : vwCl[8]? = _) ⟨_, hs_e⟩ ⟨Nat.le_of_ble_eq_true rfl, Nat.le_of_ble_eq_true rfl⟩ rfl rfl (nle rfl) ⟨Nat.le_of_ble_eq_true rfl, Nat.le_of_ble_eq_true rfl⟩ (c_X8_isByte (len := len) (nu := 0) (be := be) (b := b) (a := f + 1) (ch := 48) hs_e ((hs_n (by omega)).trans hb) (by omega) (by omega) (by omega) (by omega) (by omega) hbb ⟨by decide, by decide⟩ (fun b31 hb31 => ?_))
    show G _ _ _ _ _ _ _ 34 _ _ _
    refine r_if_eq 52 dX8_readNumber_34 (by decide) ⟨by omega, by omega⟩ (fun c_34 => ?_) (fun c_34 => ?_)
    · refine r_aload_n dX8_readNumber_52 rfl rfl ?_
      refine r_iload dX8_readNumber_53 rfl ?_
      refine r_callV (av := [.int (iZ (f + 1))]) dX8_readNumber_55 lkX8_isFigure ml_X8_62 imX8_isFigure seX8_isFigure (by omega) (rfl : vwCl[8]? = _) ⟨_, hs_e⟩ ⟨Nat.le_of_ble_eq_true rfl, Nat.le_of_ble_eq_true rfl⟩ rfl rfl (nle rfl) ⟨Nat.le_of_ble_eq_true rfl, Nat.le_of_ble_eq_true rfl⟩ (c_X8_isFigure (len := len) (nu := 0) (be := be) (b := b) (a := f + 1) hs_e ((hs_n (by omega)).trans hb) (by omega) (by omega) (by omega) (by omega) (by omega) hbb (fun b55 hb55 => ?_))
      show G _ _ _ _ _ _ _ 58 _ _ _
      refine r_if_eq 72 dX8_readNumber_58 (by decide) ⟨by omega, by omega⟩ (fun c_58 => ?_) (fun c_58 => ?_)
      · refine r_iload dX8_readNumber_72 rfl ?_
        refine r_ireturn hq dX8_readNumber_74 rfl rfl rfl ?_
        exact hQ (f + 1) 0 be ⟨_, (by rcases hb4 with q | q <;> first | exact Or.inl ⟨q.2, by omega⟩ | exact Or.inr ⟨q.2, by omega⟩ | (exfalso; omega)), Or.inr (Or.inl ⟨Or.inl (by rcases hb55 with q | q; (exfalso; omega); exact q.2), rfl⟩)⟩
      · refine r_aload_n dX8_readNumber_61 rfl rfl ?_
        refine r_iload dX8_readNumber_62 rfl ?_
        refine r_bipush (z := 48) dX8_readNumber_64 (by decide) ?_
        refine r_callV (av := [.int (iZ (f + 1)), .int (iZ (48))]) dX8_readNumber_66 lkX8_isByte ml_X8_51 imX8_isByte seX8_isByte (by omega) (rfl : vwCl[8]? = _) ⟨_, hs_e⟩ ⟨Nat.le_of_ble_eq_true rfl, Nat.le_of_ble_eq_true rfl⟩ rfl rfl (nle rfl) ⟨Nat.le_of_ble_eq_true rfl, Nat.le_of_ble_eq_true rfl⟩ (c_X8_isByte (len := len) (nu := 0) (be := be) (b := b) (a := f + 1) (ch := 48) hs_e ((hs_n (by omega)).trans hb) (by omega) (by omega) (by omega) (by omega) (by omega) hbb ⟨by decide, by decide⟩ (fun b66 hb66 => ?_))
        show G _ _ _ _ _ _ _ 69 _ _ _
        refine r_if_eq 75 dX8_readNumber_69 (by decide) ⟨by omega, by omega⟩ (fun c_69 => ?_) (fun c_69 => ?_)
        · have hfg0 : Fig len b (f + 1) := by rcases hb55 with q | q; exact q.2; (exfalso; omega)
          have hnb0 : ¬ Byt len b (f + 1) 48 := by rcases hb66 with q | q; (exfalso; omega); exact q.2
          have lp75 : ∀ (fu75 : Nat) (nu2 : Int) (i : Int) (n : Nat), (102 - i) < (fu75 : Int) → (i = (f + 1) + (n : Int)) → (nu2 = dv b (f + 1) n) → (∀ j : Nat, j < n → Fig len b ((f + 1) + j)) → (0 ≤ nu2) → (nu2 ≤ most) → (i ≤ 101) → G X RX8 cX8_readNumber mX8_readNumber.rm N 0 0 75 [some (.ref (t)), some (.int (iZ (f))), some (.int (iZ (most))), some (.int (iZ (b4))), some (.int (iZ (i)))] [] (hs h (t) (ob 8 [.ref (t + 1), .int (iZ (len)), .ref (t + 2), .int (iZ (nu2)), .int (iZ (be))])) := by
            intro fu75
            induction fu75 with
            | zero => intro nu2 i n hm ei en hfig n0 nm i1; exfalso; omega
            | succ fu75 ih75 =>
              intro nu2 i n hms75 ei en hfig n0 nm i1
              refine r_iload dX8_readNumber_75 rfl ?_
              refine r_aload_n dX8_readNumber_77 rfl rfl ?_
              refine gf_X8_15 dX8_readNumber_78 (by omega) hs_e rfl ?_
              refine r_icmp_ge 131 dX8_readNumber_81 (by decide) ⟨by omega, by omega⟩ ⟨by omega, by omega⟩ (fun c_81 => ?_) (fun c_81 => ?_)
              · have hn1 : 1 ≤ n := by
                  cases n with
                  | zero => exfalso; have q9 := hfg0.1; have e9 : i = f + 1 := by omega
                            omega
                  | succ n => omega
                have hrun : Run len b (f + 1) n := ⟨hn1, hfig, fun q => by have := q.1; omega⟩
                refine r_aload_n dX8_readNumber_131 rfl rfl ?_
                refine r_iload_n dX8_readNumber_132 rfl rfl ?_
                refine r_if_eq 144 dX8_readNumber_133 (by decide) ⟨by omega, by omega⟩ (fun c_133 => ?_) (fun c_133 => ?_)
                · refine r_aload_n dX8_readNumber_144 rfl rfl ?_
                  refine gf_X8_48 dX8_readNumber_145 (by omega) hs_e rfl ?_
                  refine pf_X8_48 (fs2 := [_, _, _, _, _]) dX8_readNumber_148 (fun _ _ => rfl) (fun _ _ => rfl) (nlt rfl) (by omega) hs_e rfl ?_
                  refine g_heap (h2 := (hs h (t) (ob 8 [.ref (t + 1), .int (iZ (len)), .ref (t + 2), .int (iZ (nu2)), .int (iZ (be))]))) hs_hs ?_
                  refine r_aload_n dX8_readNumber_151 rfl rfl ?_
                  refine r_iload dX8_readNumber_152 rfl ?_
                  refine pf_X8_32 (fs2 := [_, _, _, _, _]) dX8_readNumber_154 (fun _ _ => rfl) (fun _ _ => rfl) (nlt rfl) (by omega) hs_e rfl ?_
                  refine g_heap (h2 := (hs h (t) (ob 8 [.ref (t + 1), .int (iZ (len)), .ref (t + 2), .int (iZ (nu2)), .int (iZ (i))]))) hs_hs ?_
                  refine r_bipush (z := -4) dX8_readNumber_157 (by decide) ?_
                  refine r_ireturn hq dX8_readNumber_159 rfl rfl rfl ?_
                  exact hQ _ _ _ ⟨_, (by rcases hb4 with q | q <;> first | exact Or.inl ⟨q.2, by omega⟩ | exact Or.inr ⟨q.2, by omega⟩ | (exfalso; omega)), Or.inr (Or.inr ⟨hfg0, hnb0, n, hrun, Or.inl ⟨by omega, rfl, fun z => by omega, fun z => by omega, by omega⟩⟩)⟩
                · refine r_aload_n dX8_readNumber_136 rfl rfl ?_
                  refine gf_X8_48 dX8_readNumber_137 (by omega) hs_e rfl ?_
                  refine r_ineg dX8_readNumber_140 ?_
                  refine r_goto 148 dX8_readNumber_141 (by decide) ?_
                  refine pf_X8_48 (fs2 := [_, _, _, _, _]) dX8_readNumber_148 (fun _ _ => rfl) (fun _ _ => rfl) (nlt rfl) (by omega) hs_e rfl ?_
                  refine g_heap (h2 := (hs h (t) (ob 8 [.ref (t + 1), .int (iZ (len)), .ref (t + 2), .int (iZ (-nu2)), .int (iZ (be))]))) hs_hs ?_
                  refine r_aload_n dX8_readNumber_151 rfl rfl ?_
                  refine r_iload dX8_readNumber_152 rfl ?_
                  refine pf_X8_32 (fs2 := [_, _, _, _, _]) dX8_readNumber_154 (fun _ _ => rfl) (fun _ _ => rfl) (nlt rfl) (by omega) hs_e rfl ?_
                  refine g_heap (h2 := (hs h (t) (ob 8 [.ref (t + 1), .int (iZ (len)), .ref (t + 2), .int (iZ (-nu2)), .int (iZ (i))]))) hs_hs ?_
                  refine r_bipush (z := -4) dX8_readNumber_157 (by decide) ?_
                  refine r_ireturn hq dX8_readNumber_159 rfl rfl rfl ?_
                  exact hQ _ _ _ ⟨_, (by rcases hb4 with q | q <;> first | exact Or.inl ⟨q.2, by omega⟩ | exact Or.inr ⟨q.2, by omega⟩ | (exfalso; omega)), Or.inr (Or.inr ⟨hfg0, hnb0, n, hrun, Or.inl ⟨by omega, rfl, fun z => by omega, fun z => by omega, by omega⟩⟩)⟩
              · refine r_aload_n dX8_readNumber_84 rfl rfl ?_
                refine r_iload dX8_readNumber_85 rfl ?_
                refine r_callV (av := [.int (iZ (i))]) dX8_readNumber_87 lkX8_isFigure ml_X8_62 imX8_isFigure seX8_isFigure (by omega) (rfl : vwCl[8]? = _) ⟨_, hs_e⟩ ⟨Nat.le_of_ble_eq_true rfl, Nat.le_of_ble_eq_true rfl⟩ rfl rfl (nle rfl) ⟨Nat.le_of_ble_eq_true rfl, Nat.le_of_ble_eq_true rfl⟩ (c_X8_isFigure (len := len) (nu := nu2) (be := be) (b := b) (a := i) hs_e ((hs_n (by omega)).trans hb) (by omega) (by omega) (by omega) (by omega) (by omega) hbb (fun b87 hb87 => ?_))
                show G _ _ _ _ _ _ _ 90 _ _ _
                refine r_if_eq 131 dX8_readNumber_90 (by decide) ⟨by omega, by omega⟩ (fun c_90 => ?_) (fun c_90 => ?_)
                · have hn1 : 1 ≤ n := by
                    cases n with
                    | zero => exfalso; have q9 := hfg0.1; have e9 : i = f + 1 := by omega
                              rw [e9] at hb87; rcases hb87 with q | q; omega; exact absurd hfg0 q.2
                    | succ n => omega
                  have hrun : Run len b (f + 1) n := ⟨hn1, hfig, fun q => by rw [← ei] at q; rcases hb87 with z | z; omega; exact z.2 q⟩
                  refine r_aload_n dX8_readNumber_131 rfl rfl ?_
                  refine r_iload_n dX8_readNumber_132 rfl rfl ?_
                  refine r_if_eq 144 dX8_readNumber_133 (by decide) ⟨by omega, by omega⟩ (fun c_133 => ?_) (fun c_133 => ?_)
                  · refine r_aload_n dX8_readNumber_144 rfl rfl ?_
                    refine gf_X8_48 dX8_readNumber_145 (by omega) hs_e rfl ?_
                    refine pf_X8_48 (fs2 := [_, _, _, _, _]) dX8_readNumber_148 (fun _ _ => rfl) (fun _ _ => rfl) (nlt rfl) (by omega) hs_e rfl ?_
                    refine g_heap (h2 := (hs h (t) (ob 8 [.ref (t + 1), .int (iZ (len)), .ref (t + 2), .int (iZ (nu2)), .int (iZ (be))]))) hs_hs ?_
                    refine r_aload_n dX8_readNumber_151 rfl rfl ?_
                    refine r_iload dX8_readNumber_152 rfl ?_
                    refine pf_X8_32 (fs2 := [_, _, _, _, _]) dX8_readNumber_154 (fun _ _ => rfl) (fun _ _ => rfl) (nlt rfl) (by omega) hs_e rfl ?_
                    refine g_heap (h2 := (hs h (t) (ob 8 [.ref (t + 1), .int (iZ (len)), .ref (t + 2), .int (iZ (nu2)), .int (iZ (i))]))) hs_hs ?_
                    refine r_bipush (z := -4) dX8_readNumber_157 (by decide) ?_
                    refine r_ireturn hq dX8_readNumber_159 rfl rfl rfl ?_
                    exact hQ _ _ _ ⟨_, (by rcases hb4 with q | q <;> first | exact Or.inl ⟨q.2, by omega⟩ | exact Or.inr ⟨q.2, by omega⟩ | (exfalso; omega)), Or.inr (Or.inr ⟨hfg0, hnb0, n, hrun, Or.inl ⟨by omega, rfl, fun z => by omega, fun z => by omega, by omega⟩⟩)⟩
                  · refine r_aload_n dX8_readNumber_136 rfl rfl ?_
                    refine gf_X8_48 dX8_readNumber_137 (by omega) hs_e rfl ?_
                    refine r_ineg dX8_readNumber_140 ?_
                    refine r_goto 148 dX8_readNumber_141 (by decide) ?_
                    refine pf_X8_48 (fs2 := [_, _, _, _, _]) dX8_readNumber_148 (fun _ _ => rfl) (fun _ _ => rfl) (nlt rfl) (by omega) hs_e rfl ?_
                    refine g_heap (h2 := (hs h (t) (ob 8 [.ref (t + 1), .int (iZ (len)), .ref (t + 2), .int (iZ (-nu2)), .int (iZ (be))]))) hs_hs ?_
                    refine r_aload_n dX8_readNumber_151 rfl rfl ?_
                    refine r_iload dX8_readNumber_152 rfl ?_
                    refine pf_X8_32 (fs2 := [_, _, _, _, _]) dX8_readNumber_154 (fun _ _ => rfl) (fun _ _ => rfl) (nlt rfl) (by omega) hs_e rfl ?_
                    refine g_heap (h2 := (hs h (t) (ob 8 [.ref (t + 1), .int (iZ (len)), .ref (t + 2), .int (iZ (-nu2)), .int (iZ (i))]))) hs_hs ?_
                    refine r_bipush (z := -4) dX8_readNumber_157 (by decide) ?_
                    refine r_ireturn hq dX8_readNumber_159 rfl rfl rfl ?_
                    exact hQ _ _ _ ⟨_, (by rcases hb4 with q | q <;> first | exact Or.inl ⟨q.2, by omega⟩ | exact Or.inr ⟨q.2, by omega⟩ | (exfalso; omega)), Or.inr (Or.inr ⟨hfg0, hnb0, n, hrun, Or.inl ⟨by omega, rfl, fun z => by omega, fun z => by omega, by omega⟩⟩)⟩
                · have hfg : Fig len b i := by rcases hb87 with q | q; exact q.2; (exfalso; omega)
                  have hg1 := hfg.1
                  have hg2 := hfg.2.1
                  have hg3 := hfg.2.2
                  refine r_aload_n dX8_readNumber_93 rfl rfl ?_
                  refine r_bipush (z := 10) dX8_readNumber_94 (by decide) ?_
                  refine r_aload_n dX8_readNumber_96 rfl rfl ?_
                  refine gf_X8_48 dX8_readNumber_97 (by omega) hs_e rfl ?_
                  refine r_imul dX8_readNumber_100 ?_
                  refine r_aload_n dX8_readNumber_101 rfl rfl ?_
                  refine gf_X8_9 dX8_readNumber_102 (by omega) hs_e rfl ?_
                  refine r_iload dX8_readNumber_105 rfl ?_
                  refine r_iaload dX8_readNumber_107 (by omega) ((hs_n (by omega)).trans hb) (by omega) (by omega) (by decide) ?_
                  have b_107 := hbb (i).toNat (by omega)
                  refine r_iadd dX8_readNumber_108 ?_
                  refine r_bipush (z := 48) dX8_readNumber_109 (by decide) ?_
                  refine r_isub dX8_readNumber_111 ?_
                  refine pf_X8_48 (fs2 := [_, _, _, _, _]) dX8_readNumber_112 (fun _ _ => rfl) (fun _ _ => rfl) (nlt rfl) (by omega) hs_e rfl ?_
                  refine g_heap (h2 := (hs h (t) (ob 8 [.ref (t + 1), .int (iZ (len)), .ref (t + 2), .int (iZ (((10 * nu2) + (b (i).toNat)) - 48)), .int (iZ (be))]))) hs_hs ?_
                  refine r_aload_n dX8_readNumber_115 rfl rfl ?_
                  refine gf_X8_48 dX8_readNumber_116 (by omega) hs_e rfl ?_
                  refine r_iload_n dX8_readNumber_119 rfl rfl ?_
                  refine r_icmp_le 125 dX8_readNumber_120 (by decide) ⟨by omega, by omega⟩ ⟨by omega, by omega⟩ (fun c_120 => ?_) (fun c_120 => ?_)
                  · refine r_iinc (L2 := [_, _, _, _, _]) dX8_readNumber_125 (nlt rfl) rfl rfl ?_
                    refine r_goto 75 dX8_readNumber_128 (by decide) ?_
                    exact ih75 (((10 * nu2) + (b (i).toNat)) - 48) (i + 1) (n + 1) (by omega) (by omega) (by show _ = 10 * dv b (f + 1) n + b ((f + 1) + (n : Int)).toNat - 48; rw [← en, ← ei]) (fun j hj => by by_cases z : j = n; (subst z; have hq := hb87; rw [ei] at hq; rcases hq with q | q; exact q.2; (exfalso; omega)); exact hfig j (by omega)) (by omega) (by omega) (by omega)
                  · refine r_iload_n dX8_readNumber_123 rfl rfl ?_
                    refine r_ireturn hq dX8_readNumber_124 rfl rfl rfl ?_
                    obtain ⟨m9, hm9, hr9⟩ := run_ex (len := len) (b := b) (a := f + 1) (n := n + 1) (by omega) (fun j hj => by by_cases z : j = n; (subst z; rw [← ei]; exact hfg); exact hfig j (by omega))
                    have hdm := dv_mono (b := b) hm9 hr9.2.1
                    have hde : dv b (f + 1) (n + 1) = 10 * nu2 + b i.toNat - 48 := by show 10 * dv b (f + 1) n + b ((f + 1) + (n : Int)).toNat - 48 = _; rw [← en, ← ei]
                    exact hQ _ _ _ ⟨_, (by rcases hb4 with q | q <;> first | exact Or.inl ⟨q.2, by omega⟩ | exact Or.inr ⟨q.2, by omega⟩ | (exfalso; omega)), Or.inr (Or.inr ⟨hfg0, hnb0, m9, hr9, Or.inr ⟨by omega, rfl⟩⟩)⟩
          exact lp75 ((102 : Int) + 1).toNat (0) (f + 1) (0) (by omega) (by omega) rfl (fun j hj => absurd hj (Nat.not_lt_zero j)) (by omega) (by omega) (by omega)
        · refine r_iload dX8_readNumber_72 rfl ?_
          refine r_ireturn hq dX8_readNumber_74 rfl rfl rfl ?_
          exact hQ (f + 1) 0 be ⟨_, (by rcases hb4 with q | q <;> first | exact Or.inl ⟨q.2, by omega⟩ | exact Or.inr ⟨q.2, by omega⟩ | (exfalso; omega)), Or.inr (Or.inl ⟨(by first | exact Or.inr ⟨by omega, by rcases hb66 with q | q; exact q.2; (exfalso; omega)⟩ | (exfalso; rcases hb31 with q | q; omega; rcases hb66 with z | z; exact q.2 z.2; omega)), rfl⟩)⟩
    · refine r_iload_n dX8_readNumber_37 rfl rfl ?_
      refine r_if_ne 52 dX8_readNumber_38 (by decide) ⟨by omega, by omega⟩ (fun c_38 => ?_) (fun c_38 => ?_)
      · refine r_aload_n dX8_readNumber_52 rfl rfl ?_
        refine r_iload dX8_readNumber_53 rfl ?_
        refine r_callV (av := [.int (iZ (f + 1))]) dX8_readNumber_55 lkX8_isFigure ml_X8_62 imX8_isFigure seX8_isFigure (by omega) (rfl : vwCl[8]? = _) ⟨_, hs_e⟩ ⟨Nat.le_of_ble_eq_true rfl, Nat.le_of_ble_eq_true rfl⟩ rfl rfl (nle rfl) ⟨Nat.le_of_ble_eq_true rfl, Nat.le_of_ble_eq_true rfl⟩ (c_X8_isFigure (len := len) (nu := 0) (be := be) (b := b) (a := f + 1) hs_e ((hs_n (by omega)).trans hb) (by omega) (by omega) (by omega) (by omega) (by omega) hbb (fun b55 hb55 => ?_))
        show G _ _ _ _ _ _ _ 58 _ _ _
        refine r_if_eq 72 dX8_readNumber_58 (by decide) ⟨by omega, by omega⟩ (fun c_58 => ?_) (fun c_58 => ?_)
        · refine r_iload dX8_readNumber_72 rfl ?_
          refine r_ireturn hq dX8_readNumber_74 rfl rfl rfl ?_
          exact hQ (f + 1) 0 be ⟨_, (by rcases hb4 with q | q <;> first | exact Or.inl ⟨q.2, by omega⟩ | exact Or.inr ⟨q.2, by omega⟩ | (exfalso; omega)), Or.inr (Or.inl ⟨Or.inl (by rcases hb55 with q | q; (exfalso; omega); exact q.2), rfl⟩)⟩
        · refine r_aload_n dX8_readNumber_61 rfl rfl ?_
          refine r_iload dX8_readNumber_62 rfl ?_
          refine r_bipush (z := 48) dX8_readNumber_64 (by decide) ?_
          refine r_callV (av := [.int (iZ (f + 1)), .int (iZ (48))]) dX8_readNumber_66 lkX8_isByte ml_X8_51 imX8_isByte seX8_isByte (by omega) (rfl : vwCl[8]? = _) ⟨_, hs_e⟩ ⟨Nat.le_of_ble_eq_true rfl, Nat.le_of_ble_eq_true rfl⟩ rfl rfl (nle rfl) ⟨Nat.le_of_ble_eq_true rfl, Nat.le_of_ble_eq_true rfl⟩ (c_X8_isByte (len := len) (nu := 0) (be := be) (b := b) (a := f + 1) (ch := 48) hs_e ((hs_n (by omega)).trans hb) (by omega) (by omega) (by omega) (by omega) (by omega) hbb ⟨by decide, by decide⟩ (fun b66 hb66 => ?_))
          show G _ _ _ _ _ _ _ 69 _ _ _
          refine r_if_eq 75 dX8_readNumber_69 (by decide) ⟨by omega, by omega⟩ (fun c_69 => ?_) (fun c_69 => ?_)
          · have hfg0 : Fig len b (f + 1) := by rcases hb55 with q | q; exact q.2; (exfalso; omega)
            have hnb0 : ¬ Byt len b (f + 1) 48 := by rcases hb66 with q | q; (exfalso; omega); exact q.2
            have lp75 : ∀ (fu75 : Nat) (nu2 : Int) (i : Int) (n : Nat), (102 - i) < (fu75 : Int) → (i = (f + 1) + (n : Int)) → (nu2 = dv b (f + 1) n) → (∀ j : Nat, j < n → Fig len b ((f + 1) + j)) → (0 ≤ nu2) → (nu2 ≤ most) → (i ≤ 101) → G X RX8 cX8_readNumber mX8_readNumber.rm N 0 0 75 [some (.ref (t)), some (.int (iZ (f))), some (.int (iZ (most))), some (.int (iZ (b4))), some (.int (iZ (i)))] [] (hs h (t) (ob 8 [.ref (t + 1), .int (iZ (len)), .ref (t + 2), .int (iZ (nu2)), .int (iZ (be))])) := by
              intro fu75
              induction fu75 with
              | zero => intro nu2 i n hm ei en hfig n0 nm i1; exfalso; omega
              | succ fu75 ih75 =>
                intro nu2 i n hms75 ei en hfig n0 nm i1
                refine r_iload dX8_readNumber_75 rfl ?_
                refine r_aload_n dX8_readNumber_77 rfl rfl ?_
                refine gf_X8_15 dX8_readNumber_78 (by omega) hs_e rfl ?_
                refine r_icmp_ge 131 dX8_readNumber_81 (by decide) ⟨by omega, by omega⟩ ⟨by omega, by omega⟩ (fun c_81 => ?_) (fun c_81 => ?_)
                · have hn1 : 1 ≤ n := by
                    cases n with
                    | zero => exfalso; have q9 := hfg0.1; have e9 : i = f + 1 := by omega
                              omega
                    | succ n => omega
                  have hrun : Run len b (f + 1) n := ⟨hn1, hfig, fun q => by have := q.1; omega⟩
                  refine r_aload_n dX8_readNumber_131 rfl rfl ?_
                  refine r_iload_n dX8_readNumber_132 rfl rfl ?_
                  refine r_if_eq 144 dX8_readNumber_133 (by decide) ⟨by omega, by omega⟩ (fun c_133 => ?_) (fun c_133 => ?_)
                  · refine r_aload_n dX8_readNumber_144 rfl rfl ?_
                    refine gf_X8_48 dX8_readNumber_145 (by omega) hs_e rfl ?_
                    refine pf_X8_48 (fs2 := [_, _, _, _, _]) dX8_readNumber_148 (fun _ _ => rfl) (fun _ _ => rfl) (nlt rfl) (by omega) hs_e rfl ?_
                    refine g_heap (h2 := (hs h (t) (ob 8 [.ref (t + 1), .int (iZ (len)), .ref (t + 2), .int (iZ (nu2)), .int (iZ (be))]))) hs_hs ?_
                    refine r_aload_n dX8_readNumber_151 rfl rfl ?_
                    refine r_iload dX8_readNumber_152 rfl ?_
                    refine pf_X8_32 (fs2 := [_, _, _, _, _]) dX8_readNumber_154 (fun _ _ => rfl) (fun _ _ => rfl) (nlt rfl) (by omega) hs_e rfl ?_
                    refine g_heap (h2 := (hs h (t) (ob 8 [.ref (t + 1), .int (iZ (len)), .ref (t + 2), .int (iZ (nu2)), .int (iZ (i))]))) hs_hs ?_
                    refine r_bipush (z := -4) dX8_readNumber_157 (by decide) ?_
                    refine r_ireturn hq dX8_readNumber_159 rfl rfl rfl ?_
                    exact hQ _ _ _ ⟨_, (by rcases hb4 with q | q <;> first | exact Or.inl ⟨q.2, by omega⟩ | exact Or.inr ⟨q.2, by omega⟩ | (exfalso; omega)), Or.inr (Or.inr ⟨hfg0, hnb0, n, hrun, Or.inl ⟨by omega, rfl, fun z => by omega, fun z => by omega, by omega⟩⟩)⟩
                  · refine r_aload_n dX8_readNumber_136 rfl rfl ?_
                    refine gf_X8_48 dX8_readNumber_137 (by omega) hs_e rfl ?_
                    refine r_ineg dX8_readNumber_140 ?_
                    refine r_goto 148 dX8_readNumber_141 (by decide) ?_
                    refine pf_X8_48 (fs2 := [_, _, _, _, _]) dX8_readNumber_148 (fun _ _ => rfl) (fun _ _ => rfl) (nlt rfl) (by omega) hs_e rfl ?_
                    refine g_heap (h2 := (hs h (t) (ob 8 [.ref (t + 1), .int (iZ (len)), .ref (t + 2), .int (iZ (-nu2)), .int (iZ (be))]))) hs_hs ?_
                    refine r_aload_n dX8_readNumber_151 rfl rfl ?_
                    refine r_iload dX8_readNumber_152 rfl ?_
                    refine pf_X8_32 (fs2 := [_, _, _, _, _]) dX8_readNumber_154 (fun _ _ => rfl) (fun _ _ => rfl) (nlt rfl) (by omega) hs_e rfl ?_
                    refine g_heap (h2 := (hs h (t) (ob 8 [.ref (t + 1), .int (iZ (len)), .ref (t + 2), .int (iZ (-nu2)), .int (iZ (i))]))) hs_hs ?_
                    refine r_bipush (z := -4) dX8_readNumber_157 (by decide) ?_
                    refine r_ireturn hq dX8_readNumber_159 rfl rfl rfl ?_
                    exact hQ _ _ _ ⟨_, (by rcases hb4 with q | q <;> first | exact Or.inl ⟨q.2, by omega⟩ | exact Or.inr ⟨q.2, by omega⟩ | (exfalso; omega)), Or.inr (Or.inr ⟨hfg0, hnb0, n, hrun, Or.inl ⟨by omega, rfl, fun z => by omega, fun z => by omega, by omega⟩⟩)⟩
                · refine r_aload_n dX8_readNumber_84 rfl rfl ?_
                  refine r_iload dX8_readNumber_85 rfl ?_
                  refine r_callV (av := [.int (iZ (i))]) dX8_readNumber_87 lkX8_isFigure ml_X8_62 imX8_isFigure seX8_isFigure (by omega) (rfl : vwCl[8]? = _) ⟨_, hs_e⟩ ⟨Nat.le_of_ble_eq_true rfl, Nat.le_of_ble_eq_true rfl⟩ rfl rfl (nle rfl) ⟨Nat.le_of_ble_eq_true rfl, Nat.le_of_ble_eq_true rfl⟩ (c_X8_isFigure (len := len) (nu := nu2) (be := be) (b := b) (a := i) hs_e ((hs_n (by omega)).trans hb) (by omega) (by omega) (by omega) (by omega) (by omega) hbb (fun b87 hb87 => ?_))
                  show G _ _ _ _ _ _ _ 90 _ _ _
                  refine r_if_eq 131 dX8_readNumber_90 (by decide) ⟨by omega, by omega⟩ (fun c_90 => ?_) (fun c_90 => ?_)
                  · have hn1 : 1 ≤ n := by
                      cases n with
                      | zero => exfalso; have q9 := hfg0.1; have e9 : i = f + 1 := by omega
                                rw [e9] at hb87; rcases hb87 with q | q; omega; exact absurd hfg0 q.2
                      | succ n => omega
                    have hrun : Run len b (f + 1) n := ⟨hn1, hfig, fun q => by rw [← ei] at q; rcases hb87 with z | z; omega; exact z.2 q⟩
                    refine r_aload_n dX8_readNumber_131 rfl rfl ?_
                    refine r_iload_n dX8_readNumber_132 rfl rfl ?_
                    refine r_if_eq 144 dX8_readNumber_133 (by decide) ⟨by omega, by omega⟩ (fun c_133 => ?_) (fun c_133 => ?_)
                    · refine r_aload_n dX8_readNumber_144 rfl rfl ?_
                      refine gf_X8_48 dX8_readNumber_145 (by omega) hs_e rfl ?_
                      refine pf_X8_48 (fs2 := [_, _, _, _, _]) dX8_readNumber_148 (fun _ _ => rfl) (fun _ _ => rfl) (nlt rfl) (by omega) hs_e rfl ?_
                      refine g_heap (h2 := (hs h (t) (ob 8 [.ref (t + 1), .int (iZ (len)), .ref (t + 2), .int (iZ (nu2)), .int (iZ (be))]))) hs_hs ?_
                      refine r_aload_n dX8_readNumber_151 rfl rfl ?_
                      refine r_iload dX8_readNumber_152 rfl ?_
                      refine pf_X8_32 (fs2 := [_, _, _, _, _]) dX8_readNumber_154 (fun _ _ => rfl) (fun _ _ => rfl) (nlt rfl) (by omega) hs_e rfl ?_
                      refine g_heap (h2 := (hs h (t) (ob 8 [.ref (t + 1), .int (iZ (len)), .ref (t + 2), .int (iZ (nu2)), .int (iZ (i))]))) hs_hs ?_
                      refine r_bipush (z := -4) dX8_readNumber_157 (by decide) ?_
                      refine r_ireturn hq dX8_readNumber_159 rfl rfl rfl ?_
                      exact hQ _ _ _ ⟨_, (by rcases hb4 with q | q <;> first | exact Or.inl ⟨q.2, by omega⟩ | exact Or.inr ⟨q.2, by omega⟩ | (exfalso; omega)), Or.inr (Or.inr ⟨hfg0, hnb0, n, hrun, Or.inl ⟨by omega, rfl, fun z => by omega, fun z => by omega, by omega⟩⟩)⟩
                    · refine r_aload_n dX8_readNumber_136 rfl rfl ?_
                      refine gf_X8_48 dX8_readNumber_137 (by omega) hs_e rfl ?_
                      refine r_ineg dX8_readNumber_140 ?_
                      refine r_goto 148 dX8_readNumber_141 (by decide) ?_
                      refine pf_X8_48 (fs2 := [_, _, _, _, _]) dX8_readNumber_148 (fun _ _ => rfl) (fun _ _ => rfl) (nlt rfl) (by omega) hs_e rfl ?_
                      refine g_heap (h2 := (hs h (t) (ob 8 [.ref (t + 1), .int (iZ (len)), .ref (t + 2), .int (iZ (-nu2)), .int (iZ (be))]))) hs_hs ?_
                      refine r_aload_n dX8_readNumber_151 rfl rfl ?_
                      refine r_iload dX8_readNumber_152 rfl ?_
                      refine pf_X8_32 (fs2 := [_, _, _, _, _]) dX8_readNumber_154 (fun _ _ => rfl) (fun _ _ => rfl) (nlt rfl) (by omega) hs_e rfl ?_
                      refine g_heap (h2 := (hs h (t) (ob 8 [.ref (t + 1), .int (iZ (len)), .ref (t + 2), .int (iZ (-nu2)), .int (iZ (i))]))) hs_hs ?_
                      refine r_bipush (z := -4) dX8_readNumber_157 (by decide) ?_
                      refine r_ireturn hq dX8_readNumber_159 rfl rfl rfl ?_
                      exact hQ _ _ _ ⟨_, (by rcases hb4 with q | q <;> first | exact Or.inl ⟨q.2, by omega⟩ | exact Or.inr ⟨q.2, by omega⟩ | (exfalso; omega)), Or.inr (Or.inr ⟨hfg0, hnb0, n, hrun, Or.inl ⟨by omega, rfl, fun z => by omega, fun z => by omega, by omega⟩⟩)⟩
                  · have hfg : Fig len b i := by rcases hb87 with q | q; exact q.2; (exfalso; omega)
                    have hg1 := hfg.1
                    have hg2 := hfg.2.1
                    have hg3 := hfg.2.2
                    refine r_aload_n dX8_readNumber_93 rfl rfl ?_
                    refine r_bipush (z := 10) dX8_readNumber_94 (by decide) ?_
                    refine r_aload_n dX8_readNumber_96 rfl rfl ?_
                    refine gf_X8_48 dX8_readNumber_97 (by omega) hs_e rfl ?_
                    refine r_imul dX8_readNumber_100 ?_
                    refine r_aload_n dX8_readNumber_101 rfl rfl ?_
                    refine gf_X8_9 dX8_readNumber_102 (by omega) hs_e rfl ?_
                    refine r_iload dX8_readNumber_105 rfl ?_
                    refine r_iaload dX8_readNumber_107 (by omega) ((hs_n (by omega)).trans hb) (by omega) (by omega) (by decide) ?_
                    have b_107 := hbb (i).toNat (by omega)
                    refine r_iadd dX8_readNumber_108 ?_
                    refine r_bipush (z := 48) dX8_readNumber_109 (by decide) ?_
                    refine r_isub dX8_readNumber_111 ?_
                    refine pf_X8_48 (fs2 := [_, _, _, _, _]) dX8_readNumber_112 (fun _ _ => rfl) (fun _ _ => rfl) (nlt rfl) (by omega) hs_e rfl ?_
                    refine g_heap (h2 := (hs h (t) (ob 8 [.ref (t + 1), .int (iZ (len)), .ref (t + 2), .int (iZ (((10 * nu2) + (b (i).toNat)) - 48)), .int (iZ (be))]))) hs_hs ?_
                    refine r_aload_n dX8_readNumber_115 rfl rfl ?_
                    refine gf_X8_48 dX8_readNumber_116 (by omega) hs_e rfl ?_
                    refine r_iload_n dX8_readNumber_119 rfl rfl ?_
                    refine r_icmp_le 125 dX8_readNumber_120 (by decide) ⟨by omega, by omega⟩ ⟨by omega, by omega⟩ (fun c_120 => ?_) (fun c_120 => ?_)
                    · refine r_iinc (L2 := [_, _, _, _, _]) dX8_readNumber_125 (nlt rfl) rfl rfl ?_
                      refine r_goto 75 dX8_readNumber_128 (by decide) ?_
                      exact ih75 (((10 * nu2) + (b (i).toNat)) - 48) (i + 1) (n + 1) (by omega) (by omega) (by show _ = 10 * dv b (f + 1) n + b ((f + 1) + (n : Int)).toNat - 48; rw [← en, ← ei]) (fun j hj => by by_cases z : j = n; (subst z; have hq := hb87; rw [ei] at hq; rcases hq with q | q; exact q.2; (exfalso; omega)); exact hfig j (by omega)) (by omega) (by omega) (by omega)
                    · refine r_iload_n dX8_readNumber_123 rfl rfl ?_
                      refine r_ireturn hq dX8_readNumber_124 rfl rfl rfl ?_
                      obtain ⟨m9, hm9, hr9⟩ := run_ex (len := len) (b := b) (a := f + 1) (n := n + 1) (by omega) (fun j hj => by by_cases z : j = n; (subst z; rw [← ei]; exact hfg); exact hfig j (by omega))
                      have hdm := dv_mono (b := b) hm9 hr9.2.1
                      have hde : dv b (f + 1) (n + 1) = 10 * nu2 + b i.toNat - 48 := by show 10 * dv b (f + 1) n + b ((f + 1) + (n : Int)).toNat - 48 = _; rw [← en, ← ei]
                      exact hQ _ _ _ ⟨_, (by rcases hb4 with q | q <;> first | exact Or.inl ⟨q.2, by omega⟩ | exact Or.inr ⟨q.2, by omega⟩ | (exfalso; omega)), Or.inr (Or.inr ⟨hfg0, hnb0, m9, hr9, Or.inr ⟨by omega, rfl⟩⟩)⟩
            exact lp75 ((102 : Int) + 1).toNat (0) (f + 1) (0) (by omega) (by omega) rfl (fun j hj => absurd hj (Nat.not_lt_zero j)) (by omega) (by omega) (by omega)
          · refine r_iload dX8_readNumber_72 rfl ?_
            refine r_ireturn hq dX8_readNumber_74 rfl rfl rfl ?_
            exact hQ (f + 1) 0 be ⟨_, (by rcases hb4 with q | q <;> first | exact Or.inl ⟨q.2, by omega⟩ | exact Or.inr ⟨q.2, by omega⟩ | (exfalso; omega)), Or.inr (Or.inl ⟨(by first | exact Or.inr ⟨by omega, by rcases hb66 with q | q; exact q.2; (exfalso; omega)⟩ | (exfalso; rcases hb31 with q | q; omega; rcases hb66 with z | z; exact q.2 z.2; omega)), rfl⟩)⟩
      · refine r_aload_n dX8_readNumber_41 rfl rfl ?_
        refine r_iload dX8_readNumber_42 rfl ?_
        refine r_iconst (z := 1) dX8_readNumber_44 ?_
        refine r_iadd dX8_readNumber_45 ?_
        refine pf_X8_32 (fs2 := [_, _, _, _, _]) dX8_readNumber_46 (fun _ _ => rfl) (fun _ _ => rfl) (nlt rfl) (by omega) hs_e rfl ?_
        refine g_heap (h2 := (hs h (t) (ob 8 [.ref (t + 1), .int (iZ (len)), .ref (t + 2), .int (iZ (0)), .int (iZ ((f + 1) + 1))]))) hs_hs ?_
        refine r_bipush (z := -4) dX8_readNumber_49 (by decide) ?_
        refine r_ireturn hq dX8_readNumber_51 rfl rfl rfl ?_
        exact hQ _ _ _ ⟨_, (by rcases hb4 with q | q <;> first | exact Or.inl ⟨q.2, by omega⟩ | exact Or.inr ⟨q.2, by omega⟩ | (exfalso; omega)), Or.inl ⟨by omega, by rcases hb31 with q | q; exact q.2; (exfalso; omega), rfl, rfl, rfl⟩⟩
set_option maxHeartbeats 2000000 in
set_option maxRecDepth 20000 in
theorem c_X8_readLaw {N : Nat} {h : Hp} {Q : QP} {t k : Nat} {len nu be : Int} {b c s : Nat → Int} (ht : h t = TXo t len nu be) (hb : h (t + 1) = aI 100 b) (hr : RowAt h (t + 2) k c s) (hN : t + 4 < N) (hl0 : 0 ≤ len) (hl : len ≤ 100) (hbb : ∀ j, j < 100 → 0 ≤ b j ∧ b j ≤ 255) (hQ : ∀ (r : Int) (k2 : Nat) (c2 c3 : Nat → Int) (st nu2 be2 : Int) (ko : Int), LawP len b 6 0 0 (fun _ => 0) r k2 c2 st → (r = -4 → ko = (k2 : Int) ∧ be2 + 1 = st ∧ ∀ j, 1 ≤ j → j ≤ k2 → c3 j = c2 j) → ((∀ j, j < 7 → -100000 ≤ c j ∧ c j ≤ 100000) → ∀ j, j < 7 → -100000 ≤ c3 j ∧ c3 j ≤ 100000) → (ko = (k : Int) ∨ ∃ k9 : Nat, ko = (k9 : Int) ∧ 1 ≤ k9 ∧ k9 ≤ 6) → c3 0 = c 0 → Q (some (.int (iZ r))) N (hs (hs (hs h t (TXo t len nu2 be2)) (t + 2 + 1) (aL 7 c3)) (t + 2) (ob 7 [.int (iZ ko), .ref (t + 2 + 1), .ref (t + 2 + 2)]))) : Runs mX8_readLaw [.ref (t)] N h Q := by
  refine run_start (own := RX8) rfl (by decide) (nle rfl) rfl (fun X hq hini => ?_)
  show G X RX8 cX8_readLaw mX8_readLaw.rm N 0 0 0 [some (.ref (t)), none, none, none] [] h
  refine r_iconst (z := 0) dX8_readLaw_0 ?_
  refine r_istore_n (L2 := [_, _, none, none]) dX8_readLaw_1 rfl (nlt rfl) rfl ?_
  refine r_iconst (z := 1) dX8_readLaw_2 ?_
  refine r_istore_n (L2 := [_, _, _, none]) dX8_readLaw_3 rfl (nlt rfl) rfl ?_
  have lp4 : ∀ (fu4 : Nat) (nu2 : Int) (be2 : Int) (c3 : Nat → Int) (p : Int) (i : Int) (n : Nat) (cg : Nat → Int), (7 - i) < (fu4 : Int) → (i = (n : Int) + 1) → (n ≤ 5) → (0 ≤ p) → (p ≤ len) → (∀ j, 1 ≤ j → j ≤ n → c3 j = cg j) → (∀ (r : Int) (k2 : Nat) (c2 : Nat → Int) (st : Int), LawP len b (6 - n) n p cg r k2 c2 st → LawP len b 6 0 0 (fun _ => 0) r k2 c2 st) → ((∀ j, j < 7 → -100000 ≤ c j ∧ c j ≤ 100000) → ∀ j, j < 7 → -100000 ≤ c3 j ∧ c3 j ≤ 100000) → (c3 0 = c 0) → G X RX8 cX8_readLaw mX8_readLaw.rm N 0 0 4 [some (.ref (t)), some (.int (iZ (p))), some (.int (iZ (i))), none] [] (hs (hs h (t) (ob 8 [.ref (t + 1), .int (iZ (len)), .ref (t + 2), .int (iZ (nu2)), .int (iZ (be2))])) (t + 2 + 1) (aL 7 (c3))) := by
    intro fu4
    induction fu4 with
    | zero => intro nu2 be2 c3 p i n cg hm ei n5 p0 pl hcg hP hcb hc0; exfalso; omega
    | succ fu4 ih4 =>
      intro nu2 be2 c3 p i n cg hms4 ei n5 p0 pl hcg hP hcb hc0
      obtain ⟨d9, hd9⟩ : ∃ d9, 6 - n = d9 + 1 := ⟨5 - n, by omega⟩
      refine r_iload_n dX8_readLaw_4 rfl rfl ?_
      refine r_bipush (z := 6) dX8_readLaw_5 (by decide) ?_
      refine r_icmp_gt 115 dX8_readLaw_7 (by decide) ⟨by omega, by omega⟩ ⟨by decide, by decide⟩ (fun c_7 => by exfalso; omega) (fun c_7 => ?_)
      refine r_aload_n dX8_readLaw_10 rfl rfl ?_
      refine r_iload_n dX8_readLaw_11 rfl rfl ?_
      refine r_ldc (z := 100000) dX8_readLaw_12 kc_X8_39 ?_
      refine r_callV (av := [.int (iZ (p)), .int (iZ (100000))]) dX8_readLaw_14 lkX8_readNumber ml_X8_40 imX8_readNumber seX8_readNumber (by omega) (rfl : vwCl[8]? = _) ⟨_, ((hs_n (by omega)).trans hs_e)⟩ ⟨Nat.le_of_ble_eq_true rfl, Nat.le_of_ble_eq_true rfl⟩ rfl rfl (nle rfl) ⟨Nat.le_of_ble_eq_true rfl, Nat.le_of_ble_eq_true rfl⟩ (c_X8_readNumber (len := len) (nu := nu2) (be := be2) (b := b) (f := p) (most := 100000) ((hs_n (by omega)).trans hs_e) ((hs_n (by omega)).trans ((hs_n (by omega)).trans hb)) (by omega) (by omega) (by omega) (by omega) (by omega) hbb (by omega) (by omega) (fun w14 v14 e14 hn14 => ?_))
      refine g_heap (h2 := (hs (hs h (t) (ob 8 [.ref (t + 1), .int (iZ (len)), .ref (t + 2), .int (iZ (v14)), .int (iZ (e14))])) (t + 2 + 1) (aL 7 (c3)))) (hs_put (by omega) hs_hs) ?_
      have hw14 := hn14.bd (by omega) (by omega) (by decide)
      show G _ _ _ _ _ _ _ 17 _ _ _
      refine r_istore_n (L2 := [_, _, _, _]) dX8_readLaw_17 rfl (nlt rfl) rfl ?_
      refine r_iload_n dX8_readLaw_18 rfl rfl ?_
      refine r_bipush (z := -4) dX8_readLaw_19 (by decide) ?_
      refine r_icmp_eq 26 dX8_readLaw_21 (by decide) ⟨by omega, by omega⟩ ⟨by decide, by decide⟩ (fun c_21 => ?_) (fun c_21 => ?_)
      · have hok : w14 = -4 := by omega
        have hv9 : e14 ≤ len ∧ 0 < e14 ∧ -100000 ≤ v14 ∧ v14 ≤ 100000 := by omega
        have en1 : i.toNat = n + 1 := by omega
        refine r_aload_n dX8_readLaw_26 rfl rfl ?_
        refine gf_X8_22 dX8_readLaw_27 (by omega) ((hs_n (by omega)).trans hs_e) rfl ?_
        refine gf_X8_44 dX8_readLaw_30 (by omega) ((hs_n (by omega)).trans ((hs_n (by omega)).trans hr.1)) rfl ?_
        refine r_iload_n dX8_readLaw_33 rfl rfl ?_
        refine r_aload_n dX8_readLaw_34 rfl rfl ?_
        refine gf_X8_48 dX8_readLaw_35 (by omega) ((hs_n (by omega)).trans hs_e) rfl ?_
        refine r_i2l dX8_readLaw_38 ⟨by omega, by omega⟩ ?_
        refine r_lastore dX8_readLaw_39 (by omega) hs_e (by omega) (by omega) (by decide) ?_
        refine g_heap (h2 := (hs (hs h (t) (ob 8 [.ref (t + 1), .int (iZ (len)), .ref (t + 2), .int (iZ (v14)), .int (iZ (e14))])) (t + 2 + 1) (aL 7 (uA (c3) (i).toNat (v14))))) hs_hs ?_
        refine r_aload_n dX8_readLaw_40 rfl rfl ?_
        refine r_aload_n dX8_readLaw_41 rfl rfl ?_
        refine gf_X8_32 dX8_readLaw_42 (by omega) ((hs_n (by omega)).trans hs_e) rfl ?_
        refine r_bipush (z := 58) dX8_readLaw_45 (by decide) ?_
        refine r_callV (av := [.int (iZ (e14)), .int (iZ (58))]) dX8_readLaw_47 lkX8_isByte ml_X8_51 imX8_isByte seX8_isByte (by omega) (rfl : vwCl[8]? = _) ⟨_, ((hs_n (by omega)).trans hs_e)⟩ ⟨Nat.le_of_ble_eq_true rfl, Nat.le_of_ble_eq_true rfl⟩ rfl rfl (nle rfl) ⟨Nat.le_of_ble_eq_true rfl, Nat.le_of_ble_eq_true rfl⟩ (c_X8_isByte (len := len) (nu := v14) (be := e14) (b := b) (a := e14) (ch := 58) ((hs_n (by omega)).trans hs_e) ((hs_n (by omega)).trans ((hs_n (by omega)).trans hb)) (by omega) (by omega) (by omega) (by omega) (by omega) hbb ⟨by decide, by decide⟩ (fun b47 hb47 => ?_))
        show G _ _ _ _ _ _ _ 50 _ _ _
        refine r_if_eq 78 dX8_readLaw_50 (by decide) ⟨by omega, by omega⟩ (fun c_50 => ?_) (fun c_50 => ?_)
        · have hncol : ¬ Byt len b e14 58 := by rcases hb47 with q | q; (exfalso; omega); exact q.2
          refine r_aload_n dX8_readLaw_78 rfl rfl ?_
          refine r_aload_n dX8_readLaw_79 rfl rfl ?_
          refine gf_X8_32 dX8_readLaw_80 (by omega) ((hs_n (by omega)).trans hs_e) rfl ?_
          refine r_bipush (z := 44) dX8_readLaw_83 (by decide) ?_
          refine r_callV (av := [.int (iZ (e14)), .int (iZ (44))]) dX8_readLaw_85 lkX8_isByte ml_X8_51 imX8_isByte seX8_isByte (by omega) (rfl : vwCl[8]? = _) ⟨_, ((hs_n (by omega)).trans hs_e)⟩ ⟨Nat.le_of_ble_eq_true rfl, Nat.le_of_ble_eq_true rfl⟩ rfl rfl (nle rfl) ⟨Nat.le_of_ble_eq_true rfl, Nat.le_of_ble_eq_true rfl⟩ (c_X8_isByte (len := len) (nu := v14) (be := e14) (b := b) (a := e14) (ch := 44) ((hs_n (by omega)).trans hs_e) ((hs_n (by omega)).trans ((hs_n (by omega)).trans hb)) (by omega) (by omega) (by omega) (by omega) (by omega) hbb ⟨by decide, by decide⟩ (fun b85 hb85 => ?_))
          show G _ _ _ _ _ _ _ 88 _ _ _
          refine r_if_eq 97 dX8_readLaw_88 (by decide) ⟨by omega, by omega⟩ (fun c_88 => ?_) (fun c_88 => ?_)
          · refine r_aload_n dX8_readLaw_97 rfl rfl ?_
            refine gf_X8_32 dX8_readLaw_98 (by omega) ((hs_n (by omega)).trans hs_e) rfl ?_
            refine r_ireturn hq dX8_readLaw_101 rfl rfl rfl ?_
            have hfin := hQ e14 0 (fun _ => 0) _ 0 v14 e14 (k : Int) (hP _ _ _ _ (by rw [hd9]; exact ⟨w14, v14, e14, hn14, Or.inr ⟨hok, Or.inr (Or.inr (Or.inl ⟨hncol, by left; intro q9; rcases hb85 with q | q; omega; exact q.2 q9, rfl⟩))⟩⟩)) (fun z => by omega) (fun z j hj => by show _ ≤ uA c3 i.toNat v14 j ∧ uA c3 i.toNat v14 j ≤ _; rw [en1]; by_cases q : j = n + 1; (subst q; rw [uA_e]; omega); rw [uA_n q]; exact hcb z j hj) (Or.inl rfl) (by show uA c3 i.toNat v14 0 = _; rw [en1, uA_n (by omega)]; exact hc0)
            rw [hs_id (h := hs (hs h t (TXo t len v14 e14)) (t + 2 + 1) (aL 7 _)) ((hs_n (by omega)).trans ((hs_n (by omega)).trans hr.1))] at hfin
            exact hfin
          · refine r_iload_n dX8_readLaw_91 rfl rfl ?_
            refine r_bipush (z := 6) dX8_readLaw_92 (by decide) ?_
            refine r_icmp_ne 102 dX8_readLaw_94 (by decide) ⟨by omega, by omega⟩ ⟨by decide, by decide⟩ (fun c_94 => ?_) (fun c_94 => ?_)
            · have hcom : Byt len b e14 44 := by rcases hb85 with q | q; exact q.2; (exfalso; omega)
              refine r_aload_n dX8_readLaw_102 rfl rfl ?_
              refine gf_X8_32 dX8_readLaw_103 (by omega) ((hs_n (by omega)).trans hs_e) rfl ?_
              refine r_iconst (z := 1) dX8_readLaw_106 ?_
              refine r_iadd dX8_readLaw_107 ?_
              refine r_istore_n (L2 := [_, _, _, _]) dX8_readLaw_108 rfl (nlt rfl) rfl ?_
              refine r_iinc (L2 := [_, _, _, _]) dX8_readLaw_109 (nlt rfl) rfl rfl ?_
              refine r_goto 4 dX8_readLaw_112 (by decide) ?_
              refine r_mask [true, true, true, false] (L2 := [_, _, _, none]) rfl ?_
              exact ih4 (v14) (e14) (uA (c3) (i).toNat (v14)) (e14 + 1) (i + 1) (n + 1) ((uA cg (n + 1) v14)) (by omega) (by omega) (by omega) (by omega) (by have := hcom.1; omega) (fun j h1 h2 => by rw [en1]; by_cases z : j = n + 1; (subst z; rw [uA_e, uA_e]); rw [uA_n z, uA_n z]; exact hcg j h1 (by omega)) (fun r k2 c2 st z => hP r k2 c2 st (by rw [hd9]; have hd : d9 = 6 - (n + 1) := (by omega); rw [hd]; exact ⟨w14, v14, e14, hn14, Or.inr ⟨hok, Or.inr (Or.inr (Or.inr ⟨hncol, hcom, by omega, z⟩))⟩⟩)) (fun z j hj => by rw [en1]; by_cases q : j = n + 1; (subst q; rw [uA_e]; omega); rw [uA_n q]; exact hcb z j hj) (by rw [en1, uA_n (by omega)]; exact hc0)
            · refine r_aload_n dX8_readLaw_97 rfl rfl ?_
              refine gf_X8_32 dX8_readLaw_98 (by omega) ((hs_n (by omega)).trans hs_e) rfl ?_
              refine r_ireturn hq dX8_readLaw_101 rfl rfl rfl ?_
              have hfin := hQ e14 0 (fun _ => 0) _ 0 v14 e14 (k : Int) (hP _ _ _ _ (by rw [hd9]; exact ⟨w14, v14, e14, hn14, Or.inr ⟨hok, Or.inr (Or.inr (Or.inl ⟨hncol, by right; omega, rfl⟩))⟩⟩)) (fun z => by omega) (fun z j hj => by show _ ≤ uA c3 i.toNat v14 j ∧ uA c3 i.toNat v14 j ≤ _; rw [en1]; by_cases q : j = n + 1; (subst q; rw [uA_e]; omega); rw [uA_n q]; exact hcb z j hj) (Or.inl rfl) (by show uA c3 i.toNat v14 0 = _; rw [en1, uA_n (by omega)]; exact hc0)
              rw [hs_id (h := hs (hs h t (TXo t len v14 e14)) (t + 2 + 1) (aL 7 _)) ((hs_n (by omega)).trans ((hs_n (by omega)).trans hr.1))] at hfin
              exact hfin
        · refine r_aload_n dX8_readLaw_53 rfl rfl ?_
          refine gf_X8_22 dX8_readLaw_54 (by omega) ((hs_n (by omega)).trans hs_e) rfl ?_
          refine r_iload_n dX8_readLaw_57 rfl rfl ?_
          refine pf_X8_55 (fs2 := [_, _, _]) dX8_readLaw_58 (fun _ _ => rfl) (fun _ _ => rfl) (nlt rfl) (by omega) ((hs_n (by omega)).trans ((hs_n (by omega)).trans hr.1)) rfl ?_
          refine r_aload_n dX8_readLaw_61 rfl rfl ?_
          refine gf_X8_48 dX8_readLaw_62 (by omega) ((hs_n (by omega)).trans ((hs_n (by omega)).trans hs_e)) rfl ?_
          refine r_if_ne 75 dX8_readLaw_65 (by decide) ⟨by omega, by omega⟩ (fun c_65 => ?_) (fun c_65 => ?_)
          · refine r_bipush (z := -4) dX8_readLaw_75 (by decide) ?_
            refine r_ireturn hq dX8_readLaw_77 rfl rfl rfl ?_
            have hcol : Byt len b e14 58 := by rcases hb47 with q | q; exact q.2; (exfalso; omega)
            exact hQ _ (n + 1) (uA cg (n + 1) v14) _ (e14 + 1) _ _ _ (hP _ _ _ _ (by rw [hd9]; exact ⟨w14, v14, e14, hn14, Or.inr ⟨hok, Or.inr (Or.inl ⟨hcol, by omega, rfl, rfl, rfl, rfl⟩)⟩⟩)) (fun z => ⟨by omega, rfl, fun j h1 h2 => by rw [en1]; by_cases z : j = n + 1; (subst z; rw [uA_e, uA_e]); rw [uA_n z, uA_n z]; exact hcg j h1 (by omega)⟩) (fun z j hj => by rw [en1]; by_cases q : j = n + 1; (subst q; rw [uA_e]; omega); rw [uA_n q]; exact hcb z j hj) (Or.inr ⟨n + 1, by omega, by omega, by omega⟩) (by rw [en1, uA_n (by omega)]; exact hc0)
          · refine r_aload_n dX8_readLaw_68 rfl rfl ?_
            refine gf_X8_32 dX8_readLaw_69 (by omega) ((hs_n (by omega)).trans ((hs_n (by omega)).trans hs_e)) rfl ?_
            refine r_goto 77 dX8_readLaw_72 (by decide) ?_
            refine r_ireturn hq dX8_readLaw_77 rfl rfl rfl ?_
            have hcol : Byt len b e14 58 := by rcases hb47 with q | q; exact q.2; (exfalso; omega)
            exact hQ _ (n + 1) (uA cg (n + 1) v14) _ (e14 + 1) _ _ _ (hP _ _ _ _ (by rw [hd9]; exact ⟨w14, v14, e14, hn14, Or.inr ⟨hok, Or.inl ⟨hcol, by omega, rfl⟩⟩⟩)) (fun z => ⟨by omega, rfl, fun j h1 h2 => by rw [en1]; by_cases z : j = n + 1; (subst z; rw [uA_e, uA_e]); rw [uA_n z, uA_n z]; exact hcg j h1 (by omega)⟩) (fun z j hj => by rw [en1]; by_cases q : j = n + 1; (subst q; rw [uA_e]; omega); rw [uA_n q]; exact hcb z j hj) (Or.inr ⟨n + 1, by omega, by omega, by omega⟩) (by rw [en1, uA_n (by omega)]; exact hc0)
      · refine r_iload_n dX8_readLaw_24 rfl rfl ?_
        refine r_ireturn hq dX8_readLaw_25 rfl rfl rfl ?_
        have hfin := hQ w14 0 (fun _ => 0) c3 0 v14 e14 (k : Int) (hP _ _ _ _ (by rw [hd9]; exact ⟨w14, v14, e14, hn14, Or.inl ⟨c_21, rfl⟩⟩)) (fun z => absurd z c_21) hcb (Or.inl rfl) hc0
        rw [hs_id (h := hs (hs h t (TXo t len v14 e14)) (t + 2 + 1) (aL 7 c3)) ((hs_n (by omega)).trans ((hs_n (by omega)).trans hr.1))] at hfin
        exact hfin
  refine g_heap (hs_id (c := ob 8 [.ref (t + 1), .int (iZ (len)), .ref (t + 2), .int (iZ (nu)), .int (iZ (be))]) ht).symm ?_
  refine g_heap (hs_id (c := aL 7 (c)) ((hs_n (by omega)).trans hr.2.1)).symm ?_
  exact lp4 ((7 : Int) + 1).toNat (nu) (be) (c) (0) (1) (0) ((fun _ => 0)) (by omega) (by decide) (by decide) (by decide) (by omega) (fun j h1 h2 => by omega) (fun r k2 c2 st z => z) (fun z => z) rfl
set_option maxHeartbeats 2000000 in
set_option maxRecDepth 20000 in
theorem c_X8_readStarts {N : Nat} {h : Hp} {Q : QP} {t k : Nat} {ki len nu be f : Int} {b c s : Nat → Int} (hki : ki = (k : Int)) (ht : h t = TXo t len nu be) (hb : h (t + 1) = aI 100 b) (hr0 : h (t + 2) = ob 7 [.int (iZ ki), .ref (t + 2 + 1), .ref (t + 2 + 2)]) (hr2 : h (t + 2 + 2) = aL 6 s) (hN : t + 4 < N) (hk0 : 1 ≤ k) (hk : k ≤ 6) (hl0 : 0 ≤ len) (hl : len ≤ 100) (hf0 : 0 ≤ f) (hf : f ≤ len) (hbb : ∀ j, j < 100 → 0 ≤ b j ∧ b j ≤ 255) (hQ : ∀ (r : Int) (s2 s3 : Nat → Int) (nu2 be2 : Int), StP len b k k 0 f (fun _ => 0) r s2 → (r = -4 → ∀ j, j < k → s3 j = s2 j) → ((∀ j, j < 6 → -1000000 ≤ s j ∧ s j ≤ 1000000) → ∀ j, j < 6 → -1000000 ≤ s3 j ∧ s3 j ≤ 1000000) → Q (some (.int (iZ r))) N (hs (hs h t (TXo t len nu2 be2)) (t + 2 + 2) (aL 6 s3))) : Runs mX8_readStarts [.ref (t), .int (iZ (f))] N h Q := by
  refine run_start (own := RX8) rfl (by decide) (nle rfl) rfl (fun X hq hini => ?_)
  show G X RX8 cX8_readStarts mX8_readStarts.rm N 0 0 0 [some (.ref (t)), some (.int (iZ (f))), none, none, none, none] [] h
  refine r_iload_n dX8_readStarts_0 rfl rfl ?_
  refine r_istore_n (L2 := [_, _, _, none, none, none]) dX8_readStarts_1 rfl (nlt rfl) rfl ?_
  refine r_iconst (z := 0) dX8_readStarts_2 ?_
  refine r_istore_n (L2 := [_, _, _, _, none, none]) dX8_readStarts_3 rfl (nlt rfl) rfl ?_
  have lp4 : ∀ (fu4 : Nat) (nu2 : Int) (be2 : Int) (s3 : Nat → Int) (p : Int) (i : Int) (n : Nat) (sg : Nat → Int), (7 - i) < (fu4 : Int) → (i = (n : Int)) → (n ≤ k) → (0 ≤ p) → (n < k → p ≤ len) → (∀ j, j < n → s3 j = sg j) → (n < k → ∀ (r : Int) (s2 : Nat → Int), StP len b k (k - n) n p sg r s2 → StP len b k k 0 f (fun _ => 0) r s2) → (n = k → (be2 < len → ∃ s2, StP len b k k 0 f (fun _ => 0) be2 s2) ∧ (len ≤ be2 → StP len b k k 0 f (fun _ => 0) (-4) sg) ∧ 0 ≤ be2 ∧ be2 ≤ 1000) → ((∀ j, j < 6 → -1000000 ≤ s j ∧ s j ≤ 1000000) → ∀ j, j < 6 → -1000000 ≤ s3 j ∧ s3 j ≤ 1000000) → G X RX8 cX8_readStarts mX8_readStarts.rm N 0 0 4 [some (.ref (t)), some (.int (iZ (f))), some (.int (iZ (p))), some (.int (iZ (i))), none, none] [] (hs (hs h (t) (ob 8 [.ref (t + 1), .int (iZ (len)), .ref (t + 2), .int (iZ (nu2)), .int (iZ (be2))])) (t + 2 + 2) (aL 6 (s3))) := by
    intro fu4
    induction fu4 with
    | zero => intro nu2 be2 s3 p i n sg hm ei nk p0 pl hsg hP hE hsb; exfalso; omega
    | succ fu4 ih4 =>
      intro nu2 be2 s3 p i n sg hms4 ei nk p0 pl hsg hP hE hsb
      refine r_iload_n dX8_readStarts_4 rfl rfl ?_
      refine r_aload_n dX8_readStarts_5 rfl rfl ?_
      refine gf_X8_22 dX8_readStarts_6 (by omega) ((hs_n (by omega)).trans hs_e) rfl ?_
      refine gf_X8_55 dX8_readStarts_9 (by omega) ((hs_n (by omega)).trans ((hs_n (by omega)).trans hr0)) rfl ?_
      refine r_icmp_ge 104 dX8_readStarts_12 (by decide) ⟨by omega, by omega⟩ ⟨by omega, by omega⟩ (fun c_12 => ?_) (fun c_12 => ?_)
      · have hnk : n = k := by omega
        obtain ⟨hE1, hE2, hE3, hE4⟩ := hE hnk
        refine r_aload_n dX8_readStarts_104 rfl rfl ?_
        refine gf_X8_32 dX8_readStarts_105 (by omega) ((hs_n (by omega)).trans hs_e) rfl ?_
        refine r_aload_n dX8_readStarts_108 rfl rfl ?_
        refine gf_X8_15 dX8_readStarts_109 (by omega) ((hs_n (by omega)).trans hs_e) rfl ?_
        refine r_icmp_ge 122 dX8_readStarts_112 (by decide) ⟨by omega, by omega⟩ ⟨by omega, by omega⟩ (fun c_112 => ?_) (fun c_112 => ?_)
        · refine r_bipush (z := -4) dX8_readStarts_122 (by decide) ?_
          refine r_ireturn hq dX8_readStarts_124 rfl rfl rfl ?_
          exact hQ _ sg s3 nu2 be2 (hE2 (by omega)) (fun _ j hj => hsg j (by omega)) hsb
        · refine r_aload_n dX8_readStarts_115 rfl rfl ?_
          refine gf_X8_32 dX8_readStarts_116 (by omega) ((hs_n (by omega)).trans hs_e) rfl ?_
          refine r_goto 124 dX8_readStarts_119 (by decide) ?_
          refine r_ireturn hq dX8_readStarts_124 rfl rfl rfl ?_
          obtain ⟨s9, hs9⟩ := hE1 (by omega)
          exact hQ _ s9 s3 nu2 be2 hs9 (fun z => by omega) hsb
      · refine r_aload_n dX8_readStarts_15 rfl rfl ?_
        have hn : n < k := by omega
        have hpl := pl hn
        obtain ⟨d9, hd9⟩ : ∃ d9, k - n = d9 + 1 := ⟨k - n - 1, by omega⟩
        refine r_iload_n dX8_readStarts_16 rfl rfl ?_
        refine r_ldc (z := 1000000) dX8_readStarts_17 kc_X8_58 ?_
        refine r_callV (av := [.int (iZ (p)), .int (iZ (1000000))]) dX8_readStarts_19 lkX8_readNumber ml_X8_40 imX8_readNumber seX8_readNumber (by omega) (rfl : vwCl[8]? = _) ⟨_, ((hs_n (by omega)).trans hs_e)⟩ ⟨Nat.le_of_ble_eq_true rfl, Nat.le_of_ble_eq_true rfl⟩ rfl rfl (nle rfl) ⟨Nat.le_of_ble_eq_true rfl, Nat.le_of_ble_eq_true rfl⟩ (c_X8_readNumber (len := len) (nu := nu2) (be := be2) (b := b) (f := p) (most := 1000000) ((hs_n (by omega)).trans hs_e) ((hs_n (by omega)).trans ((hs_n (by omega)).trans hb)) (by omega) (by omega) (by omega) (by omega) (by omega) hbb (by omega) (by omega) (fun w19 v19 e19 hn19 => ?_))
        refine g_heap (h2 := (hs (hs h (t) (ob 8 [.ref (t + 1), .int (iZ (len)), .ref (t + 2), .int (iZ (v19)), .int (iZ (e19))])) (t + 2 + 2) (aL 6 (s3)))) (hs_put (by omega) hs_hs) ?_
        have hw19 := hn19.bd (by omega) (by omega) (by decide)
        show G _ _ _ _ _ _ _ 22 _ _ _
        refine r_istore (L2 := [_, _, _, _, _, none]) dX8_readStarts_22 (nlt rfl) rfl ?_
        refine r_iload dX8_readStarts_24 rfl ?_
        refine r_bipush (z := -4) dX8_readStarts_26 (by decide) ?_
        refine r_icmp_eq 34 dX8_readStarts_28 (by decide) ⟨by omega, by omega⟩ ⟨by decide, by decide⟩ (fun c_28 => ?_) (fun c_28 => ?_)
        · have hok : w19 = -4 := by omega
          have hv9 : e19 ≤ len ∧ 0 < e19 ∧ -1000000 ≤ v19 ∧ v19 ≤ 1000000 := by omega
          have en : i.toNat = n := by omega
          refine r_aload_n dX8_readStarts_34 rfl rfl ?_
          refine gf_X8_22 dX8_readStarts_35 (by omega) ((hs_n (by omega)).trans hs_e) rfl ?_
          refine gf_X8_59 dX8_readStarts_38 (by omega) ((hs_n (by omega)).trans ((hs_n (by omega)).trans hr0)) rfl ?_
          refine r_iload_n dX8_readStarts_41 rfl rfl ?_
          refine r_aload_n dX8_readStarts_42 rfl rfl ?_
          refine gf_X8_48 dX8_readStarts_43 (by omega) ((hs_n (by omega)).trans hs_e) rfl ?_
          refine r_i2l dX8_readStarts_46 ⟨by omega, by omega⟩ ?_
          refine r_lastore dX8_readStarts_47 (by omega) hs_e (by omega) (by omega) (by decide) ?_
          refine g_heap (h2 := (hs (hs h (t) (ob 8 [.ref (t + 1), .int (iZ (len)), .ref (t + 2), .int (iZ (v19)), .int (iZ (e19))])) (t + 2 + 2) (aL 6 (uA (s3) (i).toNat (v19))))) hs_hs ?_
          refine r_iload_n dX8_readStarts_48 rfl rfl ?_
          refine r_aload_n dX8_readStarts_49 rfl rfl ?_
          refine gf_X8_22 dX8_readStarts_50 (by omega) ((hs_n (by omega)).trans hs_e) rfl ?_
          refine gf_X8_55 dX8_readStarts_53 (by omega) ((hs_n (by omega)).trans ((hs_n (by omega)).trans hr0)) rfl ?_
          refine r_iconst (z := 1) dX8_readStarts_56 ?_
          refine r_isub dX8_readStarts_57 ?_
          refine r_icmp_ne 65 dX8_readStarts_58 (by decide) ⟨by omega, by omega⟩ ⟨by omega, by omega⟩ (fun c_58 => ?_) (fun c_58 => ?_)
          · refine r_iconst (z := 0) dX8_readStarts_65 ?_
            refine r_istore (L2 := [_, _, _, _, _, _]) dX8_readStarts_66 (nlt rfl) rfl ?_
            refine r_iload dX8_readStarts_68 rfl ?_
            refine r_if_ne 91 dX8_readStarts_70 (by decide) ⟨by decide, by decide⟩ (fun c_70 => by exfalso; omega) (fun c_70 => ?_)
            refine r_aload_n dX8_readStarts_73 rfl rfl ?_
            refine r_aload_n dX8_readStarts_74 rfl rfl ?_
            refine gf_X8_32 dX8_readStarts_75 (by omega) ((hs_n (by omega)).trans hs_e) rfl ?_
            refine r_bipush (z := 44) dX8_readStarts_78 (by decide) ?_
            refine r_callV (av := [.int (iZ (e19)), .int (iZ (44))]) dX8_readStarts_80 lkX8_isByte ml_X8_51 imX8_isByte seX8_isByte (by omega) (rfl : vwCl[8]? = _) ⟨_, ((hs_n (by omega)).trans hs_e)⟩ ⟨Nat.le_of_ble_eq_true rfl, Nat.le_of_ble_eq_true rfl⟩ rfl rfl (nle rfl) ⟨Nat.le_of_ble_eq_true rfl, Nat.le_of_ble_eq_true rfl⟩ (c_X8_isByte (len := len) (nu := v19) (be := e19) (b := b) (a := e19) (ch := 44) ((hs_n (by omega)).trans hs_e) ((hs_n (by omega)).trans ((hs_n (by omega)).trans hb)) (by omega) (by omega) (by omega) (by omega) (by omega) hbb ⟨by decide, by decide⟩ (fun b80 hb80 => ?_))
            show G _ _ _ _ _ _ _ 83 _ _ _
            refine r_if_ne 91 dX8_readStarts_83 (by decide) ⟨by omega, by omega⟩ (fun c_83 => ?_) (fun c_83 => ?_)
            · have hcom : Byt len b e19 44 := by rcases hb80 with q | q; exact q.2; (exfalso; omega)
              refine r_aload_n dX8_readStarts_91 rfl rfl ?_
              refine gf_X8_32 dX8_readStarts_92 (by omega) ((hs_n (by omega)).trans hs_e) rfl ?_
              refine r_iconst (z := 1) dX8_readStarts_95 ?_
              refine r_iadd dX8_readStarts_96 ?_
              refine r_istore_n (L2 := [_, _, _, _, _, _]) dX8_readStarts_97 rfl (nlt rfl) rfl ?_
              refine r_iinc (L2 := [_, _, _, _, _, _]) dX8_readStarts_98 (nlt rfl) rfl rfl ?_
              refine r_goto 4 dX8_readStarts_101 (by decide) ?_
              refine r_mask [true, true, true, true, false, false] (L2 := [_, _, _, _, none, none]) rfl ?_
              exact ih4 (v19) (e19) (uA (s3) (i).toNat (v19)) (e19 + 1) (i + 1) (n + 1) ((uA sg n v19)) (by omega) (by omega) (by omega) (by omega) (fun z => by have := hcom.1; omega) (fun j hj => by rw [en]; by_cases z : j = n; (subst z; rw [uA_e, uA_e]); rw [uA_n z, uA_n z]; exact hsg j (by omega)) (fun z r s2 y => hP hn r s2 (by rw [hd9]; have hd : d9 = k - (n + 1) := (by omega); rw [hd]; exact ⟨w19, v19, e19, hn19, Or.inr ⟨hok, Or.inr (Or.inr (Or.inr ⟨by omega, hcom, y⟩))⟩⟩)) (fun z => by exfalso; omega) (fun z j hj => by rw [en]; by_cases q : j = n; (subst q; rw [uA_e]; omega); rw [uA_n q]; exact hsb z j hj)
            · refine r_aload_n dX8_readStarts_86 rfl rfl ?_
              refine gf_X8_32 dX8_readStarts_87 (by omega) ((hs_n (by omega)).trans hs_e) rfl ?_
              refine r_ireturn hq dX8_readStarts_90 rfl rfl rfl ?_
              exact hQ e19 (fun _ => 0) _ v19 e19 (hP hn _ _ (by rw [hd9]; exact ⟨w19, v19, e19, hn19, Or.inr ⟨hok, Or.inr (Or.inr (Or.inl ⟨by omega, by (intro q9; rcases hb80 with q | q; omega; exact q.2 q9), rfl⟩))⟩⟩)) (fun z => by omega) (fun z j hj => by show _ ≤ uA s3 i.toNat v19 j ∧ uA s3 i.toNat v19 j ≤ _; rw [en]; by_cases q : j = n; (subst q; rw [uA_e]; omega); rw [uA_n q]; exact hsb z j hj)
          · refine r_iconst (z := 1) dX8_readStarts_61 ?_
            refine r_goto 66 dX8_readStarts_62 (by decide) ?_
            refine r_istore (L2 := [_, _, _, _, _, _]) dX8_readStarts_66 (nlt rfl) rfl ?_
            refine r_iload dX8_readStarts_68 rfl ?_
            refine r_if_ne 91 dX8_readStarts_70 (by decide) ⟨by decide, by decide⟩ (fun c_70 => ?_) (fun c_70 => by exfalso; omega)
            refine r_aload_n dX8_readStarts_91 rfl rfl ?_
            refine gf_X8_32 dX8_readStarts_92 (by omega) ((hs_n (by omega)).trans hs_e) rfl ?_
            refine r_iconst (z := 1) dX8_readStarts_95 ?_
            refine r_iadd dX8_readStarts_96 ?_
            refine r_istore_n (L2 := [_, _, _, _, _, _]) dX8_readStarts_97 rfl (nlt rfl) rfl ?_
            refine r_iinc (L2 := [_, _, _, _, _, _]) dX8_readStarts_98 (nlt rfl) rfl rfl ?_
            refine r_goto 4 dX8_readStarts_101 (by decide) ?_
            refine r_mask [true, true, true, true, false, false] (L2 := [_, _, _, _, none, none]) rfl ?_
            exact ih4 (v19) (e19) (uA (s3) (i).toNat (v19)) (e19 + 1) (i + 1) (n + 1) ((uA sg n v19)) (by omega) (by omega) (by omega) (by omega) (fun z => by exfalso; omega) (fun j hj => by rw [en]; by_cases z : j = n; (subst z; rw [uA_e, uA_e]); rw [uA_n z, uA_n z]; exact hsg j (by omega)) (fun z => by exfalso; omega) (fun z => ⟨fun y => ⟨fun _ => 0, hP hn _ _ (by rw [hd9]; exact ⟨w19, v19, e19, hn19, Or.inr ⟨hok, Or.inl ⟨by omega, y, rfl⟩⟩⟩)⟩, fun y => hP hn _ _ (by rw [hd9]; exact ⟨w19, v19, e19, hn19, Or.inr ⟨hok, Or.inr (Or.inl ⟨by omega, y, rfl, rfl⟩)⟩⟩), by omega, by omega⟩) (fun z j hj => by rw [en]; by_cases q : j = n; (subst q; rw [uA_e]; omega); rw [uA_n q]; exact hsb z j hj)
        · refine r_iload dX8_readStarts_31 rfl ?_
          refine r_ireturn hq dX8_readStarts_33 rfl rfl rfl ?_
          exact hQ w19 (fun _ => 0) s3 v19 e19 (hP hn _ _ (by rw [hd9]; exact ⟨w19, v19, e19, hn19, Or.inl ⟨c_28, rfl⟩⟩)) (fun z => absurd z c_28) hsb
  refine g_heap (hs_id (c := ob 8 [.ref (t + 1), .int (iZ (len)), .ref (t + 2), .int (iZ (nu)), .int (iZ (be))]) ht).symm ?_
  refine g_heap (hs_id (c := aL 6 (s)) ((hs_n (by omega)).trans hr2)).symm ?_
  exact lp4 ((7 : Int) + 1).toNat (nu) (be) (s) (f) (0) (0) ((fun _ => 0)) (by omega) rfl (by omega) (by omega) (fun _ => hf) (fun j hj => absurd hj (Nat.not_lt_zero j)) (fun _ r s2 z => z) (fun z => by omega) (fun z => z)