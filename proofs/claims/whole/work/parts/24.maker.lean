abbrev MKo (q : Nat) : ACell := ob 1 [.ref (q + 1), .ref (q + 4), .ref (q + 7), .ref (q + 8), .ref (q + 9), .ref (q + 10)]
abbrev ROo (r : Nat) (k : Int) : ACell := ob 7 [.int (iZ k), .ref (r + 1), .ref (r + 2)]
set_option maxHeartbeats 2000000 in
set_option maxRecDepth 20000 in
theorem c_X1_multiplyPolynomials {N : Nat} {h : Hp} {Q : QP} {q r r2 k l : Nat} {mo : Int} {c s d t ml : Nat → Int} (hq0 : h q = MKo q) (hN : q + 10 < N) (hmo : h (q + 1) = ROo (q + 1) mo) (hml : h (q + 1 + 1) = aL 7 ml) (hmlb : ∀ j, j < 7 → -100000 ≤ ml j ∧ ml j ≤ 100000) (hr : RowAt h r k c s) (hrN : r + 2 < N) (hrw : r + 2 < q ∨ q + 10 < r) (hk0 : 0 < k) (hk : k ≤ 6) (hcb : ∀ j, j < 7 → -100000 ≤ c j ∧ c j ≤ 100000) (hr2 : RowAt h r2 l d t) (hrN2 : r2 + 2 < N) (hrw2 : r2 + 2 < q ∨ q + 10 < r2 ∨ r2 = q + 4) (hl0 : 0 < l) (hl : l ≤ 6) (hdb : ∀ j, j < 7 → -100000 ≤ d j ∧ d j ≤ 100000) (hQ : ∀ (b : Int) (mo2 : Int) (m8 : Nat → Int), m8 0 = ml 0 → (∀ j, j < 7 → -100000 ≤ m8 j ∧ m8 j ≤ 100000) → (b = 1 ∧ (k + l ≤ 6 ∧ lawB (k + l) (mulc c d k l)) ∧ mo2 = ((k + l : Nat) : Int) ∧ (∀ j, 1 ≤ j → j ≤ k + l → m8 j = mulc c d k l j) ∨ b = 0 ∧ ¬ ((k + l ≤ 6 ∧ lawB (k + l) (mulc c d k l)))) → Q (some (.int (iZ b))) N (hs (hs h (q + 1) (ROo (q + 1) mo2)) (q + 1 + 1) (aL 7 m8))) : Runs mX1_multiplyPolynomials [.ref (q), .ref (r), .ref (r2)] N h Q := by
  refine run_start (own := RX1) rfl (by decide) (nle rfl) rfl (fun X hq hini => ?_)
  show G X RX1 cX1_multiplyPolynomials mX1_multiplyPolynomials.rm N 0 0 0 [some (.ref (q)), some (.ref (r)), some (.ref (r2)), none, none, none, none] [] h
  refine r_aload_n dX1_multiplyPolynomials_0 rfl rfl ?_
  refine gf_X1_56 dX1_multiplyPolynomials_1 (by omega) hr.1 rfl ?_
  refine r_aload_n dX1_multiplyPolynomials_4 rfl rfl ?_
  refine gf_X1_56 dX1_multiplyPolynomials_5 (by omega) hr2.1 rfl ?_
  refine r_iadd dX1_multiplyPolynomials_8 ?_
  refine r_bipush (z := 6) dX1_multiplyPolynomials_9 (by decide) ?_
  refine r_icmp_le 16 dX1_multiplyPolynomials_11 (by decide) ⟨by omega, by omega⟩ ⟨by decide, by decide⟩ (fun c_11 => ?_) (fun c_11 => ?_)
  · refine r_aload_n dX1_multiplyPolynomials_16 rfl rfl ?_
    refine gf_X1_12 dX1_multiplyPolynomials_17 (by omega) hq0 rfl ?_
    refine r_aload_n dX1_multiplyPolynomials_20 rfl rfl ?_
    refine gf_X1_56 dX1_multiplyPolynomials_21 (by omega) hr.1 rfl ?_
    refine r_aload_n dX1_multiplyPolynomials_24 rfl rfl ?_
    refine gf_X1_56 dX1_multiplyPolynomials_25 (by omega) hr2.1 rfl ?_
    refine r_iadd dX1_multiplyPolynomials_28 ?_
    refine pf_X1_56 (fs2 := [_, _, _]) dX1_multiplyPolynomials_29 (fun _ _ => rfl) (fun _ _ => rfl) (nlt rfl) (by omega) hmo rfl ?_
    refine r_iconst (z := 1) dX1_multiplyPolynomials_32 ?_
    refine r_istore_n (L2 := [_, _, _, _, none, none, none]) dX1_multiplyPolynomials_33 rfl (nlt rfl) rfl ?_
    have lp34 : ∀ (fu34 : Nat) (m1 : Nat → Int) (i : Int) (n : Nat), (8 - i) < (fu34 : Int) → (i = (n : Int)) → (1 ≤ n) → (n ≤ k + l + 1) → (m1 0 = ml 0) → (∀ j, j < 7 → -100000 ≤ m1 j ∧ m1 j ≤ 100000) → (∀ j, 1 ≤ j → j < n → m1 j = mulc c d k l j) → (∀ j, 1 ≤ j → j < n → -100000 ≤ mulc c d k l j ∧ mulc c d k l j ≤ 100000) → G X RX1 cX1_multiplyPolynomials mX1_multiplyPolynomials.rm N 0 0 34 [some (.ref (q)), some (.ref (r)), some (.ref (r2)), some (.int (iZ (i))), none, none, none] [] (hs (hs h (q + 1) (ob 7 [.int (iZ ((k : Int) + (l : Int))), .ref (q + 1 + 1), .ref (q + 1 + 2)])) (q + 1 + 1) (aL 7 (m1))) := by
      intro fu34
      induction fu34 with
      | zero => intro m1 i n hm ei n0 n1 hm0 hmb hme hmB; exfalso; omega
      | succ fu34 ih34 =>
        intro m1 i n hms34 ei n0 n1 hm0 hmb hme hmB
        refine r_iload_n dX1_multiplyPolynomials_34 rfl rfl ?_
        refine r_aload_n dX1_multiplyPolynomials_35 rfl rfl ?_
        refine gf_X1_12 dX1_multiplyPolynomials_36 (by omega) ((hs_n (by omega)).trans ((hs_n (by omega)).trans hq0)) rfl ?_
        refine gf_X1_56 dX1_multiplyPolynomials_39 (by omega) ((hs_n (by omega)).trans hs_e) rfl ?_
        refine r_icmp_gt 132 dX1_multiplyPolynomials_42 (by decide) ⟨by omega, by omega⟩ ⟨by omega, by omega⟩ (fun c_42 => ?_) (fun c_42 => ?_)
        · refine r_iconst (z := 1) dX1_multiplyPolynomials_132 ?_
          refine r_zreturn hq dX1_multiplyPolynomials_133 rfl (by decide) rfl rfl ?_
          have n9 : n = k + l + 1 := by omega
          exact hQ 1 _ m1 hm0 hmb (Or.inl ⟨rfl, ⟨by omega, fun j a b => hmB j a (by omega)⟩, by omega, fun j a b => hme j a (by omega)⟩)
        · have ein : i.toNat = n := by omega
          refine r_lconst (z := 0) dX1_multiplyPolynomials_45 (by decide) ?_
          refine r_lstore (L2 := [_, _, _, _, _, none, none]) dX1_multiplyPolynomials_46 (nlt rfl) rfl ?_
          refine r_iconst (z := 0) dX1_multiplyPolynomials_48 ?_
          refine r_iload_n dX1_multiplyPolynomials_49 rfl rfl ?_
          refine r_aload_n dX1_multiplyPolynomials_50 rfl rfl ?_
          refine gf_X1_56 dX1_multiplyPolynomials_51 (by omega) ((hs_n (by omega)).trans ((hs_n (by omega)).trans hr2.1)) rfl ?_
          refine r_isub dX1_multiplyPolynomials_54 ?_
          refine r_max dX1_multiplyPolynomials_55 ml_X1_60 jst_max jin_Math jcd_max ⟨by decide, by decide⟩ (nle rfl) ⟨Nat.zero_le _, Nat.zero_le _⟩ ⟨by decide, by decide⟩ ⟨by omega, by omega⟩ ?_
          refine r_istore (L2 := [_, _, _, _, _, none, _]) dX1_multiplyPolynomials_58 (nlt rfl) rfl ?_
          have hv0 : sm (mulg c d k l n) (max 0 (i - (l : Int))).toNat = 0 := sm_nil (fun j hj => by unfold mulg; rw [if_neg (by omega)])
          have lp60 : ∀ (fu60 : Nat) (sum : Int) (u : Int) (v : Nat), (8 - u) < (fu60 : Int) → (u = (v : Int)) → (i - (l : Int) ≤ u) → (v ≤ min n k + 1) → (sum = -(sm (mulg c d k l n) v)) → (-((v : Int) * 10000000000) ≤ sum) → (sum ≤ (v : Int) * 10000000000) → G X RX1 cX1_multiplyPolynomials mX1_multiplyPolynomials.rm N 0 0 60 [some (.ref (q)), some (.ref (r)), some (.ref (r2)), some (.int (iZ (i))), some (.long (lZ (sum))), none, some (.int (iZ (u)))] [] (hs (hs h (q + 1) (ob 7 [.int (iZ ((k : Int) + (l : Int))), .ref (q + 1 + 1), .ref (q + 1 + 2)])) (q + 1 + 1) (aL 7 (m1))) := by
            intro fu60
            induction fu60 with
            | zero => intro sum u v hm eu v0 v1 es s0 s1; exfalso; omega
            | succ fu60 ih60 =>
              intro sum u v hms60 eu v0 v1 es s0 s1
              refine r_iload dX1_multiplyPolynomials_60 rfl ?_
              refine r_iload_n dX1_multiplyPolynomials_62 rfl rfl ?_
              refine r_aload_n dX1_multiplyPolynomials_63 rfl rfl ?_
              refine gf_X1_56 dX1_multiplyPolynomials_64 (by omega) ((hs_n (by omega)).trans ((hs_n (by omega)).trans hr.1)) rfl ?_
              refine r_min dX1_multiplyPolynomials_67 ml_X1_66 jst_min jin_Math jcd_min ⟨by decide, by decide⟩ (nle rfl) ⟨Nat.zero_le _, Nat.zero_le _⟩ ⟨by omega, by omega⟩ ⟨by omega, by omega⟩ ?_
              refine r_icmp_gt 101 dX1_multiplyPolynomials_70 (by decide) ⟨by omega, by omega⟩ ⟨by omega, by omega⟩ (fun c_70 => ?_) (fun c_70 => ?_)
              · have hsn : sum = mulc c d k l n := by
                  unfold mulc
                  rw [es, sm_tail (g := mulg c d k l n) (a := v) (b := n + 1) (by omega) (fun j h8 h9 => by unfold mulg; rw [if_neg (by omega)])]
                refine r_lload dX1_multiplyPolynomials_101 rfl ?_
                refine r_absL dX1_multiplyPolynomials_103 ml_X1_72 jst_abs jin_Math jcd_abs ⟨by decide, by decide⟩ (nle rfl) ⟨Nat.zero_le _, Nat.zero_le _⟩ ⟨by omega, by omega⟩ ?_
                refine r_ldc2 (z := 100000) dX1_multiplyPolynomials_106 kc_X1_76 ?_
                refine r_lcmp_le 115 dX1_multiplyPolynomials_109 dX1_multiplyPolynomials_110 (by decide) ⟨by omega, by omega⟩ ⟨by decide, by decide⟩ (fun c_109 => ?_) (fun c_109 => ?_)
                · refine r_aload_n dX1_multiplyPolynomials_115 rfl rfl ?_
                  refine gf_X1_12 dX1_multiplyPolynomials_116 (by omega) ((hs_n (by omega)).trans ((hs_n (by omega)).trans hq0)) rfl ?_
                  refine gf_X1_69 dX1_multiplyPolynomials_119 (by omega) ((hs_n (by omega)).trans hs_e) rfl ?_
                  refine r_iload_n dX1_multiplyPolynomials_122 rfl rfl ?_
                  refine r_lload dX1_multiplyPolynomials_123 rfl ?_
                  refine r_lastore dX1_multiplyPolynomials_125 (by omega) hs_e (by omega) (by omega) (by decide) ?_
                  refine g_heap (h2 := (hs (hs h (q + 1) (ob 7 [.int (iZ ((k : Int) + (l : Int))), .ref (q + 1 + 1), .ref (q + 1 + 2)])) (q + 1 + 1) (aL 7 (uA (m1) (i).toNat (sum))))) hs_hs ?_
                  refine r_iinc (L2 := [_, _, _, _, _, none, _]) dX1_multiplyPolynomials_126 (nlt rfl) rfl rfl ?_
                  refine r_goto 34 dX1_multiplyPolynomials_129 (by decide) ?_
                  refine r_mask [true, true, true, true, false, false, false] (L2 := [_, _, _, _, none, none, none]) rfl ?_
                  exact ih34 (uA (m1) (i).toNat (sum)) (i + 1) ((n + 1)) (by omega) (by omega) (by omega) (by omega) (by rw [ein, uA_n (by omega)]; exact hm0) (fun j hj => by rw [ein]; by_cases z : j = n; (rw [z, uA_e]; omega); rw [uA_n z]; exact hmb j hj) (fun j a b => by rw [ein]; by_cases z : j = n; (rw [z, uA_e]; exact hsn); rw [uA_n z]; exact hme j a (by omega)) (fun j a b => by by_cases z : j = n; (rw [z, ← hsn]; omega); exact hmB j a (by omega))
                · refine r_iconst (z := 0) dX1_multiplyPolynomials_113 ?_
                  refine r_zreturn hq dX1_multiplyPolynomials_114 rfl (by decide) rfl rfl ?_
                  exact hQ 0 _ m1 hm0 hmb (Or.inr ⟨rfl, fun w => by have := w.2 n (by omega) (by omega); rw [← hsn] at this; omega⟩)
              · refine r_lload dX1_multiplyPolynomials_73 rfl ?_
                refine r_aload_n dX1_multiplyPolynomials_75 rfl rfl ?_
                refine gf_X1_69 dX1_multiplyPolynomials_76 (by omega) ((hs_n (by omega)).trans ((hs_n (by omega)).trans hr.1)) rfl ?_
                refine r_iload dX1_multiplyPolynomials_79 rfl ?_
                have e1 : c u.toNat = c v := by congr 1; omega
                have cb := hcb v (by omega)
                rw [← e1] at cb
                refine r_laload dX1_multiplyPolynomials_81 (by omega) ((hs_n (by omega)).trans ((hs_n (by omega)).trans hr.2.1)) (by omega) (by omega) (by decide) ?_
                refine r_aload_n dX1_multiplyPolynomials_82 rfl rfl ?_
                refine gf_X1_69 dX1_multiplyPolynomials_83 (by omega) ((hs_n (by omega)).trans ((hs_n (by omega)).trans hr2.1)) rfl ?_
                refine r_iload_n dX1_multiplyPolynomials_86 rfl rfl ?_
                refine r_iload dX1_multiplyPolynomials_87 rfl ?_
                refine r_isub dX1_multiplyPolynomials_89 ?_
                refine r_laload dX1_multiplyPolynomials_90 (by omega) ((hs_n (by omega)).trans ((hs_n (by omega)).trans hr2.2.1)) (by omega) (by omega) (by decide) ?_
                have e2 : d (i - u).toNat = d (n - v) := by congr 1; omega
                have db := hdb (n - v) (by omega)
                rw [← e2] at db
                have m91 := mulb (A := 100000) (B := 100000) (a := c u.toNat) (b := d (i - u).toNat) (C := 10000000000) (by omega) (by omega) (by omega) (by omega) (by decide)
                refine r_lmul dX1_multiplyPolynomials_91 ?_
                refine r_lsub dX1_multiplyPolynomials_92 ?_
                refine r_lstore (L2 := [_, _, _, _, _, none, _]) dX1_multiplyPolynomials_93 (nlt rfl) rfl ?_
                refine r_iinc (L2 := [_, _, _, _, _, none, _]) dX1_multiplyPolynomials_95 (nlt rfl) rfl rfl ?_
                refine r_goto 60 dX1_multiplyPolynomials_98 (by decide) ?_
                exact ih60 (sum - ((c (u).toNat) * (d (i - u).toNat))) (u + 1) ((v + 1)) (by omega) (by omega) (by omega) (by omega) (by rw [sm_s, es, e1, e2]; unfold mulg; rw [if_pos ⟨by omega, by omega⟩]; omega) (by omega) (by omega)
          exact lp60 ((8 : Int) + 1).toNat (0) (max 0 (i - (l : Int))) ((max 0 (i - (l : Int))).toNat) (by omega) (by omega) (by omega) (by omega) (by rw [hv0]; rfl) (by omega) (by omega)
    refine g_heap (hs_id (c := aL 7 (ml)) ((hs_n (by omega)).trans hml)).symm ?_
    exact lp34 ((8 : Int) + 1).toNat (ml) (1) (1) (by omega) rfl (Nat.le_refl _) (by omega) rfl hmlb (fun j a b => by omega) (fun j a b => by omega)
  · refine r_iconst (z := 0) dX1_multiplyPolynomials_14 ?_
    refine r_zreturn hq dX1_multiplyPolynomials_15 rfl (by decide) rfl rfl ?_
    have hfin := hQ 0 mo ml rfl hmlb (Or.inr ⟨rfl, fun w => by have := w.1; omega⟩)
    rw [hs_id (a := q + 1) hmo, hs_id hml] at hfin
    exact hfin
set_option maxHeartbeats 2000000 in
set_option maxRecDepth 20000 in
theorem c_X1_sumPowers {N : Nat} {h : Hp} {Q : QP} {r u M k la : Nat} {lai : Int} {c s f : Nat → Int} (hr : RowAt h r k c s) (hrN : r + 2 < N) (hu : h u = aL M f) (huN : u < N) (hur : u < r ∨ r + 2 < u) (hk0 : 0 < k) (hk : k ≤ 6) (hcb : ∀ j, j < 7 → -100000 ≤ c j ∧ c j ≤ 100000) (hla : lai = (la : Int)) (hlM : la < M) (hM : M < 100) (hQ : ∀ (b : Int) (f2 : Nat → Int), (b = 1 ∧ powB la (pw c k) ∧ (∀ j, 1 ≤ j → j ≤ la → f2 j = pw c k j) ∨ b = 0 ∧ ¬ powB la (pw c k)) → Q (some (.int (iZ b))) N (hs h u (aL M f2))) : Runs mX1_sumPowers [.ref (r), .ref (u), .int (iZ (lai))] N h Q := by
  refine run_start (own := RX1) rfl (by decide) (nle rfl) rfl (fun X hq hini => ?_)
  show G X RX1 cX1_sumPowers mX1_sumPowers.rm N 0 0 0 [some (.ref (r)), some (.ref (u)), some (.int (iZ (lai))), none, none, none, none] [] h
  refine r_iconst (z := 1) dX1_sumPowers_0 ?_
  refine r_istore_n (L2 := [_, _, _, _, none, none, none]) dX1_sumPowers_1 rfl (nlt rfl) rfl ?_
  have lp2 : ∀ (fu2 : Nat) (f1 : Nat → Int) (i : Int) (j : Nat), (101 - i) < (fu2 : Int) → (i = (j : Int)) → (1 ≤ j) → (j ≤ la + 1) → (∀ t, 1 ≤ t → t < j → f1 t = pw c k t) → (∀ t, 1 ≤ t → t < j → -1000000000 ≤ pw c k t ∧ pw c k t ≤ 1000000000) → G X RX1 cX1_sumPowers mX1_sumPowers.rm N 0 0 2 [some (.ref (r)), some (.ref (u)), some (.int (iZ (lai))), some (.int (iZ (i))), none, none, none] [] (hs h (u) (aL M (f1))) := by
    intro fu2
    induction fu2 with
    | zero => intro f1 i j hm ei j0 j1 hf hB; exfalso; omega
    | succ fu2 ih2 =>
      intro f1 i j hms2 ei j0 j1 hf hB
      refine r_iload_n dX1_sumPowers_2 rfl rfl ?_
      refine r_iload_n dX1_sumPowers_3 rfl rfl ?_
      refine r_icmp_gt 98 dX1_sumPowers_4 (by decide) ⟨by omega, by omega⟩ ⟨by omega, by omega⟩ (fun c_4 => ?_) (fun c_4 => ?_)
      · refine r_iconst (z := 1) dX1_sumPowers_98 ?_
        refine r_zreturn hq dX1_sumPowers_99 rfl (by decide) rfl rfl ?_
        have j9 : j = la + 1 := by omega
        exact hQ 1 _ (Or.inl ⟨rfl, fun t a b => hB t a (by omega), fun t a b => hf t a (by omega)⟩)
      · have ein : i.toNat = j := by omega
        refine r_iload_n dX1_sumPowers_7 rfl rfl ?_
        refine r_aload_n dX1_sumPowers_8 rfl rfl ?_
        refine gf_X1_56 dX1_sumPowers_9 (by omega) ((hs_n (by omega)).trans hr.1) rfl ?_
        refine r_icmp_gt 27 dX1_sumPowers_12 (by decide) ⟨by omega, by omega⟩ ⟨by omega, by omega⟩ (fun c_12 => ?_) (fun c_12 => ?_)
        · refine r_lconst (z := 0) dX1_sumPowers_27 (by decide) ?_
          refine r_lstore (L2 := [_, _, _, _, _, none, none]) dX1_sumPowers_28 (nlt rfl) rfl ?_
          refine r_iconst (z := 1) dX1_sumPowers_30 ?_
          refine r_istore (L2 := [_, _, _, _, _, none, _]) dX1_sumPowers_31 (nlt rfl) rfl ?_
          have lp33 : ∀ (fu33 : Nat) (sum : Int) (w : Int) (v : Nat), (8 - w) < (fu33 : Int) → (w = (v : Int) + 1) → (v ≤ min k (j - 1)) → (sum = (if j ≤ k then (j : Int) * c j else 0) + sm (fun i => c (i + 1) * f1 (j - (i + 1))) v) → (-(600000 + (v : Int) * 100000000000000) ≤ sum) → (sum ≤ 600000 + (v : Int) * 100000000000000) → G X RX1 cX1_sumPowers mX1_sumPowers.rm N 0 0 33 [some (.ref (r)), some (.ref (u)), some (.int (iZ (lai))), some (.int (iZ (i))), some (.long (lZ (sum))), none, some (.int (iZ (w)))] [] (hs h (u) (aL M (f1))) := by
            intro fu33
            induction fu33 with
            | zero => intro sum w v hm ew v1 es s0 s1; exfalso; omega
            | succ fu33 ih33 =>
              intro sum w v hms33 ew v1 es s0 s1
              refine r_iload dX1_sumPowers_33 rfl ?_
              refine r_aload_n dX1_sumPowers_35 rfl rfl ?_
              refine gf_X1_56 dX1_sumPowers_36 (by omega) ((hs_n (by omega)).trans hr.1) rfl ?_
              refine r_icmp_gt 73 dX1_sumPowers_39 (by decide) ⟨by omega, by omega⟩ ⟨by omega, by omega⟩ (fun c_39 => ?_) (fun c_39 => ?_)
              · have v9 : v = min k (j - 1) := by omega
                have hsj : sum = pw c k j := by
                  rw [pw_s j0, ← pwv_cong (f := f1) (fun t a b => hf t a b)]
                  unfold pwv
                  rw [es, v9]
                refine r_lload dX1_sumPowers_73 rfl ?_
                refine r_absL dX1_sumPowers_75 ml_X1_72 jst_abs jin_Math jcd_abs ⟨by decide, by decide⟩ (nle rfl) ⟨Nat.zero_le _, Nat.zero_le _⟩ ⟨by omega, by omega⟩ ?_
                refine r_ldc2 (z := 1000000000) dX1_sumPowers_78 kc_X1_82 ?_
                refine r_lcmp_le 87 dX1_sumPowers_81 dX1_sumPowers_82 (by decide) ⟨by omega, by omega⟩ ⟨by decide, by decide⟩ (fun c_81 => ?_) (fun c_81 => ?_)
                · refine r_aload_n dX1_sumPowers_87 rfl rfl ?_
                  refine r_iload_n dX1_sumPowers_88 rfl rfl ?_
                  refine r_lload dX1_sumPowers_89 rfl ?_
                  refine r_lastore dX1_sumPowers_91 (by omega) hs_e (by omega) (by omega) (by omega) ?_
                  refine g_heap (h2 := (hs h (u) (aL M (uA (f1) (i).toNat (sum))))) hs_hs ?_
                  refine r_iinc (L2 := [_, _, _, _, _, none, _]) dX1_sumPowers_92 (nlt rfl) rfl rfl ?_
                  refine r_goto 2 dX1_sumPowers_95 (by decide) ?_
                  refine r_mask [true, true, true, true, false, false, false] (L2 := [_, _, _, _, none, none, none]) rfl ?_
                  exact ih2 (uA (f1) (i).toNat (sum)) (i + 1) ((j + 1)) (by omega) (by omega) (by omega) (by omega) (fun t a b => by rw [ein]; by_cases z : t = j; (rw [z, uA_e]; exact hsj); rw [uA_n z]; exact hf t a (by omega)) (fun t a b => by by_cases z : t = j; (rw [z, ← hsj]; omega); exact hB t a (by omega))
                · refine r_iconst (z := 0) dX1_sumPowers_85 ?_
                  refine r_zreturn hq dX1_sumPowers_86 rfl (by decide) rfl rfl ?_
                  exact hQ 0 _ (Or.inr ⟨rfl, fun w => by have := w j j0 (by omega); rw [← hsj] at this; omega⟩)
              · refine r_iload dX1_sumPowers_42 rfl ?_
                refine r_iload_n dX1_sumPowers_44 rfl rfl ?_
                refine r_icmp_ge 73 dX1_sumPowers_45 (by decide) ⟨by omega, by omega⟩ ⟨by omega, by omega⟩ (fun c_45 => ?_) (fun c_45 => ?_)
                · have v9 : v = min k (j - 1) := by omega
                  have hsj : sum = pw c k j := by
                    rw [pw_s j0, ← pwv_cong (f := f1) (fun t a b => hf t a b)]
                    unfold pwv
                    rw [es, v9]
                  refine r_lload dX1_sumPowers_73 rfl ?_
                  refine r_absL dX1_sumPowers_75 ml_X1_72 jst_abs jin_Math jcd_abs ⟨by decide, by decide⟩ (nle rfl) ⟨Nat.zero_le _, Nat.zero_le _⟩ ⟨by omega, by omega⟩ ?_
                  refine r_ldc2 (z := 1000000000) dX1_sumPowers_78 kc_X1_82 ?_
                  refine r_lcmp_le 87 dX1_sumPowers_81 dX1_sumPowers_82 (by decide) ⟨by omega, by omega⟩ ⟨by decide, by decide⟩ (fun c_81 => ?_) (fun c_81 => ?_)
                  · refine r_aload_n dX1_sumPowers_87 rfl rfl ?_
                    refine r_iload_n dX1_sumPowers_88 rfl rfl ?_
                    refine r_lload dX1_sumPowers_89 rfl ?_
                    refine r_lastore dX1_sumPowers_91 (by omega) hs_e (by omega) (by omega) (by omega) ?_
                    refine g_heap (h2 := (hs h (u) (aL M (uA (f1) (i).toNat (sum))))) hs_hs ?_
                    refine r_iinc (L2 := [_, _, _, _, _, none, _]) dX1_sumPowers_92 (nlt rfl) rfl rfl ?_
                    refine r_goto 2 dX1_sumPowers_95 (by decide) ?_
                    refine r_mask [true, true, true, true, false, false, false] (L2 := [_, _, _, _, none, none, none]) rfl ?_
                    exact ih2 (uA (f1) (i).toNat (sum)) (i + 1) ((j + 1)) (by omega) (by omega) (by omega) (by omega) (fun t a b => by rw [ein]; by_cases z : t = j; (rw [z, uA_e]; exact hsj); rw [uA_n z]; exact hf t a (by omega)) (fun t a b => by by_cases z : t = j; (rw [z, ← hsj]; omega); exact hB t a (by omega))
                  · refine r_iconst (z := 0) dX1_sumPowers_85 ?_
                    refine r_zreturn hq dX1_sumPowers_86 rfl (by decide) rfl rfl ?_
                    exact hQ 0 _ (Or.inr ⟨rfl, fun w => by have := w j j0 (by omega); rw [← hsj] at this; omega⟩)
                · refine r_lload dX1_sumPowers_48 rfl ?_
                  have e1 : c w.toNat = c (v + 1) := by congr 1; omega
                  have cb := hcb (v + 1) (by omega)
                  rw [← e1] at cb
                  refine r_aload_n dX1_sumPowers_50 rfl rfl ?_
                  refine gf_X1_69 dX1_sumPowers_51 (by omega) ((hs_n (by omega)).trans hr.1) rfl ?_
                  refine r_iload dX1_sumPowers_54 rfl ?_
                  refine r_laload dX1_sumPowers_56 (by omega) ((hs_n (by omega)).trans hr.2.1) (by omega) (by omega) (by decide) ?_
                  refine r_aload_n dX1_sumPowers_57 rfl rfl ?_
                  refine r_iload_n dX1_sumPowers_58 rfl rfl ?_
                  refine r_iload dX1_sumPowers_59 rfl ?_
                  refine r_isub dX1_sumPowers_61 ?_
                  refine r_laload dX1_sumPowers_62 (by omega) hs_e (by omega) (by omega) (by omega) ?_
                  have e2 : f1 (i - w).toNat = f1 (j - (v + 1)) := by congr 1; omega
                  have fb := hB (j - (v + 1)) (by omega) (by omega)
                  rw [← hf (j - (v + 1)) (by omega) (by omega), ← e2] at fb
                  have m63 := mulb (A := 100000) (B := 1000000000) (a := c w.toNat) (b := f1 (i - w).toNat) (C := 100000000000000) (by omega) (by omega) (by omega) (by omega) (by decide)
                  refine r_lmul dX1_sumPowers_63 ?_
                  refine r_ladd dX1_sumPowers_64 ?_
                  refine r_lstore (L2 := [_, _, _, _, _, none, _]) dX1_sumPowers_65 (nlt rfl) rfl ?_
                  refine r_iinc (L2 := [_, _, _, _, _, none, _]) dX1_sumPowers_67 (nlt rfl) rfl rfl ?_
                  refine r_goto 33 dX1_sumPowers_70 (by decide) ?_
                  exact ih33 (sum + ((c (w).toNat) * (f1 (i - w).toNat))) (w + 1) ((v + 1)) (by omega) (by omega) (by omega) (by rw [sm_s, es, e1, e2]; omega) (by omega) (by omega)
          exact lp33 ((8 : Int) + 1).toNat (0) (1) (0) (by omega) (by omega) (by omega) (by rw [if_neg (by omega)]; show _ = _ + (0 : Int); rw [Int.add_zero]) (by omega) (by omega)
        · refine r_iload_n dX1_sumPowers_15 rfl rfl ?_
          refine r_i2l dX1_sumPowers_16 ⟨by omega, by omega⟩ ?_
          refine r_aload_n dX1_sumPowers_17 rfl rfl ?_
          refine gf_X1_69 dX1_sumPowers_18 (by omega) ((hs_n (by omega)).trans hr.1) rfl ?_
          refine r_iload_n dX1_sumPowers_21 rfl rfl ?_
          refine r_laload dX1_sumPowers_22 (by omega) ((hs_n (by omega)).trans hr.2.1) (by omega) (by omega) (by decide) ?_
          have e21 : c i.toNat = c j := by rw [ein]
          have cb := hcb j (by omega)
          rw [← e21] at cb
          have m15 := mulb (A := 6) (B := 100000) (a := i) (b := c i.toNat) (C := 600000) (by omega) (by omega) (by omega) (by omega) (by decide)
          refine r_lmul dX1_sumPowers_23 ?_
          refine r_goto 28 dX1_sumPowers_24 (by decide) ?_
          refine r_lstore (L2 := [_, _, _, _, _, none, none]) dX1_sumPowers_28 (nlt rfl) rfl ?_
          refine r_iconst (z := 1) dX1_sumPowers_30 ?_
          refine r_istore (L2 := [_, _, _, _, _, none, _]) dX1_sumPowers_31 (nlt rfl) rfl ?_
          have lp33 : ∀ (fu33 : Nat) (sum : Int) (w : Int) (v : Nat), (8 - w) < (fu33 : Int) → (w = (v : Int) + 1) → (v ≤ min k (j - 1)) → (sum = (if j ≤ k then (j : Int) * c j else 0) + sm (fun i => c (i + 1) * f1 (j - (i + 1))) v) → (-(600000 + (v : Int) * 100000000000000) ≤ sum) → (sum ≤ 600000 + (v : Int) * 100000000000000) → G X RX1 cX1_sumPowers mX1_sumPowers.rm N 0 0 33 [some (.ref (r)), some (.ref (u)), some (.int (iZ (lai))), some (.int (iZ (i))), some (.long (lZ (sum))), none, some (.int (iZ (w)))] [] (hs h (u) (aL M (f1))) := by
            intro fu33
            induction fu33 with
            | zero => intro sum w v hm ew v1 es s0 s1; exfalso; omega
            | succ fu33 ih33 =>
              intro sum w v hms33 ew v1 es s0 s1
              refine r_iload dX1_sumPowers_33 rfl ?_
              refine r_aload_n dX1_sumPowers_35 rfl rfl ?_
              refine gf_X1_56 dX1_sumPowers_36 (by omega) ((hs_n (by omega)).trans hr.1) rfl ?_
              refine r_icmp_gt 73 dX1_sumPowers_39 (by decide) ⟨by omega, by omega⟩ ⟨by omega, by omega⟩ (fun c_39 => ?_) (fun c_39 => ?_)
              · have v9 : v = min k (j - 1) := by omega
                have hsj : sum = pw c k j := by
                  rw [pw_s j0, ← pwv_cong (f := f1) (fun t a b => hf t a b)]
                  unfold pwv
                  rw [es, v9]
                refine r_lload dX1_sumPowers_73 rfl ?_
                refine r_absL dX1_sumPowers_75 ml_X1_72 jst_abs jin_Math jcd_abs ⟨by decide, by decide⟩ (nle rfl) ⟨Nat.zero_le _, Nat.zero_le _⟩ ⟨by omega, by omega⟩ ?_
                refine r_ldc2 (z := 1000000000) dX1_sumPowers_78 kc_X1_82 ?_
                refine r_lcmp_le 87 dX1_sumPowers_81 dX1_sumPowers_82 (by decide) ⟨by omega, by omega⟩ ⟨by decide, by decide⟩ (fun c_81 => ?_) (fun c_81 => ?_)
                · refine r_aload_n dX1_sumPowers_87 rfl rfl ?_
                  refine r_iload_n dX1_sumPowers_88 rfl rfl ?_
                  refine r_lload dX1_sumPowers_89 rfl ?_
                  refine r_lastore dX1_sumPowers_91 (by omega) hs_e (by omega) (by omega) (by omega) ?_
                  refine g_heap (h2 := (hs h (u) (aL M (uA (f1) (i).toNat (sum))))) hs_hs ?_
                  refine r_iinc (L2 := [_, _, _, _, _, none, _]) dX1_sumPowers_92 (nlt rfl) rfl rfl ?_
                  refine r_goto 2 dX1_sumPowers_95 (by decide) ?_
                  refine r_mask [true, true, true, true, false, false, false] (L2 := [_, _, _, _, none, none, none]) rfl ?_
                  exact ih2 (uA (f1) (i).toNat (sum)) (i + 1) ((j + 1)) (by omega) (by omega) (by omega) (by omega) (fun t a b => by rw [ein]; by_cases z : t = j; (rw [z, uA_e]; exact hsj); rw [uA_n z]; exact hf t a (by omega)) (fun t a b => by by_cases z : t = j; (rw [z, ← hsj]; omega); exact hB t a (by omega))
                · refine r_iconst (z := 0) dX1_sumPowers_85 ?_
                  refine r_zreturn hq dX1_sumPowers_86 rfl (by decide) rfl rfl ?_
                  exact hQ 0 _ (Or.inr ⟨rfl, fun w => by have := w j j0 (by omega); rw [← hsj] at this; omega⟩)
              · refine r_iload dX1_sumPowers_42 rfl ?_
                refine r_iload_n dX1_sumPowers_44 rfl rfl ?_
                refine r_icmp_ge 73 dX1_sumPowers_45 (by decide) ⟨by omega, by omega⟩ ⟨by omega, by omega⟩ (fun c_45 => ?_) (fun c_45 => ?_)
                · have v9 : v = min k (j - 1) := by omega
                  have hsj : sum = pw c k j := by
                    rw [pw_s j0, ← pwv_cong (f := f1) (fun t a b => hf t a b)]
                    unfold pwv
                    rw [es, v9]
                  refine r_lload dX1_sumPowers_73 rfl ?_
                  refine r_absL dX1_sumPowers_75 ml_X1_72 jst_abs jin_Math jcd_abs ⟨by decide, by decide⟩ (nle rfl) ⟨Nat.zero_le _, Nat.zero_le _⟩ ⟨by omega, by omega⟩ ?_
                  refine r_ldc2 (z := 1000000000) dX1_sumPowers_78 kc_X1_82 ?_
                  refine r_lcmp_le 87 dX1_sumPowers_81 dX1_sumPowers_82 (by decide) ⟨by omega, by omega⟩ ⟨by decide, by decide⟩ (fun c_81 => ?_) (fun c_81 => ?_)
                  · refine r_aload_n dX1_sumPowers_87 rfl rfl ?_
                    refine r_iload_n dX1_sumPowers_88 rfl rfl ?_
                    refine r_lload dX1_sumPowers_89 rfl ?_
                    refine r_lastore dX1_sumPowers_91 (by omega) hs_e (by omega) (by omega) (by omega) ?_
                    refine g_heap (h2 := (hs h (u) (aL M (uA (f1) (i).toNat (sum))))) hs_hs ?_
                    refine r_iinc (L2 := [_, _, _, _, _, none, _]) dX1_sumPowers_92 (nlt rfl) rfl rfl ?_
                    refine r_goto 2 dX1_sumPowers_95 (by decide) ?_
                    refine r_mask [true, true, true, true, false, false, false] (L2 := [_, _, _, _, none, none, none]) rfl ?_
                    exact ih2 (uA (f1) (i).toNat (sum)) (i + 1) ((j + 1)) (by omega) (by omega) (by omega) (by omega) (fun t a b => by rw [ein]; by_cases z : t = j; (rw [z, uA_e]; exact hsj); rw [uA_n z]; exact hf t a (by omega)) (fun t a b => by by_cases z : t = j; (rw [z, ← hsj]; omega); exact hB t a (by omega))
                  · refine r_iconst (z := 0) dX1_sumPowers_85 ?_
                    refine r_zreturn hq dX1_sumPowers_86 rfl (by decide) rfl rfl ?_
                    exact hQ 0 _ (Or.inr ⟨rfl, fun w => by have := w j j0 (by omega); rw [← hsj] at this; omega⟩)
                · refine r_lload dX1_sumPowers_48 rfl ?_
                  have e1 : c w.toNat = c (v + 1) := by congr 1; omega
                  have cb := hcb (v + 1) (by omega)
                  rw [← e1] at cb
                  refine r_aload_n dX1_sumPowers_50 rfl rfl ?_
                  refine gf_X1_69 dX1_sumPowers_51 (by omega) ((hs_n (by omega)).trans hr.1) rfl ?_
                  refine r_iload dX1_sumPowers_54 rfl ?_
                  refine r_laload dX1_sumPowers_56 (by omega) ((hs_n (by omega)).trans hr.2.1) (by omega) (by omega) (by decide) ?_
                  refine r_aload_n dX1_sumPowers_57 rfl rfl ?_
                  refine r_iload_n dX1_sumPowers_58 rfl rfl ?_
                  refine r_iload dX1_sumPowers_59 rfl ?_
                  refine r_isub dX1_sumPowers_61 ?_
                  refine r_laload dX1_sumPowers_62 (by omega) hs_e (by omega) (by omega) (by omega) ?_
                  have e2 : f1 (i - w).toNat = f1 (j - (v + 1)) := by congr 1; omega
                  have fb := hB (j - (v + 1)) (by omega) (by omega)
                  rw [← hf (j - (v + 1)) (by omega) (by omega), ← e2] at fb
                  have m63 := mulb (A := 100000) (B := 1000000000) (a := c w.toNat) (b := f1 (i - w).toNat) (C := 100000000000000) (by omega) (by omega) (by omega) (by omega) (by decide)
                  refine r_lmul dX1_sumPowers_63 ?_
                  refine r_ladd dX1_sumPowers_64 ?_
                  refine r_lstore (L2 := [_, _, _, _, _, none, _]) dX1_sumPowers_65 (nlt rfl) rfl ?_
                  refine r_iinc (L2 := [_, _, _, _, _, none, _]) dX1_sumPowers_67 (nlt rfl) rfl rfl ?_
                  refine r_goto 33 dX1_sumPowers_70 (by decide) ?_
                  exact ih33 (sum + ((c (w).toNat) * (f1 (i - w).toNat))) (w + 1) ((v + 1)) (by omega) (by omega) (by omega) (by rw [sm_s, es, e1, e2]; omega) (by omega) (by omega)
          exact lp33 ((8 : Int) + 1).toNat (i * (c (i).toNat)) (1) (0) (by omega) (by omega) (by omega) (by rw [if_pos (by omega)]; show _ = _ + (0 : Int); rw [Int.add_zero]; rw [e21, ei]) (by omega) (by omega)
  refine g_heap (hs_id (c := aL M (f)) hu).symm ?_
  exact lp2 ((101 : Int) + 1).toNat (f) (1) (1) (by omega) rfl (Nat.le_refl _) (by omega) (fun t a b => by omega) (fun t a b => by omega)
set_option maxHeartbeats 2000000 in
set_option maxRecDepth 20000 in
theorem c_X1_lawBySums {N : Nat} {h : Hp} {Q : QP} {q K : Nat} {mo Ki : Int} {ml xp : Nat → Int} (hq0 : h q = MKo q) (hN : q + 10 < N) (hmo : h (q + 1) = ROo (q + 1) mo) (hml : h (q + 1 + 1) = aL 7 ml) (hmlb : ∀ j, j < 7 → -100000 ≤ ml j ∧ ml j ≤ 100000) (hxp : h (q + 9) = aL 37 xp) (hK : Ki = (K : Int)) (hK0 : 0 < K) (hK6 : K ≤ 6) (hP : powB K xp) (hQ : ∀ (b : Int) (mo2 : Int) (m8 : Nat → Int), m8 0 = ml 0 → (∀ j, j < 7 → -100000 ≤ m8 j ∧ m8 j ≤ 100000) → (b = 1 ∧ lawB K (lb xp) ∧ mo2 = ((K : Nat) : Int) ∧ (∀ j, 1 ≤ j → j ≤ K → m8 j = lb xp j) ∨ b = 0 ∧ ¬ (lawB K (lb xp))) → Q (some (.int (iZ b))) N (hs (hs h (q + 1) (ROo (q + 1) mo2)) (q + 1 + 1) (aL 7 m8))) : Runs mX1_lawBySums [.ref (q), .int (iZ (Ki))] N h Q := by
  refine run_start (own := RX1) rfl (by decide) (nle rfl) rfl (fun X hq hini => ?_)
  show G X RX1 cX1_lawBySums mX1_lawBySums.rm N 0 0 0 [some (.ref (q)), some (.int (iZ (Ki))), none, none, none, none, none] [] h
  refine r_aload_n dX1_lawBySums_0 rfl rfl ?_
  refine gf_X1_12 dX1_lawBySums_1 (by omega) hq0 rfl ?_
  refine r_iload_n dX1_lawBySums_4 rfl rfl ?_
  refine pf_X1_56 (fs2 := [_, _, _]) dX1_lawBySums_5 (fun _ _ => rfl) (fun _ _ => rfl) (nlt rfl) (by omega) hmo rfl ?_
  refine r_iconst (z := 1) dX1_lawBySums_8 ?_
  refine r_istore_n (L2 := [_, _, _, none, none, none, none]) dX1_lawBySums_9 rfl (nlt rfl) rfl ?_
  have lp10 : ∀ (fu10 : Nat) (m1 : Nat → Int) (i : Int) (j : Nat), (8 - i) < (fu10 : Int) → (i = (j : Int)) → (1 ≤ j) → (j ≤ K + 1) → (m1 0 = ml 0) → (∀ t, t < 7 → -100000 ≤ m1 t ∧ m1 t ≤ 100000) → (∀ t, 1 ≤ t → t < j → m1 t = lb xp t) → G X RX1 cX1_lawBySums mX1_lawBySums.rm N 0 0 10 [some (.ref (q)), some (.int (iZ (Ki))), some (.int (iZ (i))), none, none, none, none] [] (hs (hs h (q + 1) (ob 7 [.int (iZ (Ki)), .ref (q + 1 + 1), .ref (q + 1 + 2)])) (q + 1 + 1) (aL 7 (m1))) := by
    intro fu10
    induction fu10 with
    | zero => intro m1 i j hm ei j0 j1 hm0 hmb hme; exfalso; omega
    | succ fu10 ih10 =>
      intro m1 i j hms10 ei j0 j1 hm0 hmb hme
      refine r_iload_n dX1_lawBySums_10 rfl rfl ?_
      refine r_iload_n dX1_lawBySums_11 rfl rfl ?_
      refine r_icmp_gt 97 dX1_lawBySums_12 (by decide) ⟨by omega, by omega⟩ ⟨by omega, by omega⟩ (fun c_12 => ?_) (fun c_12 => ?_)
      · refine r_iconst (z := 1) dX1_lawBySums_97 ?_
        refine r_zreturn hq dX1_lawBySums_98 rfl (by decide) rfl rfl ?_
        have j9 : j = K + 1 := by omega
        exact hQ 1 _ m1 hm0 hmb (Or.inl ⟨rfl, fun t a b => by rw [← hme t a (by omega)]; exact hmb t (by omega), by omega, fun t a b => hme t a (by omega)⟩)
      · have ein : i.toNat = j := by omega
        have xb := hP j j0 (by omega)
        rw [← ein] at xb
        refine r_aload_n dX1_lawBySums_15 rfl rfl ?_
        refine gf_X1_28 dX1_lawBySums_16 (by omega) ((hs_n (by omega)).trans ((hs_n (by omega)).trans hq0)) rfl ?_
        refine r_iload_n dX1_lawBySums_19 rfl rfl ?_
        refine r_laload dX1_lawBySums_20 (by omega) ((hs_n (by omega)).trans ((hs_n (by omega)).trans hxp)) (by omega) (by omega) (by decide) ?_
        refine r_lstore_n (L2 := [_, _, _, _, none, none, none]) dX1_lawBySums_21 rfl (nlt rfl) rfl ?_
        refine r_iconst (z := 1) dX1_lawBySums_22 ?_
        refine r_istore (L2 := [_, _, _, _, none, _, none]) dX1_lawBySums_23 (nlt rfl) rfl ?_
        have lp25 : ∀ (fu25 : Nat) (re : Int) (w : Int) (v : Nat), (8 - w) < (fu25 : Int) → (w = (v : Int) + 1) → (v ≤ j - 1) → (re = xp j - sm (fun i => m1 (i + 1) * xp (j - (i + 1))) v) → (-(1000000000 + (v : Int) * 100000000000000) ≤ re) → (re ≤ 1000000000 + (v : Int) * 100000000000000) → G X RX1 cX1_lawBySums mX1_lawBySums.rm N 0 0 25 [some (.ref (q)), some (.int (iZ (Ki))), some (.int (iZ (i))), some (.long (lZ (re))), none, some (.int (iZ (w))), none] [] (hs (hs h (q + 1) (ob 7 [.int (iZ (Ki)), .ref (q + 1 + 1), .ref (q + 1 + 2)])) (q + 1 + 1) (aL 7 (m1))) := by
          intro fu25
          induction fu25 with
          | zero => intro re w v hm ew v1 es s0 s1; exfalso; omega
          | succ fu25 ih25 =>
            intro re w v hms25 ew v1 es s0 s1
            refine r_iload dX1_lawBySums_25 rfl ?_
            refine r_iload_n dX1_lawBySums_27 rfl rfl ?_
            refine r_icmp_ge 60 dX1_lawBySums_28 (by decide) ⟨by omega, by omega⟩ ⟨by omega, by omega⟩ (fun c_28 => ?_) (fun c_28 => ?_)
            · have v9 : v = j - 1 := by omega
              have hnj : re.tdiv i = lb xp j := by
                rw [lb_s j0, ← lbv_cong (f := m1) (P := xp) (fun t a b => hme t a b) (fun _ _ _ => rfl) j0]
                unfold lbv
                rw [es, v9, ei]
              have tdb := tdiv_ab re i
              refine r_lload_n dX1_lawBySums_60 rfl rfl ?_
              refine r_iload_n dX1_lawBySums_61 rfl rfl ?_
              refine r_i2l dX1_lawBySums_62 ⟨by omega, by omega⟩ ?_
              refine r_ldiv dX1_lawBySums_63 ⟨by omega, by omega⟩ ⟨by omega, by omega⟩ (by omega) (by omega) ?_
              refine r_lstore (L2 := [_, _, _, _, none, _, none]) dX1_lawBySums_64 (nlt rfl) rfl ?_
              refine r_lload dX1_lawBySums_66 rfl ?_
              refine r_absL dX1_lawBySums_68 ml_X1_72 jst_abs jin_Math jcd_abs ⟨by decide, by decide⟩ (nle rfl) ⟨Nat.zero_le _, Nat.zero_le _⟩ ⟨by omega, by omega⟩ ?_
              refine r_ldc2 (z := 100000) dX1_lawBySums_71 kc_X1_76 ?_
              refine r_lcmp_le 80 dX1_lawBySums_74 dX1_lawBySums_75 (by decide) ⟨by omega, by omega⟩ ⟨by decide, by decide⟩ (fun c_74 => ?_) (fun c_74 => ?_)
              · refine r_aload_n dX1_lawBySums_80 rfl rfl ?_
                refine gf_X1_12 dX1_lawBySums_81 (by omega) ((hs_n (by omega)).trans ((hs_n (by omega)).trans hq0)) rfl ?_
                refine gf_X1_69 dX1_lawBySums_84 (by omega) ((hs_n (by omega)).trans hs_e) rfl ?_
                refine r_iload_n dX1_lawBySums_87 rfl rfl ?_
                refine r_lload dX1_lawBySums_88 rfl ?_
                refine r_lastore dX1_lawBySums_90 (by omega) hs_e (by omega) (by omega) (by decide) ?_
                refine g_heap (h2 := (hs (hs h (q + 1) (ob 7 [.int (iZ (Ki)), .ref (q + 1 + 1), .ref (q + 1 + 2)])) (q + 1 + 1) (aL 7 (uA (m1) (i).toNat (re.tdiv i))))) hs_hs ?_
                refine r_iinc (L2 := [_, _, _, _, none, _, none]) dX1_lawBySums_91 (nlt rfl) rfl rfl ?_
                refine r_goto 10 dX1_lawBySums_94 (by decide) ?_
                refine r_mask [true, true, true, false, false, false, false] (L2 := [_, _, _, none, none, none, none]) rfl ?_
                exact ih10 (uA (m1) (i).toNat (re.tdiv i)) (i + 1) ((j + 1)) (by omega) (by omega) (by omega) (by omega) (by rw [ein, uA_n (by omega)]; exact hm0) (fun t hj => by rw [ein]; by_cases z : t = j; (rw [z, uA_e]; omega); rw [uA_n z]; exact hmb t hj) (fun t a b => by rw [ein]; by_cases z : t = j; (rw [z, uA_e]; exact hnj); rw [uA_n z]; exact hme t a (by omega))
              · refine r_iconst (z := 0) dX1_lawBySums_78 ?_
                refine r_zreturn hq dX1_lawBySums_79 rfl (by decide) rfl rfl ?_
                exact hQ 0 _ m1 hm0 hmb (Or.inr ⟨rfl, fun w => by have := w j j0 (by omega); rw [← hnj] at this; omega⟩)
            · refine r_lload_n dX1_lawBySums_31 rfl rfl ?_
              refine r_aload_n dX1_lawBySums_32 rfl rfl ?_
              refine gf_X1_12 dX1_lawBySums_33 (by omega) ((hs_n (by omega)).trans ((hs_n (by omega)).trans hq0)) rfl ?_
              have e1 : m1 w.toNat = m1 (v + 1) := by congr 1; omega
              have cb := hmb (v + 1) (by omega)
              rw [← e1] at cb
              refine gf_X1_69 dX1_lawBySums_36 (by omega) ((hs_n (by omega)).trans hs_e) rfl ?_
              refine r_iload dX1_lawBySums_39 rfl ?_
              refine r_laload dX1_lawBySums_41 (by omega) hs_e (by omega) (by omega) (by decide) ?_
              refine r_aload_n dX1_lawBySums_42 rfl rfl ?_
              refine gf_X1_28 dX1_lawBySums_43 (by omega) ((hs_n (by omega)).trans ((hs_n (by omega)).trans hq0)) rfl ?_
              refine r_iload_n dX1_lawBySums_46 rfl rfl ?_
              refine r_iload dX1_lawBySums_47 rfl ?_
              refine r_isub dX1_lawBySums_49 ?_
              have e2 : xp (i - w).toNat = xp (j - (v + 1)) := by congr 1; omega
              have fb := hP (j - (v + 1)) (by omega) (by omega)
              rw [← e2] at fb
              have m50 := mulb (A := 100000) (B := 1000000000) (a := m1 w.toNat) (b := xp (i - w).toNat) (C := 100000000000000) (by omega) (by omega) (by omega) (by omega) (by decide)
              refine r_laload dX1_lawBySums_50 (by omega) ((hs_n (by omega)).trans ((hs_n (by omega)).trans hxp)) (by omega) (by omega) (by decide) ?_
              refine r_lmul dX1_lawBySums_51 ?_
              refine r_lsub dX1_lawBySums_52 ?_
              refine r_lstore_n (L2 := [_, _, _, _, none, _, none]) dX1_lawBySums_53 rfl (nlt rfl) rfl ?_
              refine r_iinc (L2 := [_, _, _, _, none, _, none]) dX1_lawBySums_54 (nlt rfl) rfl rfl ?_
              refine r_goto 25 dX1_lawBySums_57 (by decide) ?_
              exact ih25 (re - ((m1 (w).toNat) * (xp (i - w).toNat))) (w + 1) ((v + 1)) (by omega) (by omega) (by omega) (by rw [sm_s, es, e1, e2]; omega) (by omega) (by omega)
        exact lp25 ((8 : Int) + 1).toNat (xp (i).toNat) (1) (0) (by omega) (by omega) (by omega) (by rw [ein]; show _ = _ - (0 : Int); rw [Int.sub_zero]) (by omega) (by omega)
  refine g_heap (hs_id (c := aL 7 (ml)) ((hs_n (by omega)).trans hml)).symm ?_
  exact lp10 ((8 : Int) + 1).toNat (ml) (1) (1) (by omega) rfl (Nat.le_refl _) (by omega) rfl hmlb (fun t a b => by omega)
set_option maxHeartbeats 2000000 in
set_option maxRecDepth 20000 in
theorem c_X1_product {N : Nat} {h : Hp} {Q : QP} {a b : Int} (ha : inM a) (hb : inM b) (hQ : ∀ z : Int, PRD a b z → Q (some (.long (lZ z))) N h) : Runs mX1_product [.long (lZ (a)), .long (lZ (b))] N h Q := by
  have ha1 := ha.1
  have ha2 := ha.2
  have hb1 := hb.1
  have hb2 := hb.2
  refine run_start (own := RX1) rfl (by decide) (nle rfl) rfl (fun X hq hini => ?_)
  show G X RX1 cX1_product mX1_product.rm N 0 0 0 [some (.long (lZ (a))), none, some (.long (lZ (b))), none] [] h
  refine r_lload_n dX1_product_0 rfl rfl ?_
  refine r_lconst (z := 0) dX1_product_1 (by decide) ?_
  refine r_lcmp_eq 26 dX1_product_2 dX1_product_3 (by decide) ⟨by omega, by omega⟩ ⟨by decide, by decide⟩ (fun c_2 => ?_) (fun c_2 => ?_)
  · refine r_lload_n dX1_product_26 rfl rfl ?_
    refine r_lload_n dX1_product_27 rfl rfl ?_
    refine r_lmul dX1_product_28 ?_
    refine r_lreturn hq dX1_product_29 rfl rfl rfl ?_
    have hp8 := prd_le (a := a) (b := b) (Or.inl c_2)
    exact hQ _ (Or.inl ⟨hp8.1, hp8.2, rfl⟩)
  · refine r_lload_n dX1_product_6 rfl rfl ?_
    refine r_absL dX1_product_7 ml_X1_72 jst_abs jin_Math jcd_abs ⟨by decide, by decide⟩ (nle rfl) ⟨Nat.zero_le _, Nat.zero_le _⟩ ⟨by omega, by omega⟩ ?_
    refine r_ldc2 (z := 1000000000000000000) dX1_product_10 kc_X1_114 ?_
    refine r_lload_n dX1_product_13 rfl rfl ?_
    refine r_absL dX1_product_14 ml_X1_72 jst_abs jin_Math jcd_abs ⟨by decide, by decide⟩ (nle rfl) ⟨Nat.zero_le _, Nat.zero_le _⟩ ⟨by omega, by omega⟩ ?_
    have dv : 0 ≤ (1000000000000000000 : Int) / (a.natAbs : Int) ∧ (1000000000000000000 : Int) / (a.natAbs : Int) ≤ 1000000000000000000 := ⟨Int.ediv_nonneg (by decide) (by omega), Int.ediv_le_self _ (by decide)⟩
    refine r_ldivp dX1_product_17 ⟨by decide, by decide⟩ ⟨by omega, by omega⟩ (by omega) (by omega) ?_
    refine r_lcmp_le 26 dX1_product_18 dX1_product_19 (by decide) ⟨by omega, by omega⟩ ⟨by omega, by omega⟩ (fun c_18 => ?_) (fun c_18 => ?_)
    · refine r_lload_n dX1_product_26 rfl rfl ?_
      refine r_lload_n dX1_product_27 rfl rfl ?_
      refine r_lmul dX1_product_28 ?_
      refine r_lreturn hq dX1_product_29 rfl rfl rfl ?_
      have hp8 := prd_le (a := a) (b := b) (Or.inr c_18)
      exact hQ _ (Or.inl ⟨hp8.1, hp8.2, rfl⟩)
    · refine r_ldc2 (z := 1000000000000000001) dX1_product_22 kc_X1_112 ?_
      refine r_lreturn hq dX1_product_25 rfl rfl rfl ?_
      exact hQ _ (Or.inr ⟨prd_gt (by omega) (Int.not_le.mp c_18), rfl⟩)
set_option maxHeartbeats 2000000 in
set_option maxRecDepth 20000 in
theorem c_X1_multiplyRoots {N : Nat} {h : Hp} {Q : QP} {q r r2 k l : Nat} {mo : Int} {c s d t ml xp yp : Nat → Int} (hq0 : h q = MKo q) (hN : q + 10 < N) (hmo : h (q + 1) = ROo (q + 1) mo) (hml : h (q + 1 + 1) = aL 7 ml) (hmlb : ∀ j, j < 7 → -100000 ≤ ml j ∧ ml j ≤ 100000) (hxp : h (q + 9) = aL 37 xp) (hyp : h (q + 10) = aL 7 yp) (hr : RowAt h r k c s) (hrN : r + 2 < N) (hrw : r + 2 < q ∨ q + 10 < r) (hk0 : 0 < k) (hk : k ≤ 6) (hcb : ∀ j, j < 7 → -100000 ≤ c j ∧ c j ≤ 100000) (hr2 : RowAt h r2 l d t) (hrN2 : r2 + 2 < N) (hrw2 : r2 + 2 < q ∨ q + 10 < r2 ∨ r2 = q + 4) (hl0 : 0 < l) (hl : l ≤ 6) (hdb : ∀ j, j < 7 → -100000 ≤ d j ∧ d j ≤ 100000) (hQ : ∀ (b : Int) (mo2 : Int) (m8 : Nat → Int) (x8 y8 : Nat → Int), m8 0 = ml 0 → (∀ j, j < 7 → -100000 ≤ m8 j ∧ m8 j ≤ 100000) → (b = 1 ∧ PKr k l c d ∧ mo2 = ((k * l : Nat) : Int) ∧ (∀ j, 1 ≤ j → j ≤ k * l → m8 j = lb (fun j => pw c k j * pw d l j) j) ∨ b = 0 ∧ ¬ (PKr k l c d)) → Q (some (.int (iZ b))) N (hs (hs (hs (hs h (q + 9) (aL 37 x8)) (q + 10) (aL 7 y8)) (q + 1) (ROo (q + 1) mo2)) (q + 1 + 1) (aL 7 m8))) : Runs mX1_multiplyRoots [.ref (q), .ref (r), .ref (r2)] N h Q := by
  obtain ⟨K, hK⟩ : ∃ K : Nat, K = k * l := ⟨_, rfl⟩
  have hKi : (k : Int) * (l : Int) = (K : Int) := by rw [hK, Int.natCast_mul]
  have hK0 : 0 < K := by rw [hK]; exact Nat.mul_pos hk0 hl0
  have hK1 : K ≤ 36 := by rw [hK]; exact Nat.mul_le_mul hk hl
  rw [← hK] at hQ
  refine run_start (own := RX1) rfl (by decide) (nle rfl) rfl (fun X hq hini => ?_)
  show G X RX1 cX1_multiplyRoots mX1_multiplyRoots.rm N 0 0 0 [some (.ref (q)), some (.ref (r)), some (.ref (r2)), none, none] [] h
  refine r_aload_n dX1_multiplyRoots_0 rfl rfl ?_
  refine gf_X1_56 dX1_multiplyRoots_1 (by omega) hr.1 rfl ?_
  refine r_aload_n dX1_multiplyRoots_4 rfl rfl ?_
  refine gf_X1_56 dX1_multiplyRoots_5 (by omega) hr2.1 rfl ?_
  refine r_imul dX1_multiplyRoots_8 ?_
  refine r_istore_n (L2 := [_, _, _, _, none]) dX1_multiplyRoots_9 rfl (nlt rfl) rfl ?_
  refine r_iload_n dX1_multiplyRoots_10 rfl rfl ?_
  refine r_bipush (z := 6) dX1_multiplyRoots_11 (by decide) ?_
  refine r_icmp_gt 40 dX1_multiplyRoots_13 (by decide) ⟨by omega, by omega⟩ ⟨by decide, by decide⟩ (fun c_13 => ?_) (fun c_13 => ?_)
  · refine r_iconst (z := 0) dX1_multiplyRoots_40 ?_
    refine r_zreturn hq dX1_multiplyRoots_41 rfl (by decide) rfl rfl ?_
    have hfin := hQ 0 (mo) (ml) (xp) (yp) rfl hmlb (Or.inr ⟨rfl, fun w => by have := w.1; omega⟩)
    rw [hs_id (a := q + 9) hxp] at hfin
    rw [hs_id (a := q + 10) hyp] at hfin
    rw [hs_id (a := q + 1) hmo] at hfin
    rw [hs_id (a := q + 1 + 1) hml] at hfin
    exact hfin
  · refine r_aload_n dX1_multiplyRoots_16 rfl rfl ?_
    refine r_aload_n dX1_multiplyRoots_17 rfl rfl ?_
    refine gf_X1_28 dX1_multiplyRoots_18 (by omega) hq0 rfl ?_
    refine r_iload_n dX1_multiplyRoots_21 rfl rfl ?_
    refine r_callS (av := [.ref (r), .ref (q + 9), .int (iZ ((k : Int) * (l : Int)))]) dX1_multiplyRoots_22 lkX1_sumPowers ml_X1_78 stX1_sumPowers ⟨Nat.le_of_ble_eq_true rfl, Nat.le_of_ble_eq_true rfl⟩ rfl rfl (nle rfl) ⟨Nat.le_of_ble_eq_true rfl, Nat.le_of_ble_eq_true rfl⟩ (c_X1_sumPowers (la := K) (k := k) (c := c) (s := s) (RowAt.to hr.1 hr.2.1 hr.2.2) (by omega) hxp (by omega) (by omega) hk0 hk hcb (by omega) (by omega) (by decide) (fun b22 f22 hb22 => ?_))
    show G _ _ _ _ _ _ _ 25 _ _ _
    refine r_if_eq 40 dX1_multiplyRoots_25 (by decide) (by rcases hb22 with ⟨y, _⟩ | ⟨y, _⟩ <;> exact ⟨by omega, by omega⟩) (fun c_25 => ?_) (fun c_25 => ?_)
    · refine r_iconst (z := 0) dX1_multiplyRoots_40 ?_
      refine r_zreturn hq dX1_multiplyRoots_41 rfl (by decide) rfl rfl ?_
      have hfin := hQ 0 (mo) (ml) (f22) (yp) rfl hmlb (Or.inr ⟨rfl, fun w => by rcases hb22 with ⟨y, _⟩ | ⟨_, y⟩; omega; exact y (by rw [hK]; exact w.2.1)⟩)
      rw [hs_id (a := q + 10) ((hs_n (by omega)).trans hyp)] at hfin
      rw [hs_id (a := q + 1) ((hs_n (by omega)).trans hmo)] at hfin
      rw [hs_id (a := q + 1 + 1) ((hs_n (by omega)).trans hml)] at hfin
      exact hfin
    · refine r_aload_n dX1_multiplyRoots_28 rfl rfl ?_
      refine r_aload_n dX1_multiplyRoots_29 rfl rfl ?_
      refine gf_X1_31 dX1_multiplyRoots_30 (by omega) ((hs_n (by omega)).trans hq0) rfl ?_
      refine r_iload_n dX1_multiplyRoots_33 rfl rfl ?_
      refine r_callS (av := [.ref (r2), .ref (q + 10), .int (iZ ((k : Int) * (l : Int)))]) dX1_multiplyRoots_34 lkX1_sumPowers ml_X1_78 stX1_sumPowers ⟨Nat.le_of_ble_eq_true rfl, Nat.le_of_ble_eq_true rfl⟩ rfl rfl (nle rfl) ⟨Nat.le_of_ble_eq_true rfl, Nat.le_of_ble_eq_true rfl⟩ (c_X1_sumPowers (la := K) (k := l) (c := d) (s := t) (RowAt.to ((hs_n (by omega)).trans hr2.1) ((hs_n (by omega)).trans hr2.2.1) ((hs_n (by omega)).trans hr2.2.2)) (by omega) ((hs_n (by omega)).trans hyp) (by omega) (by omega) hl0 hl hdb (by omega) (by omega) (by decide) (fun b34 f34 hb34 => ?_))
      show G _ _ _ _ _ _ _ 37 _ _ _
      refine r_if_ne 42 dX1_multiplyRoots_37 (by decide) (by rcases hb34 with ⟨y, _⟩ | ⟨y, _⟩ <;> exact ⟨by omega, by omega⟩) (fun c_37 => ?_) (fun c_37 => ?_)
      · have hf22 : powB K (pw c k) ∧ ∀ j, 1 ≤ j → j ≤ K → f22 j = pw c k j := by
          rcases hb22 with ⟨_, y⟩ | ⟨y, _⟩
          · exact y
          · exfalso; omega
        have hf34 : powB K (pw d l) ∧ ∀ j, 1 ≤ j → j ≤ K → f34 j = pw d l j := by
          rcases hb34 with ⟨_, y⟩ | ⟨y, _⟩
          · exact y
          · exfalso; omega
        refine r_iconst (z := 1) dX1_multiplyRoots_42 ?_
        refine r_istore (L2 := [_, _, _, _, _]) dX1_multiplyRoots_43 (nlt rfl) rfl ?_
        have lp45 : ∀ (fu45 : Nat) (x1 : Nat → Int) (i : Int) (j : Nat), (8 - i) < (fu45 : Int) → (i = (j : Int)) → (1 ≤ j) → (j ≤ K + 1) → (∀ t, 1 ≤ t → t < j → x1 t = pw c k t * pw d l t) → (∀ t, 1 ≤ t → t < j → -1000000000 ≤ pw c k t * pw d l t ∧ pw c k t * pw d l t ≤ 1000000000) → (∀ t, j ≤ t → x1 t = f22 t) → G X RX1 cX1_multiplyRoots mX1_multiplyRoots.rm N 0 0 45 [some (.ref (q)), some (.ref (r)), some (.ref (r2)), some (.int (iZ ((k : Int) * (l : Int)))), some (.int (iZ (i)))] [] (hs (hs h (q + 9) (aL 37 (x1))) (q + 10) (aL 7 (f34))) := by
          intro fu45
          induction fu45 with
          | zero => intro x1 i j hm ei j0 j1 hx hB hx2; exfalso; omega
          | succ fu45 ih45 =>
            intro x1 i j hms45 ei j0 j1 hx hB hx2
            refine r_iload dX1_multiplyRoots_45 rfl ?_
            refine r_iload_n dX1_multiplyRoots_47 rfl rfl ?_
            refine r_icmp_gt 93 dX1_multiplyRoots_48 (by decide) ⟨by omega, by omega⟩ ⟨by omega, by omega⟩ (fun c_48 => ?_) (fun c_48 => ?_)
            · have j9 : j = K + 1 := by omega
              have hP8 : powB K (fun j => pw c k j * pw d l j) := fun t a b => hB t a (by omega)
              have hP9 : powB K x1 := fun t a b => by rw [hx t a (by omega)]; exact hP8 t a b
              have hlc := lb_cong (P := x1) (P2 := fun j => pw c k j * pw d l j) (K := K) (fun t a b => hx t a (by omega))
              refine r_aload_n dX1_multiplyRoots_93 rfl rfl ?_
              refine r_iload_n dX1_multiplyRoots_94 rfl rfl ?_
              refine r_callV (av := [.int (iZ ((k : Int) * (l : Int)))]) dX1_multiplyRoots_95 lkX1_lawBySums ml_X1_84 imX1_lawBySums seX1_lawBySums (by omega) (rfl : vwCl[1]? = _) ⟨_, ((hs_n (by omega)).trans ((hs_n (by omega)).trans hq0))⟩ ⟨Nat.le_of_ble_eq_true rfl, Nat.le_of_ble_eq_true rfl⟩ rfl rfl (nle rfl) ⟨Nat.le_of_ble_eq_true rfl, Nat.le_of_ble_eq_true rfl⟩ (c_X1_lawBySums (q := q) (K := K) (mo := mo) (ml := ml) (xp := x1) ((hs_n (by omega)).trans ((hs_n (by omega)).trans hq0)) (by omega) ((hs_n (by omega)).trans ((hs_n (by omega)).trans hmo)) ((hs_n (by omega)).trans ((hs_n (by omega)).trans hml)) hmlb ((hs_n (by omega)).trans hs_e) (by omega) (by omega) (by omega) hP9 (fun b9 mo9 m9 hm90 hm9b hb9 => ?_))
              show G _ _ _ _ _ _ _ 98 _ _ _
              refine r_zreturn hq dX1_multiplyRoots_98 rfl (by omega) rfl rfl ?_
              refine hQ b9 mo9 m9 x1 f34 hm90 hm9b ?_
              rcases hb9 with ⟨y1, y2, y3, y4⟩ | ⟨y1, y2⟩
              · exact Or.inl ⟨y1, ⟨by omega, by rw [← hK]; exact hf22.1, by rw [← hK]; exact hf34.1, by rw [← hK]; exact hP8, by rw [← hK]; exact lawB_cong hlc y2⟩, y3, fun t a b => by rw [y4 t a b]; exact hlc t a b⟩
              · exact Or.inr ⟨y1, fun w => y2 (lawB_cong (fun t a b => (hlc t a b).symm) (by rw [hK]; exact w.2.2.2.2))⟩
            · refine r_aload_n dX1_multiplyRoots_51 rfl rfl ?_
              refine gf_X1_28 dX1_multiplyRoots_52 (by omega) ((hs_n (by omega)).trans ((hs_n (by omega)).trans hq0)) rfl ?_
              refine r_iload dX1_multiplyRoots_55 rfl ?_
              refine r_dup2 dX1_multiplyRoots_57 rfl rfl ?_
              have ein : i.toNat = j := by omega
              have hxj : x1 i.toNat = pw c k j := by rw [ein, hx2 j (Nat.le_refl j)]; exact hf22.2 j j0 (by omega)
              have xb := hf22.1 j j0 (by omega)
              rw [← hxj] at xb
              refine r_laload dX1_multiplyRoots_58 (by omega) ((hs_n (by omega)).trans hs_e) (by omega) (by omega) (by decide) ?_
              refine r_aload_n dX1_multiplyRoots_59 rfl rfl ?_
              refine gf_X1_31 dX1_multiplyRoots_60 (by omega) ((hs_n (by omega)).trans ((hs_n (by omega)).trans hq0)) rfl ?_
              refine r_iload dX1_multiplyRoots_63 rfl ?_
              refine r_laload dX1_multiplyRoots_65 (by omega) hs_e (by omega) (by omega) (by decide) ?_
              have hyj : f34 i.toNat = pw d l j := by rw [ein]; exact hf34.2 j j0 (by omega)
              have yb := hf34.1 j j0 (by omega)
              rw [← hyj] at yb
              have m66 := mulb (A := 1000000000) (B := 1000000000) (a := x1 i.toNat) (b := f34 i.toNat) (C := 1000000000000000000) (by omega) (by omega) (by omega) (by omega) (by decide)
              have hpx : x1 i.toNat * f34 i.toNat = pw c k j * pw d l j := by rw [hxj, hyj]
              refine r_lmul dX1_multiplyRoots_66 ?_
              refine r_lastore dX1_multiplyRoots_67 (by omega) ((hs_n (by omega)).trans hs_e) (by omega) (by omega) (by decide) ?_
              refine g_heap (h2 := (hs (hs h (q + 9) (aL 37 (uA (x1) (i).toNat ((x1 (i).toNat) * (f34 (i).toNat))))) (q + 10) (aL 7 (f34)))) (hs_put (by omega) hs_hs) ?_
              refine r_aload_n dX1_multiplyRoots_68 rfl rfl ?_
              refine gf_X1_28 dX1_multiplyRoots_69 (by omega) ((hs_n (by omega)).trans ((hs_n (by omega)).trans hq0)) rfl ?_
              refine r_iload dX1_multiplyRoots_72 rfl ?_
              refine r_laload dX1_multiplyRoots_74 (by omega) ((hs_n (by omega)).trans hs_e) (by omega) (by omega) (by decide) ?_
              refine r_absL dX1_multiplyRoots_75 ml_X1_72 jst_abs jin_Math jcd_abs ⟨by decide, by decide⟩ (nle rfl) ⟨Nat.zero_le _, Nat.zero_le _⟩ (by rw [uA_e]; exact ⟨by omega, by omega⟩) ?_
              refine r_ldc2 (z := 1000000000) dX1_multiplyRoots_78 kc_X1_82 ?_
              refine r_lcmp_le 87 dX1_multiplyRoots_81 dX1_multiplyRoots_82 (by decide) (by rw [uA_e]; exact ⟨by omega, by omega⟩) ⟨by decide, by decide⟩ (fun c_81 => ?_) (fun c_81 => ?_)
              · refine r_iinc (L2 := [_, _, _, _, _]) dX1_multiplyRoots_87 (nlt rfl) rfl rfl ?_
                refine r_goto 45 dX1_multiplyRoots_90 (by decide) ?_
                exact ih45 (uA (x1) (i).toNat ((x1 (i).toNat) * (f34 (i).toNat))) (i + 1) ((j + 1)) (by omega) (by omega) (by omega) (by omega) (fun t a b => by rw [ein]; by_cases z : t = j; (rw [z, uA_e, ← hpx, ein]); rw [uA_n z]; exact hx t a (by omega)) (fun t a b => by by_cases z : t = j; (rw [z, ← hpx]; rw [uA_e] at c_81; omega); exact hB t a (by omega)) (fun t a => by rw [ein, uA_n (by omega)]; exact hx2 t (by omega))
              · refine r_iconst (z := 0) dX1_multiplyRoots_85 ?_
                refine r_zreturn hq dX1_multiplyRoots_86 rfl (by decide) rfl rfl ?_
                have hfin := hQ 0 (mo) (ml) (uA (x1) (i).toNat ((x1 (i).toNat) * (f34 (i).toNat))) (f34) rfl hmlb (Or.inr ⟨rfl, fun w => by have h9 : -1000000000 ≤ pw c k j * pw d l j ∧ pw c k j * pw d l j ≤ 1000000000 := w.2.2.2.1 j j0 (by omega); rw [uA_e] at c_81; rw [hpx] at c_81; omega⟩)
                rw [hs_id (a := q + 1) ((hs_n (by omega)).trans ((hs_n (by omega)).trans hmo))] at hfin
                rw [hs_id (a := q + 1 + 1) ((hs_n (by omega)).trans ((hs_n (by omega)).trans hml))] at hfin
                exact hfin
        exact lp45 ((8 : Int) + 1).toNat (f22) (1) (1) (by omega) rfl (Nat.le_refl _) (by omega) (fun t a b => by omega) (fun t a b => by omega) (fun t a => rfl)
      · refine r_iconst (z := 0) dX1_multiplyRoots_40 ?_
        refine r_zreturn hq dX1_multiplyRoots_41 rfl (by decide) rfl rfl ?_
        have hfin := hQ 0 (mo) (ml) (f22) (f34) rfl hmlb (Or.inr ⟨rfl, fun w => by rcases hb34 with ⟨y, _⟩ | ⟨_, y⟩; omega; exact y (by rw [hK]; exact w.2.2.1)⟩)
        rw [hs_id (a := q + 1) ((hs_n (by omega)).trans ((hs_n (by omega)).trans hmo))] at hfin
        rw [hs_id (a := q + 1 + 1) ((hs_n (by omega)).trans ((hs_n (by omega)).trans hml))] at hfin
        exact hfin
set_option maxHeartbeats 2000000 in
set_option maxRecDepth 20000 in
theorem c_X1_raiseRoots {N : Nat} {h : Hp} {Q : QP} {q r k dd : Nat} {mo ddi : Int} {c s ml xp : Nat → Int} (hq0 : h q = MKo q) (hN : q + 10 < N) (hmo : h (q + 1) = ROo (q + 1) mo) (hml : h (q + 1 + 1) = aL 7 ml) (hmlb : ∀ j, j < 7 → -100000 ≤ ml j ∧ ml j ≤ 100000) (hxp : h (q + 9) = aL 37 xp) (hr : RowAt h r k c s) (hrN : r + 2 < N) (hrw : r + 2 < q ∨ q + 10 < r) (hk0 : 0 < k) (hk : k ≤ 6) (hcb : ∀ j, j < 7 → -100000 ≤ c j ∧ c j ≤ 100000) (hdd : ddi = (dd : Int)) (hdd2 : 2 ≤ dd) (hdd6 : dd ≤ 6) (hQ : ∀ (b : Int) (mo2 : Int) (m8 : Nat → Int) (x8 : Nat → Int), m8 0 = ml 0 → (∀ j, j < 7 → -100000 ≤ m8 j ∧ m8 j ≤ 100000) → (b = 1 ∧ PKe k dd c ∧ mo2 = ((k : Nat) : Int) ∧ (∀ j, 1 ≤ j → j ≤ k → m8 j = lb (fun j => pw c k (dd * j)) j) ∨ b = 0 ∧ ¬ (PKe k dd c)) → Q (some (.int (iZ b))) N (hs (hs (hs h (q + 9) (aL 37 x8)) (q + 1) (ROo (q + 1) mo2)) (q + 1 + 1) (aL 7 m8))) : Runs mX1_raiseRoots [.ref (q), .ref (r), .int (iZ (ddi))] N h Q := by
  have hKi : ddi * (k : Int) = ((dd * k : Nat) : Int) := by rw [hdd, Int.natCast_mul]
  have hK1 : dd * k ≤ 36 := Nat.mul_le_mul hdd6 hk
  refine run_start (own := RX1) rfl (by decide) (nle rfl) rfl (fun X hq hini => ?_)
  show G X RX1 cX1_raiseRoots mX1_raiseRoots.rm N 0 0 0 [some (.ref (q)), some (.ref (r)), some (.int (iZ (ddi))), none] [] h
  refine r_aload_n dX1_raiseRoots_0 rfl rfl ?_
  refine r_aload_n dX1_raiseRoots_1 rfl rfl ?_
  refine gf_X1_28 dX1_raiseRoots_2 (by omega) hq0 rfl ?_
  refine r_iload_n dX1_raiseRoots_5 rfl rfl ?_
  refine r_aload_n dX1_raiseRoots_6 rfl rfl ?_
  refine gf_X1_56 dX1_raiseRoots_7 (by omega) hr.1 rfl ?_
  refine r_imul dX1_raiseRoots_10 ?_
  refine r_callS (av := [.ref (r), .ref (q + 9), .int (iZ (ddi * (k : Int)))]) dX1_raiseRoots_11 lkX1_sumPowers ml_X1_78 stX1_sumPowers ⟨Nat.le_of_ble_eq_true rfl, Nat.le_of_ble_eq_true rfl⟩ rfl rfl (nle rfl) ⟨Nat.le_of_ble_eq_true rfl, Nat.le_of_ble_eq_true rfl⟩ (c_X1_sumPowers (la := dd * k) (k := k) (c := c) (s := s) (RowAt.to hr.1 hr.2.1 hr.2.2) (by omega) hxp (by omega) (by omega) hk0 hk hcb (by omega) (by omega) (by decide) (fun b11 f11 hb11 => ?_))
  show G _ _ _ _ _ _ _ 14 _ _ _
  refine r_if_ne 19 dX1_raiseRoots_14 (by decide) (by rcases hb11 with ⟨y, _⟩ | ⟨y, _⟩ <;> exact ⟨by omega, by omega⟩) (fun c_14 => ?_) (fun c_14 => ?_)
  · have hf11 : powB (dd * k) (pw c k) ∧ ∀ j, 1 ≤ j → j ≤ dd * k → f11 j = pw c k j := by
      rcases hb11 with ⟨_, y⟩ | ⟨y, _⟩
      · exact y
      · exfalso; omega
    refine r_iconst (z := 1) dX1_raiseRoots_19 ?_
    refine r_istore_n (L2 := [_, _, _, _]) dX1_raiseRoots_20 rfl (nlt rfl) rfl ?_
    have lp21 : ∀ (fu21 : Nat) (x1 : Nat → Int) (i : Int) (j : Nat), (8 - i) < (fu21 : Int) → (i = (j : Int)) → (1 ≤ j) → (j ≤ k + 1) → (∀ t, 1 ≤ t → t < j → x1 t = pw c k (dd * t)) → (∀ t, j ≤ t → x1 t = f11 t) → G X RX1 cX1_raiseRoots mX1_raiseRoots.rm N 0 0 21 [some (.ref (q)), some (.ref (r)), some (.int (iZ (ddi))), some (.int (iZ (i)))] [] (hs h (q + 9) (aL 37 (x1))) := by
      intro fu21
      induction fu21 with
      | zero => intro x1 i j hm ei j0 j1 hx hx2; exfalso; omega
      | succ fu21 ih21 =>
        intro x1 i j hms21 ei j0 j1 hx hx2
        refine r_iload_n dX1_raiseRoots_21 rfl rfl ?_
        refine r_aload_n dX1_raiseRoots_22 rfl rfl ?_
        refine gf_X1_56 dX1_raiseRoots_23 (by omega) ((hs_n (by omega)).trans hr.1) rfl ?_
        refine r_icmp_gt 49 dX1_raiseRoots_26 (by decide) ⟨by omega, by omega⟩ ⟨by omega, by omega⟩ (fun c_26 => ?_) (fun c_26 => ?_)
        · have j9 : j = k + 1 := by omega
          have hP9 : powB k x1 := fun t a b => by rw [hx t a (by omega)]; have h8 : dd * t ≤ dd * k := Nat.mul_le_mul_left dd b; have h9 : 1 * t ≤ dd * t := Nat.mul_le_mul_right t (by omega); exact hf11.1 (dd * t) (by omega) h8
          have hlc := lb_cong (P := x1) (P2 := fun j => pw c k (dd * j)) (K := k) (fun t a b => hx t a (by omega))
          refine r_aload_n dX1_raiseRoots_49 rfl rfl ?_
          refine r_aload_n dX1_raiseRoots_50 rfl rfl ?_
          refine gf_X1_56 dX1_raiseRoots_51 (by omega) ((hs_n (by omega)).trans hr.1) rfl ?_
          refine r_callV (av := [.int (iZ ((k : Int)))]) dX1_raiseRoots_54 lkX1_lawBySums ml_X1_84 imX1_lawBySums seX1_lawBySums (by omega) (rfl : vwCl[1]? = _) ⟨_, ((hs_n (by omega)).trans hq0)⟩ ⟨Nat.le_of_ble_eq_true rfl, Nat.le_of_ble_eq_true rfl⟩ rfl rfl (nle rfl) ⟨Nat.le_of_ble_eq_true rfl, Nat.le_of_ble_eq_true rfl⟩ (c_X1_lawBySums (q := q) (K := k) (mo := mo) (ml := ml) (xp := x1) ((hs_n (by omega)).trans hq0) (by omega) ((hs_n (by omega)).trans hmo) ((hs_n (by omega)).trans hml) hmlb hs_e (by omega) (by omega) (by omega) hP9 (fun b9 mo9 m9 hm90 hm9b hb9 => ?_))
          show G _ _ _ _ _ _ _ 57 _ _ _
          refine r_zreturn hq dX1_raiseRoots_57 rfl (by omega) rfl rfl ?_
          refine hQ b9 mo9 m9 x1 hm90 hm9b ?_
          rcases hb9 with ⟨y1, y2, y3, y4⟩ | ⟨y1, y2⟩
          · exact Or.inl ⟨y1, ⟨hf11.1, lawB_cong hlc y2⟩, y3, fun t a b => by rw [y4 t a b]; exact hlc t a b⟩
          · exact Or.inr ⟨y1, fun w => y2 (lawB_cong (fun t a b => (hlc t a b).symm) w.2)⟩
        · refine r_aload_n dX1_raiseRoots_29 rfl rfl ?_
          refine gf_X1_28 dX1_raiseRoots_30 (by omega) ((hs_n (by omega)).trans hq0) rfl ?_
          refine r_iload_n dX1_raiseRoots_33 rfl rfl ?_
          refine r_aload_n dX1_raiseRoots_34 rfl rfl ?_
          refine gf_X1_28 dX1_raiseRoots_35 (by omega) ((hs_n (by omega)).trans hq0) rfl ?_
          refine r_iload_n dX1_raiseRoots_38 rfl rfl ?_
          refine r_iload_n dX1_raiseRoots_39 rfl rfl ?_
          refine r_imul dX1_raiseRoots_40 ?_
          have ein : i.toNat = j := by omega
          have hdj : ddi * i = ((dd * j : Nat) : Int) := by rw [hdd, ei, Int.natCast_mul]
          have hdj1 : dd * j ≤ dd * k := Nat.mul_le_mul_left dd (by omega)
          have hdj2 : 1 * j ≤ dd * j := Nat.mul_le_mul_right j (by omega)
          have hdn : (ddi * i).toNat = dd * j := by omega
          have hxj : x1 (ddi * i).toNat = pw c k (dd * j) := by rw [hdn, hx2 _ (by omega)]; exact hf11.2 _ (by omega) hdj1
          refine r_laload dX1_raiseRoots_41 (by omega) hs_e (by omega) (by omega) (by decide) ?_
          refine r_lastore dX1_raiseRoots_42 (by omega) hs_e (by omega) (by omega) (by decide) ?_
          refine g_heap (h2 := (hs h (q + 9) (aL 37 (uA (x1) (i).toNat (x1 (ddi * i).toNat))))) hs_hs ?_
          refine r_iinc (L2 := [_, _, _, _]) dX1_raiseRoots_43 (nlt rfl) rfl rfl ?_
          refine r_goto 21 dX1_raiseRoots_46 (by decide) ?_
          exact ih21 (uA (x1) (i).toNat (x1 (ddi * i).toNat)) (i + 1) ((j + 1)) (by omega) (by omega) (by omega) (by omega) (fun t a b => by rw [ein]; by_cases z : t = j; (rw [z, uA_e]; exact hxj); rw [uA_n z]; exact hx t a (by omega)) (fun t a => by rw [ein, uA_n (by omega)]; exact hx2 t (by omega))
    exact lp21 ((8 : Int) + 1).toNat (f11) (1) (1) (by omega) rfl (Nat.le_refl _) (by omega) (fun t a b => by omega) (fun t a => rfl)
  · refine r_iconst (z := 0) dX1_raiseRoots_17 ?_
    refine r_zreturn hq dX1_raiseRoots_18 rfl (by decide) rfl rfl ?_
    have hfin := hQ 0 mo ml f11 rfl hmlb (Or.inr ⟨rfl, fun w => by rcases hb11 with ⟨y, _⟩ | ⟨_, y⟩; omega; exact y w.1⟩)
    rw [hs_id (a := q + 1) ((hs_n (by omega)).trans hmo)] at hfin
    rw [hs_id (a := q + 1 + 1) ((hs_n (by omega)).trans hml)] at hfin
    exact hfin
theorem mOkP {what : Int} {k l dd : Nat} {c d : Nat → Int} (h : what = 0 ∨ what = 1 ∨ what = 3) : mOk what k l dd c d = (k + l ≤ 6 ∧ lawB (k + l) (mulc c d k l)) := by rcases h with e | e | e <;> subst e <;> rfl
theorem mKP {what : Int} {k l : Nat} (h : what = 0 ∨ what = 1 ∨ what = 3) : mK what k l = k + l := by rcases h with e | e | e <;> subst e <;> rfl
theorem mLawP {what : Int} {k l dd : Nat} {c d : Nat → Int} (h : what = 0 ∨ what = 1 ∨ what = 3) : mLaw what k l dd c d = mulc c d k l := by rcases h with e | e | e <;> subst e <;> rfl
theorem mOk2 {what : Int} {k l dd : Nat} {c d : Nat → Int} (h : what = 2) : mOk what k l dd c d = PKr k l c d := by subst h; rfl
theorem mK2 {what : Int} {k l : Nat} (h : what = 2) : mK what k l = k * l := by subst h; rfl
theorem mLaw2 {what : Int} {k l dd : Nat} {c d : Nat → Int} (h : what = 2) : mLaw what k l dd c d = lb (fun j => pw c k j * pw d l j) := by subst h; rfl
theorem mOk4 {what : Int} {k l dd : Nat} {c d : Nat → Int} (h : what = 4) : mOk what k l dd c d = PKe k dd c := by subst h; rfl
theorem mK4 {what : Int} {k l : Nat} (h : what = 4) : mK what k l = k := by subst h; rfl
theorem mLaw4 {what : Int} {k l dd : Nat} {c d : Nat → Int} (h : what = 4) : mLaw what k l dd c d = lb (fun j => pw c k (dd * j)) := by subst h; rfl
theorem mOk5 {what : Int} {k l dd : Nat} {c d : Nat → Int} (h : what = 5) : mOk what k l dd c d = (k + 1 ≤ 6 ∧ lawB (k + 1) (mulc c one1 k 1)) := by subst h; rfl
theorem mK5 {what : Int} {k l : Nat} (h : what = 5) : mK what k l = k + 1 := by subst h; rfl
theorem mLaw5 {what : Int} {k l dd : Nat} {c d : Nat → Int} (h : what = 5) : mLaw what k l dd c d = mulc c one1 k 1 := by subst h; rfl
theorem mOk67 {what : Int} {k l dd : Nat} {c d : Nat → Int} (h : what = 6 ∨ what = 7) : mOk what k l dd c d = True := by rcases h with e | e <;> subst e <;> rfl
theorem mK67 {what : Int} {k l : Nat} (h : what = 6 ∨ what = 7) : mK what k l = k := by rcases h with e | e <;> subst e <;> rfl
theorem mLaw67 {what : Int} {k l dd : Nat} {c d : Nat → Int} (h : what = 6 ∨ what = 7) : mLaw what k l dd c d = c := by rcases h with e | e <;> subst e <;> rfl
set_option maxHeartbeats 2000000 in
set_option maxRecDepth 20000 in
theorem c_X7_becomeZ {N : Nat} {h : Hp} {Q : QP} {r o k2 : Nat} {kz : Int} {c s c2 s2 : Nat → Int} (h0 : h r = ob 7 [.int (iZ kz), .ref (r + 1), .ref (r + 2)]) (h1 : h (r + 1) = aL 7 c) (h2 : h (r + 2) = aL 6 s) (ho : RowAt h o k2 c2 s2) (hN : r + 2 < N) (hoN : o + 2 < N) (hro : r + 2 < o ∨ o + 2 < r) (hQ : ∀ c3 s3 : Nat → Int, (∀ j, j < 7 → c3 j = c2 j) → (∀ j, j < 6 → s3 j = s2 j) → Q none N (hs (hs (hs h r (ob 7 [.int (iZ (k2 : Int)), .ref (r + 1), .ref (r + 2)])) (r + 1) (aL 7 c3)) (r + 2) (aL 6 s3))) : Runs mX7_become [.ref (r), .ref (o)] N h Q := by
  refine run_start (own := RX7) rfl (by decide) (nle rfl) rfl (fun X hq hini => ?_)
  show G X RX7 cX7_become mX7_become.rm N 0 0 0 [some (.ref (r)), some (.ref (o))] [] h
  refine r_aload_n dX7_become_0 rfl rfl ?_
  refine r_aload_n dX7_become_1 rfl rfl ?_
  refine gf_X7_9 dX7_become_2 (by omega) ho.1 rfl ?_
  refine pf_X7_9 (fs2 := [_, _, _]) dX7_become_5 (fun _ _ => rfl) (fun _ _ => rfl) (nlt rfl) (by omega) h0 rfl ?_
  refine r_aload_n dX7_become_8 rfl rfl ?_
  refine gf_X7_15 dX7_become_9 (by omega) ((hs_n (by omega)).trans ho.1) rfl ?_
  refine r_iconst (z := 0) dX7_become_12 ?_
  refine r_aload_n dX7_become_13 rfl rfl ?_
  refine gf_X7_15 dX7_become_14 (by omega) hs_e rfl ?_
  refine r_iconst (z := 0) dX7_become_17 ?_
  refine r_aload_n dX7_become_18 rfl rfl ?_
  refine gf_X7_15 dX7_become_19 (by omega) hs_e rfl ?_
  refine r_arrlen (M := 7) dX7_become_22 (by omega) ((hs_n (by omega)).trans h1) (nlt rfl) rfl ?_
  show G _ _ _ _ _ _ _ _ _ (.int (iZ (7)) :: _) _
  refine r_copyL dX7_become_23 ml_X7_24 jna_copy jst_copy jin_System (by omega) (by omega) ((hs_n (by omega)).trans ho.2.1) ((hs_n (by omega)).trans h1) (by omega) (by omega) (by omega) (by omega) (by omega) (by decide) (by decide) ⟨by decide, by decide⟩ (nle rfl) ?_
  refine r_aload_n dX7_become_26 rfl rfl ?_
  refine gf_X7_19 dX7_become_27 (by omega) ((hs_n (by omega)).trans ((hs_n (by omega)).trans ho.1)) rfl ?_
  refine r_iconst (z := 0) dX7_become_30 ?_
  refine r_aload_n dX7_become_31 rfl rfl ?_
  refine gf_X7_19 dX7_become_32 (by omega) ((hs_n (by omega)).trans hs_e) rfl ?_
  refine r_iconst (z := 0) dX7_become_35 ?_
  refine r_aload_n dX7_become_36 rfl rfl ?_
  refine gf_X7_19 dX7_become_37 (by omega) ((hs_n (by omega)).trans hs_e) rfl ?_
  refine r_arrlen (M := 6) dX7_become_40 (by omega) ((hs_n (by omega)).trans ((hs_n (by omega)).trans h2)) (nlt rfl) rfl ?_
  show G _ _ _ _ _ _ _ _ _ (.int (iZ (6)) :: _) _
  refine r_copyL dX7_become_41 ml_X7_24 jna_copy jst_copy jin_System (by omega) (by omega) ((hs_n (by omega)).trans ((hs_n (by omega)).trans ho.2.2)) ((hs_n (by omega)).trans ((hs_n (by omega)).trans h2)) (by omega) (by omega) (by omega) (by omega) (by omega) (by decide) (by decide) ⟨by decide, by decide⟩ (nle rfl) ?_
  refine r_return hq dX7_become_44 rfl rfl rfl ?_
  exact hQ _ _ (fun j hj => by unfold cpy; rw [if_pos ⟨by omega, by show j < 0 + Int.toNat 7; omega⟩]; congr 1; show 0 + (j - 0) = j; omega) (fun j hj => by unfold cpy; rw [if_pos ⟨by omega, by show j < 0 + Int.toNat 6; omega⟩]; congr 1; show 0 + (j - 0) = j; omega)
set_option maxHeartbeats 2000000 in
set_option maxRecDepth 20000 in
theorem c_X1_makeLaw {N : Nat} {h : Hp} {Q : QP} {q r r2 k l : Nat} {mo what ddi : Int} {c s d t ml ms oc os xp yp : Nat → Int} (hq0 : h q = MKo q) (hN : q + 10 < N) (hmo : h (q + 1) = ROo (q + 1) mo) (hml : h (q + 1 + 1) = aL 7 ml) (hmlb : ∀ j, j < 7 → -100000 ≤ ml j ∧ ml j ≤ 100000) (hxp : h (q + 9) = aL 37 xp) (hyp : h (q + 10) = aL 7 yp) (hr : RowAt h r k c s) (hrN : r + 2 < N) (hrw : r + 2 < q ∨ q + 10 < r) (hk0 : 0 < k) (hk : k ≤ 6) (hcb : ∀ j, j < 7 → -100000 ≤ c j ∧ c j ≤ 100000) (hsb : ∀ j, j < 6 → -1000000 ≤ s j ∧ s j ≤ 1000000) (hr2 : RowAt h r2 l d t) (hrN2 : r2 + 2 < N) (hrw2 : r2 + 2 < q ∨ q + 10 < r2 ∨ r2 = q + 4) (hl0 : 0 < l) (hl : l ≤ 6) (hdb : ∀ j, j < 7 → -100000 ≤ d j ∧ d j ≤ 100000) (hon : RowAt h (q + 4) 1 oc os) (hoc0 : oc 0 = -1) (hoc1 : oc 1 = 1) (hob : ∀ j, j < 7 → -100000 ≤ oc j ∧ oc j ≤ 100000) (hw0 : 0 ≤ what) (hw7 : what ≤ 7) (hw4 : what = 4 → 2 ≤ ddi ∧ ddi ≤ 6) (hms : h (q + 1 + 2) = aL 6 ms) (hmsb : ∀ j, j < 6 → -1000000 ≤ ms j ∧ ms j ≤ 1000000) (hc0 : c 0 = -1) (hm0 : ml 0 = -1) (hQ : ∀ (b mo2 : Int) (m8 s8 x8 y8 : Nat → Int), m8 0 = -1 → (∀ j, j < 7 → -100000 ≤ m8 j ∧ m8 j ≤ 100000) → (∀ j, j < 6 → -1000000 ≤ s8 j ∧ s8 j ≤ 1000000) → (b = 1 ∧ mOk what k l ddi.toNat c d ∧ mo2 = (mK what k l : Int) ∧ (∀ j, 1 ≤ j → j ≤ mK what k l → m8 j = mLaw what k l ddi.toNat c d j) ∨ b = 0 ∧ ¬ mOk what k l ddi.toNat c d) → Q (some (.int (iZ b))) N (hs (hs (hs (hs (hs h (q + 9) (aL 37 x8)) (q + 10) (aL 7 y8)) (q + 1) (ROo (q + 1) mo2)) (q + 1 + 1) (aL 7 m8)) (q + 1 + 2) (aL 6 s8))) : Runs mX1_makeLaw [.ref (q), .int (iZ (what)), .ref (r), .ref (r2), .int (iZ (ddi))] N h Q := by
  
  refine run_start (own := RX1) rfl (by decide) (nle rfl) rfl (fun X hq hini => ?_)
  show G X RX1 cX1_makeLaw mX1_makeLaw.rm N 0 0 0 [some (.ref (q)), some (.int (iZ (what))), some (.ref (r)), some (.ref (r2)), some (.int (iZ (ddi)))] [] h
  refine r_iload_n dX1_makeLaw_0 rfl rfl ?_
  rcases (show what < 0 ∨ 5 < what ∨ what = 0 ∨ what = 1 ∨ what = 2 ∨ what = 3 ∨ what = 4 ∨ what = 5 by omega) with hs_1 | hs_1 | hs_1 | hs_1 | hs_1 | hs_1 | hs_1 | hs_1
  · exfalso; omega
  · refine r_tabOut 72 dX1_makeLaw_1 ⟨by omega, by omega⟩ (by omega) (by decide) ?_
    have hs9 : what = 6 ∨ what = 7 := by omega
    refine r_aload_n dX1_makeLaw_72 rfl rfl ?_
    refine gf_X1_12 dX1_makeLaw_73 (by omega) hq0 rfl ?_
    refine r_aload_n dX1_makeLaw_76 rfl rfl ?_
    refine r_callV (av := [.ref (r)]) dX1_makeLaw_77 lkX7_become ml_X1_52 imX7_become seX7_become (by omega) (rfl : vwCl[7]? = _) ⟨_, hmo⟩ ⟨Nat.le_of_ble_eq_true rfl, Nat.le_of_ble_eq_true rfl⟩ rfl rfl (nle rfl) ⟨Nat.le_of_ble_eq_true rfl, Nat.le_of_ble_eq_true rfl⟩ (c_X7_becomeZ (r := q + 1) (o := r) (k2 := k) (c := ml) (s := ms) (c2 := c) (s2 := s) hmo hml hms (RowAt.to hr.1 hr.2.1 hr.2.2) (by omega) (by omega) (by omega) (fun bc77 bs77 hbc77 hbs77 => ?_))
    show G _ _ _ _ _ _ _ 80 _ _ _
    refine r_iconst (z := 1) dX1_makeLaw_80 ?_
    refine r_zreturn hq dX1_makeLaw_81 rfl (by decide) rfl rfl ?_
    have hfin := hQ 1 ((k : Int)) (bc77) (bs77) (xp) (yp) (by rw [hbc77 0 (by omega)]; exact hc0) (fun j hj => by rw [hbc77 j hj]; exact hcb j hj) (fun j hj => by rw [hbs77 j hj]; exact hsb j hj) (Or.inl ⟨rfl, (by rw [mOk67 hs9]; trivial), by rw [mK67 hs9], fun j a b => by rw [mLaw67 hs9]; rw [mK67 hs9] at b; exact hbc77 j (by omega)⟩)
    rw [hs_id (a := q + 9) hxp] at hfin
    rw [hs_id (a := q + 10) hyp] at hfin
    exact hfin
  · refine r_tabIn (off := 39) 40 dX1_makeLaw_1 ⟨by omega, by omega⟩ (by omega) (by omega) (by rw [hs_1]; rfl) (by decide) ?_
    refine r_aload_n dX1_makeLaw_40 rfl rfl ?_
    refine r_aload_n dX1_makeLaw_41 rfl rfl ?_
    refine r_aload_n dX1_makeLaw_42 rfl rfl ?_
    refine r_callV (av := [.ref (r), .ref (r2)]) dX1_makeLaw_43 lkX1_multiplyPolynomials ml_X1_41 imX1_multiplyPolynomials seX1_multiplyPolynomials (by omega) (rfl : vwCl[1]? = _) ⟨_, hq0⟩ ⟨Nat.le_of_ble_eq_true rfl, Nat.le_of_ble_eq_true rfl⟩ rfl rfl (nle rfl) ⟨Nat.le_of_ble_eq_true rfl, Nat.le_of_ble_eq_true rfl⟩ (c_X1_multiplyPolynomials (q := q) (r := r) (k := k) (c := c) (s := s) (r2 := r2) (l := l) (d := d) (t := t) hq0 (by omega) hmo hml hmlb (RowAt.to hr.1 hr.2.1 hr.2.2) hrN hrw hk0 hk hcb (RowAt.to hr2.1 hr2.2.1 hr2.2.2) (by omega) (by omega) (by omega) (by omega) hdb (fun b43 mo43 m43 hz43 hbd43 hb43 => ?_))
    show G _ _ _ _ _ _ _ 46 _ _ _
    refine r_zreturn hq dX1_makeLaw_46 rfl (by omega) rfl rfl ?_
    have hs9 : what = 0 ∨ what = 1 ∨ what = 3 := by omega
    have hfin := hQ b43 (mo43) (m43) (ms) (xp) (yp) (by rw [hz43]; exact hm0) hbd43 hmsb (by rw [mOkP hs9, mKP hs9, mLawP hs9]; exact hb43)
    rw [hs_id (a := q + 9) hxp] at hfin
    rw [hs_id (a := q + 10) hyp] at hfin
    rw [hs_id (a := q + 1 + 2) ((hs_n (by omega)).trans ((hs_n (by omega)).trans hms))] at hfin
    exact hfin
  · refine r_tabIn (off := 39) 40 dX1_makeLaw_1 ⟨by omega, by omega⟩ (by omega) (by omega) (by rw [hs_1]; rfl) (by decide) ?_
    refine r_aload_n dX1_makeLaw_40 rfl rfl ?_
    refine r_aload_n dX1_makeLaw_41 rfl rfl ?_
    refine r_aload_n dX1_makeLaw_42 rfl rfl ?_
    refine r_callV (av := [.ref (r), .ref (r2)]) dX1_makeLaw_43 lkX1_multiplyPolynomials ml_X1_41 imX1_multiplyPolynomials seX1_multiplyPolynomials (by omega) (rfl : vwCl[1]? = _) ⟨_, hq0⟩ ⟨Nat.le_of_ble_eq_true rfl, Nat.le_of_ble_eq_true rfl⟩ rfl rfl (nle rfl) ⟨Nat.le_of_ble_eq_true rfl, Nat.le_of_ble_eq_true rfl⟩ (c_X1_multiplyPolynomials (q := q) (r := r) (k := k) (c := c) (s := s) (r2 := r2) (l := l) (d := d) (t := t) hq0 (by omega) hmo hml hmlb (RowAt.to hr.1 hr.2.1 hr.2.2) hrN hrw hk0 hk hcb (RowAt.to hr2.1 hr2.2.1 hr2.2.2) (by omega) (by omega) (by omega) (by omega) hdb (fun b43 mo43 m43 hz43 hbd43 hb43 => ?_))
    show G _ _ _ _ _ _ _ 46 _ _ _
    refine r_zreturn hq dX1_makeLaw_46 rfl (by omega) rfl rfl ?_
    have hs9 : what = 0 ∨ what = 1 ∨ what = 3 := by omega
    have hfin := hQ b43 (mo43) (m43) (ms) (xp) (yp) (by rw [hz43]; exact hm0) hbd43 hmsb (by rw [mOkP hs9, mKP hs9, mLawP hs9]; exact hb43)
    rw [hs_id (a := q + 9) hxp] at hfin
    rw [hs_id (a := q + 10) hyp] at hfin
    rw [hs_id (a := q + 1 + 2) ((hs_n (by omega)).trans ((hs_n (by omega)).trans hms))] at hfin
    exact hfin
  · refine r_tabIn (off := 46) 47 dX1_makeLaw_1 ⟨by omega, by omega⟩ (by omega) (by omega) (by rw [hs_1]; rfl) (by decide) ?_
    refine r_aload_n dX1_makeLaw_47 rfl rfl ?_
    refine r_aload_n dX1_makeLaw_48 rfl rfl ?_
    refine r_aload_n dX1_makeLaw_49 rfl rfl ?_
    refine r_callV (av := [.ref (r), .ref (r2)]) dX1_makeLaw_50 lkX1_multiplyRoots ml_X1_45 imX1_multiplyRoots seX1_multiplyRoots (by omega) (rfl : vwCl[1]? = _) ⟨_, hq0⟩ ⟨Nat.le_of_ble_eq_true rfl, Nat.le_of_ble_eq_true rfl⟩ rfl rfl (nle rfl) ⟨Nat.le_of_ble_eq_true rfl, Nat.le_of_ble_eq_true rfl⟩ (c_X1_multiplyRoots (q := q) (r := r) (r2 := r2) (k := k) (l := l) (c := c) (s := s) (d := d) (t := t) hq0 (by omega) hmo hml hmlb hxp hyp (RowAt.to hr.1 hr.2.1 hr.2.2) hrN hrw hk0 hk hcb (RowAt.to hr2.1 hr2.2.1 hr2.2.2) hrN2 hrw2 hl0 hl hdb (fun b50 mo50 m50 x50 y50 hz50 hbd50 hb50 => ?_))
    show G _ _ _ _ _ _ _ 53 _ _ _
    refine r_zreturn hq dX1_makeLaw_53 rfl (by omega) rfl rfl ?_
    have hs9 : what = 2 := by omega
    have hfin := hQ b50 (mo50) (m50) (ms) (x50) (y50) (by rw [hz50]; exact hm0) hbd50 hmsb (by rw [mOk2 hs9, mK2 hs9, mLaw2 hs9]; exact hb50)
    rw [hs_id (a := q + 1 + 2) ((hs_n (by omega)).trans ((hs_n (by omega)).trans ((hs_n (by omega)).trans ((hs_n (by omega)).trans hms))))] at hfin
    exact hfin
  · refine r_tabIn (off := 39) 40 dX1_makeLaw_1 ⟨by omega, by omega⟩ (by omega) (by omega) (by rw [hs_1]; rfl) (by decide) ?_
    refine r_aload_n dX1_makeLaw_40 rfl rfl ?_
    refine r_aload_n dX1_makeLaw_41 rfl rfl ?_
    refine r_aload_n dX1_makeLaw_42 rfl rfl ?_
    refine r_callV (av := [.ref (r), .ref (r2)]) dX1_makeLaw_43 lkX1_multiplyPolynomials ml_X1_41 imX1_multiplyPolynomials seX1_multiplyPolynomials (by omega) (rfl : vwCl[1]? = _) ⟨_, hq0⟩ ⟨Nat.le_of_ble_eq_true rfl, Nat.le_of_ble_eq_true rfl⟩ rfl rfl (nle rfl) ⟨Nat.le_of_ble_eq_true rfl, Nat.le_of_ble_eq_true rfl⟩ (c_X1_multiplyPolynomials (q := q) (r := r) (k := k) (c := c) (s := s) (r2 := r2) (l := l) (d := d) (t := t) hq0 (by omega) hmo hml hmlb (RowAt.to hr.1 hr.2.1 hr.2.2) hrN hrw hk0 hk hcb (RowAt.to hr2.1 hr2.2.1 hr2.2.2) (by omega) (by omega) (by omega) (by omega) hdb (fun b43 mo43 m43 hz43 hbd43 hb43 => ?_))
    show G _ _ _ _ _ _ _ 46 _ _ _
    refine r_zreturn hq dX1_makeLaw_46 rfl (by omega) rfl rfl ?_
    have hs9 : what = 0 ∨ what = 1 ∨ what = 3 := by omega
    have hfin := hQ b43 (mo43) (m43) (ms) (xp) (yp) (by rw [hz43]; exact hm0) hbd43 hmsb (by rw [mOkP hs9, mKP hs9, mLawP hs9]; exact hb43)
    rw [hs_id (a := q + 9) hxp] at hfin
    rw [hs_id (a := q + 10) hyp] at hfin
    rw [hs_id (a := q + 1 + 2) ((hs_n (by omega)).trans ((hs_n (by omega)).trans hms))] at hfin
    exact hfin
  · refine r_tabIn (off := 53) 54 dX1_makeLaw_1 ⟨by omega, by omega⟩ (by omega) (by omega) (by rw [hs_1]; rfl) (by decide) ?_
    refine r_aload_n dX1_makeLaw_54 rfl rfl ?_
    refine r_aload_n dX1_makeLaw_55 rfl rfl ?_
    refine r_iload dX1_makeLaw_56 rfl ?_
    refine r_callV (av := [.ref (r), .int (iZ (ddi))]) dX1_makeLaw_58 lkX1_raiseRoots ml_X1_48 imX1_raiseRoots seX1_raiseRoots (by omega) (rfl : vwCl[1]? = _) ⟨_, hq0⟩ ⟨Nat.le_of_ble_eq_true rfl, Nat.le_of_ble_eq_true rfl⟩ rfl rfl (nle rfl) ⟨Nat.le_of_ble_eq_true rfl, Nat.le_of_ble_eq_true rfl⟩ (c_X1_raiseRoots (q := q) (r := r) (k := k) (dd := ddi.toNat) (c := c) (s := s) hq0 (by omega) hmo hml hmlb hxp (RowAt.to hr.1 hr.2.1 hr.2.2) hrN hrw hk0 hk hcb (by omega) (by omega) (by omega) (fun b58 mo58 m58 x58 hz58 hbd58 hb58 => ?_))
    show G _ _ _ _ _ _ _ 61 _ _ _
    refine r_zreturn hq dX1_makeLaw_61 rfl (by omega) rfl rfl ?_
    have hs9 : what = 4 := by omega
    have hfin := hQ b58 (mo58) (m58) (ms) (x58) (yp) (by rw [hz58]; exact hm0) hbd58 hmsb (by rw [mOk4 hs9, mK4 hs9, mLaw4 hs9]; exact hb58)
    rw [hs_id (a := q + 10) ((hs_n (by omega)).trans hyp)] at hfin
    rw [hs_id (a := q + 1 + 2) ((hs_n (by omega)).trans ((hs_n (by omega)).trans ((hs_n (by omega)).trans hms)))] at hfin
    exact hfin
  · refine r_tabIn (off := 61) 62 dX1_makeLaw_1 ⟨by omega, by omega⟩ (by omega) (by omega) (by rw [hs_1]; rfl) (by decide) ?_
    refine r_aload_n dX1_makeLaw_62 rfl rfl ?_
    refine r_aload_n dX1_makeLaw_63 rfl rfl ?_
    refine r_aload_n dX1_makeLaw_64 rfl rfl ?_
    refine gf_X1_18 dX1_makeLaw_65 (by omega) hq0 rfl ?_
    refine r_callV (av := [.ref (r), .ref (q + 4)]) dX1_makeLaw_68 lkX1_multiplyPolynomials ml_X1_41 imX1_multiplyPolynomials seX1_multiplyPolynomials (by omega) (rfl : vwCl[1]? = _) ⟨_, hq0⟩ ⟨Nat.le_of_ble_eq_true rfl, Nat.le_of_ble_eq_true rfl⟩ rfl rfl (nle rfl) ⟨Nat.le_of_ble_eq_true rfl, Nat.le_of_ble_eq_true rfl⟩ (c_X1_multiplyPolynomials (q := q) (r := r) (k := k) (c := c) (s := s) (r2 := q + 4) (l := 1) (d := oc) (t := os) hq0 (by omega) hmo hml hmlb (RowAt.to hr.1 hr.2.1 hr.2.2) hrN hrw hk0 hk hcb (RowAt.to hon.1 hon.2.1 hon.2.2) (by omega) (by omega) (by omega) (by omega) hob (fun b68 mo68 m68 hz68 hbd68 hb68 => ?_))
    show G _ _ _ _ _ _ _ 71 _ _ _
    refine r_zreturn hq dX1_makeLaw_71 rfl (by omega) rfl rfl ?_
    have hs9 : what = 5 := by omega
    have hfin := hQ b68 (mo68) (m68) (ms) (xp) (yp) (by rw [hz68]; exact hm0) hbd68 hmsb (by rw [mOk5 hs9, mK5 hs9, mLaw5 hs9]; have hq8 : mulc c oc k 1 = mulc c one1 k 1 := funext (fun n => mulc_cong (fun j hj => by unfold one1; by_cases z : j = 0; (rw [z, if_pos rfl]; exact hoc0); have e1 : j = 1 := (by omega); rw [e1, if_neg (by decide)]; exact hoc1)); rw [hq8] at hb68; exact hb68)
    rw [hs_id (a := q + 9) hxp] at hfin
    rw [hs_id (a := q + 10) hyp] at hfin
    rw [hs_id (a := q + 1 + 2) ((hs_n (by omega)).trans ((hs_n (by omega)).trans hms))] at hfin
    exact hfin
set_option maxHeartbeats 2000000 in
set_option maxRecDepth 20000 in
theorem c_X1_lastPlaceOfX {N : Nat} {h : Hp} {Q : QP} {q K : Nat} {mo what ddi : Int} (hq0 : h q = MKo q) (hN : q + 10 < N) (hmo : h (q + 1) = ROo (q + 1) mo) (hmK : mo = (K : Int)) (hK0 : 0 < K) (hK6 : K ≤ 6) (hw0 : 0 ≤ what) (hw7 : what ≤ 7) (hw4 : what = 4 → 2 ≤ ddi ∧ ddi ≤ 6) (hw6 : what = 6 → 0 ≤ ddi ∧ ddi ≤ 1000) (hQ : Q (some (.int (iZ (mLast what K ddi.toNat : Int)))) N h) : Runs mX1_lastPlaceOfX [.ref (q), .int (iZ (what)), .int (iZ (ddi))] N h Q := by
  refine run_start (own := RX1) rfl (by decide) (nle rfl) rfl (fun X hq hini => ?_)
  show G X RX1 cX1_lastPlaceOfX mX1_lastPlaceOfX.rm N 0 0 0 [some (.ref (q)), some (.int (iZ (what))), some (.int (iZ (ddi))), none] [] h
  refine r_aload_n dX1_lastPlaceOfX_0 rfl rfl ?_
  refine gf_X1_12 dX1_lastPlaceOfX_1 (by omega) hq0 rfl ?_
  refine gf_X1_56 dX1_lastPlaceOfX_4 (by omega) hmo rfl ?_
  refine r_iconst (z := 1) dX1_lastPlaceOfX_7 ?_
  refine r_isub dX1_lastPlaceOfX_8 ?_
  refine r_istore_n (L2 := [_, _, _, _]) dX1_lastPlaceOfX_9 rfl (nlt rfl) rfl ?_
  refine r_iload_n dX1_lastPlaceOfX_10 rfl rfl ?_
  refine r_iconst (z := 4) dX1_lastPlaceOfX_11 ?_
  refine r_icmp_ne 19 dX1_lastPlaceOfX_12 (by decide) ⟨by omega, by omega⟩ ⟨by decide, by decide⟩ (fun c_12 => ?_) (fun c_12 => ?_)
  · refine r_iload_n dX1_lastPlaceOfX_19 rfl rfl ?_
    refine r_bipush (z := 6) dX1_lastPlaceOfX_20 (by decide) ?_
    refine r_icmp_ne 31 dX1_lastPlaceOfX_22 (by decide) ⟨by omega, by omega⟩ ⟨by decide, by decide⟩ (fun c_22 => ?_) (fun c_22 => ?_)
    · refine r_iload_n dX1_lastPlaceOfX_31 rfl rfl ?_
      refine r_ireturn hq dX1_lastPlaceOfX_32 rfl rfl rfl ?_
      have e1 : mLast what K ddi.toNat = K - 1 := by unfold mLast; rw [if_neg c_12, if_neg c_22]
      have e2 : mo - 1 = (mLast what K ddi.toNat : Int) := by omega
      rw [e2]
      exact hQ
    · refine r_iload_n dX1_lastPlaceOfX_25 rfl rfl ?_
      refine r_iload_n dX1_lastPlaceOfX_26 rfl rfl ?_
      refine r_iadd dX1_lastPlaceOfX_27 ?_
      refine r_goto 32 dX1_lastPlaceOfX_28 (by decide) ?_
      refine r_ireturn hq dX1_lastPlaceOfX_32 rfl rfl rfl ?_
      have hd := hw6 (by omega)
      have e1 : mLast what K ddi.toNat = ddi.toNat + (K - 1) := by unfold mLast; rw [if_neg c_12, if_pos (by omega)]
      have e2 : ddi + (mo - 1) = (mLast what K ddi.toNat : Int) := by omega
      rw [e2]
      exact hQ
  · refine r_iload_n dX1_lastPlaceOfX_15 rfl rfl ?_
    refine r_iload_n dX1_lastPlaceOfX_16 rfl rfl ?_
    refine r_imul dX1_lastPlaceOfX_17 ?_
    refine r_ireturn hq dX1_lastPlaceOfX_18 rfl rfl rfl ?_
    have hd := hw4 c_12
    have e1 : mLast what K ddi.toNat = ddi.toNat * (K - 1) := by subst c_12; rfl
    have e2 : ddi * (mo - 1) = ((ddi.toNat * (K - 1) : Nat) : Int) := by rw [Int.natCast_mul]; congr 1 <;> omega
    rw [e2, ← e1]
    exact hQ
set_option maxHeartbeats 2000000 in
set_option maxRecDepth 20000 in
theorem c_X1_fold {N : Nat} {h : Hp} {Q : QP} {q n : Nat} {ni : Int} {xn yn : Nat → Int} (hq0 : h q = MKo q) (hN : q + 10 < N) (hxn : h (q + 7) = aL 1006 xn) (hyn : h (q + 8) = aL 6 yn) (hni : ni = (n : Int)) (hn5 : n < 6) (hxb : ∀ j, j ≤ n → inM (xn j)) (hyb : ∀ j, j ≤ n → inM (yn j)) (hQ : ∀ z : Int, FLD xn yn n z → Q (some (.long (lZ z))) N h) : Runs mX1_fold [.ref (q), .int (iZ (ni))] N h Q := by
  refine run_start (own := RX1) rfl (by decide) (nle rfl) rfl (fun X hq hini => ?_)
  show G X RX1 cX1_fold mX1_fold.rm N 0 0 0 [some (.ref (q)), some (.int (iZ (ni))), none, none, none, none, none] [] h
  refine r_lconst (z := 0) dX1_fold_0 (by decide) ?_
  refine r_lstore_n (L2 := [_, _, _, none, none, none, none]) dX1_fold_1 rfl (nlt rfl) rfl ?_
  refine r_iconst (z := 0) dX1_fold_2 ?_
  refine r_istore (L2 := [_, _, _, none, _, none, none]) dX1_fold_3 (nlt rfl) rfl ?_
  have lp5 : ∀ (fu5 : Nat) (sum : Int) (i : Int) (j : Nat), (7 - i) < (fu5 : Int) → (i = (j : Int)) → (j ≤ n + 1) → (sum = sm (fun t => xn t * yn (n - t)) j) → (∀ t, t < j → (-1000000000000000000 ≤ xn t * yn (n - t) ∧ xn t * yn (n - t) ≤ 1000000000000000000) ∧ (-1000000000000000000 ≤ sm (fun u => xn u * yn (n - u)) (t + 1) ∧ sm (fun u => xn u * yn (n - u)) (t + 1) ≤ 1000000000000000000)) → (-1000000000000000000 ≤ sum ∧ sum ≤ 1000000000000000000) → G X RX1 cX1_fold mX1_fold.rm N 0 0 5 [some (.ref (q)), some (.int (iZ (ni))), some (.long (lZ (sum))), none, some (.int (iZ (i))), none, none] [] h := by
    intro fu5
    induction fu5 with
    | zero => intro sum i j hm ei j1 es hok sb; exfalso; omega
    | succ fu5 ih5 =>
      intro sum i j hms5 ei j1 es hok sb
      refine r_iload dX1_fold_5 rfl ?_
      refine r_iload_n dX1_fold_7 rfl rfl ?_
      refine r_icmp_gt 71 dX1_fold_8 (by decide) ⟨by omega, by omega⟩ ⟨by omega, by omega⟩ (fun c_8 => ?_) (fun c_8 => ?_)
      · refine r_lload_n dX1_fold_71 rfl rfl ?_
        refine r_lreturn hq dX1_fold_72 rfl rfl rfl ?_
        have j9 : j = n + 1 := by omega
        exact hQ _ (Or.inl ⟨fun t ht => hok t (by omega), by rw [es, j9]⟩)
      · refine r_aload_n dX1_fold_11 rfl rfl ?_
        refine gf_X1_21 dX1_fold_12 (by omega) hq0 rfl ?_
        refine r_iload dX1_fold_15 rfl ?_
        refine r_laload dX1_fold_17 (by omega) hxn (by omega) (by omega) (by decide) ?_
        refine r_aload_n dX1_fold_18 rfl rfl ?_
        refine gf_X1_25 dX1_fold_19 (by omega) hq0 rfl ?_
        refine r_iload_n dX1_fold_22 rfl rfl ?_
        refine r_iload dX1_fold_23 rfl ?_
        refine r_isub dX1_fold_25 ?_
        refine r_laload dX1_fold_26 (by omega) hyn (by omega) (by omega) (by decide) ?_
        refine r_callS (av := [.long (lZ (xn (i).toNat)), .long (lZ (yn (ni - i).toNat))]) dX1_fold_27 lkX1_product ml_X1_104 stX1_product ⟨Nat.le_of_ble_eq_true rfl, Nat.le_of_ble_eq_true rfl⟩ rfl rfl (nle rfl) ⟨Nat.le_of_ble_eq_true rfl, Nat.le_of_ble_eq_true rfl⟩ (c_X1_product (a := xn (i).toNat) (b := yn (ni - i).toNat) (hxb i.toNat (by omega)) (hyb (ni - i).toNat (by omega)) (fun z27 hz27 => ?_))
        show G _ _ _ _ _ _ _ 30 _ _ _
        have e1 : xn i.toNat = xn j := by congr 1; omega
        have e2 : yn (ni - i).toNat = yn (n - j) := by congr 1; omega
        rw [e1, e2] at hz27
        have zb : -1000000000000000000 ≤ z27 ∧ z27 ≤ 1000000000000000001 := by rcases hz27 with ⟨a1, a2, a3⟩ | ⟨_, a2⟩ <;> omega
        refine r_lstore (L2 := [_, _, _, none, _, _, none]) dX1_fold_30 (nlt rfl) rfl ?_
        refine r_lload dX1_fold_32 rfl ?_
        refine r_ldc2 (z := 1000000000000000001) dX1_fold_34 kc_X1_112 ?_
        refine r_lcmp_ne 45 dX1_fold_37 dX1_fold_38 (by decide) ⟨by omega, by omega⟩ ⟨by decide, by decide⟩ (fun c_37 => ?_) (fun c_37 => ?_)
        · have zr : -1000000000000000000 ≤ xn j * yn (n - j) ∧ xn j * yn (n - j) ≤ 1000000000000000000 ∧ z27 = xn j * yn (n - j) := by
            rcases hz27 with y | ⟨_, y⟩
            · exact y
            · exact absurd y c_37
          have hs1 : sum + z27 = sm (fun t => xn t * yn (n - t)) (j + 1) := by rw [sm_s, es, zr.2.2]
          refine r_lload_n dX1_fold_45 rfl rfl ?_
          refine r_lload dX1_fold_46 rfl ?_
          refine r_ladd dX1_fold_48 ?_
          refine r_lstore_n (L2 := [_, _, _, none, _, _, none]) dX1_fold_49 rfl (nlt rfl) rfl ?_
          refine r_lload_n dX1_fold_50 rfl rfl ?_
          refine r_absL dX1_fold_51 ml_X1_72 jst_abs jin_Math jcd_abs ⟨by decide, by decide⟩ (nle rfl) ⟨Nat.zero_le _, Nat.zero_le _⟩ ⟨by omega, by omega⟩ ?_
          refine r_ldc2 (z := 1000000000000000000) dX1_fold_54 kc_X1_114 ?_
          refine r_lcmp_le 65 dX1_fold_57 dX1_fold_58 (by decide) ⟨by omega, by omega⟩ ⟨by decide, by decide⟩ (fun c_57 => ?_) (fun c_57 => ?_)
          · refine r_iinc (L2 := [_, _, _, none, _, _, none]) dX1_fold_65 (nlt rfl) rfl rfl ?_
            refine r_goto 5 dX1_fold_68 (by decide) ?_
            refine r_mask [true, true, true, false, true, false, false] (L2 := [_, _, _, none, _, none, none]) rfl ?_
            exact ih5 (sum + z27) (i + 1) ((j + 1)) (by omega) (by omega) (by omega) hs1 (fun t a => by by_cases z : t = j; (rw [z]; exact ⟨⟨zr.1, zr.2.1⟩, by rw [← hs1]; omega⟩); exact hok t (by omega)) (by omega)
          · refine r_ldc2 (z := 1000000000000000001) dX1_fold_61 kc_X1_112 ?_
            refine r_lreturn hq dX1_fold_64 rfl rfl rfl ?_
            exact hQ _ (Or.inr ⟨fun w => by have w1 := (w j (by omega)).2; rw [← hs1] at w1; omega, rfl⟩)
        · refine r_ldc2 (z := 1000000000000000001) dX1_fold_41 kc_X1_112 ?_
          refine r_lreturn hq dX1_fold_44 rfl rfl rfl ?_
          exact hQ _ (Or.inr ⟨fun w => by have w1 := (w j (by omega)).1; rcases hz27 with ⟨a1, a2, a3⟩ | ⟨y, _⟩; omega; exact y w1, rfl⟩)
  exact lp5 ((7 : Int) + 1).toNat (0) (0) (0) (by omega) rfl (Nat.zero_le _) rfl (fun t a => absurd a (Nat.not_lt_zero t)) (by decide)
set_option maxHeartbeats 2000000 in
set_option maxRecDepth 20000 in
theorem c_X1_numberMade {N : Nat} {h : Hp} {Q : QP} {q n K : Nat} {mo what ni ddi : Int} {xn yn ms : Nat → Int} (hq0 : h q = MKo q) (hN : q + 10 < N) (hxn : h (q + 7) = aL 1006 xn) (hyn : h (q + 8) = aL 6 yn) (hmo : h (q + 1) = ROo (q + 1) mo) (hms : h (q + 1 + 2) = aL 6 ms) (hni : ni = (n : Int)) (hnK : n < K) (hK6 : K ≤ 6) (hw0 : 0 ≤ what) (hw7 : what ≤ 7) (hw4 : what = 4 → 2 ≤ ddi ∧ ddi ≤ 6) (hw6 : what = 6 → 0 ≤ ddi ∧ ddi ≤ 1000) (hw77 : what = 7 → -1000 ≤ ddi ∧ ddi ≤ 1000) (hxb : ∀ j, j ≤ mLast what K ddi.toNat → inM (xn j)) (hyb : what ≤ 3 → ∀ j, j < K → inM (yn j)) (hx7 : what = 7 → ∀ j, j < K → -1000000 ≤ xn j ∧ xn j ≤ 1000000) (hmsb : ∀ j, j < 6 → -1000000 ≤ ms j ∧ ms j ≤ 1000000) (hQ : ∀ z : Int, NUM what xn yn ms ddi n z → -1000000000000000001 ≤ z → z ≤ 1000000000000000001 → Q (some (.long (lZ z))) N h) : Runs mX1_numberMade [.ref (q), .int (iZ (what)), .int (iZ (ni)), .int (iZ (ddi))] N h Q := by
  have eni : ni.toNat = n := by omega
  refine run_start (own := RX1) rfl (by decide) (nle rfl) rfl (fun X hq hini => ?_)
  show G X RX1 cX1_numberMade mX1_numberMade.rm N 0 0 0 [some (.ref (q)), some (.int (iZ (what))), some (.int (iZ (ni))), some (.int (iZ (ddi)))] [] h
  refine r_iload_n dX1_numberMade_0 rfl rfl ?_
  rcases (show what < 0 ∨ 6 < what ∨ what = 0 ∨ what = 1 ∨ what = 2 ∨ what = 3 ∨ what = 4 ∨ what = 5 ∨ what = 6 by omega) with hs_1 | hs_1 | hs_1 | hs_1 | hs_1 | hs_1 | hs_1 | hs_1 | hs_1
  · exfalso; omega
  · refine r_tabOut 144 dX1_numberMade_1 ⟨by omega, by omega⟩ (by omega) (by decide) ?_
    have hd7 := hw77 (by omega)
    have xb := hx7 (by omega) n hnK
    rw [← eni] at xb
    have m7 := mulb (A := 1000) (B := 1000000) (a := ddi) (b := xn ni.toNat) (C := 1000000000) (by omega) (by omega) (by omega) (by omega) (by decide)
    refine r_iload_n dX1_numberMade_144 rfl rfl ?_
    refine r_i2l dX1_numberMade_145 ⟨by omega, by omega⟩ ?_
    refine r_aload_n dX1_numberMade_146 rfl rfl ?_
    refine gf_X1_21 dX1_numberMade_147 (by omega) hq0 rfl ?_
    refine r_iload_n dX1_numberMade_150 rfl rfl ?_
    refine r_laload dX1_numberMade_151 (by omega) hxn (by omega) (by omega) (by decide) ?_
    refine r_lmul dX1_numberMade_152 ?_
    refine r_lreturn hq dX1_numberMade_153 rfl rfl rfl ?_
    exact hQ _ ⟨fun w9 => by exfalso; omega, fun w9 => by exfalso; omega, fun w9 => by exfalso; omega, fun w9 => by exfalso; omega, fun w9 => by exfalso; omega, fun w9 => by exfalso; omega, fun w9 => by exfalso; omega, fun _ => by rw [eni]⟩ (by omega) (by omega)
  · refine r_tabIn (off := 43) 44 dX1_numberMade_1 ⟨by omega, by omega⟩ (by omega) (by omega) (by rw [hs_1]; rfl) (by decide) ?_
    have xb := hxb n (by have e1 : mLast what K ddi.toNat = K - 1 := (by unfold mLast; rw [if_neg (by omega), if_neg (by omega)]); omega)
    rw [← eni] at xb
    have xb1 := xb.1
    have xb2 := xb.2
    have yb := hyb (by omega) n hnK
    rw [← eni] at yb
    have yb1 := yb.1
    have yb2 := yb.2
    refine r_aload_n dX1_numberMade_44 rfl rfl ?_
    refine gf_X1_21 dX1_numberMade_45 (by omega) hq0 rfl ?_
    refine r_iload_n dX1_numberMade_48 rfl rfl ?_
    refine r_laload dX1_numberMade_49 (by omega) hxn (by omega) (by omega) (by decide) ?_
    refine r_aload_n dX1_numberMade_50 rfl rfl ?_
    refine gf_X1_25 dX1_numberMade_51 (by omega) hq0 rfl ?_
    refine r_iload_n dX1_numberMade_54 rfl rfl ?_
    refine r_laload dX1_numberMade_55 (by omega) hyn (by omega) (by omega) (by decide) ?_
    refine r_ladd dX1_numberMade_56 ?_
    refine r_lreturn hq dX1_numberMade_57 rfl rfl rfl ?_
    exact hQ _ ⟨fun _ => by rw [eni], fun w9 => by exfalso; omega, fun w9 => by exfalso; omega, fun w9 => by exfalso; omega, fun w9 => by exfalso; omega, fun w9 => by exfalso; omega, fun w9 => by exfalso; omega, fun w9 => by exfalso; omega⟩ (by omega) (by omega)
  · refine r_tabIn (off := 57) 58 dX1_numberMade_1 ⟨by omega, by omega⟩ (by omega) (by omega) (by rw [hs_1]; rfl) (by decide) ?_
    have xb := hxb n (by have e1 : mLast what K ddi.toNat = K - 1 := (by unfold mLast; rw [if_neg (by omega), if_neg (by omega)]); omega)
    rw [← eni] at xb
    have xb1 := xb.1
    have xb2 := xb.2
    have yb := hyb (by omega) n hnK
    rw [← eni] at yb
    have yb1 := yb.1
    have yb2 := yb.2
    refine r_aload_n dX1_numberMade_58 rfl rfl ?_
    refine gf_X1_21 dX1_numberMade_59 (by omega) hq0 rfl ?_
    refine r_iload_n dX1_numberMade_62 rfl rfl ?_
    refine r_laload dX1_numberMade_63 (by omega) hxn (by omega) (by omega) (by decide) ?_
    refine r_aload_n dX1_numberMade_64 rfl rfl ?_
    refine gf_X1_25 dX1_numberMade_65 (by omega) hq0 rfl ?_
    refine r_iload_n dX1_numberMade_68 rfl rfl ?_
    refine r_laload dX1_numberMade_69 (by omega) hyn (by omega) (by omega) (by decide) ?_
    refine r_lsub dX1_numberMade_70 ?_
    refine r_lreturn hq dX1_numberMade_71 rfl rfl rfl ?_
    exact hQ _ ⟨fun w9 => by exfalso; omega, fun _ => by rw [eni], fun w9 => by exfalso; omega, fun w9 => by exfalso; omega, fun w9 => by exfalso; omega, fun w9 => by exfalso; omega, fun w9 => by exfalso; omega, fun w9 => by exfalso; omega⟩ (by omega) (by omega)
  · refine r_tabIn (off := 71) 72 dX1_numberMade_1 ⟨by omega, by omega⟩ (by omega) (by omega) (by rw [hs_1]; rfl) (by decide) ?_
    refine r_aload_n dX1_numberMade_72 rfl rfl ?_
    refine gf_X1_21 dX1_numberMade_73 (by omega) hq0 rfl ?_
    refine r_iload_n dX1_numberMade_76 rfl rfl ?_
    refine r_laload dX1_numberMade_77 (by omega) hxn (by omega) (by omega) (by decide) ?_
    refine r_aload_n dX1_numberMade_78 rfl rfl ?_
    refine gf_X1_25 dX1_numberMade_79 (by omega) hq0 rfl ?_
    refine r_iload_n dX1_numberMade_82 rfl rfl ?_
    refine r_laload dX1_numberMade_83 (by omega) hyn (by omega) (by omega) (by decide) ?_
    refine r_callS (av := [.long (lZ (xn (ni).toNat)), .long (lZ (yn (ni).toNat))]) dX1_numberMade_84 lkX1_product ml_X1_104 stX1_product ⟨Nat.le_of_ble_eq_true rfl, Nat.le_of_ble_eq_true rfl⟩ rfl rfl (nle rfl) ⟨Nat.le_of_ble_eq_true rfl, Nat.le_of_ble_eq_true rfl⟩ (c_X1_product (a := xn (ni).toNat) (b := yn (ni).toNat) (by rw [eni]; exact hxb n (by have e1 : mLast what K ddi.toNat = K - 1 := (by unfold mLast; rw [if_neg (by omega), if_neg (by omega)]); omega)) (by rw [eni]; exact hyb (by omega) n hnK) (fun z84 hz84 => ?_))
    show G _ _ _ _ _ _ _ 87 _ _ _
    have zb : -1000000000000000000 ≤ z84 ∧ z84 ≤ 1000000000000000001 := by rcases hz84 with ⟨a1, a2, a3⟩ | ⟨_, a2⟩ <;> omega
    refine r_lreturn hq dX1_numberMade_87 rfl rfl rfl ?_
    exact hQ _ ⟨fun w9 => by exfalso; omega, fun w9 => by exfalso; omega, fun _ => by rw [eni] at hz84; exact hz84, fun w9 => by exfalso; omega, fun w9 => by exfalso; omega, fun w9 => by exfalso; omega, fun w9 => by exfalso; omega, fun w9 => by exfalso; omega⟩ (by omega) (by omega)
  · refine r_tabIn (off := 87) 88 dX1_numberMade_1 ⟨by omega, by omega⟩ (by omega) (by omega) (by rw [hs_1]; rfl) (by decide) ?_
    have hs9 : what = 3 := by omega
    refine r_aload_n dX1_numberMade_88 rfl rfl ?_
    refine r_iload_n dX1_numberMade_89 rfl rfl ?_
    refine r_callV (av := [.int (iZ (ni))]) dX1_numberMade_90 lkX1_fold ml_X1_108 imX1_fold seX1_fold (by omega) (rfl : vwCl[1]? = _) ⟨_, hq0⟩ ⟨Nat.le_of_ble_eq_true rfl, Nat.le_of_ble_eq_true rfl⟩ rfl rfl (nle rfl) ⟨Nat.le_of_ble_eq_true rfl, Nat.le_of_ble_eq_true rfl⟩ (c_X1_fold (q := q) (n := n) (xn := xn) (yn := yn) hq0 (by omega) hxn hyn hni (by omega) (fun j hj => hxb j (by have e1 : mLast what K ddi.toNat = K - 1 := (by subst hs9; rfl); omega)) (fun j hj => hyb (by omega) j (by omega)) (fun z90 hz90 => ?_))
    show G _ _ _ _ _ _ _ 93 _ _ _
    have zb : -1000000000000000000 ≤ z90 ∧ z90 ≤ 1000000000000000001 := by
      rcases hz90 with ⟨a1, a2⟩ | ⟨_, a2⟩
      · have := (a1 n (Nat.le_refl n)).2; omega
      · omega
    refine r_lreturn hq dX1_numberMade_93 rfl rfl rfl ?_
    exact hQ _ ⟨fun w9 => by exfalso; omega, fun w9 => by exfalso; omega, fun w9 => by exfalso; omega, fun _ => hz90, fun w9 => by exfalso; omega, fun w9 => by exfalso; omega, fun w9 => by exfalso; omega, fun w9 => by exfalso; omega⟩ (by omega) (by omega)
  · refine r_tabIn (off := 93) 94 dX1_numberMade_1 ⟨by omega, by omega⟩ (by omega) (by omega) (by rw [hs_1]; rfl) (by decide) ?_
    have hd4 := hw4 (by omega)
    have e1 : mLast what K ddi.toNat = ddi.toNat * (K - 1) := by unfold mLast; rw [if_pos (by omega)]
    have e3 : ddi * ni = ((ddi.toNat * n : Nat) : Int) := by rw [Int.natCast_mul]; congr 1 <;> omega
    have e4 : (ddi * ni).toNat = ddi.toNat * n := by omega
    have e5 : ddi.toNat * n ≤ ddi.toNat * (K - 1) := Nat.mul_le_mul_left _ (by omega)
    have e6 : ddi.toNat * (K - 1) ≤ 6 * 5 := Nat.mul_le_mul (by omega) (by omega)
    have xb := hxb (ddi.toNat * n) (by omega)
    rw [← e4] at xb
    have xb1 := xb.1
    have xb2 := xb.2
    refine r_aload_n dX1_numberMade_94 rfl rfl ?_
    refine gf_X1_21 dX1_numberMade_95 (by omega) hq0 rfl ?_
    refine r_iload_n dX1_numberMade_98 rfl rfl ?_
    refine r_iload_n dX1_numberMade_99 rfl rfl ?_
    refine r_imul dX1_numberMade_100 ?_
    refine r_laload dX1_numberMade_101 (by omega) hxn (by omega) (by omega) (by decide) ?_
    refine r_lreturn hq dX1_numberMade_102 rfl rfl rfl ?_
    exact hQ _ ⟨fun w9 => by exfalso; omega, fun w9 => by exfalso; omega, fun w9 => by exfalso; omega, fun w9 => by exfalso; omega, fun _ => by rw [e4], fun w9 => by exfalso; omega, fun w9 => by exfalso; omega, fun w9 => by exfalso; omega⟩ (by omega) (by omega)
  · refine r_tabIn (off := 102) 103 dX1_numberMade_1 ⟨by omega, by omega⟩ (by omega) (by omega) (by rw [hs_1]; rfl) (by decide) ?_
    have e1 : mLast what K ddi.toNat = K - 1 := by unfold mLast; rw [if_neg (by omega), if_neg (by omega)]
    have xb := hxb n (by omega)
    rw [← eni] at xb
    have xb1 := xb.1
    have xb2 := xb.2
    have xc := hxb 0 (by omega)
    have xc1 := xc.1
    have xc2 := xc.2
    refine r_iload_n dX1_numberMade_103 rfl rfl ?_
    refine r_if_ne 116 dX1_numberMade_104 (by decide) ⟨by omega, by omega⟩ (fun c_104 => ?_) (fun c_104 => ?_)
    · have eni1 : (ni - 1).toNat = n - 1 := by omega
      have mb := hmsb (n - 1) (by omega)
      rw [← eni1] at mb
      refine r_aload_n dX1_numberMade_116 rfl rfl ?_
      refine gf_X1_12 dX1_numberMade_117 (by omega) hq0 rfl ?_
      refine gf_X1_101 dX1_numberMade_120 (by omega) hmo rfl ?_
      refine r_iload_n dX1_numberMade_123 rfl rfl ?_
      refine r_iconst (z := 1) dX1_numberMade_124 ?_
      refine r_isub dX1_numberMade_125 ?_
      refine r_laload dX1_numberMade_126 (by omega) hms (by omega) (by omega) (by decide) ?_
      refine r_aload_n dX1_numberMade_127 rfl rfl ?_
      refine gf_X1_21 dX1_numberMade_128 (by omega) hq0 rfl ?_
      refine r_iload_n dX1_numberMade_131 rfl rfl ?_
      refine r_laload dX1_numberMade_132 (by omega) hxn (by omega) (by omega) (by decide) ?_
      refine r_ladd dX1_numberMade_133 ?_
      refine r_lreturn hq dX1_numberMade_134 rfl rfl rfl ?_
      exact hQ _ ⟨fun w9 => by exfalso; omega, fun w9 => by exfalso; omega, fun w9 => by exfalso; omega, fun w9 => by exfalso; omega, fun w9 => by exfalso; omega, fun _ => by rw [if_neg (by omega), eni, eni1], fun w9 => by exfalso; omega, fun w9 => by exfalso; omega⟩ (by omega) (by omega)
    · have xd1 : -100000000000000000 ≤ xn (0 : Int).toNat := xc1
      have xd2 : xn (0 : Int).toNat ≤ 100000000000000000 := xc2
      refine r_aload_n dX1_numberMade_107 rfl rfl ?_
      refine gf_X1_21 dX1_numberMade_108 (by omega) hq0 rfl ?_
      refine r_iconst (z := 0) dX1_numberMade_111 ?_
      refine r_laload dX1_numberMade_112 (by omega) hxn (by omega) (by omega) (by decide) ?_
      refine r_goto 134 dX1_numberMade_113 (by decide) ?_
      refine r_lreturn hq dX1_numberMade_134 rfl rfl rfl ?_
      exact hQ _ ⟨fun w9 => by exfalso; omega, fun w9 => by exfalso; omega, fun w9 => by exfalso; omega, fun w9 => by exfalso; omega, fun w9 => by exfalso; omega, fun _ => by rw [if_pos (by omega)]; rfl, fun w9 => by exfalso; omega, fun w9 => by exfalso; omega⟩ (by omega) (by omega)
  · refine r_tabIn (off := 134) 135 dX1_numberMade_1 ⟨by omega, by omega⟩ (by omega) (by omega) (by rw [hs_1]; rfl) (by decide) ?_
    have hd6 := hw6 (by omega)
    have e1 : mLast what K ddi.toNat = ddi.toNat + (K - 1) := by unfold mLast; rw [if_neg (by omega), if_pos (by omega)]
    have e6 : (ni + ddi).toNat = n + ddi.toNat := by omega
    have xb := hxb (n + ddi.toNat) (by omega)
    rw [← e6] at xb
    have xb1 := xb.1
    have xb2 := xb.2
    refine r_aload_n dX1_numberMade_135 rfl rfl ?_
    refine gf_X1_21 dX1_numberMade_136 (by omega) hq0 rfl ?_
    refine r_iload_n dX1_numberMade_139 rfl rfl ?_
    refine r_iload_n dX1_numberMade_140 rfl rfl ?_
    refine r_iadd dX1_numberMade_141 ?_
    refine r_laload dX1_numberMade_142 (by omega) hxn (by omega) (by omega) (by decide) ?_
    refine r_lreturn hq dX1_numberMade_143 rfl rfl rfl ?_
    exact hQ _ ⟨fun w9 => by exfalso; omega, fun w9 => by exfalso; omega, fun w9 => by exfalso; omega, fun w9 => by exfalso; omega, fun w9 => by exfalso; omega, fun w9 => by exfalso; omega, fun _ => by rw [e6], fun w9 => by exfalso; omega⟩ (by omega) (by omega)
set_option maxHeartbeats 8000000 in
set_option maxRecDepth 20000 in
theorem c_X1_makeStarts {N : Nat} {h : Hp} {Q : QP} {q r r2 k l K : Nat} {mo what ddi : Int} {c s d t ms xn yn : Nat → Int} (hq0 : h q = MKo q) (hN : q + 10 < N) (hxn : h (q + 7) = aL 1006 xn) (hyn : h (q + 8) = aL 6 yn) (hmo : h (q + 1) = ROo (q + 1) mo) (hms : h (q + 1 + 2) = aL 6 ms) (hmsb : ∀ j, j < 6 → -1000000 ≤ ms j ∧ ms j ≤ 1000000) (hmK : mo = (K : Int)) (hK0 : 0 < K) (hK6 : K ≤ 6) (hK7 : what = 7 → K ≤ k) (hw0 : 0 ≤ what) (hw7 : what ≤ 7) (hw4 : what = 4 → 2 ≤ ddi ∧ ddi ≤ 6) (hw6 : what = 6 → 0 ≤ ddi ∧ ddi ≤ 1000) (hw77 : what = 7 → -1000 ≤ ddi ∧ ddi ≤ 1000) (hr : RowAt h r k c s) (hrN : r + 2 < N) (hrw : r + 2 < q ∨ q + 10 < r) (hk0 : 0 < k) (hk : k ≤ 6) (hcb : ∀ j, j < 7 → -100000 ≤ c j ∧ c j ≤ 100000) (hsb : ∀ j, j < 6 → -1000000 ≤ s j ∧ s j ≤ 1000000) (hr2 : RowAt h r2 l d t) (hrN2 : r2 + 2 < N) (hrw2 : r2 + 2 < q ∨ q + 10 < r2) (hl0 : 0 < l) (hl : l ≤ 6) (hdb : ∀ j, j < 7 → -100000 ≤ d j ∧ d j ≤ 100000) (htb : ∀ j, j < 6 → -1000000 ≤ t j ∧ t j ≤ 1000000) (hQ : ∀ (b : Int) (s8 x8 y8 : Nat → Int), (∀ j, j < 6 → -1000000 ≤ s8 j ∧ s8 j ≤ 1000000) → (b = 1 ∧ sOk what K (ex k c s) (ex l d t) ddi ∧ (∀ n, n < K → s8 n = mNum what (ex k c s) (ex l d t) ddi n) ∨ b = 0 ∧ ¬ sOk what K (ex k c s) (ex l d t) ddi) → Q (some (.int (iZ b))) N (hs (hs (hs h (q + 7) (aL 1006 x8)) (q + 8) (aL 6 y8)) (q + 1 + 2) (aL 6 s8))) : Runs mX1_makeStarts [.ref (q), .int (iZ (what)), .ref (r), .ref (r2), .int (iZ (ddi))] N h Q := by
  have hLb : mLast what K ddi.toNat ≤ 1005 := by
    unfold mLast
    by_cases e4 : what = 4
    · rw [if_pos e4]; have := hw4 e4; have e6 : ddi.toNat * (K - 1) ≤ 6 * 5 := Nat.mul_le_mul (by omega) (by omega); omega
    · rw [if_neg e4]
      by_cases e6 : what = 6
      · rw [if_pos e6]; have := hw6 e6; omega
      · rw [if_neg e6]; omega
  have hLe : what ≠ 4 → what ≠ 6 → mLast what K ddi.toNat = K - 1 := fun a b => by unfold mLast; rw [if_neg a, if_neg b]
  refine run_start (own := RX1) rfl (by decide) (nle rfl) rfl (fun X hq hini => ?_)
  show G X RX1 cX1_makeStarts mX1_makeStarts.rm N 0 0 0 [some (.ref (q)), some (.int (iZ (what))), some (.ref (r)), some (.ref (r2)), some (.int (iZ (ddi))), none, none, none, none] [] h
  refine r_aload_n dX1_makeStarts_0 rfl rfl ?_
  refine r_iload_n dX1_makeStarts_1 rfl rfl ?_
  refine r_iload dX1_makeStarts_2 rfl ?_
  refine r_callV (av := [.int (iZ (what)), .int (iZ (ddi))]) dX1_makeStarts_4 lkX1_lastPlaceOfX ml_X1_88 imX1_lastPlaceOfX seX1_lastPlaceOfX (by omega) (rfl : vwCl[1]? = _) ⟨_, hq0⟩ ⟨Nat.le_of_ble_eq_true rfl, Nat.le_of_ble_eq_true rfl⟩ rfl rfl (nle rfl) ⟨Nat.le_of_ble_eq_true rfl, Nat.le_of_ble_eq_true rfl⟩ (c_X1_lastPlaceOfX (q := q) (K := K) (what := what) (ddi := ddi) hq0 (by omega) hmo hmK hK0 hK6 hw0 hw7 hw4 hw6 ?_)
  show G _ _ _ _ _ _ _ 7 _ _ _
  refine r_istore (L2 := [_, _, _, _, _, _, none, none, none]) dX1_makeStarts_7 (nlt rfl) rfl ?_
  refine r_aload_n dX1_makeStarts_9 rfl rfl ?_
  refine r_aload_n dX1_makeStarts_10 rfl rfl ?_
  refine gf_X1_21 dX1_makeStarts_11 (by omega) hq0 rfl ?_
  refine r_iload dX1_makeStarts_14 rfl ?_
  refine r_callV (av := [.ref (q + 7), .int (iZ ((mLast what K ddi.toNat : Int)))]) dX1_makeStarts_16 lkX7_tellNumbers ml_X1_91 imX7_tellNumbers seX7_tellNumbers (by omega) (rfl : vwCl[7]? = _) ⟨_, hr.1⟩ ⟨Nat.le_of_ble_eq_true rfl, Nat.le_of_ble_eq_true rfl⟩ rfl rfl (nle rfl) ⟨Nat.le_of_ble_eq_true rfl, Nat.le_of_ble_eq_true rfl⟩ (c_X7_tellNumbers (r := r) (k := k) (q := q + 7) (M := 1006) (last := mLast what K ddi.toNat) (c := c) (s := s) (f := xn) rfl (RowAt.to hr.1 hr.2.1 hr.2.2) (by omega) hxn (by omega) (by omega) (by omega) (by omega) hk0 hk (by decide) (by decide) (by omega) hcb (fun j hj => hsb j (by omega)) (fun t16 F16 hT16 hF16 hG16 => ?_))
  show G _ _ _ _ _ _ _ 19 _ _ _
  refine r_iload dX1_makeStarts_19 rfl ?_
  refine r_icmp_gt 26 dX1_makeStarts_21 (by decide) (by have := hT16.1; exact ⟨by omega, by omega⟩) ⟨by omega, by omega⟩ (fun c_21 => ?_) (fun c_21 => ?_)
  · refine r_iload_n dX1_makeStarts_26 rfl rfl ?_
    refine r_iconst (z := 3) dX1_makeStarts_27 ?_
    refine r_icmp_gt 60 dX1_makeStarts_28 (by decide) ⟨by omega, by omega⟩ ⟨by decide, by decide⟩ (fun c_28 => ?_) (fun c_28 => ?_)
    · refine r_iconst (z := 0) dX1_makeStarts_60 ?_
      refine r_istore (L2 := [_, _, _, _, _, _, _, none, none]) dX1_makeStarts_61 (nlt rfl) rfl ?_
      have hyG : what ≤ 3 → ∀ j, j < K → yn j = ex l d t j ∧ inM (yn j) := fun w => by exfalso; omega
      have hxE : ∀ j, j ≤ mLast what K ddi.toNat → F16 j = ex k c s j := fun j hj => hF16 j (by omega)
      have hxB : ∀ j, j ≤ mLast what K ddi.toNat → inM (F16 j) := fun j hj => by rw [hxE j hj]; exact hT16.2.1 j (by omega)
      have hx7 : what = 7 → ∀ j, j < K → -1000000 ≤ F16 j ∧ F16 j ≤ 1000000 := fun w j hj => by
        have e1 := hLe (by omega) (by omega)
        have e2 := hK7 w
        rw [hxE j (by omega), ex_lt (by omega)]; exact hsb j (by omega)
      have lp63 : ∀ (fu63 : Nat) (ms1 : Nat → Int) (i : Int) (n : Nat), (7 - i) < (fu63 : Int) → (i = (n : Int)) → (n ≤ K) → (∀ u, u < n → ms1 u = mNum what (ex k c s) (ex l d t) ddi u) → (∀ u, u < n → (-1000000 ≤ mNum what (ex k c s) (ex l d t) ddi u ∧ mNum what (ex k c s) (ex l d t) ddi u ≤ 1000000) ∧ (what = 3 → FoldOk (ex k c s) (ex l d t) u)) → (∀ j, j < 6 → -1000000 ≤ ms1 j ∧ ms1 j ≤ 1000000) → G X RX1 cX1_makeStarts mX1_makeStarts.rm N 0 0 63 [some (.ref (q)), some (.int (iZ (what))), none, none, some (.int (iZ (ddi))), none, some (.int (iZ (i))), none, none] [] (hs (hs h (q + 7) (aL 1006 (F16))) (q + 1 + 2) (aL 6 (ms1))) := by
        intro fu63
        induction fu63 with
        | zero => intro ms1 i n hm ei n1 hme hmB hmb; exfalso; omega
        | succ fu63 ih63 =>
          intro ms1 i n hms63 ei n1 hme hmB hmb
          refine r_iload dX1_makeStarts_63 rfl ?_
          refine r_aload_n dX1_makeStarts_65 rfl rfl ?_
          refine gf_X1_12 dX1_makeStarts_66 (by omega) ((hs_n (by omega)).trans ((hs_n (by omega)).trans hq0)) rfl ?_
          refine gf_X1_56 dX1_makeStarts_69 (by omega) ((hs_n (by omega)).trans ((hs_n (by omega)).trans hmo)) rfl ?_
          refine r_icmp_ge 118 dX1_makeStarts_72 (by decide) ⟨by omega, by omega⟩ ⟨by omega, by omega⟩ (fun c_72 => ?_) (fun c_72 => ?_)
          · refine r_iconst (z := 1) dX1_makeStarts_118 ?_
            refine r_zreturn hq dX1_makeStarts_119 rfl (by decide) rfl rfl ?_
            have hfin := hQ 1 (ms1) (F16) (yn) hmb (Or.inl ⟨rfl, ⟨fun j hj => by rw [← hxE j hj]; exact hxB j hj, fun w j hj => by rw [← (hyG w j hj).1]; exact (hyG w j hj).2, fun w u hu => (hmB u (by omega)).2 w, fun u hu => (hmB u (by omega)).1⟩, fun u hu => hme u (by omega)⟩)
            rw [hs_id (a := q + 8) ((hs_n (by omega)).trans hyn)] at hfin
            exact hfin
          · refine r_aload_n dX1_makeStarts_75 rfl rfl ?_
            refine r_iload_n dX1_makeStarts_76 rfl rfl ?_
            refine r_iload dX1_makeStarts_77 rfl ?_
            refine r_iload dX1_makeStarts_79 rfl ?_
            refine r_callV (av := [.int (iZ (what)), .int (iZ (i)), .int (iZ (ddi))]) dX1_makeStarts_81 lkX1_numberMade ml_X1_95 imX1_numberMade seX1_numberMade (by omega) (rfl : vwCl[1]? = _) ⟨_, ((hs_n (by omega)).trans ((hs_n (by omega)).trans hq0))⟩ ⟨Nat.le_of_ble_eq_true rfl, Nat.le_of_ble_eq_true rfl⟩ rfl rfl (nle rfl) ⟨Nat.le_of_ble_eq_true rfl, Nat.le_of_ble_eq_true rfl⟩ (c_X1_numberMade (q := q) (n := n) (K := K) (mo := mo) (what := what) (ddi := ddi) (xn := F16) (yn := yn) (ms := ms1) ((hs_n (by omega)).trans ((hs_n (by omega)).trans hq0)) (by omega) ((hs_n (by omega)).trans hs_e) ((hs_n (by omega)).trans ((hs_n (by omega)).trans hyn)) ((hs_n (by omega)).trans ((hs_n (by omega)).trans hmo)) hs_e ei (by omega) hK6 hw0 hw7 hw4 hw6 hw77 hxB (fun w j hj => (hyG w j hj).2) hx7 hmb (fun z hz z1 z2 => ?_))
            show G _ _ _ _ _ _ _ 84 _ _ _
            have hfn := NUM_fin hw0 hw7 (show n < K by omega) (fun w => by rcases w with w | w; (have := hw4 w; omega); (have := hw6 w; omega)) hxE (fun w j hj => (hyG w j hj).1) hme hLe hz
            have ein : i.toNat = n := by omega
            refine r_lstore (L2 := [_, _, none, none, _, none, _, _, none]) dX1_makeStarts_84 (nlt rfl) rfl ?_
            refine r_lload dX1_makeStarts_86 rfl ?_
            refine r_absL dX1_makeStarts_88 ml_X1_72 jst_abs jin_Math jcd_abs ⟨by decide, by decide⟩ (nle rfl) ⟨Nat.zero_le _, Nat.zero_le _⟩ ⟨by omega, by omega⟩ ?_
            refine r_ldc2 (z := 1000000) dX1_makeStarts_91 kc_X1_99 ?_
            refine r_lcmp_le 100 dX1_makeStarts_94 dX1_makeStarts_95 (by decide) ⟨by omega, by omega⟩ ⟨by decide, by decide⟩ (fun c_94 => ?_) (fun c_94 => ?_)
            · have hzn := hfn.1 (by omega)
              refine r_aload_n dX1_makeStarts_100 rfl rfl ?_
              refine gf_X1_12 dX1_makeStarts_101 (by omega) ((hs_n (by omega)).trans ((hs_n (by omega)).trans hq0)) rfl ?_
              refine gf_X1_101 dX1_makeStarts_104 (by omega) ((hs_n (by omega)).trans ((hs_n (by omega)).trans hmo)) rfl ?_
              refine r_iload dX1_makeStarts_107 rfl ?_
              refine r_lload dX1_makeStarts_109 rfl ?_
              refine r_lastore dX1_makeStarts_111 (by omega) hs_e (by omega) (by omega) (by decide) ?_
              refine g_heap (h2 := (hs (hs h (q + 7) (aL 1006 (F16))) (q + 1 + 2) (aL 6 (uA (ms1) (i).toNat (z))))) hs_hs ?_
              refine r_iinc (L2 := [_, _, none, none, _, none, _, _, none]) dX1_makeStarts_112 (nlt rfl) rfl rfl ?_
              refine r_goto 63 dX1_makeStarts_115 (by decide) ?_
              refine r_mask [true, true, false, false, true, false, true, false, false] (L2 := [_, _, none, none, _, none, _, none, none]) rfl ?_
              exact ih63 (uA (ms1) (i).toNat (z)) (i + 1) ((n + 1)) (by omega) (by omega) (by omega) (fun u a => by rw [ein]; by_cases w : u = n; (rw [w, uA_e]; exact hzn.1); rw [uA_n w]; exact hme u (by omega)) (fun u a => by by_cases w : u = n; (rw [w, ← hzn.1]; exact ⟨by omega, hzn.2⟩); exact hmB u (by omega)) (fun j hj => by rw [ein]; by_cases w : j = n; (rw [w, uA_e]; omega); rw [uA_n w]; exact hmb j hj)
            · refine r_iconst (z := 0) dX1_makeStarts_98 ?_
              refine r_zreturn hq dX1_makeStarts_99 rfl (by decide) rfl rfl ?_
              have hfin := hQ 0 (ms1) (F16) (yn) hmb (Or.inr ⟨rfl, fun w => by have h9 := hfn.2 (w.2.2.2 n (by omega)) (fun w3 => w.2.2.1 w3 n (by omega)); omega⟩)
              rw [hs_id (a := q + 8) ((hs_n (by omega)).trans hyn)] at hfin
              exact hfin
      refine r_mask [true, true, false, false, true, false, true, false, false] (L2 := [_, _, none, none, _, none, _, none, none]) rfl ?_
      refine g_heap (hs_id (c := aL 6 (ms)) ((hs_n (by omega)).trans hms)).symm ?_
      exact lp63 ((7 : Int) + 1).toNat (ms) (0) (0) (by omega) rfl (Nat.zero_le _) (fun u a => absurd a (Nat.not_lt_zero u)) (fun u a => absurd a (Nat.not_lt_zero u)) hmsb
    · refine r_aload_n dX1_makeStarts_31 rfl rfl ?_
      refine r_aload_n dX1_makeStarts_32 rfl rfl ?_
      refine gf_X1_25 dX1_makeStarts_33 (by omega) ((hs_n (by omega)).trans hq0) rfl ?_
      refine r_aload_n dX1_makeStarts_36 rfl rfl ?_
      refine gf_X1_12 dX1_makeStarts_37 (by omega) ((hs_n (by omega)).trans hq0) rfl ?_
      refine gf_X1_56 dX1_makeStarts_40 (by omega) ((hs_n (by omega)).trans hmo) rfl ?_
      refine r_iconst (z := 1) dX1_makeStarts_43 ?_
      refine r_isub dX1_makeStarts_44 ?_
      refine r_callV (av := [.ref (q + 8), .int (iZ (mo - 1))]) dX1_makeStarts_45 lkX7_tellNumbers ml_X1_91 imX7_tellNumbers seX7_tellNumbers (by omega) (rfl : vwCl[7]? = _) ⟨_, ((hs_n (by omega)).trans hr2.1)⟩ ⟨Nat.le_of_ble_eq_true rfl, Nat.le_of_ble_eq_true rfl⟩ rfl rfl (nle rfl) ⟨Nat.le_of_ble_eq_true rfl, Nat.le_of_ble_eq_true rfl⟩ (c_X7_tellNumbers (r := r2) (k := l) (q := q + 8) (M := 6) (last := K - 1) (c := d) (s := t) (f := yn) (by omega) (RowAt.to ((hs_n (by omega)).trans hr2.1) ((hs_n (by omega)).trans hr2.2.1) ((hs_n (by omega)).trans hr2.2.2)) (by omega) ((hs_n (by omega)).trans hyn) (by omega) (by omega) (by omega) (by omega) hl0 hl (by decide) (by decide) (by omega) hdb (fun j hj => htb j (by omega)) (fun t45 F45 hT45 hF45 hG45 => ?_))
      show G _ _ _ _ _ _ _ 48 _ _ _
      refine r_aload_n dX1_makeStarts_48 rfl rfl ?_
      refine gf_X1_12 dX1_makeStarts_49 (by omega) ((hs_n (by omega)).trans ((hs_n (by omega)).trans hq0)) rfl ?_
      refine gf_X1_56 dX1_makeStarts_52 (by omega) ((hs_n (by omega)).trans ((hs_n (by omega)).trans hmo)) rfl ?_
      refine r_icmp_ge 60 dX1_makeStarts_55 (by decide) (by have := hT45.1; exact ⟨by omega, by omega⟩) ⟨by omega, by omega⟩ (fun c_55 => ?_) (fun c_55 => ?_)
      · refine r_iconst (z := 0) dX1_makeStarts_60 ?_
        refine r_istore (L2 := [_, _, _, _, _, _, _, none, none]) dX1_makeStarts_61 (nlt rfl) rfl ?_
        have hyG : what ≤ 3 → ∀ j, j < K → F45 j = ex l d t j ∧ inM (F45 j) := fun _ j hj => by
          have h1 := hF45 j (by omega)
          exact ⟨h1, by rw [h1]; exact hT45.2.1 j (by omega)⟩
        have hxE : ∀ j, j ≤ mLast what K ddi.toNat → F16 j = ex k c s j := fun j hj => hF16 j (by omega)
        have hxB : ∀ j, j ≤ mLast what K ddi.toNat → inM (F16 j) := fun j hj => by rw [hxE j hj]; exact hT16.2.1 j (by omega)
        have hx7 : what = 7 → ∀ j, j < K → -1000000 ≤ F16 j ∧ F16 j ≤ 1000000 := fun w j hj => by
          have e1 := hLe (by omega) (by omega)
          have e2 := hK7 w
          rw [hxE j (by omega), ex_lt (by omega)]; exact hsb j (by omega)
        have lp63 : ∀ (fu63 : Nat) (ms1 : Nat → Int) (i : Int) (n : Nat), (7 - i) < (fu63 : Int) → (i = (n : Int)) → (n ≤ K) → (∀ u, u < n → ms1 u = mNum what (ex k c s) (ex l d t) ddi u) → (∀ u, u < n → (-1000000 ≤ mNum what (ex k c s) (ex l d t) ddi u ∧ mNum what (ex k c s) (ex l d t) ddi u ≤ 1000000) ∧ (what = 3 → FoldOk (ex k c s) (ex l d t) u)) → (∀ j, j < 6 → -1000000 ≤ ms1 j ∧ ms1 j ≤ 1000000) → G X RX1 cX1_makeStarts mX1_makeStarts.rm N 0 0 63 [some (.ref (q)), some (.int (iZ (what))), none, none, some (.int (iZ (ddi))), none, some (.int (iZ (i))), none, none] [] (hs (hs (hs h (q + 7) (aL 1006 (F16))) (q + 8) (aL 6 (F45))) (q + 1 + 2) (aL 6 (ms1))) := by
          intro fu63
          induction fu63 with
          | zero => intro ms1 i n hm ei n1 hme hmB hmb; exfalso; omega
          | succ fu63 ih63 =>
            intro ms1 i n hms63 ei n1 hme hmB hmb
            refine r_iload dX1_makeStarts_63 rfl ?_
            refine r_aload_n dX1_makeStarts_65 rfl rfl ?_
            refine gf_X1_12 dX1_makeStarts_66 (by omega) ((hs_n (by omega)).trans ((hs_n (by omega)).trans ((hs_n (by omega)).trans hq0))) rfl ?_
            refine gf_X1_56 dX1_makeStarts_69 (by omega) ((hs_n (by omega)).trans ((hs_n (by omega)).trans ((hs_n (by omega)).trans hmo))) rfl ?_
            refine r_icmp_ge 118 dX1_makeStarts_72 (by decide) ⟨by omega, by omega⟩ ⟨by omega, by omega⟩ (fun c_72 => ?_) (fun c_72 => ?_)
            · refine r_iconst (z := 1) dX1_makeStarts_118 ?_
              refine r_zreturn hq dX1_makeStarts_119 rfl (by decide) rfl rfl ?_
              have hfin := hQ 1 (ms1) (F16) (F45) hmb (Or.inl ⟨rfl, ⟨fun j hj => by rw [← hxE j hj]; exact hxB j hj, fun w j hj => by rw [← (hyG w j hj).1]; exact (hyG w j hj).2, fun w u hu => (hmB u (by omega)).2 w, fun u hu => (hmB u (by omega)).1⟩, fun u hu => hme u (by omega)⟩)
              exact hfin
            · refine r_aload_n dX1_makeStarts_75 rfl rfl ?_
              refine r_iload_n dX1_makeStarts_76 rfl rfl ?_
              refine r_iload dX1_makeStarts_77 rfl ?_
              refine r_iload dX1_makeStarts_79 rfl ?_
              refine r_callV (av := [.int (iZ (what)), .int (iZ (i)), .int (iZ (ddi))]) dX1_makeStarts_81 lkX1_numberMade ml_X1_95 imX1_numberMade seX1_numberMade (by omega) (rfl : vwCl[1]? = _) ⟨_, ((hs_n (by omega)).trans ((hs_n (by omega)).trans ((hs_n (by omega)).trans hq0)))⟩ ⟨Nat.le_of_ble_eq_true rfl, Nat.le_of_ble_eq_true rfl⟩ rfl rfl (nle rfl) ⟨Nat.le_of_ble_eq_true rfl, Nat.le_of_ble_eq_true rfl⟩ (c_X1_numberMade (q := q) (n := n) (K := K) (mo := mo) (what := what) (ddi := ddi) (xn := F16) (yn := F45) (ms := ms1) ((hs_n (by omega)).trans ((hs_n (by omega)).trans ((hs_n (by omega)).trans hq0))) (by omega) ((hs_n (by omega)).trans ((hs_n (by omega)).trans hs_e)) ((hs_n (by omega)).trans hs_e) ((hs_n (by omega)).trans ((hs_n (by omega)).trans ((hs_n (by omega)).trans hmo))) hs_e ei (by omega) hK6 hw0 hw7 hw4 hw6 hw77 hxB (fun w j hj => (hyG w j hj).2) hx7 hmb (fun z hz z1 z2 => ?_))
              show G _ _ _ _ _ _ _ 84 _ _ _
              have hfn := NUM_fin hw0 hw7 (show n < K by omega) (fun w => by rcases w with w | w; (have := hw4 w; omega); (have := hw6 w; omega)) hxE (fun w j hj => (hyG w j hj).1) hme hLe hz
              have ein : i.toNat = n := by omega
              refine r_lstore (L2 := [_, _, none, none, _, none, _, _, none]) dX1_makeStarts_84 (nlt rfl) rfl ?_
              refine r_lload dX1_makeStarts_86 rfl ?_
              refine r_absL dX1_makeStarts_88 ml_X1_72 jst_abs jin_Math jcd_abs ⟨by decide, by decide⟩ (nle rfl) ⟨Nat.zero_le _, Nat.zero_le _⟩ ⟨by omega, by omega⟩ ?_
              refine r_ldc2 (z := 1000000) dX1_makeStarts_91 kc_X1_99 ?_
              refine r_lcmp_le 100 dX1_makeStarts_94 dX1_makeStarts_95 (by decide) ⟨by omega, by omega⟩ ⟨by decide, by decide⟩ (fun c_94 => ?_) (fun c_94 => ?_)
              · have hzn := hfn.1 (by omega)
                refine r_aload_n dX1_makeStarts_100 rfl rfl ?_
                refine gf_X1_12 dX1_makeStarts_101 (by omega) ((hs_n (by omega)).trans ((hs_n (by omega)).trans ((hs_n (by omega)).trans hq0))) rfl ?_
                refine gf_X1_101 dX1_makeStarts_104 (by omega) ((hs_n (by omega)).trans ((hs_n (by omega)).trans ((hs_n (by omega)).trans hmo))) rfl ?_
                refine r_iload dX1_makeStarts_107 rfl ?_
                refine r_lload dX1_makeStarts_109 rfl ?_
                refine r_lastore dX1_makeStarts_111 (by omega) hs_e (by omega) (by omega) (by decide) ?_
                refine g_heap (h2 := (hs (hs (hs h (q + 7) (aL 1006 (F16))) (q + 8) (aL 6 (F45))) (q + 1 + 2) (aL 6 (uA (ms1) (i).toNat (z))))) hs_hs ?_
                refine r_iinc (L2 := [_, _, none, none, _, none, _, _, none]) dX1_makeStarts_112 (nlt rfl) rfl rfl ?_
                refine r_goto 63 dX1_makeStarts_115 (by decide) ?_
                refine r_mask [true, true, false, false, true, false, true, false, false] (L2 := [_, _, none, none, _, none, _, none, none]) rfl ?_
                exact ih63 (uA (ms1) (i).toNat (z)) (i + 1) ((n + 1)) (by omega) (by omega) (by omega) (fun u a => by rw [ein]; by_cases w : u = n; (rw [w, uA_e]; exact hzn.1); rw [uA_n w]; exact hme u (by omega)) (fun u a => by by_cases w : u = n; (rw [w, ← hzn.1]; exact ⟨by omega, hzn.2⟩); exact hmB u (by omega)) (fun j hj => by rw [ein]; by_cases w : j = n; (rw [w, uA_e]; omega); rw [uA_n w]; exact hmb j hj)
              · refine r_iconst (z := 0) dX1_makeStarts_98 ?_
                refine r_zreturn hq dX1_makeStarts_99 rfl (by decide) rfl rfl ?_
                have hfin := hQ 0 (ms1) (F16) (F45) hmb (Or.inr ⟨rfl, fun w => by have h9 := hfn.2 (w.2.2.2 n (by omega)) (fun w3 => w.2.2.1 w3 n (by omega)); omega⟩)
                exact hfin
        refine r_mask [true, true, false, false, true, false, true, false, false] (L2 := [_, _, none, none, _, none, _, none, none]) rfl ?_
        refine g_heap (hs_id (c := aL 6 (ms)) ((hs_n (by omega)).trans ((hs_n (by omega)).trans hms))).symm ?_
        exact lp63 ((7 : Int) + 1).toNat (ms) (0) (0) (by omega) rfl (Nat.zero_le _) (fun u a => absurd a (Nat.not_lt_zero u)) (fun u a => absurd a (Nat.not_lt_zero u)) hmsb
      · refine r_iconst (z := 0) dX1_makeStarts_58 ?_
        refine r_zreturn hq dX1_makeStarts_59 rfl (by decide) rfl rfl ?_
        have hfin := hQ 0 (ms) (F16) (F45) hmsb (Or.inr ⟨rfl, fun w => hT45.2.2 (by omega) (w.2.1 (by omega) t45 (by omega))⟩)
        rw [hs_id (a := q + 1 + 2) ((hs_n (by omega)).trans ((hs_n (by omega)).trans hms))] at hfin
        exact hfin
  · refine r_iconst (z := 0) dX1_makeStarts_24 ?_
    refine r_zreturn hq dX1_makeStarts_25 rfl (by decide) rfl rfl ?_
    have hfin := hQ 0 (ms) (F16) (yn) hmsb (Or.inr ⟨rfl, fun w => hT16.2.2 (by omega) (w.1 t16 (by omega))⟩)
    rw [hs_id (a := q + 8) ((hs_n (by omega)).trans hyn)] at hfin
    rw [hs_id (a := q + 1 + 2) ((hs_n (by omega)).trans hms)] at hfin
    exact hfin
theorem mK_in {what : Int} {k l dd : Nat} {c d : Nat → Int} (hk0 : 0 < k) (hk : k ≤ 6) (hl0 : 0 < l) (h : mOk what k l dd c d) : 0 < mK what k l ∧ mK what k l ≤ 6 := by
  unfold mK
  unfold mOk at h
  by_cases e2 : what = 2
  · rw [if_pos e2] at h ⊢; exact ⟨Nat.mul_pos hk0 hl0, h.1⟩
  · rw [if_neg e2] at h ⊢
    by_cases e4 : what = 4
    · rw [if_pos e4]; exact ⟨hk0, hk⟩
    · rw [if_neg e4] at h ⊢
      by_cases e5 : what = 5
      · rw [if_pos e5] at h ⊢; exact ⟨by omega, h.1⟩
      · rw [if_neg e5] at h ⊢
        by_cases e6 : what = 6 ∨ what = 7
        · rw [if_pos e6]; exact ⟨hk0, hk⟩
        · rw [if_neg e6] at h ⊢; exact ⟨by omega, h.1⟩
set_option maxHeartbeats 2000000 in
set_option maxRecDepth 20000 in
theorem c_X1_build {N : Nat} {h : Hp} {Q : QP} {q r r2 k l : Nat} {mo what ddi : Int} {c s d t ml ms oc os xp yp xn yn : Nat → Int} (hq0 : h q = MKo q) (hN : q + 10 < N) (hmo : h (q + 1) = ROo (q + 1) mo) (hml : h (q + 1 + 1) = aL 7 ml) (hmlb : ∀ j, j < 7 → -100000 ≤ ml j ∧ ml j ≤ 100000) (hxp : h (q + 9) = aL 37 xp) (hyp : h (q + 10) = aL 7 yp) (hxn : h (q + 7) = aL 1006 xn) (hyn : h (q + 8) = aL 6 yn) (hr : RowAt h r k c s) (hrN : r + 2 < N) (hrw : r + 2 < q ∨ q + 10 < r) (hk0 : 0 < k) (hk : k ≤ 6) (hcb : ∀ j, j < 7 → -100000 ≤ c j ∧ c j ≤ 100000) (hsb : ∀ j, j < 6 → -1000000 ≤ s j ∧ s j ≤ 1000000) (hr2 : RowAt h r2 l d t) (hrN2 : r2 + 2 < N) (hrw2 : r2 + 2 < q ∨ q + 10 < r2) (hl0 : 0 < l) (hl : l ≤ 6) (hdb : ∀ j, j < 7 → -100000 ≤ d j ∧ d j ≤ 100000) (htb : ∀ j, j < 6 → -1000000 ≤ t j ∧ t j ≤ 1000000) (hon : RowAt h (q + 4) 1 oc os) (hoc0 : oc 0 = -1) (hoc1 : oc 1 = 1) (hob : ∀ j, j < 7 → -100000 ≤ oc j ∧ oc j ≤ 100000) (hw0 : 0 ≤ what) (hw7 : what ≤ 7) (hw4 : what = 4 → 2 ≤ ddi ∧ ddi ≤ 6) (hms : h (q + 1 + 2) = aL 6 ms) (hmsb : ∀ j, j < 6 → -1000000 ≤ ms j ∧ ms j ≤ 1000000) (hc0 : c 0 = -1) (hm0 : ml 0 = -1) (hw6 : what = 6 → 0 ≤ ddi ∧ ddi ≤ 1000) (hw77 : what = 7 → -1000 ≤ ddi ∧ ddi ≤ 1000) (hQ : ∀ (b mo2 : Int) (m8 s8 x8 y8 x7 y7 : Nat → Int), m8 0 = -1 → (∀ j, j < 7 → -100000 ≤ m8 j ∧ m8 j ≤ 100000) → (∀ j, j < 6 → -1000000 ≤ s8 j ∧ s8 j ≤ 1000000) → (b = 1 ∧ mOk what k l ddi.toNat c d ∧ sOk what (mK what k l) (ex k c s) (ex l d t) ddi ∧ mo2 = (mK what k l : Int) ∧ (∀ j, 1 ≤ j → j ≤ mK what k l → m8 j = mLaw what k l ddi.toNat c d j) ∧ (∀ n, n < mK what k l → s8 n = mNum what (ex k c s) (ex l d t) ddi n) ∨ b = 0 ∧ ¬ (mOk what k l ddi.toNat c d ∧ sOk what (mK what k l) (ex k c s) (ex l d t) ddi)) → Q (some (.int (iZ b))) N (hs (hs (hs (hs (hs (hs (hs h (q + 9) (aL 37 x8)) (q + 10) (aL 7 y8)) (q + 1) (ROo (q + 1) mo2)) (q + 1 + 1) (aL 7 m8)) (q + 1 + 2) (aL 6 s8)) (q + 7) (aL 1006 x7)) (q + 8) (aL 6 y7))) : Runs mX1_build [.ref (q), .int (iZ (what)), .ref (r), .ref (r2), .int (iZ (ddi))] N h Q := by
  refine run_start (own := RX1) rfl (by decide) (nle rfl) rfl (fun X hq hini => ?_)
  show G X RX1 cX1_build mX1_build.rm N 0 0 0 [some (.ref (q)), some (.int (iZ (what))), some (.ref (r)), some (.ref (r2)), some (.int (iZ (ddi)))] [] h
  refine r_aload_n dX1_build_0 rfl rfl ?_
  refine r_iload_n dX1_build_1 rfl rfl ?_
  refine r_aload_n dX1_build_2 rfl rfl ?_
  refine r_aload_n dX1_build_3 rfl rfl ?_
  refine r_iload dX1_build_4 rfl ?_
  refine r_callV (av := [.int (iZ (what)), .ref (r), .ref (r2), .int (iZ (ddi))]) dX1_build_6 lkX1_makeLaw ml_X1_34 imX1_makeLaw seX1_makeLaw (by omega) (rfl : vwCl[1]? = _) ⟨_, hq0⟩ ⟨Nat.le_of_ble_eq_true rfl, Nat.le_of_ble_eq_true rfl⟩ rfl rfl (nle rfl) ⟨Nat.le_of_ble_eq_true rfl, Nat.le_of_ble_eq_true rfl⟩ (c_X1_makeLaw (q := q) (r := r) (r2 := r2) (k := k) (l := l) (c := c) (s := s) (d := d) (t := t) (oc := oc) (os := os) hq0 (by omega) hmo hml hmlb hxp hyp hr hrN hrw hk0 hk hcb hsb hr2 hrN2 (by omega) hl0 hl hdb hon hoc0 hoc1 hob hw0 hw7 hw4 hms hmsb hc0 hm0 (fun b5 mo5 m5 s5 x5 y5 hm50 hm5b hs5b hb5 => ?_))
  show G _ _ _ _ _ _ _ 9 _ _ _
  refine r_if_eq 28 dX1_build_9 (by decide) (by rcases hb5 with ⟨y, _⟩ | ⟨y, _⟩ <;> exact ⟨by omega, by omega⟩) (fun c_9 => ?_) (fun c_9 => ?_)
  · refine r_iconst (z := 0) dX1_build_28 ?_
    refine r_zreturn hq dX1_build_29 rfl (by decide) rfl rfl ?_
    have hfin := hQ 0 (mo5) (m5) (s5) (x5) (y5) (xn) (yn) hm50 hm5b hs5b (Or.inr ⟨rfl, fun w => by rcases hb5 with ⟨y, _⟩ | ⟨_, y⟩; omega; exact y w.1⟩)
    rw [hs_id (a := q + 7) ((hs_n (by omega)).trans ((hs_n (by omega)).trans ((hs_n (by omega)).trans ((hs_n (by omega)).trans ((hs_n (by omega)).trans hxn)))))] at hfin
    rw [hs_id (a := q + 8) ((hs_n (by omega)).trans ((hs_n (by omega)).trans ((hs_n (by omega)).trans ((hs_n (by omega)).trans ((hs_n (by omega)).trans hyn)))))] at hfin
    exact hfin
  · have hb51 : mOk what k l ddi.toNat c d ∧ mo5 = (mK what k l : Int) ∧ (∀ j, 1 ≤ j → j ≤ mK what k l → m5 j = mLaw what k l ddi.toNat c d j) := by
      rcases hb5 with ⟨_, y⟩ | ⟨y, _⟩
      · exact y
      · exact absurd y c_9
    have hmK0 := (mK_in hk0 hk hl0 hb51.1).1
    have hmK6 := (mK_in hk0 hk hl0 hb51.1).2
    have hmK7 : what = 7 → mK what k l ≤ k := fun w => by rw [mK67 (Or.inr w)]; exact Nat.le_refl k
    refine r_aload_n dX1_build_12 rfl rfl ?_
    refine r_iload_n dX1_build_13 rfl rfl ?_
    refine r_aload_n dX1_build_14 rfl rfl ?_
    refine r_aload_n dX1_build_15 rfl rfl ?_
    refine r_iload dX1_build_16 rfl ?_
    refine r_callV (av := [.int (iZ (what)), .ref (r), .ref (r2), .int (iZ (ddi))]) dX1_build_18 lkX1_makeStarts ml_X1_38 imX1_makeStarts seX1_makeStarts (by omega) (rfl : vwCl[1]? = _) ⟨_, ((hs_n (by omega)).trans ((hs_n (by omega)).trans ((hs_n (by omega)).trans ((hs_n (by omega)).trans ((hs_n (by omega)).trans hq0)))))⟩ ⟨Nat.le_of_ble_eq_true rfl, Nat.le_of_ble_eq_true rfl⟩ rfl rfl (nle rfl) ⟨Nat.le_of_ble_eq_true rfl, Nat.le_of_ble_eq_true rfl⟩ (c_X1_makeStarts (q := q) (r := r) (r2 := r2) (k := k) (l := l) (K := mK what k l) (c := c) (s := s) (d := d) (t := t) ((hs_n (by omega)).trans ((hs_n (by omega)).trans ((hs_n (by omega)).trans ((hs_n (by omega)).trans ((hs_n (by omega)).trans hq0))))) (by omega) ((hs_n (by omega)).trans ((hs_n (by omega)).trans ((hs_n (by omega)).trans ((hs_n (by omega)).trans ((hs_n (by omega)).trans hxn))))) ((hs_n (by omega)).trans ((hs_n (by omega)).trans ((hs_n (by omega)).trans ((hs_n (by omega)).trans ((hs_n (by omega)).trans hyn))))) ((hs_n (by omega)).trans ((hs_n (by omega)).trans hs_e)) hs_e hs5b hb51.2.1 hmK0 hmK6 hmK7 hw0 hw7 hw4 hw6 hw77 (RowAt.to ((hs_n (by omega)).trans ((hs_n (by omega)).trans ((hs_n (by omega)).trans ((hs_n (by omega)).trans ((hs_n (by omega)).trans hr.1))))) ((hs_n (by omega)).trans ((hs_n (by omega)).trans ((hs_n (by omega)).trans ((hs_n (by omega)).trans ((hs_n (by omega)).trans hr.2.1))))) ((hs_n (by omega)).trans ((hs_n (by omega)).trans ((hs_n (by omega)).trans ((hs_n (by omega)).trans ((hs_n (by omega)).trans hr.2.2)))))) hrN hrw hk0 hk hcb hsb (RowAt.to ((hs_n (by omega)).trans ((hs_n (by omega)).trans ((hs_n (by omega)).trans ((hs_n (by omega)).trans ((hs_n (by omega)).trans hr2.1))))) ((hs_n (by omega)).trans ((hs_n (by omega)).trans ((hs_n (by omega)).trans ((hs_n (by omega)).trans ((hs_n (by omega)).trans hr2.2.1))))) ((hs_n (by omega)).trans ((hs_n (by omega)).trans ((hs_n (by omega)).trans ((hs_n (by omega)).trans ((hs_n (by omega)).trans hr2.2.2)))))) hrN2 (by omega) hl0 hl hdb htb (fun b6 s6 x6 y6 hs6b hb6 => ?_))
    refine g_heap (h2 := (hs (hs (hs (hs (hs (hs (hs h (q + 9) (aL 37 (x5))) (q + 10) (aL 7 (y5))) (q + 1) (ob 7 [.int (iZ (mo5)), .ref (q + 1 + 1), .ref (q + 1 + 2)])) (q + 1 + 1) (aL 7 (m5))) (q + 1 + 2) (aL 6 (s6))) (q + 7) (aL 1006 (x6))) (q + 8) (aL 6 (y6)))) (hs_put (by omega) (hs_put (by omega) hs_hs)) ?_
    show G _ _ _ _ _ _ _ 21 _ _ _
    refine r_if_eq 28 dX1_build_21 (by decide) (by rcases hb6 with ⟨y, _⟩ | ⟨y, _⟩ <;> exact ⟨by omega, by omega⟩) (fun c_21 => ?_) (fun c_21 => ?_)
    · refine r_iconst (z := 0) dX1_build_28 ?_
      refine r_zreturn hq dX1_build_29 rfl (by decide) rfl rfl ?_
      have hfin := hQ 0 (mo5) (m5) (s6) (x5) (y5) (x6) (y6) hm50 hm5b hs6b (Or.inr ⟨rfl, fun w => by rcases hb6 with ⟨y, _⟩ | ⟨_, y⟩; omega; exact y w.2⟩)
      exact hfin
    · have hb61 : sOk what (mK what k l) (ex k c s) (ex l d t) ddi ∧ (∀ n, n < mK what k l → s6 n = mNum what (ex k c s) (ex l d t) ddi n) := by
        rcases hb6 with ⟨_, y⟩ | ⟨y, _⟩
        · exact y
        · exact absurd y c_21
      refine r_iconst (z := 1) dX1_build_24 ?_
      refine r_goto 29 dX1_build_25 (by decide) ?_
      refine r_zreturn hq dX1_build_29 rfl (by decide) rfl rfl ?_
      have hfin := hQ 1 (mo5) (m5) (s6) (x5) (y5) (x6) (y6) hm50 hm5b hs6b (Or.inl ⟨rfl, hb51.1, hb61.1, hb51.2.1, hb51.2.2, hb61.2⟩)
      exact hfin
