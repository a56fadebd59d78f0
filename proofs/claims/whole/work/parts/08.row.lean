set_option maxHeartbeats 2000000 in
set_option maxRecDepth 20000 in
theorem c_X7_carriedOn {N : Nat} {h : Hp} {Q : QP} {r k q M n : Nat} {ni : Int} {c s f : Nat → Int} (hni : ni = (n : Int)) (hr : RowAt h r k c s) (hN : r + 2 < N) (hq9 : h q = aL M f) (hqN : q < N) (hk : k ≤ 6) (hkn : k ≤ n) (hn : n < M) (hM : M < 1000000) (hc : ∀ j, j < 7 → -100000 ≤ c j ∧ c j ≤ 100000) (hf : ∀ j, j < n → -100000000000000000 ≤ f j ∧ f j ≤ 100000000000000000) (hQ : ∀ z : Int, (z = carry c f k n ∨ ((carry c f k n < -100000000000000000 ∨ 100000000000000000 < carry c f k n) ∧ z = 100000000000000001)) → -200000000000000000 ≤ z → z ≤ 200000000000000000 → Q (some (.long (lZ z))) N h) : Runs mX7_carriedOn [.ref (r), .ref (q), .int (iZ (ni))] N h Q := by
  refine run_start (own := RX7) rfl (by decide) (nle rfl) rfl (fun X hq hini => ?_)
  show G X RX7 cX7_carriedOn mX7_carriedOn.rm N 0 0 0 [some (.ref (r)), some (.ref (q)), some (.int (iZ (ni))), none, none, none, none, none, none, none] [] h
  refine r_lconst (z := 0) dX7_carriedOn_0 (by decide) ?_
  refine r_lstore_n (L2 := [_, _, _, _, none, none, none, none, none, none]) dX7_carriedOn_1 rfl (nlt rfl) rfl ?_
  refine r_lconst (z := 0) dX7_carriedOn_2 (by decide) ?_
  refine r_lstore (L2 := [_, _, _, _, none, _, none, none, none, none]) dX7_carriedOn_3 (nlt rfl) rfl ?_
  refine r_iconst (z := 1) dX7_carriedOn_5 ?_
  refine r_istore (L2 := [_, _, _, _, none, _, none, _, none, none]) dX7_carriedOn_6 (nlt rfl) rfl ?_
  have lp8 : ∀ (fu8 : Nat) (hi : Int) (lo : Int) (i : Int) (j : Nat), ((k : Int) + 1 - i) < (fu8 : Int) → (i = (j : Int) + 1) → (j ≤ k) → (hi = sm (fun t => c (t + 1) * (f (n - 1 - t)).tdiv 1000000000) j) → (lo = sm (fun t => c (t + 1) * (f (n - 1 - t)).tmod 1000000000) j) → G X RX7 cX7_carriedOn mX7_carriedOn.rm N 0 0 8 [some (.ref (r)), some (.ref (q)), some (.int (iZ (ni))), some (.long (lZ (hi))), none, some (.long (lZ (lo))), none, some (.int (iZ (i))), none, none] [] h := by
    intro fu8
    induction fu8 with
    | zero => intro hi lo i j hm ei hj ehi elo; exfalso; omega
    | succ fu8 ih8 =>
      intro hi lo i j hms8 ei hj ehi elo
      refine r_iload dX7_carriedOn_8 rfl ?_
      refine r_aload_n dX7_carriedOn_10 rfl rfl ?_
      refine gf_X7_9 dX7_carriedOn_11 (by omega) hr.1 rfl ?_
      refine r_icmp_gt 67 dX7_carriedOn_14 (by decide) ⟨by omega, by omega⟩ ⟨by omega, by omega⟩ (fun c_14 => ?_) (fun c_14 => ?_)
      · have hjk : j = k := by omega
        subst hjk
        have hs := carry_split c f j n
        rw [← ehi, ← elo] at hs
        have bhi : -60000000000000 ≤ hi ∧ hi ≤ 60000000000000 := by
          have q := sm_bd (g := fun t => c (t + 1) * (f (n - 1 - t)).tdiv 1000000000) (B := 10000000000000) (by decide) (n := j) (fun t ht => mulb (A := 100000) (B := 100000000) (hc (t + 1) (by omega)).1 (hc (t + 1) (by omega)).2 (tdiv9 (B := 100000000) (by have := hf (n - 1 - t) (by omega); omega) (by have := hf (n - 1 - t) (by omega); omega)).1 (tdiv9 (B := 100000000) (by have := hf (n - 1 - t) (by omega); omega) (by have := hf (n - 1 - t) (by omega); omega)).2 (by decide))
          rw [← ehi] at q
          omega
        have blo : -600000000000000 ≤ lo ∧ lo ≤ 600000000000000 := by
          have q := sm_bd (g := fun t => c (t + 1) * (f (n - 1 - t)).tmod 1000000000) (B := 100000000000000) (by decide) (n := j) (fun t ht => mulb (A := 100000) (B := 1000000000) (hc (t + 1) (by omega)).1 (hc (t + 1) (by omega)).2 (by have := tmod9 (f (n - 1 - t)); omega) (by have := tmod9 (f (n - 1 - t)); omega) (by decide))
          rw [← elo] at q
          omega
        have tm := tmod9 lo
        have td := tdiv9 (x := lo) (B := 1000000) (by omega) (by omega)
        refine r_lload_n dX7_carriedOn_67 rfl rfl ?_
        refine r_lload dX7_carriedOn_68 rfl ?_
        refine r_ldc2 (z := 1000000000) dX7_carriedOn_70 kc_X7_46 ?_
        refine r_ldiv dX7_carriedOn_73 ⟨by omega, by omega⟩ ⟨by decide, by decide⟩ (by decide) (by omega) ?_
        refine r_ladd dX7_carriedOn_74 ?_
        refine r_lstore_n (L2 := [_, _, _, _, none, _, none, _, none, none]) dX7_carriedOn_75 rfl (nlt rfl) rfl ?_
        refine r_lload_n dX7_carriedOn_76 rfl rfl ?_
        refine r_absL dX7_carriedOn_77 ml_X7_40 jst_abs jin_Math jcd_abs ⟨by decide, by decide⟩ (nle rfl) ⟨Nat.zero_le _, Nat.zero_le _⟩ ⟨by omega, by omega⟩ ?_
        refine r_ldc2 (z := 100000001) dX7_carriedOn_80 kc_X7_48 ?_
        refine r_lcmp_le 91 dX7_carriedOn_83 dX7_carriedOn_84 (by decide) ⟨by omega, by omega⟩ ⟨by decide, by decide⟩ (fun c_83 => ?_) (fun c_83 => ?_)
        · refine r_lload_n dX7_carriedOn_91 rfl rfl ?_
          refine r_ldc2 (z := 1000000000) dX7_carriedOn_92 kc_X7_46 ?_
          refine r_lmul dX7_carriedOn_95 ?_
          refine r_lload dX7_carriedOn_96 rfl ?_
          refine r_ldc2 (z := 1000000000) dX7_carriedOn_98 kc_X7_46 ?_
          refine r_lrem dX7_carriedOn_101 ⟨by omega, by omega⟩ ⟨by decide, by decide⟩ (by decide) (by omega) ?_
          refine r_ladd dX7_carriedOn_102 ?_
          refine r_lreturn hq dX7_carriedOn_103 rfl rfl rfl ?_
          exact hQ _ (Or.inl (by omega)) (by omega) (by omega)
        · refine r_ldc2 (z := 100000000000000001) dX7_carriedOn_87 kc_X7_50 ?_
          refine r_lreturn hq dX7_carriedOn_90 rfl rfl rfl ?_
          exact hQ _ (Or.inr ⟨by omega, rfl⟩) (by omega) (by omega)
      · refine r_aload_n dX7_carriedOn_17 rfl rfl ?_
        refine r_iload_n dX7_carriedOn_18 rfl rfl ?_
        refine r_iload dX7_carriedOn_19 rfl ?_
        refine r_isub dX7_carriedOn_21 ?_
        have hjk : j < k := by omega
        have e1 : (ni - i).toNat = n - 1 - j := by omega
        have e2 : i.toNat = j + 1 := by omega
        have hfb := hf (n - 1 - j) (by omega)
        have hfe := congrArg f e1
        refine r_laload dX7_carriedOn_22 (by omega) hq9 (by omega) (by omega) (by omega) ?_
        refine r_lstore (L2 := [_, _, _, _, none, _, none, _, _, none]) dX7_carriedOn_23 (nlt rfl) rfl ?_
        refine r_lload_n dX7_carriedOn_25 rfl rfl ?_
        refine r_aload_n dX7_carriedOn_26 rfl rfl ?_
        refine gf_X7_15 dX7_carriedOn_27 (by omega) hr.1 rfl ?_
        refine r_iload dX7_carriedOn_30 rfl ?_
        refine r_laload dX7_carriedOn_32 (by omega) hr.2.1 (by omega) (by omega) (by decide) ?_
        refine r_lload dX7_carriedOn_33 rfl ?_
        refine r_ldc2 (z := 1000000000) dX7_carriedOn_35 kc_X7_46 ?_
        refine r_ldiv dX7_carriedOn_38 ⟨by omega, by omega⟩ ⟨by decide, by decide⟩ (by decide) (by omega) ?_
        refine r_lmul dX7_carriedOn_39 ?_
        refine r_ladd dX7_carriedOn_40 ?_
        refine r_lstore_n (L2 := [_, _, _, _, none, _, none, _, _, none]) dX7_carriedOn_41 rfl (nlt rfl) rfl ?_
        refine r_lload dX7_carriedOn_42 rfl ?_
        refine r_aload_n dX7_carriedOn_44 rfl rfl ?_
        refine gf_X7_15 dX7_carriedOn_45 (by omega) hr.1 rfl ?_
        refine r_iload dX7_carriedOn_48 rfl ?_
        refine r_laload dX7_carriedOn_50 (by omega) hr.2.1 (by omega) (by omega) (by decide) ?_
        refine r_lload dX7_carriedOn_51 rfl ?_
        refine r_ldc2 (z := 1000000000) dX7_carriedOn_53 kc_X7_46 ?_
        refine r_lrem dX7_carriedOn_56 ⟨by omega, by omega⟩ ⟨by decide, by decide⟩ (by decide) (by omega) ?_
        refine r_lmul dX7_carriedOn_57 ?_
        refine r_ladd dX7_carriedOn_58 ?_
        refine r_lstore (L2 := [_, _, _, _, none, _, none, _, _, none]) dX7_carriedOn_59 (nlt rfl) rfl ?_
        refine r_iinc (L2 := [_, _, _, _, none, _, none, _, _, none]) dX7_carriedOn_61 (nlt rfl) rfl rfl ?_
        refine r_goto 8 dX7_carriedOn_64 (by decide) ?_
        refine r_mask [true, true, true, true, false, true, false, true, false, false] (L2 := [_, _, _, _, none, _, none, _, none, none]) rfl ?_
        exact ih8 (hi + ((c (i).toNat) * ((f (ni - i).toNat).tdiv 1000000000))) (lo + ((c (i).toNat) * ((f (ni - i).toNat).tmod 1000000000))) (i + 1) (j + 1) (by omega) (by omega) (by omega) (by rw [sm_s, ehi, e1, e2]) (by rw [sm_s, elo, e1, e2])
  exact lp8 (((k : Int) : Int) + 1).toNat (0) (0) (1) (0) (by omega) rfl (by omega) rfl rfl
set_option maxHeartbeats 2000000 in
set_option maxRecDepth 20000 in
theorem c_X7_tellNumbers {N : Nat} {h : Hp} {Q : QP} {r k q M last : Nat} {li : Int} {c s f : Nat → Int} (hli : li = (last : Int)) (hr : RowAt h r k c s) (hN : r + 2 < N) (hq9 : h q = aL M f) (hqN : q < N) (e0 : q ≠ r) (e1 : q ≠ r + 1) (e2 : q ≠ r + 2) (hk0 : 0 < k) (hk : k ≤ 6) (hM0 : 0 < M) (hM : M < 1000000) (hlast : last < 1000000) (hc : ∀ j, j < 7 → -100000 ≤ c j ∧ c j ≤ 100000) (hs1 : ∀ j, j < k → -1000000 ≤ s j ∧ s j ≤ 1000000) (hQ : ∀ (t : Nat) (F : Nat → Int), Told k c s (min (last + 1) M) t → (∀ j, j < t → F j = ex k c s j) → (∀ j, t ≤ j → F j = f j) → Q (some (.int (iZ (t : Int)))) N (hs h q (aL M F))) : Runs mX7_tellNumbers [.ref (r), .ref (q), .int (iZ (li))] N h Q := by
  refine run_start (own := RX7) rfl (by decide) (nle rfl) rfl (fun X hq hini => ?_)
  show G X RX7 cX7_tellNumbers mX7_tellNumbers.rm N 0 0 0 [some (.ref (r)), some (.ref (q)), some (.int (iZ (li))), none, none, none, none] [] h
  refine r_iload_n dX7_tellNumbers_0 rfl rfl ?_
  refine r_aload_n dX7_tellNumbers_1 rfl rfl ?_
  refine r_arrlen (M := M) dX7_tellNumbers_2 (by omega) hq9 (nlt rfl) rfl ?_
  refine r_iconst (z := 1) dX7_tellNumbers_3 ?_
  refine r_isub dX7_tellNumbers_4 ?_
  refine r_min dX7_tellNumbers_5 ml_X7_30 jst_min jin_Math jcd_min ⟨by decide, by decide⟩ (nle rfl) ⟨Nat.zero_le _, Nat.zero_le _⟩ ⟨by omega, by omega⟩ ⟨by omega, by omega⟩ ?_
  refine r_istore_n (L2 := [_, _, _, _, none, none, none]) dX7_tellNumbers_8 rfl (nlt rfl) rfl ?_
  refine r_iconst (z := 0) dX7_tellNumbers_9 ?_
  refine r_istore (L2 := [_, _, _, _, _, none, none]) dX7_tellNumbers_10 (nlt rfl) rfl ?_
  have lp12 : ∀ (fu12 : Nat) (F : Nat → Int) (i : Int) (t : Nat), (((min (last + 1) M : Nat) : Int) - i) < (fu12 : Int) → (i = (t : Int)) → (t ≤ min (last + 1) M) → (∀ j, j < t → F j = ex k c s j) → (∀ j, t ≤ j → F j = f j) → (∀ j, j < t → inM (ex k c s j)) → G X RX7 cX7_tellNumbers mX7_tellNumbers.rm N 0 0 12 [some (.ref (r)), some (.ref (q)), some (.int (iZ (li))), some (.int (iZ (min li ((M : Int) - 1)))), some (.int (iZ (i))), none, none] [] (hs h (q) (aL M (F))) := by
    intro fu12
    induction fu12 with
    | zero => intro F i t hm ei ht hF hF2 hI; exfalso; omega
    | succ fu12 ih12 =>
      intro F i t hms12 ei ht hF hF2 hI
      refine r_iload dX7_tellNumbers_12 rfl ?_
      refine r_iload_n dX7_tellNumbers_14 rfl rfl ?_
      have et : i.toNat = t := by omega
      refine r_icmp_gt 73 dX7_tellNumbers_15 (by decide) ⟨by omega, by omega⟩ ⟨by omega, by omega⟩ (fun c_15 => ?_) (fun c_15 => ?_)
      · refine r_iload_n dX7_tellNumbers_73 rfl rfl ?_
        refine r_iconst (z := 1) dX7_tellNumbers_74 ?_
        refine r_iadd dX7_tellNumbers_75 ?_
        refine r_ireturn hq dX7_tellNumbers_76 rfl rfl rfl ?_
        have e9 : t = min (last + 1) M := by omega
        have e8 : min li (((M : Nat) : Int) - 1) + 1 = ((t : Nat) : Int) := by omega
        rw [e8]; exact hQ t F ⟨ht, hI, fun w => absurd w (by omega)⟩ hF hF2
      · refine r_iload dX7_tellNumbers_18 rfl ?_
        refine r_aload_n dX7_tellNumbers_20 rfl rfl ?_
        refine gf_X7_9 dX7_tellNumbers_21 (by omega) ((hs_n (by omega)).trans hr.1) rfl ?_
        refine r_icmp_ge 37 dX7_tellNumbers_24 (by decide) ⟨by omega, by omega⟩ ⟨by omega, by omega⟩ (fun c_24 => ?_) (fun c_24 => ?_)
        · refine r_aload_n dX7_tellNumbers_37 rfl rfl ?_
          refine r_aload_n dX7_tellNumbers_38 rfl rfl ?_
          refine r_iload dX7_tellNumbers_39 rfl ?_
          refine r_callV (av := [.ref (q), .int (iZ (i))]) dX7_tellNumbers_41 lkX7_carriedOn ml_X7_36 imX7_carriedOn seX7_carriedOn (by omega) (rfl : vwCl[7]? = _) ⟨_, ((hs_n (by omega)).trans hr.1)⟩ ⟨Nat.le_of_ble_eq_true rfl, Nat.le_of_ble_eq_true rfl⟩ rfl rfl (nle rfl) ⟨Nat.le_of_ble_eq_true rfl, Nat.le_of_ble_eq_true rfl⟩ (c_X7_carriedOn (n := t) (M := M) (f := F) ei (hr.hs e0 e1 e2) (by omega) hs_e (by omega) (by omega) (by omega) (by omega) (by omega) hc (fun j hj => by rw [hF j hj]; exact hI j hj) (fun z hz z1 z2 => ?_))
          have hce : carry c F k t = ex k c s t := by rw [ex_ge hk0 (by omega)]; exact carry_cong (fun _ _ _ => rfl) (fun j hj => hF _ (by omega))
          rw [hce] at hz
          show G _ _ _ _ _ _ _ 44 _ _ _
          refine r_lstore (L2 := [_, _, _, _, _, _, none]) dX7_tellNumbers_44 (nlt rfl) rfl ?_
          refine r_lload dX7_tellNumbers_46 rfl ?_
          refine r_absL dX7_tellNumbers_48 ml_X7_40 jst_abs jin_Math jcd_abs ⟨by decide, by decide⟩ (nle rfl) ⟨Nat.zero_le _, Nat.zero_le _⟩ ⟨by omega, by omega⟩ ?_
          refine r_ldc2 (z := 100000000000000000) dX7_tellNumbers_51 kc_X7_44 ?_
          refine r_lcmp_le 61 dX7_tellNumbers_54 dX7_tellNumbers_55 (by decide) ⟨by omega, by omega⟩ ⟨by decide, by decide⟩ (fun c_54 => ?_) (fun c_54 => ?_)
          · have ez : z = ex k c s t := by omega
            refine r_aload_n dX7_tellNumbers_61 rfl rfl ?_
            refine r_iload dX7_tellNumbers_62 rfl ?_
            refine r_lload dX7_tellNumbers_64 rfl ?_
            refine r_lastore dX7_tellNumbers_66 (by omega) hs_e (by omega) (by omega) (by omega) ?_
            refine g_heap (h2 := (hs h (q) (aL M (uA (F) (i).toNat (z))))) hs_hs ?_
            refine r_iinc (L2 := [_, _, _, _, _, _, none]) dX7_tellNumbers_67 (nlt rfl) rfl rfl ?_
            refine r_goto 12 dX7_tellNumbers_70 (by decide) ?_
            refine r_mask [true, true, true, true, true, false, false] (L2 := [_, _, _, _, _, none, none]) rfl ?_
            exact ih12 (uA (F) (i).toNat (z)) (i + 1) (t + 1) (by omega) (by omega) (by omega) (fun j hj => by by_cases z : j = t; (subst z; rw [et, uA_e]; first | exact ez | exact ez2); (rw [et, uA_n z]; exact hF j (by omega))) (fun j hj => by rw [et, uA_n (by omega)]; exact hF2 j (by omega)) (fun j hj => by by_cases z : j = t; (subst z; rw [← ez]; exact ⟨by omega, by omega⟩); exact hI j (by omega))
          · refine r_iload dX7_tellNumbers_58 rfl ?_
            refine r_ireturn hq dX7_tellNumbers_60 rfl rfl rfl ?_
            rw [ei]; exact hQ t F ⟨ht, hI, fun _ w => by have w1 := w.1; have w2 := w.2; omega⟩ hF hF2
        · refine r_aload_n dX7_tellNumbers_27 rfl rfl ?_
          refine gf_X7_19 dX7_tellNumbers_28 (by omega) ((hs_n (by omega)).trans hr.1) rfl ?_
          refine r_iload dX7_tellNumbers_31 rfl ?_
          refine r_laload dX7_tellNumbers_33 (by omega) ((hs_n (by omega)).trans hr.2.2) (by omega) (by omega) (by decide) ?_
          refine r_goto 44 dX7_tellNumbers_34 (by decide) ?_
          refine r_lstore (L2 := [_, _, _, _, _, _, none]) dX7_tellNumbers_44 (nlt rfl) rfl ?_
          have ez : s (i).toNat = ex k c s t := by rw [ex_lt (by omega), et]
          have ez2 := ez
          rw [et] at ez2
          have sb := hs1 i.toNat (by omega)
          refine r_lload dX7_tellNumbers_46 rfl ?_
          refine r_absL dX7_tellNumbers_48 ml_X7_40 jst_abs jin_Math jcd_abs ⟨by decide, by decide⟩ (nle rfl) ⟨Nat.zero_le _, Nat.zero_le _⟩ ⟨by omega, by omega⟩ ?_
          refine r_ldc2 (z := 100000000000000000) dX7_tellNumbers_51 kc_X7_44 ?_
          refine r_lcmp_le 61 dX7_tellNumbers_54 dX7_tellNumbers_55 (by decide) ⟨by omega, by omega⟩ ⟨by decide, by decide⟩ (fun c_54 => ?_) (fun c_54 => ?_)
          · refine r_aload_n dX7_tellNumbers_61 rfl rfl ?_
            refine r_iload dX7_tellNumbers_62 rfl ?_
            refine r_lload dX7_tellNumbers_64 rfl ?_
            refine r_lastore dX7_tellNumbers_66 (by omega) hs_e (by omega) (by omega) (by omega) ?_
            refine g_heap (h2 := (hs h (q) (aL M (uA (F) (i).toNat (s (i).toNat))))) hs_hs ?_
            refine r_iinc (L2 := [_, _, _, _, _, _, none]) dX7_tellNumbers_67 (nlt rfl) rfl rfl ?_
            refine r_goto 12 dX7_tellNumbers_70 (by decide) ?_
            refine r_mask [true, true, true, true, true, false, false] (L2 := [_, _, _, _, _, none, none]) rfl ?_
            exact ih12 (uA (F) (i).toNat (s (i).toNat)) (i + 1) (t + 1) (by omega) (by omega) (by omega) (fun j hj => by by_cases z : j = t; (subst z; rw [et, uA_e]; first | exact ez | exact ez2); (rw [et, uA_n z]; exact hF j (by omega))) (fun j hj => by rw [et, uA_n (by omega)]; exact hF2 j (by omega)) (fun j hj => by by_cases z : j = t; (subst z; rw [← ez]; exact ⟨by omega, by omega⟩); exact hI j (by omega))
          · refine r_iload dX7_tellNumbers_58 rfl ?_
            refine r_ireturn hq dX7_tellNumbers_60 rfl rfl rfl ?_
            rw [ei]; exact hQ t F ⟨ht, hI, fun _ w => by have w1 := w.1; have w2 := w.2; omega⟩ hF hF2
  refine g_heap (hs_id (c := aL M (f)) hq9).symm ?_
  exact lp12 ((((min (last + 1) M : Nat) : Int) : Int) + 1).toNat (f) (0) (0) (by omega) rfl (by omega) (fun j hj => absurd hj (Nat.not_lt_zero j)) (fun j _ => rfl) (fun j hj => absurd hj (Nat.not_lt_zero j))
