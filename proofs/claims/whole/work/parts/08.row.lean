set_option maxHeartbeats 2000000 in
set_option maxRecDepth 20000 in
theorem c_X7_carriedOn {N : Nat} {h : Hp} {Q : QP} {r k q M n : Nat} {c s f : Nat → Int} (hr : RowAt h r k c s) (hN : r + 2 < N) (hq9 : h q = aL M f) (hqN : q < N) (hk : k ≤ 6) (hkn : k ≤ n) (hn : n < M) (hM : M < 1000000) (hc : ∀ j, j < 7 → -100000 ≤ c j ∧ c j ≤ 100000) (hf : ∀ j, j < n → -100000000000000000 ≤ f j ∧ f j ≤ 100000000000000000) (hQ : ∀ z : Int, (z = carry c f k n ∨ ((carry c f k n < -100000000000000000 ∨ 100000000000000000 < carry c f k n) ∧ z = 100000000000000001)) → -200000000000000000 ≤ z → z ≤ 200000000000000000 → Q (some (.long (lZ z))) N h) : Runs mX7_carriedOn [.ref (r), .ref (q), .int (iZ ((n : Int)))] N h Q := by
  refine run_start (own := RX7) rfl (by decide) (nle rfl) rfl (fun X hq hini => ?_)
  show G X RX7 cX7_carriedOn mX7_carriedOn.rm N 0 0 0 [some (.ref (r)), some (.ref (q)), some (.int (iZ ((n : Int)))), none, none, none, none, none, none, none] [] h
  refine r_lconst (z := 0) dX7_carriedOn_0 (by decide) ?_
  refine r_lstore_n (L2 := [_, _, _, _, none, none, none, none, none, none]) dX7_carriedOn_1 rfl (nlt rfl) rfl ?_
  refine r_lconst (z := 0) dX7_carriedOn_2 (by decide) ?_
  refine r_lstore (L2 := [_, _, _, _, none, _, none, none, none, none]) dX7_carriedOn_3 (nlt rfl) rfl ?_
  refine r_iconst (z := 1) dX7_carriedOn_5 ?_
  refine r_istore (L2 := [_, _, _, _, none, _, none, _, none, none]) dX7_carriedOn_6 (nlt rfl) rfl ?_
  have lp8 : ∀ (fu8 : Nat) (hi : Int) (lo : Int) (i : Int) (j : Nat), ((k : Int) + 1 - i) < (fu8 : Int) → (i = (j : Int) + 1) → (j ≤ k) → (hi = sm (fun t => c (t + 1) * (f (n - 1 - t)).tdiv 1000000000) j) → (lo = sm (fun t => c (t + 1) * (f (n - 1 - t)).tmod 1000000000) j) → G X RX7 cX7_carriedOn mX7_carriedOn.rm N 0 0 8 [some (.ref (r)), some (.ref (q)), some (.int (iZ ((n : Int)))), some (.long (lZ (hi))), none, some (.long (lZ (lo))), none, some (.int (iZ (i))), none, none] [] h := by
    intro fu8
    induction fu8 with
    | zero => intro hi lo i j hm ei hj ehi elo; exfalso; omega
    | succ fu8 ih8 =>
      intro hi lo i j hm8 ei hj ehi elo
      refine r_iload dX7_carriedOn_8 rfl ?_
      refine r_aload_n dX7_carriedOn_10 rfl rfl ?_
      refine gf_X7_9 dX7_carriedOn_11 (by omega) hr.1 rfl ?_
      refine r_icmp_gt 67 dX7_carriedOn_14 (by decide) ⟨by omega, by omega⟩ ⟨by omega, by omega⟩ (fun c_14 => ?_) (fun c_14 => ?_)
      · have hjk : j = k := by omega
        subst hjk
        have hs := carry_split c f j n
        rw [← ehi, ← elo] at hs
        have bhi : -60000000000000 ≤ hi ∧ hi ≤ 60000000000000 := by
          have q := sm_bd (g := fun t => c (t + 1) * (f (n - 1 - t)).tdiv 1000000000) (B := 10000000000000) (by decide) (n := j) (fun t ht => mulb (A := 100000) (B := 100000000) (hc (t + 1) (by omega)).1 (hc (t + 1) (by omega)).2 (tdiv9 (B := 100000000) (by have := hf (n - 1 - t) (by omega); omega) (by have := hf (n - 1 - t) (by omega); omega)).1 (tdiv9 (B := 100000000) (by have := hf (n - 1 - t) (by omega); omega) (by have := hf (n - 1 - t) (by omega); omega)).2 (by decide))
          rw [← ehi] at q
          omega
        have blo : -600000000000000 ≤ lo ∧ lo ≤ 600000000000000 := by
          have q := sm_bd (g := fun t => c (t + 1) * (f (n - 1 - t)).tmod 1000000000) (B := 100000000000000) (by decide) (n := j) (fun t ht => mulb (A := 100000) (B := 1000000000) (hc (t + 1) (by omega)).1 (hc (t + 1) (by omega)).2 (by have := tmod9 (f (n - 1 - t)); omega) (by have := tmod9 (f (n - 1 - t)); omega) (by decide))
          rw [← elo] at q
          omega
        have tm := tmod9 lo
        have td := tdiv9 (x := lo) (B := 1000000) (by omega) (by omega)
        refine r_lload_n dX7_carriedOn_67 rfl rfl ?_
        refine r_lload dX7_carriedOn_68 rfl ?_
        refine r_ldc2 (z := 1000000000) dX7_carriedOn_70 kc_X7_46 ?_
        refine r_ldiv dX7_carriedOn_73 ⟨by omega, by omega⟩ ⟨by decide, by decide⟩ (by decide) (by omega) ?_
        refine r_ladd dX7_carriedOn_74 ?_
        refine r_lstore_n (L2 := [_, _, _, _, none, _, none, _, none, none]) dX7_carriedOn_75 rfl (nlt rfl) rfl ?_
        refine r_lload_n dX7_carriedOn_76 rfl rfl ?_
        refine r_absL dX7_carriedOn_77 ml_X7_40 jst_abs jin_Math jcd_abs ⟨by decide, by decide⟩ (nle rfl) ⟨Nat.zero_le _, Nat.zero_le _⟩ ⟨by omega, by omega⟩ ?_
        refine r_ldc2 (z := 100000001) dX7_carriedOn_80 kc_X7_48 ?_
        refine r_lcmp_le 91 dX7_carriedOn_83 dX7_carriedOn_84 (by decide) ⟨by omega, by omega⟩ ⟨by decide, by decide⟩ (fun c_83 => ?_) (fun c_83 => ?_)
        · refine r_lload_n dX7_carriedOn_91 rfl rfl ?_
          refine r_ldc2 (z := 1000000000) dX7_carriedOn_92 kc_X7_46 ?_
          refine r_lmul dX7_carriedOn_95 ?_
          refine r_lload dX7_carriedOn_96 rfl ?_
          refine r_ldc2 (z := 1000000000) dX7_carriedOn_98 kc_X7_46 ?_
          refine r_lrem dX7_carriedOn_101 ⟨by omega, by omega⟩ ⟨by decide, by decide⟩ (by decide) (by omega) ?_
          refine r_ladd dX7_carriedOn_102 ?_
          refine r_lreturn hq dX7_carriedOn_103 rfl rfl rfl ?_
          exact hQ _ (Or.inl (by omega)) (by omega) (by omega)
        · refine r_ldc2 (z := 100000000000000001) dX7_carriedOn_87 kc_X7_50 ?_
          refine r_lreturn hq dX7_carriedOn_90 rfl rfl rfl ?_
          exact hQ _ (Or.inr ⟨by omega, rfl⟩) (by omega) (by omega)
      · refine r_aload_n dX7_carriedOn_17 rfl rfl ?_
        refine r_iload_n dX7_carriedOn_18 rfl rfl ?_
        refine r_iload dX7_carriedOn_19 rfl ?_
        refine r_isub dX7_carriedOn_21 ?_
        have hjk : j < k := by omega
        have e1 : ((n : Int) - i).toNat = n - 1 - j := by omega
        have e2 : i.toNat = j + 1 := by omega
        have hfb := hf (n - 1 - j) (by omega)
        have hfe := congrArg f e1
        refine r_laload dX7_carriedOn_22 (by omega) hq9 (by omega) (by omega) (by omega) ?_
        refine r_lstore (L2 := [_, _, _, _, none, _, none, _, _, none]) dX7_carriedOn_23 (nlt rfl) rfl ?_
        refine r_lload_n dX7_carriedOn_25 rfl rfl ?_
        refine r_aload_n dX7_carriedOn_26 rfl rfl ?_
        refine gf_X7_15 dX7_carriedOn_27 (by omega) hr.1 rfl ?_
        refine r_iload dX7_carriedOn_30 rfl ?_
        refine r_laload dX7_carriedOn_32 (by omega) hr.2.1 (by omega) (by omega) (by decide) ?_
        refine r_lload dX7_carriedOn_33 rfl ?_
        refine r_ldc2 (z := 1000000000) dX7_carriedOn_35 kc_X7_46 ?_
        refine r_ldiv dX7_carriedOn_38 ⟨by omega, by omega⟩ ⟨by decide, by decide⟩ (by decide) (by omega) ?_
        refine r_lmul dX7_carriedOn_39 ?_
        refine r_ladd dX7_carriedOn_40 ?_
        refine r_lstore_n (L2 := [_, _, _, _, none, _, none, _, _, none]) dX7_carriedOn_41 rfl (nlt rfl) rfl ?_
        refine r_lload dX7_carriedOn_42 rfl ?_
        refine r_aload_n dX7_carriedOn_44 rfl rfl ?_
        refine gf_X7_15 dX7_carriedOn_45 (by omega) hr.1 rfl ?_
        refine r_iload dX7_carriedOn_48 rfl ?_
        refine r_laload dX7_carriedOn_50 (by omega) hr.2.1 (by omega) (by omega) (by decide) ?_
        refine r_lload dX7_carriedOn_51 rfl ?_
        refine r_ldc2 (z := 1000000000) dX7_carriedOn_53 kc_X7_46 ?_
        refine r_lrem dX7_carriedOn_56 ⟨by omega, by omega⟩ ⟨by decide, by decide⟩ (by decide) (by omega) ?_
        refine r_lmul dX7_carriedOn_57 ?_
        refine r_ladd dX7_carriedOn_58 ?_
        refine r_lstore (L2 := [_, _, _, _, none, _, none, _, _, none]) dX7_carriedOn_59 (nlt rfl) rfl ?_
        refine r_iinc (L2 := [_, _, _, _, none, _, none, _, _, none]) dX7_carriedOn_61 (nlt rfl) rfl rfl ?_
        refine r_goto 8 dX7_carriedOn_64 (by decide) ?_
        refine r_mask [true, true, true, true, false, true, false, true, false, false] (L2 := [_, _, _, _, none, _, none, _, none, none]) rfl ?_
        exact ih8 (hi + ((c (i).toNat) * ((f ((n : Int) - i).toNat).tdiv 1000000000))) (lo + ((c (i).toNat) * ((f ((n : Int) - i).toNat).tmod 1000000000))) (i + 1) (j + 1) (by omega) (by omega) (by omega) (by rw [sm_s, ehi, e1, e2]) (by rw [sm_s, elo, e1, e2])
  exact lp8 (((k : Int)) + 1).toNat (0) (0) (1) (0) (by omega) rfl (by omega) rfl rfl
