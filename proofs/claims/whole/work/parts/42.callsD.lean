def DVok (b : Int) (e : Nat → Int) (i j : Nat) : Prop := (b = 1 → Int.gcd (e i) (e j) = (e (Nat.gcd i j)).natAbs) ∧ (b = 0 → j % i = 0 → Part (e i) (e j))
def SPdiv (i b n : Int) (K : Nat → Nat) (C S : Nat → Nat → Int) (r : Int) : Prop := (¬ (0 ≤ i ∧ i ≤ 5 ∧ 2 ≤ n ∧ n ≤ 40) ∧ r = -1) ∨ (0 ≤ i ∧ i ≤ 5 ∧ 2 ≤ n ∧ n ≤ 40 ∧ ∃ t, Told (K i.toNat) (C i.toNat) (S i.toNat) (n.toNat + 1) t ∧ (((t : Int) ≤ n ∧ r = -5) ∨ (n < (t : Int) ∧ ((∃ j2 i2 : Nat, 2 ≤ j2 ∧ (j2 : Int) ≤ n ∧ 1 ≤ i2 ∧ i2 < j2 ∧ ¬ DVok b (ex (K i.toNat) (C i.toNat) (S i.toNat)) i2 j2 ∧ (∀ j3 i3 : Nat, 2 ≤ j3 → 1 ≤ i3 → i3 < j3 → (j3 < j2 ∨ (j3 = j2 ∧ i3 < i2)) → DVok b (ex (K i.toNat) (C i.toNat) (S i.toNat)) i3 j3) ∧ r = 100 * (i2 : Int) + (j2 : Int)) ∨ ((∀ j3 i3 : Nat, 2 ≤ j3 → (j3 : Int) ≤ n → 1 ≤ i3 → i3 < j3 → DVok b (ex (K i.toNat) (C i.toNat) (S i.toNat)) i3 j3) ∧ r = -4)))))
set_option maxHeartbeats 2000000 in
set_option maxRecDepth 20000 in
theorem c_X10_divides {N : Nat} {h : Hp} {Q : QP} {ii ji : Int} {i j : Nat} {F : Nat → Int} (hO : OBI h) (hE1 : h 104 = aL 2001 F) (hN : 124 ≤ N) (hi : ii = (i : Int)) (hj : ji = (j : Int)) (hi1 : 1 ≤ i) (hij : i < j) (hj40 : j ≤ 40) (hF : ∀ u, u ≤ j → inM (F u)) (hQ : ∀ b : Int, (b = 1 ∧ DVok 0 F i j ∨ b = 0 ∧ ¬ DVok 0 F i j) → Q (some (.int (iZ b))) N h) : Runs mX10_divides [.ref (0), .int (iZ (ii)), .int (iZ (ji))] N h Q := by
  have ein : ii.toNat = i := by omega
  have ejn : ji.toNat = j := by omega
  have f1 := hF i (by omega)
  have f2 := hF j (Nat.le_refl j)
  rw [← ein] at f1
  rw [← ejn] at f2
  have f11 := f1.1
  have f12 := f1.2
  have f21 := f2.1
  have f22 := f2.2
  have emd : ji % ii = ((j % i : Nat) : Int) := by rw [hi, hj]; rfl
  refine run_start (own := RX10) rfl (by decide) (nle rfl) rfl (fun X hq hini => ?_)
  show G X RX10 cX10_divides mX10_divides.rm N 0 0 0 [some (.ref (0)), some (.int (iZ (ii))), some (.int (iZ (ji)))] [] h
  refine r_iload_n dX10_divides_0 rfl rfl ?_
  refine r_iload_n dX10_divides_1 rfl rfl ?_
  refine r_iremp dX10_divides_2 ⟨by omega, by omega⟩ ⟨by omega, by omega⟩ (by omega) (by omega) ?_
  have eb_2 := emod_bd (ji) (show 0 < ii by omega)
  refine r_if_ne 24 dX10_divides_3 (by decide) ⟨by omega, by omega⟩ (fun c_3 => ?_) (fun c_3 => ?_)
  · refine r_iconst (z := 1) dX10_divides_24 ?_
    refine r_goto 29 dX10_divides_25 (by decide) ?_
    refine r_zreturn hq dX10_divides_29 rfl (by decide) rfl rfl ?_
    exact hQ _ (Or.inl ⟨rfl, fun w => absurd w (by decide), fun _ w => by exfalso; omega⟩)
  · refine r_aload_n dX10_divides_6 rfl rfl ?_
    refine gf_X10_64 dX10_divides_7 (by omega) hO rfl ?_
    refine r_iload_n dX10_divides_10 rfl rfl ?_
    refine r_laload dX10_divides_11 (by omega) hE1 (by omega) (by omega) (by decide) ?_
    refine r_aload_n dX10_divides_12 rfl rfl ?_
    refine gf_X10_64 dX10_divides_13 (by omega) hO rfl ?_
    refine r_iload_n dX10_divides_16 rfl rfl ?_
    refine r_laload dX10_divides_17 (by omega) hE1 (by omega) (by omega) (by decide) ?_
    refine r_callS (av := [.long (lZ (F (ii).toNat)), .long (lZ (F (ji).toNat))]) dX10_divides_18 lkX10_isPart ml_X10_228 stX10_isPart ⟨Nat.le_of_ble_eq_true rfl, Nat.le_of_ble_eq_true rfl⟩ rfl rfl (nle rfl) ⟨Nat.le_of_ble_eq_true rfl, Nat.le_of_ble_eq_true rfl⟩ (c_X10_isPart (a := F (ii).toNat) (w := F (ji).toNat) (by omega) (by omega) (fun b18 hb18 => ?_))
    show G _ _ _ _ _ _ _ 21 _ _ _
    refine r_if_eq 28 dX10_divides_21 (by decide) (by rcases hb18 with ⟨y, _⟩ | ⟨y, _⟩ <;> exact ⟨by omega, by omega⟩) (fun c_21 => ?_) (fun c_21 => ?_)
    · refine r_iconst (z := 0) dX10_divides_28 ?_
      refine r_zreturn hq dX10_divides_29 rfl (by decide) rfl rfl ?_
      exact hQ _ (Or.inr ⟨rfl, fun w => by
        have w2 := w.2 rfl (by omega)
        rw [← ein, ← ejn] at w2
        rcases hb18 with ⟨y, _⟩ | ⟨_, y⟩
        · omega
        · exact y w2⟩)
    · refine r_iconst (z := 1) dX10_divides_24 ?_
      refine r_goto 29 dX10_divides_25 (by decide) ?_
      refine r_zreturn hq dX10_divides_29 rfl (by decide) rfl rfl ?_
      exact hQ _ (Or.inl ⟨rfl, fun w => absurd w (by decide), fun _ w => by
        rw [← ein, ← ejn]
        rcases hb18 with ⟨_, y⟩ | ⟨y, _⟩
        · exact y
        · exact absurd y c_21⟩)
set_option maxHeartbeats 2000000 in
set_option maxRecDepth 20000 in
theorem c_X10_sharesStrongly {N : Nat} {h : Hp} {Q : QP} {ii ji : Int} {i j : Nat} {F : Nat → Int} (hO : OBI h) (hE1 : h 104 = aL 2001 F) (hN : 124 ≤ N) (hi : ii = (i : Int)) (hj : ji = (j : Int)) (hi1 : 1 ≤ i) (hij : i < j) (hj40 : j ≤ 40) (hF : ∀ u, u ≤ j → inM (F u)) (hQ : ∀ b : Int, (b = 1 ∧ DVok 1 F i j ∨ b = 0 ∧ ¬ DVok 1 F i j) → Q (some (.int (iZ b))) N h) : Runs mX10_sharesStrongly [.ref (0), .int (iZ (ii)), .int (iZ (ji))] N h Q := by
  have ein : ii.toNat = i := by omega
  have ejn : ji.toNat = j := by omega
  have f1 := hF i (by omega)
  have f2 := hF j (Nat.le_refl j)
  rw [← ein] at f1
  rw [← ejn] at f2
  have f11 := f1.1
  have f12 := f1.2
  have f21 := f2.1
  have f22 := f2.2
  have egc : (Int.gcd ii ji : Nat) = Nat.gcd i j := by rw [hi, hj]; rfl
  have gle : Nat.gcd i j ≤ j := Nat.gcd_le_right i (by omega)
  refine run_start (own := RX10) rfl (by decide) (nle rfl) rfl (fun X hq hini => ?_)
  show G X RX10 cX10_sharesStrongly mX10_sharesStrongly.rm N 0 0 0 [some (.ref (0)), some (.int (iZ (ii))), some (.int (iZ (ji))), none] [] h
  refine r_iload_n dX10_sharesStrongly_0 rfl rfl ?_
  refine r_i2l dX10_sharesStrongly_1 ⟨by omega, by omega⟩ ?_
  refine r_iload_n dX10_sharesStrongly_2 rfl rfl ?_
  refine r_i2l dX10_sharesStrongly_3 ⟨by omega, by omega⟩ ?_
  refine r_callS (av := [.long (lZ (ii)), .long (lZ (ji))]) dX10_sharesStrongly_4 lkX10_commonPart ml_X10_141 stX10_commonPart ⟨Nat.le_of_ble_eq_true rfl, Nat.le_of_ble_eq_true rfl⟩ rfl rfl (nle rfl) ⟨Nat.le_of_ble_eq_true rfl, Nat.le_of_ble_eq_true rfl⟩ (c_X10_commonPart (a := ii) (b0 := ji) (by omega) (by omega) ?_)
  show G _ _ _ _ _ _ _ 7 _ _ _
  have g7 : (0 : Int) ≤ ((Int.gcd (ii) (ji) : Nat) : Int) ∧ ((Int.gcd (ii) (ji) : Nat) : Int) ≤ 40 := by rw [egc]; omega
  refine r_l2i dX10_sharesStrongly_7 ?_
  refine r_istore_n (L2 := [_, _, _, _]) dX10_sharesStrongly_8 rfl (nlt rfl) rfl ?_
  refine r_aload_n dX10_sharesStrongly_9 rfl rfl ?_
  refine gf_X10_64 dX10_sharesStrongly_10 (by omega) hO rfl ?_
  refine r_iload_n dX10_sharesStrongly_13 rfl rfl ?_
  refine r_laload dX10_sharesStrongly_14 (by omega) hE1 (by omega) (by omega) (by decide) ?_
  refine r_aload_n dX10_sharesStrongly_15 rfl rfl ?_
  refine gf_X10_64 dX10_sharesStrongly_16 (by omega) hO rfl ?_
  refine r_iload_n dX10_sharesStrongly_19 rfl rfl ?_
  refine r_laload dX10_sharesStrongly_20 (by omega) hE1 (by omega) (by omega) (by decide) ?_
  refine r_callS (av := [.long (lZ (F (ii).toNat)), .long (lZ (F (ji).toNat))]) dX10_sharesStrongly_21 lkX10_commonPart ml_X10_141 stX10_commonPart ⟨Nat.le_of_ble_eq_true rfl, Nat.le_of_ble_eq_true rfl⟩ rfl rfl (nle rfl) ⟨Nat.le_of_ble_eq_true rfl, Nat.le_of_ble_eq_true rfl⟩ (c_X10_commonPart (a := F (ii).toNat) (b0 := F (ji).toNat) (by omega) (by omega) ?_)
  show G _ _ _ _ _ _ _ 24 _ _ _
  refine r_aload_n dX10_sharesStrongly_24 rfl rfl ?_
  refine gf_X10_64 dX10_sharesStrongly_25 (by omega) hO rfl ?_
  refine r_iload_n dX10_sharesStrongly_28 rfl rfl ?_
  refine r_laload dX10_sharesStrongly_29 (by omega) hE1 (by omega) (by omega) (by decide) ?_
  have f3 := hF (Nat.gcd i j) gle
  have eg2 : (((Int.gcd (ii) (ji) : Nat) : Int)).toNat = Nat.gcd i j := by rw [egc]; rfl
  rw [← eg2] at f3
  have f31 := f3.1
  have f32 := f3.2
  refine r_absL dX10_sharesStrongly_30 ml_X10_232 jst_abs jin_Math jcd_abs ⟨by decide, by decide⟩ (nle rfl) ⟨Nat.zero_le _, Nat.zero_le _⟩ ⟨by omega, by omega⟩ ?_
  have g33 : ((Int.gcd (F ii.toNat) (F ji.toNat) : Nat) : Int) ≤ 100000000000000000 := by
    by_cases z : F ii.toNat = 0
    · rw [z, Int.gcd_zero_left]; omega
    · have := Int.le_of_dvd (a := ((Int.gcd (F ii.toNat) (F ji.toNat) : Nat) : Int)) (b := ((F ii.toNat).natAbs : Int)) (by omega) (by rw [Int.dvd_natAbs]; exact Int.gcd_dvd_left (F ii.toNat) (F ji.toNat))
      omega
  refine r_lcmp_ne 41 dX10_sharesStrongly_33 dX10_sharesStrongly_34 (by decide) ⟨by omega, by omega⟩ ⟨by omega, by omega⟩ (fun c_33 => ?_) (fun c_33 => ?_)
  · refine r_iconst (z := 0) dX10_sharesStrongly_41 ?_
    refine r_zreturn hq dX10_sharesStrongly_42 rfl (by decide) rfl rfl ?_
    exact hQ _ (Or.inr ⟨rfl, fun w => by have w2 := w.1 rfl; simp only [ein, ejn, eg2] at c_33; omega⟩)
  · refine r_iconst (z := 1) dX10_sharesStrongly_37 ?_
    refine r_goto 42 dX10_sharesStrongly_38 (by decide) ?_
    refine r_zreturn hq dX10_sharesStrongly_42 rfl (by decide) rfl rfl ?_
    exact hQ _ (Or.inl ⟨rfl, fun _ => by have e9 := c_33; simp only [ein, ejn, eg2] at e9; omega, fun w => absurd w (by decide)⟩)
theorem DVok.cg {b : Int} {e f : Nat → Int} {i j : Nat} (hi : 1 ≤ i) (hij : i < j) (h : ∀ u, u ≤ j → e u = f u) : DVok b e i j ↔ DVok b f i j := by
  unfold DVok
  rw [h i (by omega), h j (Nat.le_refl j), h (Nat.gcd i j) (Nat.gcd_le_right i (by omega))]
set_option maxHeartbeats 2000000 in
set_option maxRecDepth 20000 in
theorem c_X10_dividing {N : Nat} {h : Hp} {Q : QP} {tb : Nat → Int} {ln : Nat} {K : Nat → Nat} {C S : Nat → Nat → Int} {p : Int} {vs : Nat → Int} {sz : Nat} {i b n : Int} (hI : CI h tb ln K C S p vs sz) (hN : 124 ≤ N) (hi : rI i) (hb : b = 0 ∨ b = 1) (hn : rI n) (hQ : ∀ (r : Int) (h2 : Hp), SPdiv i b n K C S r → CI h2 tb ln K C S p vs sz → OUT h h2 → Q (some (.int (iZ r))) N h2) : Runs mX10_dividing [.ref (0), .int (iZ (i)), .int (iZ (b)), .int (iZ (n))] N h Q := by
  obtain ⟨hO, hT, hR, hNu, hRs, hRd, hLg, hMk, hPt, hEx⟩ := id hI
  obtain ⟨rg, hR6, hRg⟩ := hR.1
  obtain ⟨exf, exg, hE1, hE2⟩ := id hEx
  refine run_start (own := RX10) rfl (by decide) (nle rfl) rfl (fun X hq hini => ?_)
  show G X RX10 cX10_dividing mX10_dividing.rm N 0 0 0 [some (.ref (0)), some (.int (iZ (i))), some (.int (iZ (b))), some (.int (iZ (n))), none, none] [] h
  refine r_iload_n dX10_dividing_0 rfl rfl ?_
  refine r_callS (av := [.int (iZ (i))]) dX10_dividing_1 lkX10_isRegister ml_X10_84 stX10_isRegister ⟨Nat.le_of_ble_eq_true rfl, Nat.le_of_ble_eq_true rfl⟩ rfl rfl (nle rfl) ⟨Nat.le_of_ble_eq_true rfl, Nat.le_of_ble_eq_true rfl⟩ (c_X10_isRegister (x := i) hi (fun b1 hb1 => ?_))
  show G _ _ _ _ _ _ _ 4 _ _ _
  refine r_if_eq 17 dX10_dividing_4 (by decide) (by rcases hb1 with ⟨y, _⟩ | ⟨y, _⟩ <;> exact ⟨by omega, by omega⟩) (fun c_4 => ?_) (fun c_4 => ?_)
  · refine r_iconst (z := -1) dX10_dividing_17 ?_
    refine r_ireturn hq dX10_dividing_18 rfl rfl rfl ?_
    exact hQ _ h (Or.inl ⟨by omega, rfl⟩) hI (fun _ _ => rfl)
  · refine r_iload_n dX10_dividing_7 rfl rfl ?_
    refine r_iconst (z := 2) dX10_dividing_8 ?_
    refine r_bipush (z := 40) dX10_dividing_9 (by decide) ?_
    refine r_callS (av := [.int (iZ (n)), .int (iZ (2)), .int (iZ (40))]) dX10_dividing_11 lkX10_isIn ml_X10_100 stX10_isIn ⟨Nat.le_of_ble_eq_true rfl, Nat.le_of_ble_eq_true rfl⟩ rfl rfl (nle rfl) ⟨Nat.le_of_ble_eq_true rfl, Nat.le_of_ble_eq_true rfl⟩ (c_X10_isIn (x := n) (l := 2) (m := 40) hn ⟨by decide, by decide⟩ ⟨by decide, by decide⟩ (fun b11 hb11 => ?_))
    show G _ _ _ _ _ _ _ 14 _ _ _
    refine r_if_ne 19 dX10_dividing_14 (by decide) (by rcases hb11 with ⟨y, _⟩ | ⟨y, _⟩ <;> exact ⟨by omega, by omega⟩) (fun c_14 => ?_) (fun c_14 => ?_)
    · obtain ⟨k, c, s, ek, ec, es, hr, hrb⟩ := hR.get (i := i.toNat) (by omega)
      obtain ⟨hk1, hk6, hcb, hsb, hc0⟩ := id hrb
      refine r_aload_n dX10_dividing_19 rfl rfl ?_
      refine gf_X10_18 dX10_dividing_20 (by omega) hO rfl ?_
      refine r_iload_n dX10_dividing_23 rfl rfl ?_
      refine r_aaload dX10_dividing_24 (by omega) hR6 (by decide) (by omega) (by omega) (by decide) (hRg _ (by omega)) ?_
      refine r_aload_n dX10_dividing_25 rfl rfl ?_
      refine gf_X10_64 dX10_dividing_26 (by omega) hO rfl ?_
      refine r_iload_n dX10_dividing_29 rfl rfl ?_
      refine r_callV (av := [.ref (104), .int (iZ (n))]) dX10_dividing_30 lkX7_tellNumbers ml_X10_112 imX7_tellNumbers seX7_tellNumbers (by omega) (rfl : vwCl[7]? = _) ⟨_, hr.1⟩ ⟨Nat.le_of_ble_eq_true rfl, Nat.le_of_ble_eq_true rfl⟩ rfl rfl (nle rfl) ⟨Nat.le_of_ble_eq_true rfl, Nat.le_of_ble_eq_true rfl⟩ (c_X7_tellNumbers (r := 106 + 3 * i.toNat) (k := k) (q := 104) (M := 2001) (last := n.toNat) (c := c) (s := s) (f := exf) (by omega) (RowAt.to hr.1 hr.2.1 hr.2.2) (by omega) hE1 (by omega) (by omega) (by omega) (by omega) hk1 hk6 (by decide) (by decide) (by omega) hcb (fun j hj => hsb j (by omega)) (fun t30 F30 hT30 hF30 hG30 => ?_))
      show G _ _ _ _ _ _ _ 33 _ _ _
      rw [show min (n.toNat + 1) 2001 = n.toNat + 1 by omega] at hT30
      refine r_iload_n dX10_dividing_33 rfl rfl ?_
      refine r_icmp_gt 40 dX10_dividing_34 (by decide) (by have := hT30.1; exact ⟨by omega, by omega⟩) ⟨by omega, by omega⟩ (fun c_34 => ?_) (fun c_34 => ?_)
      · refine r_iconst (z := 2) dX10_dividing_40 ?_
        refine r_istore (L2 := [_, _, _, _, _, none]) dX10_dividing_41 (nlt rfl) rfl ?_
        have lp43 : ∀ (fu43 : Nat) (j : Int) (jn : Nat), (43 - j) < (fu43 : Int) → (j = (jn : Int)) → (2 ≤ jn) → (j ≤ n + 1) → (∀ j3 i3 : Nat, 2 ≤ j3 → j3 < jn → 1 ≤ i3 → i3 < j3 → DVok b (ex k c s) i3 j3) → G X RX10 cX10_dividing mX10_dividing.rm N 0 0 43 [some (.ref (0)), some (.int (iZ (i))), some (.int (iZ (b))), some (.int (iZ (n))), some (.int (iZ (j))), none] [] (hs h (104) (aL 2001 (F30))) := by
          intro fu43
          induction fu43 with
          | zero => intro j jn hm ejn j2 jl hj3; exfalso; omega
          | succ fu43 ih43 =>
            intro j jn hms43 ejn j2 jl hj3
            refine r_iload dX10_dividing_43 rfl ?_
            refine r_iload_n dX10_dividing_45 rfl rfl ?_
            refine r_icmp_gt 109 dX10_dividing_46 (by decide) ⟨by omega, by omega⟩ ⟨by omega, by omega⟩ (fun c_46 => ?_) (fun c_46 => ?_)
            · refine r_bipush (z := -4) dX10_dividing_109 (by decide) ?_
              refine r_ireturn hq dX10_dividing_111 rfl rfl rfl ?_
              refine hQ _ _ (Or.inr ⟨by omega, by omega, by omega, by omega, t30, by rw [← ek, ← ec, ← es]; exact hT30, ?_⟩) ⟨hO.cg (fun a9 h8 h9 => ((hs_n (by omega)).trans rfl)), hT.cg (fun a9 h8 h9 => ((hs_n (by omega)).trans rfl)), hR.cg ((hs_n (by omega)).trans rfl) (fun a9 h8 h9 => ((hs_n (by omega)).trans rfl)), hNu.cg (fun a9 h8 h9 => ((hs_n (by omega)).trans rfl)), hRs.cg (fun a9 h8 h9 => ((hs_n (by omega)).trans rfl)), hRd.cg (fun a9 h8 h9 => ((hs_n (by omega)).trans rfl)), hLg.cg (fun a9 h8 h9 => ((hs_n (by omega)).trans rfl)), hMk.cg (fun a9 h8 h9 => ((hs_n (by omega)).trans rfl)), hPt.cg (fun a9 h8 h9 => ((hs_n (by omega)).trans rfl)), ⟨_, _, hs_e, ((hs_n (by omega)).trans hE2)⟩⟩ (fun a9 h9 => ((hs_n (by omega)).trans rfl))
              rw [← ek, ← ec, ← es]
              exact Or.inr ⟨by omega, Or.inr ⟨fun j3 i3 a b c d => hj3 j3 i3 a (by omega) c d, rfl⟩⟩
            · refine r_iconst (z := 1) dX10_dividing_49 ?_
              refine r_istore (L2 := [_, _, _, _, _, _]) dX10_dividing_50 (nlt rfl) rfl ?_
              have lp52 : ∀ (fu52 : Nat) (x : Int) (u : Nat), (43 - x) < (fu52 : Int) → (x = (u : Int)) → (1 ≤ u) → (u ≤ jn) → (∀ i3 : Nat, 1 ≤ i3 → i3 < u → DVok b (ex k c s) i3 jn) → G X RX10 cX10_dividing mX10_dividing.rm N 0 0 52 [some (.ref (0)), some (.int (iZ (i))), some (.int (iZ (b))), some (.int (iZ (n))), some (.int (iZ (j))), some (.int (iZ (x)))] [] (hs h (104) (aL 2001 (F30))) := by
                intro fu52
                induction fu52 with
                | zero => intro x u hm exu u1 ul hi3; exfalso; omega
                | succ fu52 ih52 =>
                  intro x u hms52 exu u1 ul hi3
                  refine r_iload dX10_dividing_52 rfl ?_
                  refine r_iload dX10_dividing_54 rfl ?_
                  refine r_icmp_ge 103 dX10_dividing_56 (by decide) ⟨by omega, by omega⟩ ⟨by omega, by omega⟩ (fun c_56 => ?_) (fun c_56 => ?_)
                  · refine r_iinc (L2 := [_, _, _, _, _, _]) dX10_dividing_103 (nlt rfl) rfl rfl ?_
                    refine r_goto 43 dX10_dividing_106 (by decide) ?_
                    refine r_mask [true, true, true, true, true, false] (L2 := [_, _, _, _, _, none]) rfl ?_
                    exact ih43 (j + 1) ((jn + 1)) (by omega) (by omega) (by omega) (by omega) (fun j3 i3 a b c d => by by_cases z : j3 = jn; (subst z; exact hi3 i3 c (by omega)); exact hj3 j3 i3 a (by omega) c d)
                  · refine r_iload_n dX10_dividing_59 rfl rfl ?_
                    refine r_if_eq 77 dX10_dividing_60 (by decide) ⟨by omega, by omega⟩ (fun c_60 => ?_) (fun c_60 => ?_)
                    · refine r_aload_n dX10_dividing_77 rfl rfl ?_
                      refine r_iload dX10_dividing_78 rfl ?_
                      refine r_iload dX10_dividing_80 rfl ?_
                      refine r_callV (av := [.int (iZ (x)), .int (iZ (j))]) dX10_dividing_82 lkX10_divides ml_X10_209 imX10_divides seX10_divides (by omega) (rfl : vwCl[10]? = _) ⟨_, ((hs_n (by omega)).trans hO)⟩ ⟨Nat.le_of_ble_eq_true rfl, Nat.le_of_ble_eq_true rfl⟩ rfl rfl (nle rfl) ⟨Nat.le_of_ble_eq_true rfl, Nat.le_of_ble_eq_true rfl⟩ (c_X10_divides (i := u) (j := jn) (F := F30) ((hs_n (by omega)).trans hO) hs_e hN (by omega) (by omega) (by omega) (by omega) (by omega) (fun u9 h9 => by rw [hF30 u9 (by omega)]; exact hT30.2.1 u9 (by omega)) (fun b82 hb82 => ?_))
                      show G _ _ _ _ _ _ _ 85 _ _ _
                      refine r_if_ne 97 dX10_dividing_85 (by decide) (by rcases hb82 with ⟨y, _⟩ | ⟨y, _⟩ <;> exact ⟨by omega, by omega⟩) (fun c_85 => ?_) (fun c_85 => ?_)
                      · have hdv : DVok b (ex k c s) u jn := by
                          refine (DVok.cg (e := F30) (by omega) (by omega) (fun u9 h9 => hF30 u9 (by omega))).mp ?_
                          rw [show b = 0 by omega]
                          rcases hb82 with ⟨_, y⟩ | ⟨y, _⟩
                          · exact y
                          · exact absurd y c_85
                        refine r_iinc (L2 := [_, _, _, _, _, _]) dX10_dividing_97 (nlt rfl) rfl rfl ?_
                        refine r_goto 52 dX10_dividing_100 (by decide) ?_
                        exact ih52 (x + 1) ((u + 1)) (by omega) (by omega) (by omega) (by omega) (fun i3 a b => by by_cases z : i3 = u; (rw [z]; exact hdv); exact hi3 i3 a (by omega))
                      · refine r_bipush (z := 100) dX10_dividing_88 (by decide) ?_
                        refine r_iload dX10_dividing_90 rfl ?_
                        refine r_imul dX10_dividing_92 ?_
                        refine r_iload dX10_dividing_93 rfl ?_
                        refine r_iadd dX10_dividing_95 ?_
                        refine r_ireturn hq dX10_dividing_96 rfl rfl rfl ?_
                        refine hQ _ _ (Or.inr ⟨by omega, by omega, by omega, by omega, t30, by rw [← ek, ← ec, ← es]; exact hT30, ?_⟩) ⟨hO.cg (fun a9 h8 h9 => ((hs_n (by omega)).trans rfl)), hT.cg (fun a9 h8 h9 => ((hs_n (by omega)).trans rfl)), hR.cg ((hs_n (by omega)).trans rfl) (fun a9 h8 h9 => ((hs_n (by omega)).trans rfl)), hNu.cg (fun a9 h8 h9 => ((hs_n (by omega)).trans rfl)), hRs.cg (fun a9 h8 h9 => ((hs_n (by omega)).trans rfl)), hRd.cg (fun a9 h8 h9 => ((hs_n (by omega)).trans rfl)), hLg.cg (fun a9 h8 h9 => ((hs_n (by omega)).trans rfl)), hMk.cg (fun a9 h8 h9 => ((hs_n (by omega)).trans rfl)), hPt.cg (fun a9 h8 h9 => ((hs_n (by omega)).trans rfl)), ⟨_, _, hs_e, ((hs_n (by omega)).trans hE2)⟩⟩ (fun a9 h9 => ((hs_n (by omega)).trans rfl))
                        rw [← ek, ← ec, ← es]
                        exact Or.inr ⟨by omega, Or.inl ⟨jn, u, by omega, by omega, by omega, by omega, fun w9 => by
                          have w8 := (DVok.cg (e := F30) (by omega) (by omega) (fun u9 h9 => hF30 u9 (by omega))).mpr w9
                          rw [show b = 0 by omega] at w8
                          rcases hb82 with ⟨y, _⟩ | ⟨_, y⟩
                          · omega
                          · exact y w8, fun j3 i3 a b c d => by
                          rcases d with d | ⟨d1, d2⟩
                          · exact hj3 j3 i3 a d b c
                          · rw [d1]; exact hi3 i3 b d2, by omega⟩⟩
                    · refine r_aload_n dX10_dividing_63 rfl rfl ?_
                      refine r_iload dX10_dividing_64 rfl ?_
                      refine r_iload dX10_dividing_66 rfl ?_
                      refine r_callV (av := [.int (iZ (x)), .int (iZ (j))]) dX10_dividing_68 lkX10_sharesStrongly ml_X10_206 imX10_sharesStrongly seX10_sharesStrongly (by omega) (rfl : vwCl[10]? = _) ⟨_, ((hs_n (by omega)).trans hO)⟩ ⟨Nat.le_of_ble_eq_true rfl, Nat.le_of_ble_eq_true rfl⟩ rfl rfl (nle rfl) ⟨Nat.le_of_ble_eq_true rfl, Nat.le_of_ble_eq_true rfl⟩ (c_X10_sharesStrongly (i := u) (j := jn) (F := F30) ((hs_n (by omega)).trans hO) hs_e hN (by omega) (by omega) (by omega) (by omega) (by omega) (fun u9 h9 => by rw [hF30 u9 (by omega)]; exact hT30.2.1 u9 (by omega)) (fun b68 hb68 => ?_))
                      show G _ _ _ _ _ _ _ 71 _ _ _
                      refine r_if_ne 97 dX10_dividing_71 (by decide) (by rcases hb68 with ⟨y, _⟩ | ⟨y, _⟩ <;> exact ⟨by omega, by omega⟩) (fun c_71 => ?_) (fun c_71 => ?_)
                      · have hdv : DVok b (ex k c s) u jn := by
                          refine (DVok.cg (e := F30) (by omega) (by omega) (fun u9 h9 => hF30 u9 (by omega))).mp ?_
                          rw [show b = 1 by omega]
                          rcases hb68 with ⟨_, y⟩ | ⟨y, _⟩
                          · exact y
                          · exact absurd y c_71
                        refine r_iinc (L2 := [_, _, _, _, _, _]) dX10_dividing_97 (nlt rfl) rfl rfl ?_
                        refine r_goto 52 dX10_dividing_100 (by decide) ?_
                        exact ih52 (x + 1) ((u + 1)) (by omega) (by omega) (by omega) (by omega) (fun i3 a b => by by_cases z : i3 = u; (rw [z]; exact hdv); exact hi3 i3 a (by omega))
                      · refine r_goto 88 dX10_dividing_74 (by decide) ?_
                        refine r_bipush (z := 100) dX10_dividing_88 (by decide) ?_
                        refine r_iload dX10_dividing_90 rfl ?_
                        refine r_imul dX10_dividing_92 ?_
                        refine r_iload dX10_dividing_93 rfl ?_
                        refine r_iadd dX10_dividing_95 ?_
                        refine r_ireturn hq dX10_dividing_96 rfl rfl rfl ?_
                        refine hQ _ _ (Or.inr ⟨by omega, by omega, by omega, by omega, t30, by rw [← ek, ← ec, ← es]; exact hT30, ?_⟩) ⟨hO.cg (fun a9 h8 h9 => ((hs_n (by omega)).trans rfl)), hT.cg (fun a9 h8 h9 => ((hs_n (by omega)).trans rfl)), hR.cg ((hs_n (by omega)).trans rfl) (fun a9 h8 h9 => ((hs_n (by omega)).trans rfl)), hNu.cg (fun a9 h8 h9 => ((hs_n (by omega)).trans rfl)), hRs.cg (fun a9 h8 h9 => ((hs_n (by omega)).trans rfl)), hRd.cg (fun a9 h8 h9 => ((hs_n (by omega)).trans rfl)), hLg.cg (fun a9 h8 h9 => ((hs_n (by omega)).trans rfl)), hMk.cg (fun a9 h8 h9 => ((hs_n (by omega)).trans rfl)), hPt.cg (fun a9 h8 h9 => ((hs_n (by omega)).trans rfl)), ⟨_, _, hs_e, ((hs_n (by omega)).trans hE2)⟩⟩ (fun a9 h9 => ((hs_n (by omega)).trans rfl))
                        rw [← ek, ← ec, ← es]
                        exact Or.inr ⟨by omega, Or.inl ⟨jn, u, by omega, by omega, by omega, by omega, fun w9 => by
                          have w8 := (DVok.cg (e := F30) (by omega) (by omega) (fun u9 h9 => hF30 u9 (by omega))).mpr w9
                          rw [show b = 1 by omega] at w8
                          rcases hb68 with ⟨y, _⟩ | ⟨_, y⟩
                          · omega
                          · exact y w8, fun j3 i3 a b c d => by
                          rcases d with d | ⟨d1, d2⟩
                          · exact hj3 j3 i3 a d b c
                          · rw [d1]; exact hi3 i3 b d2, by omega⟩⟩
              exact lp52 ((43 : Int) + 1).toNat (1) (1) (by omega) rfl (by decide) (by omega) (fun i3 a b => by omega)
        exact lp43 ((43 : Int) + 1).toNat (2) (2) (by omega) rfl (by decide) (by omega) (fun j3 i3 a b => by omega)
      · refine r_bipush (z := -5) dX10_dividing_37 (by decide) ?_
        refine r_ireturn hq dX10_dividing_39 rfl rfl rfl ?_
        refine hQ _ _ (Or.inr ⟨by omega, by omega, by omega, by omega, t30, by rw [← ek, ← ec, ← es]; exact hT30, ?_⟩) ⟨hO.cg (fun a9 h8 h9 => ((hs_n (by omega)).trans rfl)), hT.cg (fun a9 h8 h9 => ((hs_n (by omega)).trans rfl)), hR.cg ((hs_n (by omega)).trans rfl) (fun a9 h8 h9 => ((hs_n (by omega)).trans rfl)), hNu.cg (fun a9 h8 h9 => ((hs_n (by omega)).trans rfl)), hRs.cg (fun a9 h8 h9 => ((hs_n (by omega)).trans rfl)), hRd.cg (fun a9 h8 h9 => ((hs_n (by omega)).trans rfl)), hLg.cg (fun a9 h8 h9 => ((hs_n (by omega)).trans rfl)), hMk.cg (fun a9 h8 h9 => ((hs_n (by omega)).trans rfl)), hPt.cg (fun a9 h8 h9 => ((hs_n (by omega)).trans rfl)), ⟨_, _, hs_e, ((hs_n (by omega)).trans hE2)⟩⟩ (fun a9 h9 => ((hs_n (by omega)).trans rfl))
        rw [← ek, ← ec, ← es]
        exact Or.inl ⟨by omega, rfl⟩
    · refine r_iconst (z := -1) dX10_dividing_17 ?_
      refine r_ireturn hq dX10_dividing_18 rfl rfl rfl ?_
      exact hQ _ h (Or.inl ⟨by omega, rfl⟩) hI (fun _ _ => rfl)
noncomputable def LP0 {pn : Nat} (hpn : PrmN pn) (k : Nat) (c : Nat → Int) : List (PZ (pn : Int)) := Classical.epsilon (fun L => grB hpn 1 L ∧ lfP hpn (pzT (hp0 hpn) (plaw (pn : Int) k c)) L)
theorem LP0_spec {pn : Nat} (hpn : PrmN pn) {k : Nat} {c : Nat → Int} (hk : k ≤ 6) (hc0 : c 0 = -1) : grB hpn 1 (LP0 hpn k c) ∧ lfP hpn (pzT (hp0 hpn) (plaw (pn : Int) k c)) (LP0 hpn k c) := by
  refine Classical.epsilon_spec (p := fun L => grB hpn 1 L ∧ lfP hpn (pzT (hp0 hpn) (plaw (pn : Int) k c)) L) ?_
  have E := pz_eu hpn
  have h1 : pzS (pzT (hp0 hpn) (plaw (pn : Int) k c)) = ((k : Int) + 1).toNat := pzT_sz (plaw_ok (by have := hpn.1; omega) hk hc0)
  obtain ⟨L, h2, h3⟩ := @euR.fac _ (pzRing (hp0 hpn)) _ E _ (pz_mn hpn) _ (pzT (hp0 hpn) (plaw (pn : Int) k c)) (Nat.le_refl _) (fun e => by
    have := (@euR.n0)
    have h4 := (pzS_zero (hp0 hpn) _).mpr e
    omega)
  refine ⟨L, fun f hf => ⟨(h2 f hf).1, (h2 f hf).2, ?_⟩, h3⟩
  have h5 := (h2 f hf).1
  have h6 : pzS f ≠ 0 := fun e => h5.1 ((pzS_zero (hp0 hpn) f).mp e)
  have h7 : pzS f ≠ 1 := fun e => h5.2.1 (@euR.un2 _ (pzRing (hp0 hpn)) _ E _ e)
  omega
def SPparted (i p w : Int) (K : Nat → Nat) (C : Nat → Nat → Int) (r : Int) : Prop := (¬ (0 ≤ i ∧ i ≤ 5 ∧ Prm p ∧ 0 ≤ w ∧ w ≤ 2) ∧ r = -1) ∨ (0 ≤ i ∧ i ≤ 5 ∧ Prm p ∧ 0 ≤ w ∧ w ≤ 2 ∧ ((C i.toNat (K i.toNat) % p = 0 ∧ r = -2) ∨ (C i.toNat (K i.toNat) % p ≠ 0 ∧ ∃ (pn : Nat) (hpn : PrmN pn), p = (pn : Int) ∧ ∃ a g u : Nat, resL pzS (LP0 hpn (K i.toNat) (C i.toNat)) a g u ∧ r = if w = 0 then (a : Int) else if w = 1 then (g : Int) else (u : Int))))
set_option maxHeartbeats 2000000 in
set_option maxRecDepth 20000 in
theorem c_X10_parted {N : Nat} {h : Hp} {Q : QP} {tb : Nat → Int} {ln : Nat} {K : Nat → Nat} {C S : Nat → Nat → Int} {p pp : Int} {vs : Nat → Int} {sz : Nat} {i w : Int} (hI : CI h tb ln K C S p vs sz) (hN : 124 ≤ N) (hi : rI i) (hp : rI pp) (hw : rI w) (hQ : ∀ (r : Int) (h2 : Hp), SPparted i pp w K C r → CI h2 tb ln K C S p vs sz → OUT h h2 → Q (some (.int (iZ r))) N h2) : Runs mX10_parted [.ref (0), .int (iZ (i)), .int (iZ (pp)), .int (iZ (w))] N h Q := by
  obtain ⟨hO, hT, hR, hNu, hRs, hRd, hLg, hMk, hPt, hEx⟩ := id hI
  obtain ⟨rg, hR6, hRg⟩ := hR.1
  obtain ⟨pp0, pal, pgr, pun, hP0, hP1, hP2, hP3, hP4, hP5, hP6, hP7, hP8⟩ := id hPt
  obtain ⟨dL, fL, hxL, gxL, zL⟩ := hP1
  obtain ⟨dW, fW, hxW, gxW, zW⟩ := hP2
  obtain ⟨dB, fB, hxB, gxB, zB⟩ := hP3
  obtain ⟨dP, fP, hxP, gxP, zP⟩ := hP4
  obtain ⟨dQ, fQ, hxQ, gxQ, zQ⟩ := hP5
  obtain ⟨dZ, fZ, hxZ, gxZ, zZ⟩ := hP6
  obtain ⟨dS, fS, hxS, gxS, zS⟩ := hP7
  obtain ⟨dO, fO, hxO, gxO, zO⟩ := hP8
  refine run_start (own := RX10) rfl (by decide) (nle rfl) rfl (fun X hq hini => ?_)
  show G X RX10 cX10_parted mX10_parted.rm N 0 0 0 [some (.ref (0)), some (.int (iZ (i))), some (.int (iZ (pp))), some (.int (iZ (w))), none] [] h
  refine r_iload_n dX10_parted_0 rfl rfl ?_
  refine r_callS (av := [.int (iZ (i))]) dX10_parted_1 lkX10_isRegister ml_X10_84 stX10_isRegister ⟨Nat.le_of_ble_eq_true rfl, Nat.le_of_ble_eq_true rfl⟩ rfl rfl (nle rfl) ⟨Nat.le_of_ble_eq_true rfl, Nat.le_of_ble_eq_true rfl⟩ (c_X10_isRegister (x := i) hi (fun b1 hb1 => ?_))
  show G _ _ _ _ _ _ _ 4 _ _ _
  refine r_if_eq 23 dX10_parted_4 (by decide) (by rcases hb1 with ⟨y, _⟩ | ⟨y, _⟩ <;> exact ⟨by omega, by omega⟩) (fun c_4 => ?_) (fun c_4 => ?_)
  · refine r_iconst (z := -1) dX10_parted_23 ?_
    refine r_ireturn hq dX10_parted_24 rfl rfl rfl ?_
    exact hQ _ h (Or.inl ⟨by intro y; first | omega | (rcases hb8 with ⟨z, _⟩ | ⟨_, z⟩ <;> first | omega | exact z y.2.2.1), rfl⟩) hI (fun _ _ => rfl)
  · refine r_iload_n dX10_parted_7 rfl rfl ?_
    refine r_callS (av := [.int (iZ (pp))]) dX10_parted_8 lkX10_isPrime ml_X10_148 stX10_isPrime ⟨Nat.le_of_ble_eq_true rfl, Nat.le_of_ble_eq_true rfl⟩ rfl rfl (nle rfl) ⟨Nat.le_of_ble_eq_true rfl, Nat.le_of_ble_eq_true rfl⟩ (c_X10_isPrime (p := pp) hp (fun b8 hb8 => ?_))
    show G _ _ _ _ _ _ _ 11 _ _ _
    refine r_if_eq 23 dX10_parted_11 (by decide) (by rcases hb8 with ⟨y, _⟩ | ⟨y, _⟩ <;> exact ⟨by omega, by omega⟩) (fun c_11 => ?_) (fun c_11 => ?_)
    · refine r_iconst (z := -1) dX10_parted_23 ?_
      refine r_ireturn hq dX10_parted_24 rfl rfl rfl ?_
      exact hQ _ h (Or.inl ⟨by intro y; first | omega | (rcases hb8 with ⟨z, _⟩ | ⟨_, z⟩ <;> first | omega | exact z y.2.2.1), rfl⟩) hI (fun _ _ => rfl)
    · refine r_iload_n dX10_parted_14 rfl rfl ?_
      refine r_iconst (z := 0) dX10_parted_15 ?_
      refine r_iconst (z := 2) dX10_parted_16 ?_
      refine r_callS (av := [.int (iZ (w)), .int (iZ (0)), .int (iZ (2))]) dX10_parted_17 lkX10_isIn ml_X10_100 stX10_isIn ⟨Nat.le_of_ble_eq_true rfl, Nat.le_of_ble_eq_true rfl⟩ rfl rfl (nle rfl) ⟨Nat.le_of_ble_eq_true rfl, Nat.le_of_ble_eq_true rfl⟩ (c_X10_isIn (x := w) (l := 0) (m := 2) hw ⟨by decide, by decide⟩ ⟨by decide, by decide⟩ (fun b17 hb17 => ?_))
      show G _ _ _ _ _ _ _ 20 _ _ _
      refine r_if_ne 25 dX10_parted_20 (by decide) (by rcases hb17 with ⟨y, _⟩ | ⟨y, _⟩ <;> exact ⟨by omega, by omega⟩) (fun c_20 => ?_) (fun c_20 => ?_)
      · obtain ⟨k, c, s, ek, ec, es, hr, hrb⟩ := hR.get (i := i.toNat) (by omega)
        obtain ⟨hk1, hk6, hcb, hsb, hc0⟩ := id hrb
        obtain ⟨pn, epn, hpn⟩ : ∃ pn : Nat, pp = (pn : Int) ∧ PrmN pn := by
          rcases hb8 with ⟨_, y⟩ | ⟨y, _⟩
          · exact prm_n y
          · exact absurd y c_11
        have hpr : Prm (pn : Int) := by
          rcases hb8 with ⟨_, y⟩ | ⟨y, _⟩
          · rw [← epn]; exact y
          · exact absurd y c_11
        subst epn
        have pp2 := hpr.1
        have pp97 := hpr.2.1
        have ekk : ((k : Nat) : Int).toNat = k := rfl
        have cbk := hcb ((k : Nat) : Int).toNat (by omega)
        refine r_aload_n dX10_parted_25 rfl rfl ?_
        refine gf_X10_18 dX10_parted_26 (by omega) hO rfl ?_
        refine r_iload_n dX10_parted_29 rfl rfl ?_
        refine r_aaload dX10_parted_30 (by omega) hR6 (by decide) (by omega) (by omega) (by decide) (hRg _ (by omega)) ?_
        refine r_astore (L2 := [_, _, _, _, _]) dX10_parted_31 (nlt rfl) rfl ?_
        refine r_aload dX10_parted_33 rfl ?_
        refine gf_X10_104 dX10_parted_35 (by omega) hr.1 rfl ?_
        refine r_aload dX10_parted_38 rfl ?_
        refine gf_X10_96 dX10_parted_40 (by omega) hr.1 rfl ?_
        refine r_laload dX10_parted_43 (by omega) hr.2.1 (by omega) (by omega) (by decide) ?_
        refine r_iload_n dX10_parted_44 rfl rfl ?_
        refine r_i2l dX10_parted_45 ⟨by omega, by omega⟩ ?_
        refine r_lrem dX10_parted_46 ⟨by omega, by omega⟩ ⟨by omega, by omega⟩ (by omega) (by omega) ?_
        have tz := tmod_zero (a := (pn : Int)) (b := c ((k : Nat) : Int).toNat)
        have tb9 : -100000 ≤ (c ((k : Nat) : Int).toNat).tmod (pn : Int) ∧ (c ((k : Nat) : Int).toNat).tmod (pn : Int) ≤ 100000 := by
          have h1 := Int.natAbs_tmod (c ((k : Nat) : Int).toNat) (pn : Int)
          have h2 := Nat.mod_le (c ((k : Nat) : Int).toNat).natAbs (pn : Int).natAbs
          omega
        refine r_lconst (z := 0) dX10_parted_47 (by decide) ?_
        refine r_lcmp_ne 55 dX10_parted_48 dX10_parted_49 (by decide) ⟨by omega, by omega⟩ ⟨by decide, by decide⟩ (fun c_48 => ?_) (fun c_48 => ?_)
        · have hnz : c k % (pn : Int) ≠ 0 := fun w9 => c_48 (tz.mpr w9)
          refine r_aload_n dX10_parted_55 rfl rfl ?_
          refine gf_X10_60 dX10_parted_56 (by omega) hO rfl ?_
          refine r_aload dX10_parted_59 rfl ?_
          refine r_iload_n dX10_parted_61 rfl rfl ?_
          refine r_callV (av := [.ref (106 + 3 * i.toNat), .int (iZ ((pn : Int)))]) dX10_parted_62 lkX3_part ml_X10_212 imX3_part seX3_part (by omega) (rfl : vwCl[3]? = _) ⟨_, hP0⟩ ⟨Nat.le_of_ble_eq_true rfl, Nat.le_of_ble_eq_true rfl⟩ rfl rfl (nle rfl) ⟨Nat.le_of_ble_eq_true rfl, Nat.le_of_ble_eq_true rfl⟩ (c_X3_part (q := 87) (pn := pn) (r := 106 + 3 * i.toNat) (k := k) (c := c) (s := s) (L := LP0 hpn k c) hpn hpr hP0 (by omega) hxL gxL hxW gxW hxB gxB hxP gxP hxQ gxQ hxZ gxZ hxS gxS hxO gxO zL zW zB zP zQ zZ zS zO (RowAt.to hr.1 hr.2.1 hr.2.2) (by omega) (by omega) hk1 hk6 hcb hc0 (LP0_spec hpn hk6 hc0).1 (LP0_spec hpn hk6 hc0).2 (fun a2 g2 u2 l2 w2 b2 q2 p2 z2 s2 o2 ddl ddw ddb ddq ddp ddz dds ddo hres zl2 zw2 zb2 zq2 zp2 zz2 zs2 zo2 => ?_))
          show G _ _ _ _ _ _ _ 65 _ _ _
          refine r_iload_n dX10_parted_65 rfl rfl ?_
          refine r_if_ne 77 dX10_parted_66 (by decide) hw (fun c_66 => ?_) (fun c_66 => ?_)
          · refine r_iload_n dX10_parted_77 rfl rfl ?_
            refine r_iconst (z := 1) dX10_parted_78 ?_
            refine r_icmp_ne 92 dX10_parted_79 (by decide) hw ⟨by decide, by decide⟩ (fun c_79 => ?_) (fun c_79 => ?_)
            · refine r_aload_n dX10_parted_92 rfl rfl ?_
              refine gf_X10_60 dX10_parted_93 (by omega) ((hs_n (by omega)).trans ((hs_n (by omega)).trans ((hs_n (by omega)).trans ((hs_n (by omega)).trans ((hs_n (by omega)).trans ((hs_n (by omega)).trans ((hs_n (by omega)).trans ((hs_n (by omega)).trans ((hs_n (by omega)).trans ((hs_n (by omega)).trans ((hs_n (by omega)).trans ((hs_n (by omega)).trans ((hs_n (by omega)).trans ((hs_n (by omega)).trans ((hs_n (by omega)).trans ((hs_n (by omega)).trans ((hs_n (by omega)).trans hO))))))))))))))))) rfl ?_
              refine gf_X10_222 dX10_parted_96 (by omega) ((hs_n (by omega)).trans ((hs_n (by omega)).trans ((hs_n (by omega)).trans ((hs_n (by omega)).trans ((hs_n (by omega)).trans ((hs_n (by omega)).trans ((hs_n (by omega)).trans ((hs_n (by omega)).trans ((hs_n (by omega)).trans ((hs_n (by omega)).trans ((hs_n (by omega)).trans ((hs_n (by omega)).trans ((hs_n (by omega)).trans ((hs_n (by omega)).trans ((hs_n (by omega)).trans ((hs_n (by omega)).trans hs_e)))))))))))))))) rfl ?_
              refine r_ireturn hq dX10_parted_99 rfl rfl rfl ?_
              refine hQ _ _ (Or.inr ⟨by omega, by omega, hpr, by omega, by omega, Or.inr ⟨by rw [← ek, ← ec]; exact hnz, pn, hpn, rfl, a2, g2, u2, by rw [← ek, ← ec]; exact hres, by rw [if_neg (by omega), if_neg (by omega)]⟩⟩) ⟨hO.cg (fun a9 h8 h9 => ((hs_n (by omega)).trans ((hs_n (by omega)).trans ((hs_n (by omega)).trans ((hs_n (by omega)).trans ((hs_n (by omega)).trans ((hs_n (by omega)).trans ((hs_n (by omega)).trans ((hs_n (by omega)).trans ((hs_n (by omega)).trans ((hs_n (by omega)).trans ((hs_n (by omega)).trans ((hs_n (by omega)).trans ((hs_n (by omega)).trans ((hs_n (by omega)).trans ((hs_n (by omega)).trans ((hs_n (by omega)).trans ((hs_n (by omega)).trans rfl)))))))))))))))))), hT.cg (fun a9 h8 h9 => ((hs_n (by omega)).trans ((hs_n (by omega)).trans ((hs_n (by omega)).trans ((hs_n (by omega)).trans ((hs_n (by omega)).trans ((hs_n (by omega)).trans ((hs_n (by omega)).trans ((hs_n (by omega)).trans ((hs_n (by omega)).trans ((hs_n (by omega)).trans ((hs_n (by omega)).trans ((hs_n (by omega)).trans ((hs_n (by omega)).trans ((hs_n (by omega)).trans ((hs_n (by omega)).trans ((hs_n (by omega)).trans ((hs_n (by omega)).trans rfl)))))))))))))))))), hR.cg ((hs_n (by omega)).trans ((hs_n (by omega)).trans ((hs_n (by omega)).trans ((hs_n (by omega)).trans ((hs_n (by omega)).trans ((hs_n (by omega)).trans ((hs_n (by omega)).trans ((hs_n (by omega)).trans ((hs_n (by omega)).trans ((hs_n (by omega)).trans ((hs_n (by omega)).trans ((hs_n (by omega)).trans ((hs_n (by omega)).trans ((hs_n (by omega)).trans ((hs_n (by omega)).trans ((hs_n (by omega)).trans ((hs_n (by omega)).trans rfl))))))))))))))))) (fun a9 h8 h9 => ((hs_n (by omega)).trans ((hs_n (by omega)).trans ((hs_n (by omega)).trans ((hs_n (by omega)).trans ((hs_n (by omega)).trans ((hs_n (by omega)).trans ((hs_n (by omega)).trans ((hs_n (by omega)).trans ((hs_n (by omega)).trans ((hs_n (by omega)).trans ((hs_n (by omega)).trans ((hs_n (by omega)).trans ((hs_n (by omega)).trans ((hs_n (by omega)).trans ((hs_n (by omega)).trans ((hs_n (by omega)).trans ((hs_n (by omega)).trans rfl)))))))))))))))))), hNu.cg (fun a9 h8 h9 => ((hs_n (by omega)).trans ((hs_n (by omega)).trans ((hs_n (by omega)).trans ((hs_n (by omega)).trans ((hs_n (by omega)).trans ((hs_n (by omega)).trans ((hs_n (by omega)).trans ((hs_n (by omega)).trans ((hs_n (by omega)).trans ((hs_n (by omega)).trans ((hs_n (by omega)).trans ((hs_n (by omega)).trans ((hs_n (by omega)).trans ((hs_n (by omega)).trans ((hs_n (by omega)).trans ((hs_n (by omega)).trans ((hs_n (by omega)).trans rfl)))))))))))))))))), hRs.cg (fun a9 h8 h9 => ((hs_n (by omega)).trans ((hs_n (by omega)).trans ((hs_n (by omega)).trans ((hs_n (by omega)).trans ((hs_n (by omega)).trans ((hs_n (by omega)).trans ((hs_n (by omega)).trans ((hs_n (by omega)).trans ((hs_n (by omega)).trans ((hs_n (by omega)).trans ((hs_n (by omega)).trans ((hs_n (by omega)).trans ((hs_n (by omega)).trans ((hs_n (by omega)).trans ((hs_n (by omega)).trans ((hs_n (by omega)).trans ((hs_n (by omega)).trans rfl)))))))))))))))))), hRd.cg (fun a9 h8 h9 => ((hs_n (by omega)).trans ((hs_n (by omega)).trans ((hs_n (by omega)).trans ((hs_n (by omega)).trans ((hs_n (by omega)).trans ((hs_n (by omega)).trans ((hs_n (by omega)).trans ((hs_n (by omega)).trans ((hs_n (by omega)).trans ((hs_n (by omega)).trans ((hs_n (by omega)).trans ((hs_n (by omega)).trans ((hs_n (by omega)).trans ((hs_n (by omega)).trans ((hs_n (by omega)).trans ((hs_n (by omega)).trans ((hs_n (by omega)).trans rfl)))))))))))))))))), hLg.cg (fun a9 h8 h9 => ((hs_n (by omega)).trans ((hs_n (by omega)).trans ((hs_n (by omega)).trans ((hs_n (by omega)).trans ((hs_n (by omega)).trans ((hs_n (by omega)).trans ((hs_n (by omega)).trans ((hs_n (by omega)).trans ((hs_n (by omega)).trans ((hs_n (by omega)).trans ((hs_n (by omega)).trans ((hs_n (by omega)).trans ((hs_n (by omega)).trans ((hs_n (by omega)).trans ((hs_n (by omega)).trans ((hs_n (by omega)).trans ((hs_n (by omega)).trans rfl)))))))))))))))))), hMk.cg (fun a9 h8 h9 => ((hs_n (by omega)).trans ((hs_n (by omega)).trans ((hs_n (by omega)).trans ((hs_n (by omega)).trans ((hs_n (by omega)).trans ((hs_n (by omega)).trans ((hs_n (by omega)).trans ((hs_n (by omega)).trans ((hs_n (by omega)).trans ((hs_n (by omega)).trans ((hs_n (by omega)).trans ((hs_n (by omega)).trans ((hs_n (by omega)).trans ((hs_n (by omega)).trans ((hs_n (by omega)).trans ((hs_n (by omega)).trans ((hs_n (by omega)).trans rfl)))))))))))))))))), ⟨_, _, _, _, ((hs_n (by omega)).trans ((hs_n (by omega)).trans ((hs_n (by omega)).trans ((hs_n (by omega)).trans ((hs_n (by omega)).trans ((hs_n (by omega)).trans ((hs_n (by omega)).trans ((hs_n (by omega)).trans ((hs_n (by omega)).trans ((hs_n (by omega)).trans ((hs_n (by omega)).trans ((hs_n (by omega)).trans ((hs_n (by omega)).trans ((hs_n (by omega)).trans ((hs_n (by omega)).trans ((hs_n (by omega)).trans hs_e)))))))))))))))), ⟨_, _, ((hs_n (by omega)).trans ((hs_n (by omega)).trans ((hs_n (by omega)).trans ((hs_n (by omega)).trans ((hs_n (by omega)).trans ((hs_n (by omega)).trans ((hs_n (by omega)).trans ((hs_n (by omega)).trans ((hs_n (by omega)).trans ((hs_n (by omega)).trans ((hs_n (by omega)).trans ((hs_n (by omega)).trans ((hs_n (by omega)).trans ((hs_n (by omega)).trans hs_e)))))))))))))), ((hs_n (by omega)).trans ((hs_n (by omega)).trans ((hs_n (by omega)).trans ((hs_n (by omega)).trans ((hs_n (by omega)).trans ((hs_n (by omega)).trans ((hs_n (by omega)).trans ((hs_n (by omega)).trans ((hs_n (by omega)).trans ((hs_n (by omega)).trans ((hs_n (by omega)).trans ((hs_n (by omega)).trans ((hs_n (by omega)).trans ((hs_n (by omega)).trans ((hs_n (by omega)).trans hs_e))))))))))))))), zl2⟩, ⟨_, _, ((hs_n (by omega)).trans ((hs_n (by omega)).trans ((hs_n (by omega)).trans ((hs_n (by omega)).trans ((hs_n (by omega)).trans ((hs_n (by omega)).trans ((hs_n (by omega)).trans ((hs_n (by omega)).trans ((hs_n (by omega)).trans ((hs_n (by omega)).trans ((hs_n (by omega)).trans ((hs_n (by omega)).trans hs_e)))))))))))), ((hs_n (by omega)).trans ((hs_n (by omega)).trans ((hs_n (by omega)).trans ((hs_n (by omega)).trans ((hs_n (by omega)).trans ((hs_n (by omega)).trans ((hs_n (by omega)).trans ((hs_n (by omega)).trans ((hs_n (by omega)).trans ((hs_n (by omega)).trans ((hs_n (by omega)).trans ((hs_n (by omega)).trans ((hs_n (by omega)).trans hs_e))))))))))))), zw2⟩, ⟨_, _, ((hs_n (by omega)).trans ((hs_n (by omega)).trans ((hs_n (by omega)).trans ((hs_n (by omega)).trans ((hs_n (by omega)).trans ((hs_n (by omega)).trans ((hs_n (by omega)).trans ((hs_n (by omega)).trans ((hs_n (by omega)).trans ((hs_n (by omega)).trans hs_e)))))))))), ((hs_n (by omega)).trans ((hs_n (by omega)).trans ((hs_n (by omega)).trans ((hs_n (by omega)).trans ((hs_n (by omega)).trans ((hs_n (by omega)).trans ((hs_n (by omega)).trans ((hs_n (by omega)).trans ((hs_n (by omega)).trans ((hs_n (by omega)).trans ((hs_n (by omega)).trans hs_e))))))))))), zb2⟩, ⟨_, _, ((hs_n (by omega)).trans ((hs_n (by omega)).trans ((hs_n (by omega)).trans ((hs_n (by omega)).trans ((hs_n (by omega)).trans ((hs_n (by omega)).trans hs_e)))))), ((hs_n (by omega)).trans ((hs_n (by omega)).trans ((hs_n (by omega)).trans ((hs_n (by omega)).trans ((hs_n (by omega)).trans ((hs_n (by omega)).trans ((hs_n (by omega)).trans hs_e))))))), zp2⟩, ⟨_, _, ((hs_n (by omega)).trans ((hs_n (by omega)).trans ((hs_n (by omega)).trans ((hs_n (by omega)).trans ((hs_n (by omega)).trans ((hs_n (by omega)).trans ((hs_n (by omega)).trans ((hs_n (by omega)).trans hs_e)))))))), ((hs_n (by omega)).trans ((hs_n (by omega)).trans ((hs_n (by omega)).trans ((hs_n (by omega)).trans ((hs_n (by omega)).trans ((hs_n (by omega)).trans ((hs_n (by omega)).trans ((hs_n (by omega)).trans ((hs_n (by omega)).trans hs_e))))))))), zq2⟩, ⟨_, _, ((hs_n (by omega)).trans ((hs_n (by omega)).trans ((hs_n (by omega)).trans ((hs_n (by omega)).trans hs_e)))), ((hs_n (by omega)).trans ((hs_n (by omega)).trans ((hs_n (by omega)).trans ((hs_n (by omega)).trans ((hs_n (by omega)).trans hs_e))))), zz2⟩, ⟨_, _, ((hs_n (by omega)).trans ((hs_n (by omega)).trans hs_e)), ((hs_n (by omega)).trans ((hs_n (by omega)).trans ((hs_n (by omega)).trans hs_e))), zs2⟩, ⟨_, _, hs_e, ((hs_n (by omega)).trans hs_e), zo2⟩⟩, hEx.cg (fun a9 h8 h9 => ((hs_n (by omega)).trans ((hs_n (by omega)).trans ((hs_n (by omega)).trans ((hs_n (by omega)).trans ((hs_n (by omega)).trans ((hs_n (by omega)).trans ((hs_n (by omega)).trans ((hs_n (by omega)).trans ((hs_n (by omega)).trans ((hs_n (by omega)).trans ((hs_n (by omega)).trans ((hs_n (by omega)).trans ((hs_n (by omega)).trans ((hs_n (by omega)).trans ((hs_n (by omega)).trans ((hs_n (by omega)).trans ((hs_n (by omega)).trans rfl))))))))))))))))))⟩ (fun a9 h9 => ((hs_n (by omega)).trans ((hs_n (by omega)).trans ((hs_n (by omega)).trans ((hs_n (by omega)).trans ((hs_n (by omega)).trans ((hs_n (by omega)).trans ((hs_n (by omega)).trans ((hs_n (by omega)).trans ((hs_n (by omega)).trans ((hs_n (by omega)).trans ((hs_n (by omega)).trans ((hs_n (by omega)).trans ((hs_n (by omega)).trans ((hs_n (by omega)).trans ((hs_n (by omega)).trans ((hs_n (by omega)).trans ((hs_n (by omega)).trans rfl))))))))))))))))))
            · refine r_aload_n dX10_parted_82 rfl rfl ?_
              refine gf_X10_60 dX10_parted_83 (by omega) ((hs_n (by omega)).trans ((hs_n (by omega)).trans ((hs_n (by omega)).trans ((hs_n (by omega)).trans ((hs_n (by omega)).trans ((hs_n (by omega)).trans ((hs_n (by omega)).trans ((hs_n (by omega)).trans ((hs_n (by omega)).trans ((hs_n (by omega)).trans ((hs_n (by omega)).trans ((hs_n (by omega)).trans ((hs_n (by omega)).trans ((hs_n (by omega)).trans ((hs_n (by omega)).trans ((hs_n (by omega)).trans ((hs_n (by omega)).trans hO))))))))))))))))) rfl ?_
              refine gf_X10_219 dX10_parted_86 (by omega) ((hs_n (by omega)).trans ((hs_n (by omega)).trans ((hs_n (by omega)).trans ((hs_n (by omega)).trans ((hs_n (by omega)).trans ((hs_n (by omega)).trans ((hs_n (by omega)).trans ((hs_n (by omega)).trans ((hs_n (by omega)).trans ((hs_n (by omega)).trans ((hs_n (by omega)).trans ((hs_n (by omega)).trans ((hs_n (by omega)).trans ((hs_n (by omega)).trans ((hs_n (by omega)).trans ((hs_n (by omega)).trans hs_e)))))))))))))))) rfl ?_
              refine r_goto 99 dX10_parted_89 (by decide) ?_
              refine r_ireturn hq dX10_parted_99 rfl rfl rfl ?_
              refine hQ _ _ (Or.inr ⟨by omega, by omega, hpr, by omega, by omega, Or.inr ⟨by rw [← ek, ← ec]; exact hnz, pn, hpn, rfl, a2, g2, u2, by rw [← ek, ← ec]; exact hres, by rw [if_neg (by omega), if_pos (by omega)]⟩⟩) ⟨hO.cg (fun a9 h8 h9 => ((hs_n (by omega)).trans ((hs_n (by omega)).trans ((hs_n (by omega)).trans ((hs_n (by omega)).trans ((hs_n (by omega)).trans ((hs_n (by omega)).trans ((hs_n (by omega)).trans ((hs_n (by omega)).trans ((hs_n (by omega)).trans ((hs_n (by omega)).trans ((hs_n (by omega)).trans ((hs_n (by omega)).trans ((hs_n (by omega)).trans ((hs_n (by omega)).trans ((hs_n (by omega)).trans ((hs_n (by omega)).trans ((hs_n (by omega)).trans rfl)))))))))))))))))), hT.cg (fun a9 h8 h9 => ((hs_n (by omega)).trans ((hs_n (by omega)).trans ((hs_n (by omega)).trans ((hs_n (by omega)).trans ((hs_n (by omega)).trans ((hs_n (by omega)).trans ((hs_n (by omega)).trans ((hs_n (by omega)).trans ((hs_n (by omega)).trans ((hs_n (by omega)).trans ((hs_n (by omega)).trans ((hs_n (by omega)).trans ((hs_n (by omega)).trans ((hs_n (by omega)).trans ((hs_n (by omega)).trans ((hs_n (by omega)).trans ((hs_n (by omega)).trans rfl)))))))))))))))))), hR.cg ((hs_n (by omega)).trans ((hs_n (by omega)).trans ((hs_n (by omega)).trans ((hs_n (by omega)).trans ((hs_n (by omega)).trans ((hs_n (by omega)).trans ((hs_n (by omega)).trans ((hs_n (by omega)).trans ((hs_n (by omega)).trans ((hs_n (by omega)).trans ((hs_n (by omega)).trans ((hs_n (by omega)).trans ((hs_n (by omega)).trans ((hs_n (by omega)).trans ((hs_n (by omega)).trans ((hs_n (by omega)).trans ((hs_n (by omega)).trans rfl))))))))))))))))) (fun a9 h8 h9 => ((hs_n (by omega)).trans ((hs_n (by omega)).trans ((hs_n (by omega)).trans ((hs_n (by omega)).trans ((hs_n (by omega)).trans ((hs_n (by omega)).trans ((hs_n (by omega)).trans ((hs_n (by omega)).trans ((hs_n (by omega)).trans ((hs_n (by omega)).trans ((hs_n (by omega)).trans ((hs_n (by omega)).trans ((hs_n (by omega)).trans ((hs_n (by omega)).trans ((hs_n (by omega)).trans ((hs_n (by omega)).trans ((hs_n (by omega)).trans rfl)))))))))))))))))), hNu.cg (fun a9 h8 h9 => ((hs_n (by omega)).trans ((hs_n (by omega)).trans ((hs_n (by omega)).trans ((hs_n (by omega)).trans ((hs_n (by omega)).trans ((hs_n (by omega)).trans ((hs_n (by omega)).trans ((hs_n (by omega)).trans ((hs_n (by omega)).trans ((hs_n (by omega)).trans ((hs_n (by omega)).trans ((hs_n (by omega)).trans ((hs_n (by omega)).trans ((hs_n (by omega)).trans ((hs_n (by omega)).trans ((hs_n (by omega)).trans ((hs_n (by omega)).trans rfl)))))))))))))))))), hRs.cg (fun a9 h8 h9 => ((hs_n (by omega)).trans ((hs_n (by omega)).trans ((hs_n (by omega)).trans ((hs_n (by omega)).trans ((hs_n (by omega)).trans ((hs_n (by omega)).trans ((hs_n (by omega)).trans ((hs_n (by omega)).trans ((hs_n (by omega)).trans ((hs_n (by omega)).trans ((hs_n (by omega)).trans ((hs_n (by omega)).trans ((hs_n (by omega)).trans ((hs_n (by omega)).trans ((hs_n (by omega)).trans ((hs_n (by omega)).trans ((hs_n (by omega)).trans rfl)))))))))))))))))), hRd.cg (fun a9 h8 h9 => ((hs_n (by omega)).trans ((hs_n (by omega)).trans ((hs_n (by omega)).trans ((hs_n (by omega)).trans ((hs_n (by omega)).trans ((hs_n (by omega)).trans ((hs_n (by omega)).trans ((hs_n (by omega)).trans ((hs_n (by omega)).trans ((hs_n (by omega)).trans ((hs_n (by omega)).trans ((hs_n (by omega)).trans ((hs_n (by omega)).trans ((hs_n (by omega)).trans ((hs_n (by omega)).trans ((hs_n (by omega)).trans ((hs_n (by omega)).trans rfl)))))))))))))))))), hLg.cg (fun a9 h8 h9 => ((hs_n (by omega)).trans ((hs_n (by omega)).trans ((hs_n (by omega)).trans ((hs_n (by omega)).trans ((hs_n (by omega)).trans ((hs_n (by omega)).trans ((hs_n (by omega)).trans ((hs_n (by omega)).trans ((hs_n (by omega)).trans ((hs_n (by omega)).trans ((hs_n (by omega)).trans ((hs_n (by omega)).trans ((hs_n (by omega)).trans ((hs_n (by omega)).trans ((hs_n (by omega)).trans ((hs_n (by omega)).trans ((hs_n (by omega)).trans rfl)))))))))))))))))), hMk.cg (fun a9 h8 h9 => ((hs_n (by omega)).trans ((hs_n (by omega)).trans ((hs_n (by omega)).trans ((hs_n (by omega)).trans ((hs_n (by omega)).trans ((hs_n (by omega)).trans ((hs_n (by omega)).trans ((hs_n (by omega)).trans ((hs_n (by omega)).trans ((hs_n (by omega)).trans ((hs_n (by omega)).trans ((hs_n (by omega)).trans ((hs_n (by omega)).trans ((hs_n (by omega)).trans ((hs_n (by omega)).trans ((hs_n (by omega)).trans ((hs_n (by omega)).trans rfl)))))))))))))))))), ⟨_, _, _, _, ((hs_n (by omega)).trans ((hs_n (by omega)).trans ((hs_n (by omega)).trans ((hs_n (by omega)).trans ((hs_n (by omega)).trans ((hs_n (by omega)).trans ((hs_n (by omega)).trans ((hs_n (by omega)).trans ((hs_n (by omega)).trans ((hs_n (by omega)).trans ((hs_n (by omega)).trans ((hs_n (by omega)).trans ((hs_n (by omega)).trans ((hs_n (by omega)).trans ((hs_n (by omega)).trans ((hs_n (by omega)).trans hs_e)))))))))))))))), ⟨_, _, ((hs_n (by omega)).trans ((hs_n (by omega)).trans ((hs_n (by omega)).trans ((hs_n (by omega)).trans ((hs_n (by omega)).trans ((hs_n (by omega)).trans ((hs_n (by omega)).trans ((hs_n (by omega)).trans ((hs_n (by omega)).trans ((hs_n (by omega)).trans ((hs_n (by omega)).trans ((hs_n (by omega)).trans ((hs_n (by omega)).trans ((hs_n (by omega)).trans hs_e)))))))))))))), ((hs_n (by omega)).trans ((hs_n (by omega)).trans ((hs_n (by omega)).trans ((hs_n (by omega)).trans ((hs_n (by omega)).trans ((hs_n (by omega)).trans ((hs_n (by omega)).trans ((hs_n (by omega)).trans ((hs_n (by omega)).trans ((hs_n (by omega)).trans ((hs_n (by omega)).trans ((hs_n (by omega)).trans ((hs_n (by omega)).trans ((hs_n (by omega)).trans ((hs_n (by omega)).trans hs_e))))))))))))))), zl2⟩, ⟨_, _, ((hs_n (by omega)).trans ((hs_n (by omega)).trans ((hs_n (by omega)).trans ((hs_n (by omega)).trans ((hs_n (by omega)).trans ((hs_n (by omega)).trans ((hs_n (by omega)).trans ((hs_n (by omega)).trans ((hs_n (by omega)).trans ((hs_n (by omega)).trans ((hs_n (by omega)).trans ((hs_n (by omega)).trans hs_e)))))))))))), ((hs_n (by omega)).trans ((hs_n (by omega)).trans ((hs_n (by omega)).trans ((hs_n (by omega)).trans ((hs_n (by omega)).trans ((hs_n (by omega)).trans ((hs_n (by omega)).trans ((hs_n (by omega)).trans ((hs_n (by omega)).trans ((hs_n (by omega)).trans ((hs_n (by omega)).trans ((hs_n (by omega)).trans ((hs_n (by omega)).trans hs_e))))))))))))), zw2⟩, ⟨_, _, ((hs_n (by omega)).trans ((hs_n (by omega)).trans ((hs_n (by omega)).trans ((hs_n (by omega)).trans ((hs_n (by omega)).trans ((hs_n (by omega)).trans ((hs_n (by omega)).trans ((hs_n (by omega)).trans ((hs_n (by omega)).trans ((hs_n (by omega)).trans hs_e)))))))))), ((hs_n (by omega)).trans ((hs_n (by omega)).trans ((hs_n (by omega)).trans ((hs_n (by omega)).trans ((hs_n (by omega)).trans ((hs_n (by omega)).trans ((hs_n (by omega)).trans ((hs_n (by omega)).trans ((hs_n (by omega)).trans ((hs_n (by omega)).trans ((hs_n (by omega)).trans hs_e))))))))))), zb2⟩, ⟨_, _, ((hs_n (by omega)).trans ((hs_n (by omega)).trans ((hs_n (by omega)).trans ((hs_n (by omega)).trans ((hs_n (by omega)).trans ((hs_n (by omega)).trans hs_e)))))), ((hs_n (by omega)).trans ((hs_n (by omega)).trans ((hs_n (by omega)).trans ((hs_n (by omega)).trans ((hs_n (by omega)).trans ((hs_n (by omega)).trans ((hs_n (by omega)).trans hs_e))))))), zp2⟩, ⟨_, _, ((hs_n (by omega)).trans ((hs_n (by omega)).trans ((hs_n (by omega)).trans ((hs_n (by omega)).trans ((hs_n (by omega)).trans ((hs_n (by omega)).trans ((hs_n (by omega)).trans ((hs_n (by omega)).trans hs_e)))))))), ((hs_n (by omega)).trans ((hs_n (by omega)).trans ((hs_n (by omega)).trans ((hs_n (by omega)).trans ((hs_n (by omega)).trans ((hs_n (by omega)).trans ((hs_n (by omega)).trans ((hs_n (by omega)).trans ((hs_n (by omega)).trans hs_e))))))))), zq2⟩, ⟨_, _, ((hs_n (by omega)).trans ((hs_n (by omega)).trans ((hs_n (by omega)).trans ((hs_n (by omega)).trans hs_e)))), ((hs_n (by omega)).trans ((hs_n (by omega)).trans ((hs_n (by omega)).trans ((hs_n (by omega)).trans ((hs_n (by omega)).trans hs_e))))), zz2⟩, ⟨_, _, ((hs_n (by omega)).trans ((hs_n (by omega)).trans hs_e)), ((hs_n (by omega)).trans ((hs_n (by omega)).trans ((hs_n (by omega)).trans hs_e))), zs2⟩, ⟨_, _, hs_e, ((hs_n (by omega)).trans hs_e), zo2⟩⟩, hEx.cg (fun a9 h8 h9 => ((hs_n (by omega)).trans ((hs_n (by omega)).trans ((hs_n (by omega)).trans ((hs_n (by omega)).trans ((hs_n (by omega)).trans ((hs_n (by omega)).trans ((hs_n (by omega)).trans ((hs_n (by omega)).trans ((hs_n (by omega)).trans ((hs_n (by omega)).trans ((hs_n (by omega)).trans ((hs_n (by omega)).trans ((hs_n (by omega)).trans ((hs_n (by omega)).trans ((hs_n (by omega)).trans ((hs_n (by omega)).trans ((hs_n (by omega)).trans rfl))))))))))))))))))⟩ (fun a9 h9 => ((hs_n (by omega)).trans ((hs_n (by omega)).trans ((hs_n (by omega)).trans ((hs_n (by omega)).trans ((hs_n (by omega)).trans ((hs_n (by omega)).trans ((hs_n (by omega)).trans ((hs_n (by omega)).trans ((hs_n (by omega)).trans ((hs_n (by omega)).trans ((hs_n (by omega)).trans ((hs_n (by omega)).trans ((hs_n (by omega)).trans ((hs_n (by omega)).trans ((hs_n (by omega)).trans ((hs_n (by omega)).trans ((hs_n (by omega)).trans rfl))))))))))))))))))
          · refine r_aload_n dX10_parted_69 rfl rfl ?_
            refine gf_X10_60 dX10_parted_70 (by omega) ((hs_n (by omega)).trans ((hs_n (by omega)).trans ((hs_n (by omega)).trans ((hs_n (by omega)).trans ((hs_n (by omega)).trans ((hs_n (by omega)).trans ((hs_n (by omega)).trans ((hs_n (by omega)).trans ((hs_n (by omega)).trans ((hs_n (by omega)).trans ((hs_n (by omega)).trans ((hs_n (by omega)).trans ((hs_n (by omega)).trans ((hs_n (by omega)).trans ((hs_n (by omega)).trans ((hs_n (by omega)).trans ((hs_n (by omega)).trans hO))))))))))))))))) rfl ?_
            refine gf_X10_216 dX10_parted_73 (by omega) ((hs_n (by omega)).trans ((hs_n (by omega)).trans ((hs_n (by omega)).trans ((hs_n (by omega)).trans ((hs_n (by omega)).trans ((hs_n (by omega)).trans ((hs_n (by omega)).trans ((hs_n (by omega)).trans ((hs_n (by omega)).trans ((hs_n (by omega)).trans ((hs_n (by omega)).trans ((hs_n (by omega)).trans ((hs_n (by omega)).trans ((hs_n (by omega)).trans ((hs_n (by omega)).trans ((hs_n (by omega)).trans hs_e)))))))))))))))) rfl ?_
            refine r_ireturn hq dX10_parted_76 rfl rfl rfl ?_
            refine hQ _ _ (Or.inr ⟨by omega, by omega, hpr, by omega, by omega, Or.inr ⟨by rw [← ek, ← ec]; exact hnz, pn, hpn, rfl, a2, g2, u2, by rw [← ek, ← ec]; exact hres, by rw [if_pos (by omega)]⟩⟩) ⟨hO.cg (fun a9 h8 h9 => ((hs_n (by omega)).trans ((hs_n (by omega)).trans ((hs_n (by omega)).trans ((hs_n (by omega)).trans ((hs_n (by omega)).trans ((hs_n (by omega)).trans ((hs_n (by omega)).trans ((hs_n (by omega)).trans ((hs_n (by omega)).trans ((hs_n (by omega)).trans ((hs_n (by omega)).trans ((hs_n (by omega)).trans ((hs_n (by omega)).trans ((hs_n (by omega)).trans ((hs_n (by omega)).trans ((hs_n (by omega)).trans ((hs_n (by omega)).trans rfl)))))))))))))))))), hT.cg (fun a9 h8 h9 => ((hs_n (by omega)).trans ((hs_n (by omega)).trans ((hs_n (by omega)).trans ((hs_n (by omega)).trans ((hs_n (by omega)).trans ((hs_n (by omega)).trans ((hs_n (by omega)).trans ((hs_n (by omega)).trans ((hs_n (by omega)).trans ((hs_n (by omega)).trans ((hs_n (by omega)).trans ((hs_n (by omega)).trans ((hs_n (by omega)).trans ((hs_n (by omega)).trans ((hs_n (by omega)).trans ((hs_n (by omega)).trans ((hs_n (by omega)).trans rfl)))))))))))))))))), hR.cg ((hs_n (by omega)).trans ((hs_n (by omega)).trans ((hs_n (by omega)).trans ((hs_n (by omega)).trans ((hs_n (by omega)).trans ((hs_n (by omega)).trans ((hs_n (by omega)).trans ((hs_n (by omega)).trans ((hs_n (by omega)).trans ((hs_n (by omega)).trans ((hs_n (by omega)).trans ((hs_n (by omega)).trans ((hs_n (by omega)).trans ((hs_n (by omega)).trans ((hs_n (by omega)).trans ((hs_n (by omega)).trans ((hs_n (by omega)).trans rfl))))))))))))))))) (fun a9 h8 h9 => ((hs_n (by omega)).trans ((hs_n (by omega)).trans ((hs_n (by omega)).trans ((hs_n (by omega)).trans ((hs_n (by omega)).trans ((hs_n (by omega)).trans ((hs_n (by omega)).trans ((hs_n (by omega)).trans ((hs_n (by omega)).trans ((hs_n (by omega)).trans ((hs_n (by omega)).trans ((hs_n (by omega)).trans ((hs_n (by omega)).trans ((hs_n (by omega)).trans ((hs_n (by omega)).trans ((hs_n (by omega)).trans ((hs_n (by omega)).trans rfl)))))))))))))))))), hNu.cg (fun a9 h8 h9 => ((hs_n (by omega)).trans ((hs_n (by omega)).trans ((hs_n (by omega)).trans ((hs_n (by omega)).trans ((hs_n (by omega)).trans ((hs_n (by omega)).trans ((hs_n (by omega)).trans ((hs_n (by omega)).trans ((hs_n (by omega)).trans ((hs_n (by omega)).trans ((hs_n (by omega)).trans ((hs_n (by omega)).trans ((hs_n (by omega)).trans ((hs_n (by omega)).trans ((hs_n (by omega)).trans ((hs_n (by omega)).trans ((hs_n (by omega)).trans rfl)))))))))))))))))), hRs.cg (fun a9 h8 h9 => ((hs_n (by omega)).trans ((hs_n (by omega)).trans ((hs_n (by omega)).trans ((hs_n (by omega)).trans ((hs_n (by omega)).trans ((hs_n (by omega)).trans ((hs_n (by omega)).trans ((hs_n (by omega)).trans ((hs_n (by omega)).trans ((hs_n (by omega)).trans ((hs_n (by omega)).trans ((hs_n (by omega)).trans ((hs_n (by omega)).trans ((hs_n (by omega)).trans ((hs_n (by omega)).trans ((hs_n (by omega)).trans ((hs_n (by omega)).trans rfl)))))))))))))))))), hRd.cg (fun a9 h8 h9 => ((hs_n (by omega)).trans ((hs_n (by omega)).trans ((hs_n (by omega)).trans ((hs_n (by omega)).trans ((hs_n (by omega)).trans ((hs_n (by omega)).trans ((hs_n (by omega)).trans ((hs_n (by omega)).trans ((hs_n (by omega)).trans ((hs_n (by omega)).trans ((hs_n (by omega)).trans ((hs_n (by omega)).trans ((hs_n (by omega)).trans ((hs_n (by omega)).trans ((hs_n (by omega)).trans ((hs_n (by omega)).trans ((hs_n (by omega)).trans rfl)))))))))))))))))), hLg.cg (fun a9 h8 h9 => ((hs_n (by omega)).trans ((hs_n (by omega)).trans ((hs_n (by omega)).trans ((hs_n (by omega)).trans ((hs_n (by omega)).trans ((hs_n (by omega)).trans ((hs_n (by omega)).trans ((hs_n (by omega)).trans ((hs_n (by omega)).trans ((hs_n (by omega)).trans ((hs_n (by omega)).trans ((hs_n (by omega)).trans ((hs_n (by omega)).trans ((hs_n (by omega)).trans ((hs_n (by omega)).trans ((hs_n (by omega)).trans ((hs_n (by omega)).trans rfl)))))))))))))))))), hMk.cg (fun a9 h8 h9 => ((hs_n (by omega)).trans ((hs_n (by omega)).trans ((hs_n (by omega)).trans ((hs_n (by omega)).trans ((hs_n (by omega)).trans ((hs_n (by omega)).trans ((hs_n (by omega)).trans ((hs_n (by omega)).trans ((hs_n (by omega)).trans ((hs_n (by omega)).trans ((hs_n (by omega)).trans ((hs_n (by omega)).trans ((hs_n (by omega)).trans ((hs_n (by omega)).trans ((hs_n (by omega)).trans ((hs_n (by omega)).trans ((hs_n (by omega)).trans rfl)))))))))))))))))), ⟨_, _, _, _, ((hs_n (by omega)).trans ((hs_n (by omega)).trans ((hs_n (by omega)).trans ((hs_n (by omega)).trans ((hs_n (by omega)).trans ((hs_n (by omega)).trans ((hs_n (by omega)).trans ((hs_n (by omega)).trans ((hs_n (by omega)).trans ((hs_n (by omega)).trans ((hs_n (by omega)).trans ((hs_n (by omega)).trans ((hs_n (by omega)).trans ((hs_n (by omega)).trans ((hs_n (by omega)).trans ((hs_n (by omega)).trans hs_e)))))))))))))))), ⟨_, _, ((hs_n (by omega)).trans ((hs_n (by omega)).trans ((hs_n (by omega)).trans ((hs_n (by omega)).trans ((hs_n (by omega)).trans ((hs_n (by omega)).trans ((hs_n (by omega)).trans ((hs_n (by omega)).trans ((hs_n (by omega)).trans ((hs_n (by omega)).trans ((hs_n (by omega)).trans ((hs_n (by omega)).trans ((hs_n (by omega)).trans ((hs_n (by omega)).trans hs_e)))))))))))))), ((hs_n (by omega)).trans ((hs_n (by omega)).trans ((hs_n (by omega)).trans ((hs_n (by omega)).trans ((hs_n (by omega)).trans ((hs_n (by omega)).trans ((hs_n (by omega)).trans ((hs_n (by omega)).trans ((hs_n (by omega)).trans ((hs_n (by omega)).trans ((hs_n (by omega)).trans ((hs_n (by omega)).trans ((hs_n (by omega)).trans ((hs_n (by omega)).trans ((hs_n (by omega)).trans hs_e))))))))))))))), zl2⟩, ⟨_, _, ((hs_n (by omega)).trans ((hs_n (by omega)).trans ((hs_n (by omega)).trans ((hs_n (by omega)).trans ((hs_n (by omega)).trans ((hs_n (by omega)).trans ((hs_n (by omega)).trans ((hs_n (by omega)).trans ((hs_n (by omega)).trans ((hs_n (by omega)).trans ((hs_n (by omega)).trans ((hs_n (by omega)).trans hs_e)))))))))))), ((hs_n (by omega)).trans ((hs_n (by omega)).trans ((hs_n (by omega)).trans ((hs_n (by omega)).trans ((hs_n (by omega)).trans ((hs_n (by omega)).trans ((hs_n (by omega)).trans ((hs_n (by omega)).trans ((hs_n (by omega)).trans ((hs_n (by omega)).trans ((hs_n (by omega)).trans ((hs_n (by omega)).trans ((hs_n (by omega)).trans hs_e))))))))))))), zw2⟩, ⟨_, _, ((hs_n (by omega)).trans ((hs_n (by omega)).trans ((hs_n (by omega)).trans ((hs_n (by omega)).trans ((hs_n (by omega)).trans ((hs_n (by omega)).trans ((hs_n (by omega)).trans ((hs_n (by omega)).trans ((hs_n (by omega)).trans ((hs_n (by omega)).trans hs_e)))))))))), ((hs_n (by omega)).trans ((hs_n (by omega)).trans ((hs_n (by omega)).trans ((hs_n (by omega)).trans ((hs_n (by omega)).trans ((hs_n (by omega)).trans ((hs_n (by omega)).trans ((hs_n (by omega)).trans ((hs_n (by omega)).trans ((hs_n (by omega)).trans ((hs_n (by omega)).trans hs_e))))))))))), zb2⟩, ⟨_, _, ((hs_n (by omega)).trans ((hs_n (by omega)).trans ((hs_n (by omega)).trans ((hs_n (by omega)).trans ((hs_n (by omega)).trans ((hs_n (by omega)).trans hs_e)))))), ((hs_n (by omega)).trans ((hs_n (by omega)).trans ((hs_n (by omega)).trans ((hs_n (by omega)).trans ((hs_n (by omega)).trans ((hs_n (by omega)).trans ((hs_n (by omega)).trans hs_e))))))), zp2⟩, ⟨_, _, ((hs_n (by omega)).trans ((hs_n (by omega)).trans ((hs_n (by omega)).trans ((hs_n (by omega)).trans ((hs_n (by omega)).trans ((hs_n (by omega)).trans ((hs_n (by omega)).trans ((hs_n (by omega)).trans hs_e)))))))), ((hs_n (by omega)).trans ((hs_n (by omega)).trans ((hs_n (by omega)).trans ((hs_n (by omega)).trans ((hs_n (by omega)).trans ((hs_n (by omega)).trans ((hs_n (by omega)).trans ((hs_n (by omega)).trans ((hs_n (by omega)).trans hs_e))))))))), zq2⟩, ⟨_, _, ((hs_n (by omega)).trans ((hs_n (by omega)).trans ((hs_n (by omega)).trans ((hs_n (by omega)).trans hs_e)))), ((hs_n (by omega)).trans ((hs_n (by omega)).trans ((hs_n (by omega)).trans ((hs_n (by omega)).trans ((hs_n (by omega)).trans hs_e))))), zz2⟩, ⟨_, _, ((hs_n (by omega)).trans ((hs_n (by omega)).trans hs_e)), ((hs_n (by omega)).trans ((hs_n (by omega)).trans ((hs_n (by omega)).trans hs_e))), zs2⟩, ⟨_, _, hs_e, ((hs_n (by omega)).trans hs_e), zo2⟩⟩, hEx.cg (fun a9 h8 h9 => ((hs_n (by omega)).trans ((hs_n (by omega)).trans ((hs_n (by omega)).trans ((hs_n (by omega)).trans ((hs_n (by omega)).trans ((hs_n (by omega)).trans ((hs_n (by omega)).trans ((hs_n (by omega)).trans ((hs_n (by omega)).trans ((hs_n (by omega)).trans ((hs_n (by omega)).trans ((hs_n (by omega)).trans ((hs_n (by omega)).trans ((hs_n (by omega)).trans ((hs_n (by omega)).trans ((hs_n (by omega)).trans ((hs_n (by omega)).trans rfl))))))))))))))))))⟩ (fun a9 h9 => ((hs_n (by omega)).trans ((hs_n (by omega)).trans ((hs_n (by omega)).trans ((hs_n (by omega)).trans ((hs_n (by omega)).trans ((hs_n (by omega)).trans ((hs_n (by omega)).trans ((hs_n (by omega)).trans ((hs_n (by omega)).trans ((hs_n (by omega)).trans ((hs_n (by omega)).trans ((hs_n (by omega)).trans ((hs_n (by omega)).trans ((hs_n (by omega)).trans ((hs_n (by omega)).trans ((hs_n (by omega)).trans ((hs_n (by omega)).trans rfl))))))))))))))))))
        · refine r_bipush (z := -2) dX10_parted_52 (by decide) ?_
          refine r_ireturn hq dX10_parted_54 rfl rfl rfl ?_
          exact hQ _ h (Or.inr ⟨by omega, by omega, hpr, by omega, by omega, Or.inl ⟨by rw [← ek, ← ec]; exact tz.mp (by omega), rfl⟩⟩) hI (fun _ _ => rfl)
      · refine r_iconst (z := -1) dX10_parted_23 ?_
        refine r_ireturn hq dX10_parted_24 rfl rfl rfl ?_
        exact hQ _ h (Or.inl ⟨by intro y; first | omega | (rcases hb8 with ⟨z, _⟩ | ⟨_, z⟩ <;> first | omega | exact z y.2.2.1), rfl⟩) hI (fun _ _ => rfl)
