theorem uM_ea {F : Nat → Nat → Int} {i j : Nat} {f : Nat → Int} (e : j = i) : uM F i f j = f := by rw [e]; exact uM_e
abbrev NUo (q : Nat) (size p span : Int) : ACell := ob 2 [.ref (q + 1), .int (iZ size), .int (iZ p), .int (iZ span), .ref (q + 2), .ref (q + 3), .ref (q + 44), .ref (q + 45)]
set_option maxHeartbeats 2000000 in
set_option maxRecDepth 20000 in
theorem c_X2_append {N : Nat} {h : Hp} {Q : QP} {q sz : Nat} {size p span v : Int} {vs : Nat → Int} (hq0 : h q = NUo q size p span) (hN : q + 47 < N) (hvs : h (q + 1) = aI 40 vs) (hsz : size = (sz : Int)) (hsz2 : sz ≤ 40) (hQ : ∀ (b size2 : Int) (vs2 : Nat → Int), (b = 0 ∧ sz = 40 ∧ size2 = size ∧ vs2 = vs ∨ b = 1 ∧ sz < 40 ∧ size2 = size + 1 ∧ vs2 = uA vs sz v) → Q (some (.int (iZ b))) N (hs (hs h (q + 1) (aI 40 vs2)) q (NUo q size2 p span))) : Runs mX2_append [.ref (q), .int (iZ (v))] N h Q := by
  refine run_start (own := RX2) rfl (by decide) (nle rfl) rfl (fun X hq hini => ?_)
  show G X RX2 cX2_append mX2_append.rm N 0 0 0 [some (.ref (q)), some (.int (iZ (v)))] [] h
  refine r_aload_n dX2_append_0 rfl rfl ?_
  refine gf_X2_15 dX2_append_1 (by omega) hq0 rfl ?_
  refine r_bipush (z := 40) dX2_append_4 (by decide) ?_
  refine r_icmp_lt 11 dX2_append_6 (by decide) ⟨by omega, by omega⟩ ⟨by decide, by decide⟩ (fun c_6 => ?_) (fun c_6 => ?_)
  · refine r_aload_n dX2_append_11 rfl rfl ?_
    refine gf_X2_9 dX2_append_12 (by omega) hq0 rfl ?_
    refine r_aload_n dX2_append_15 rfl rfl ?_
    refine gf_X2_15 dX2_append_16 (by omega) hq0 rfl ?_
    refine r_iload_n dX2_append_19 rfl rfl ?_
    refine r_iastore dX2_append_20 (by omega) hvs (by omega) (by omega) (by decide) ?_
    refine r_aload_n dX2_append_21 rfl rfl ?_
    refine r_dup dX2_append_22 rfl ?_
    refine gf_X2_15 dX2_append_23 (by omega) ((hs_n (by omega)).trans hq0) rfl ?_
    refine r_iconst (z := 1) dX2_append_26 ?_
    refine r_iadd dX2_append_27 ?_
    refine pf_X2_15 (fs2 := [_, _, _, _, _, _, _, _]) dX2_append_28 (fun _ _ => rfl) (fun _ _ => rfl) (nlt rfl) (by omega) ((hs_n (by omega)).trans hq0) rfl ?_
    refine r_iconst (z := 1) dX2_append_31 ?_
    refine r_zreturn hq dX2_append_32 rfl (by decide) rfl rfl ?_
    exact hQ 1 (size + 1) _ (Or.inr ⟨rfl, by omega, rfl, by congr 1; omega⟩)
  · refine r_iconst (z := 0) dX2_append_9 ?_
    refine r_zreturn hq dX2_append_10 rfl (by decide) rfl rfl ?_
    have hfin := hQ 0 size vs (Or.inl ⟨rfl, by omega, rfl, rfl⟩)
    rw [hs_id (a := q + 1) hvs, hs_id hq0] at hfin
    exact hfin
set_option maxHeartbeats 2000000 in
set_option maxRecDepth 20000 in
theorem c_X2_lineWith {N : Nat} {h : Hp} {Q : QP} {q col fr pl : Nat} {size p span coli fri pli : Int} {g : Nat → Nat} {F : Nat → Nat → Int} (hq0 : h q = NUo q size p span) (hN : q + 47 < N) (hli : h (q + 3) = aR 3 40 (pR (q + 4) g)) (hm : ∀ i, i < 40 → h (q + 4 + i) = aI 41 (F i)) (hg : ∀ i, i < 40 → g i < 40) (hcol : coli = (col : Int)) (hfr : fri = (fr : Int)) (hpl : pli = (pl : Int)) (hcol2 : col ≤ 40) (hfp : fr ≤ pl) (hpl2 : pl ≤ 40) (hF : ∀ i, i < pl → rI (F (g i) col)) (hQ : ∀ l : Nat, LW (fun i c => F (g i) c) col fr pl l → Q (some (.int (iZ (l : Int)))) N (mx h (q + 4) F)) : Runs mX2_lineWith [.ref (q), .int (iZ (coli)), .int (iZ (fri)), .int (iZ (pli))] N h Q := by
  have ecol : coli.toNat = col := by omega
  refine run_start (own := RX2) rfl (by decide) (nle rfl) rfl (fun X hq hini => ?_)
  show G X RX2 cX2_lineWith mX2_lineWith.rm N 0 0 0 [some (.ref (q)), some (.int (iZ (coli))), some (.int (iZ (fri))), some (.int (iZ (pli))), none] [] h
  refine g_heap (h2 := (mx h (q + 4) (F))) (mx_id hm).symm ?_
  refine r_iload_n dX2_lineWith_0 rfl rfl ?_
  refine r_istore (L2 := [_, _, _, _, _]) dX2_lineWith_1 (nlt rfl) rfl ?_
  have lp3 : ∀ (fu3 : Nat) (i : Int) (j : Nat), (41 - i) < (fu3 : Int) → (i = (j : Int)) → (fr ≤ j) → (j ≤ pl) → (∀ t, fr ≤ t → t < j → F (g t) col = 0) → G X RX2 cX2_lineWith mX2_lineWith.rm N 0 0 3 [some (.ref (q)), some (.int (iZ (coli))), some (.int (iZ (fri))), some (.int (iZ (pli))), some (.int (iZ (i)))] [] (mx h (q + 4) (F)) := by
    intro fu3
    induction fu3 with
    | zero => intro i j hm ei j0 j1 hz; exfalso; omega
    | succ fu3 ih3 =>
      intro i j hms3 ei j0 j1 hz
      refine r_iload dX2_lineWith_3 rfl ?_
      refine r_iload_n dX2_lineWith_5 rfl rfl ?_
      refine r_icmp_ge 27 dX2_lineWith_6 (by decide) ⟨by omega, by omega⟩ ⟨by omega, by omega⟩ (fun c_6 => ?_) (fun c_6 => ?_)
      · refine r_iload dX2_lineWith_27 rfl ?_
        refine r_ireturn hq dX2_lineWith_29 rfl rfl rfl ?_
        rw [ei]
        exact hQ j ⟨j0, j1, hz, fun w => by omega⟩
      · have ein : i.toNat = j := by omega
        have gj := hg i.toNat (by omega)
        have rj := hF i.toNat (by omega)
        refine r_aload_n dX2_lineWith_9 rfl rfl ?_
        refine gf_X2_30 dX2_lineWith_10 (by omega) ((mx_out (by omega)).trans hq0) rfl ?_
        refine r_iload dX2_lineWith_13 rfl ?_
        refine r_aaload dX2_lineWith_15 (by omega) ((mx_out (by omega)).trans hli) (by decide) (by omega) (by omega) (by decide) rfl ?_
        refine r_iload_n dX2_lineWith_16 rfl rfl ?_
        refine r_iaload dX2_lineWith_17 (by omega) (mx_in (by omega)) (by omega) (by omega) (by decide) ?_
        refine r_if_ne 27 dX2_lineWith_18 (by decide) (by rw [ecol]; exact rj) (fun c_18 => ?_) (fun c_18 => ?_)
        · refine r_iload dX2_lineWith_27 rfl ?_
          refine r_ireturn hq dX2_lineWith_29 rfl rfl rfl ?_
          rw [ei]
          exact hQ j ⟨j0, j1, hz, fun w => by rw [← ein, ← ecol]; exact c_18⟩
        · refine r_iinc (L2 := [_, _, _, _, _]) dX2_lineWith_21 (nlt rfl) rfl rfl ?_
          refine r_goto 3 dX2_lineWith_24 (by decide) ?_
          exact ih3 (i + 1) ((j + 1)) (by omega) (by omega) (by omega) (by omega) (fun t a b => by by_cases z : t = j; (subst z; rw [← ein, ← ecol]; exact c_18); exact hz t a (by omega))
  exact lp3 ((41 : Int) + 1).toNat (fri) (fr) (by omega) hfr (Nat.le_refl _) hfp (fun t a b => by omega)
set_option maxHeartbeats 2000000 in
set_option maxRecDepth 20000 in
theorem c_X2_scale {N : Nat} {h : Hp} {Q : QP} {q x col sp : Nat} {size p span coli : Int} {f : Nat → Int} (hq0 : h q = NUo q size p span) (hN : q + 47 < N) (hx : q + 3 < x) (hx2 : x < q + 44) (hf : h x = aI 41 f) (hcol : coli = (col : Int)) (hsp : span = (sp : Int)) (hcs : col ≤ sp) (hsp2 : sp ≤ 40) (hp : Prm p) (hf0 : 0 < f col) (hfb : ∀ c, c ≤ sp → 0 ≤ f c ∧ f c < p) (hQ : ∀ f2 : Nat → Int, (∀ c, f2 c = if col ≤ c ∧ c ≤ sp then f c * ivf p (f col) % p else f c) → Q none N (hs h x (aI 41 f2))) : Runs mX2_scale [.ref (q), .ref (x), .int (iZ (coli))] N h Q := by
  have hp2 := hp.1
  have hp97 := hp.2.1
  have ecol : coli.toNat = col := by omega
  have fc := hfb col hcs
  rw [← ecol] at fc hf0
  have hgcd := prm_gcd hp hf0 fc.2
  refine run_start (own := RX2) rfl (by decide) (nle rfl) rfl (fun X hq hini => ?_)
  show G X RX2 cX2_scale mX2_scale.rm N 0 0 0 [some (.ref (q)), some (.ref (x)), some (.int (iZ (coli))), none, none] [] h
  refine r_aload_n dX2_scale_0 rfl rfl ?_
  refine r_iload_n dX2_scale_1 rfl rfl ?_
  refine r_iaload dX2_scale_2 (by omega) hf (by omega) (by omega) (by decide) ?_
  refine r_i2l dX2_scale_3 ⟨by omega, by omega⟩ ?_
  refine r_aload_n dX2_scale_4 rfl rfl ?_
  refine gf_X2_19 dX2_scale_5 (by omega) hq0 rfl ?_
  refine r_callSN (av := [.long (lZ (f (coli).toNat)), .int (iZ (p))]) dX2_scale_8 lkX10_inverse nl_X2_80 stX10_inverse ⟨Nat.le_of_ble_eq_true rfl, Nat.le_of_ble_eq_true rfl⟩ rfl rfl (nle rfl) ⟨Nat.le_of_ble_eq_true rfl, Nat.le_of_ble_eq_true rfl⟩ (c_X10_inverse (a := f (coli).toNat) (m := p) (by omega) (by omega) hgcd (fun x8 hx8 => ?_))
  show G _ _ _ _ _ _ _ 11 _ _ _
  have hiv := ivf_of hx8
  have x8a := hx8.1
  have x8b := hx8.2.1
  refine r_istore_n (L2 := [_, _, _, _, none]) dX2_scale_11 rfl (nlt rfl) rfl ?_
  refine r_iload_n dX2_scale_12 rfl rfl ?_
  refine r_istore (L2 := [_, _, _, _, _]) dX2_scale_13 (nlt rfl) rfl ?_
  have lp15 : ∀ (fu15 : Nat) (f1 : Nat → Int) (i : Int) (j : Nat), (42 - i) < (fu15 : Int) → (i = (j : Int)) → (j ≤ sp + 1) → (col ≤ j) → (∀ c, f1 c = if col ≤ c ∧ c < j then f c * x8 % p else f c) → G X RX2 cX2_scale mX2_scale.rm N 0 0 15 [some (.ref (q)), some (.ref (x)), some (.int (iZ (coli))), some (.int (iZ (x8))), some (.int (iZ (i)))] [] (hs h (x) (aI 41 (f1))) := by
    intro fu15
    induction fu15 with
    | zero => intro f1 i j hm ei j1 j0 hf1; exfalso; omega
    | succ fu15 ih15 =>
      intro f1 i j hms15 ei j1 j0 hf1
      refine r_iload dX2_scale_15 rfl ?_
      refine r_aload_n dX2_scale_17 rfl rfl ?_
      refine gf_X2_22 dX2_scale_18 (by omega) ((hs_n (by omega)).trans hq0) rfl ?_
      refine r_icmp_gt 45 dX2_scale_21 (by decide) ⟨by omega, by omega⟩ ⟨by omega, by omega⟩ (fun c_21 => ?_) (fun c_21 => ?_)
      · refine r_return hq dX2_scale_45 rfl rfl rfl ?_
        refine hQ f1 (fun c => ?_)
        have j9 : j = sp + 1 := by omega
        rw [hf1 c, j9, ← ecol, hiv]
        by_cases w : coli.toNat ≤ c ∧ c ≤ sp
        · rw [if_pos w, if_pos ⟨w.1, by omega⟩]
        · rw [if_neg w, if_neg (by omega)]
      · have ein : i.toNat = j := by omega
        refine r_aload_n dX2_scale_24 rfl rfl ?_
        refine r_iload dX2_scale_25 rfl ?_
        refine r_aload_n dX2_scale_27 rfl rfl ?_
        refine r_iload dX2_scale_28 rfl ?_
        refine r_iaload dX2_scale_30 (by omega) hs_e (by omega) (by omega) (by decide) ?_
        refine r_iload_n dX2_scale_31 rfl rfl ?_
        have hfj : f1 j = f j := by rw [hf1 j, if_neg (by omega)]
        have fjb := hfb j (by omega)
        rw [← hfj, ← ein] at fjb
        have m32 := mulb (A := 97) (B := 97) (a := f1 i.toNat) (b := x8) (C := 9409) (by omega) (by omega) (by omega) (by omega) (by decide)
        have m33 := Int.mul_nonneg fjb.1 x8a
        refine r_imul dX2_scale_32 ?_
        refine r_aload_n dX2_scale_33 rfl rfl ?_
        refine gf_X2_19 dX2_scale_34 (by omega) ((hs_n (by omega)).trans hq0) rfl ?_
        refine r_iremp dX2_scale_37 ⟨by omega, by omega⟩ ⟨by omega, by omega⟩ (by omega) (by omega) ?_
        have eb_37 := emod_bd ((f1 (i).toNat) * x8) (show 0 < p by omega)
        refine r_iastore dX2_scale_38 (by omega) hs_e (by omega) (by omega) (by decide) ?_
        refine g_heap (h2 := (hs h (x) (aI 41 (uA (f1) (i).toNat (((f1 (i).toNat) * x8) % p))))) hs_hs ?_
        refine r_iinc (L2 := [_, _, _, _, _]) dX2_scale_39 (nlt rfl) rfl rfl ?_
        refine r_goto 15 dX2_scale_42 (by decide) ?_
        exact ih15 (uA (f1) (i).toNat (((f1 (i).toNat) * x8) % p)) (i + 1) ((j + 1)) (by omega) (by omega) (by omega) (by omega) (fun c => by rw [ein]; by_cases z : c = j; (subst z; rw [uA_e, if_pos ⟨by omega, by omega⟩, hfj]); rw [uA_n z, hf1 c]; by_cases w : col ≤ c ∧ c < j; (rw [if_pos w, if_pos ⟨w.1, by omega⟩]); rw [if_neg w, if_neg (by omega)])
  refine g_heap (hs_id (c := aI 41 (f)) hf).symm ?_
  exact lp15 ((42 : Int) + 1).toNat (f) (coli) (col) (by omega) hcol (by omega) (Nat.le_refl _) (fun c => by rw [if_neg (by omega)])
set_option maxHeartbeats 2000000 in
set_option maxRecDepth 20000 in
theorem c_X2_clear {N : Nat} {h : Hp} {Q : QP} {q col led pl sp : Nat} {size p span coli ledi pli : Int} {g : Nat → Nat} {F : Nat → Nat → Int} (hq0 : h q = NUo q size p span) (hN : q + 47 < N) (hli : h (q + 3) = aR 3 40 (pR (q + 4) g)) (hm : ∀ i, i < 40 → h (q + 4 + i) = aI 41 (F i)) (hg : ∀ i, i < 40 → g i < 40) (hgi : ∀ i j, i < 40 → j < 40 → g i = g j → i = j) (hcol : coli = (col : Int)) (hled : ledi = (led : Int)) (hpl : pli = (pl : Int)) (hspn : span = (sp : Int)) (hcs : col ≤ sp) (hsp2 : sp ≤ 40) (hlp : led < pl) (hpl2 : pl ≤ 40) (hp2 : 2 ≤ p) (hp97 : p ≤ 97) (hF : ∀ i, i < pl → ∀ c, c ≤ sp → 0 ≤ F (g i) c ∧ F (g i) c < p) (hQ : ∀ F2 : Nat → Nat → Int, (∀ i, i < 40 → ∀ c, F2 (g i) c = clr (fun i c => F (g i) c) led col sp pl p i c) → Q none N (mx h (q + 4) F2)) : Runs mX2_clear [.ref (q), .int (iZ (coli)), .int (iZ (ledi)), .int (iZ (pli))] N h Q := by
  have ecol : coli.toNat = col := by omega
  have eled : ledi.toNat = led := by omega
  have gled := hg ledi.toNat (by omega)
  have gled2 : g led < 40 := hg led (by omega)
  refine run_start (own := RX2) rfl (by decide) (nle rfl) rfl (fun X hq hini => ?_)
  show G X RX2 cX2_clear mX2_clear.rm N 0 0 0 [some (.ref (q)), some (.int (iZ (coli))), some (.int (iZ (ledi))), some (.int (iZ (pli))), none, none, none] [] h
  refine g_heap (h2 := (mx h (q + 4) (F))) (mx_id hm).symm ?_
  refine r_iconst (z := 0) dX2_clear_0 ?_
  refine r_istore (L2 := [_, _, _, _, _, none, none]) dX2_clear_1 (nlt rfl) rfl ?_
  have lp3 : ∀ (fu3 : Nat) (F1 : Nat → Nat → Int) (i : Int) (j : Nat), (41 - i) < (fu3 : Int) → (i = (j : Int)) → (j ≤ pl) → (∀ t, t < j → ∀ c, F1 (g t) c = clr (fun i c => F (g i) c) led col sp pl p t c) → (∀ t, j ≤ t → t < 40 → F1 (g t) = F (g t)) → (F1 (g led) = F (g led)) → G X RX2 cX2_clear mX2_clear.rm N 0 0 3 [some (.ref (q)), some (.int (iZ (coli))), some (.int (iZ (ledi))), some (.int (iZ (pli))), some (.int (iZ (i))), none, none] [] (mx h (q + 4) (F1)) := by
    intro fu3
    induction fu3 with
    | zero => intro F1 i j hm ei j1 hd hu hl1; exfalso; omega
    | succ fu3 ih3 =>
      intro F1 i j hms3 ei j1 hd hu hl1
      refine r_iload dX2_clear_3 rfl ?_
      refine r_iload_n dX2_clear_5 rfl rfl ?_
      refine r_icmp_ge 98 dX2_clear_6 (by decide) ⟨by omega, by omega⟩ ⟨by omega, by omega⟩ (fun c_6 => ?_) (fun c_6 => ?_)
      · refine r_return hq dX2_clear_98 rfl rfl rfl ?_
        have j9 : j = pl := by omega
        refine hQ F1 (fun t ht c => ?_)
        by_cases w : t < pl
        · exact hd t (by omega) c
        · rw [hu t (by omega) ht]; unfold clr; rw [if_neg (fun z => w z.1)]
      · have ein : i.toNat = j := by omega
        have gj := hg i.toNat (by omega)
        have gne : ∀ t, t < 40 → t ≠ j → g t ≠ g i.toNat := fun t a b z => b (by rw [ein] at z; exact hgi t j a (by omega) z)
        refine r_aload_n dX2_clear_9 rfl rfl ?_
        refine gf_X2_30 dX2_clear_10 (by omega) ((mx_out (by omega)).trans hq0) rfl ?_
        refine r_iload dX2_clear_13 rfl ?_
        refine r_aaload dX2_clear_15 (by omega) ((mx_out (by omega)).trans hli) (by decide) (by omega) (by omega) (by decide) rfl ?_
        refine r_iload_n dX2_clear_16 rfl rfl ?_
        refine r_iaload dX2_clear_17 (by omega) (mx_in (by omega)) (by omega) (by omega) (by decide) ?_
        have ht5 : F1 (g i.toNat) coli.toNat = F (g j) col := by rw [ein, ecol, hu j (Nat.le_refl j) (by omega)]
        have tb := hF j (by omega) col hcs
        rw [← ht5] at tb
        refine r_istore (L2 := [_, _, _, _, _, _, none]) dX2_clear_18 (nlt rfl) rfl ?_
        refine r_iload dX2_clear_20 rfl ?_
        refine r_iload_n dX2_clear_22 rfl rfl ?_
        refine r_icmp_eq 92 dX2_clear_23 (by decide) ⟨by omega, by omega⟩ ⟨by omega, by omega⟩ (fun c_23 => ?_) (fun c_23 => ?_)
        · refine r_iinc (L2 := [_, _, _, _, _, _, none]) dX2_clear_92 (nlt rfl) rfl rfl ?_
          refine r_goto 3 dX2_clear_95 (by decide) ?_
          refine r_mask [true, true, true, true, true, false, false] (L2 := [_, _, _, _, _, none, none]) rfl ?_
          exact ih3 (F1) (i + 1) ((j + 1)) (by omega) (by omega) (by omega) (fun t a c => by by_cases z : t = j; (subst z; rw [hu t (Nat.le_refl t) (by omega)]; unfold clr; rw [if_neg (fun w => w.2.1 (by omega))]); exact hd t (by omega) c) (fun t a b => hu t (by omega) b) hl1
        · refine r_iload dX2_clear_26 rfl ?_
          refine r_if_eq 92 dX2_clear_28 (by decide) ⟨by omega, by omega⟩ (fun c_28 => ?_) (fun c_28 => ?_)
          · have hz0 : F (g j) col = 0 := by rw [← ht5]; exact c_28
            refine r_iinc (L2 := [_, _, _, _, _, _, none]) dX2_clear_92 (nlt rfl) rfl rfl ?_
            refine r_goto 3 dX2_clear_95 (by decide) ?_
            refine r_mask [true, true, true, true, true, false, false] (L2 := [_, _, _, _, _, none, none]) rfl ?_
            exact ih3 (F1) (i + 1) ((j + 1)) (by omega) (by omega) (by omega) (fun t a c => by by_cases z : t = j; (subst z; rw [hu t (Nat.le_refl t) (by omega)]; unfold clr; rw [if_neg (fun w => w.2.2.1 hz0)]); exact hd t (by omega) c) (fun t a b => hu t (by omega) b) hl1
          · have hnl : led ≠ j := fun z => c_23 (by omega)
            have hnz : F (g j) col ≠ 0 := by rw [← ht5]; exact c_28
            refine r_iload_n dX2_clear_31 rfl rfl ?_
            refine r_istore (L2 := [_, _, _, _, _, _, _]) dX2_clear_32 (nlt rfl) rfl ?_
            refine g_heap (h2 := (mx h (q + 4) (uM (F1) (g (i).toNat) (F1 (g (i).toNat))))) (congrArg (mx h (q + 4)) (uM_id (F := F1) (i := g (i).toNat)).symm) ?_
            have lp34 : ∀ (fu34 : Nat) (f1 : Nat → Int) (u : Int) (v : Nat), (42 - u) < (fu34 : Int) → (u = (v : Int)) → (v ≤ sp + 1) → (col ≤ v) → (∀ c, f1 c = if col ≤ c ∧ c < v then (F (g j) c + (p - F (g j) col) * F (g led) c) % p else F (g j) c) → G X RX2 cX2_clear mX2_clear.rm N 0 0 34 [some (.ref (q)), some (.int (iZ (coli))), some (.int (iZ (ledi))), some (.int (iZ (pli))), some (.int (iZ (i))), some (.int (iZ ((F1 (g (i).toNat)) (coli).toNat))), some (.int (iZ (u)))] [] (mx h (q + 4) (uM (F1) (g (i).toNat) (f1))) := by
              intro fu34
              induction fu34 with
              | zero => intro f1 u v hm eu v1 v0 hf1; exfalso; omega
              | succ fu34 ih34 =>
                intro f1 u v hms34 eu v1 v0 hf1
                refine r_iload dX2_clear_34 rfl ?_
                refine r_aload_n dX2_clear_36 rfl rfl ?_
                refine gf_X2_22 dX2_clear_37 (by omega) ((mx_out (by omega)).trans hq0) rfl ?_
                refine r_icmp_gt 92 dX2_clear_40 (by decide) ⟨by omega, by omega⟩ ⟨by omega, by omega⟩ (fun c_40 => ?_) (fun c_40 => ?_)
                · have v9 : v = sp + 1 := by omega
                  have hfin : ∀ c, f1 c = clr (fun i c => F (g i) c) led col sp pl p j c := fun c => by
                    unfold clr
                    rw [hf1 c, v9]
                    by_cases w : col ≤ c ∧ c ≤ sp
                    · rw [if_pos ⟨w.1, by omega⟩, if_pos ⟨by omega, fun z => hnl z.symm, hnz, w.1, w.2⟩]
                    · rw [if_neg (by omega), if_neg (fun z => w z.2.2.2)]
                  refine r_iinc (L2 := [_, _, _, _, _, _, _]) dX2_clear_92 (nlt rfl) rfl rfl ?_
                  refine r_goto 3 dX2_clear_95 (by decide) ?_
                  refine r_mask [true, true, true, true, true, false, false] (L2 := [_, _, _, _, _, none, none]) rfl ?_
                  exact ih3 (uM (F1) (g (i).toNat) (f1)) (i + 1) ((j + 1)) (by omega) (by omega) (by omega) (fun t a c => by by_cases z : t = j; (subst z; rw [uM_ea (by rw [ein]), hfin c]); rw [uM_n (gne t (by omega) (by omega))]; exact hd t (by omega) c) (fun t a b => by rw [uM_n (gne t (by omega) (by omega))]; exact hu t (by omega) b) (by rw [uM_n (gne led (by omega) (by omega))]; exact hl1)
                · have eun : u.toNat = v := by omega
                  refine r_aload_n dX2_clear_43 rfl rfl ?_
                  refine gf_X2_30 dX2_clear_44 (by omega) ((mx_out (by omega)).trans hq0) rfl ?_
                  refine r_iload dX2_clear_47 rfl ?_
                  refine r_aaload dX2_clear_49 (by omega) ((mx_out (by omega)).trans hli) (by decide) (by omega) (by omega) (by decide) rfl ?_
                  refine r_iload dX2_clear_50 rfl ?_
                  refine r_aload_n dX2_clear_52 rfl rfl ?_
                  refine gf_X2_30 dX2_clear_53 (by omega) ((mx_out (by omega)).trans hq0) rfl ?_
                  refine r_iload dX2_clear_56 rfl ?_
                  refine r_aaload dX2_clear_58 (by omega) ((mx_out (by omega)).trans hli) (by decide) (by omega) (by omega) (by decide) rfl ?_
                  refine r_iload dX2_clear_59 rfl ?_
                  have hfv : f1 v = F (g j) v := by rw [hf1 v, if_neg (by omega)]
                  have fvb := hF j (by omega) v (by omega)
                  rw [← hfv, ← eun] at fvb
                  refine r_iaload dX2_clear_61 (by omega) ((mx_in (by omega)).trans (congrArg (aI 41) uM_e)) (by omega) (by omega) (by decide) ?_
                  refine r_aload_n dX2_clear_62 rfl rfl ?_
                  refine gf_X2_19 dX2_clear_63 (by omega) ((mx_out (by omega)).trans hq0) rfl ?_
                  refine r_iload dX2_clear_66 rfl ?_
                  refine r_isub dX2_clear_68 ?_
                  refine r_aload_n dX2_clear_69 rfl rfl ?_
                  refine gf_X2_30 dX2_clear_70 (by omega) ((mx_out (by omega)).trans hq0) rfl ?_
                  refine r_iload_n dX2_clear_73 rfl rfl ?_
                  refine r_aaload dX2_clear_74 (by omega) ((mx_out (by omega)).trans hli) (by decide) (by omega) (by omega) (by decide) rfl ?_
                  refine r_iload dX2_clear_75 rfl ?_
                  refine r_iaload dX2_clear_77 (by omega) (mx_in (by omega)) (by omega) (by omega) (by decide) ?_
                  have hlv0 : uM F1 (g i.toNat) f1 (g ledi.toNat) = F (g led) := by rw [eled, uM_n (gne led (by omega) hnl)]; exact hl1
                  have hlv : uM F1 (g i.toNat) f1 (g ledi.toNat) u.toNat = F (g led) v := by rw [hlv0, eun]
                  have lvb := hF led (by omega) v (by omega)
                  rw [← hlv] at lvb
                  have m78 := mulb (A := 97) (B := 97) (a := p - F1 (g i.toNat) coli.toNat) (b := uM F1 (g i.toNat) f1 (g ledi.toNat) u.toNat) (C := 9409) (by omega) (by omega) (by omega) (by omega) (by decide)
                  have m79 := Int.mul_nonneg (show 0 ≤ p - F1 (g i.toNat) coli.toNat by omega) lvb.1
                  refine r_imul dX2_clear_78 ?_
                  refine r_iadd dX2_clear_79 ?_
                  refine r_aload_n dX2_clear_80 rfl rfl ?_
                  refine gf_X2_19 dX2_clear_81 (by omega) ((mx_out (by omega)).trans hq0) rfl ?_
                  refine r_iremp dX2_clear_84 ⟨by omega, by omega⟩ ⟨by omega, by omega⟩ (by omega) (by omega) ?_
                  have eb_84 := emod_bd ((f1 (u).toNat) + ((p - ((F1 (g (i).toNat)) (coli).toNat)) * (((uM (F1) (g (i).toNat) (f1)) (g (ledi).toNat)) (u).toNat))) (show 0 < p by omega)
                  refine r_iastore dX2_clear_85 (by omega) ((mx_in (by omega)).trans (congrArg (aI 41) uM_e)) (by omega) (by omega) (by decide) ?_
                  refine g_heap (h2 := (mx h (q + 4) (uM (F1) (g (i).toNat) (uA (f1) (u).toNat (((f1 (u).toNat) + ((p - ((F1 (g (i).toNat)) (coli).toNat)) * (((uM (F1) (g (i).toNat) (f1)) (g (ledi).toNat)) (u).toNat))) % p))))) (mx_hs2 (by omega)) ?_
                  refine r_iinc (L2 := [_, _, _, _, _, _, _]) dX2_clear_86 (nlt rfl) rfl rfl ?_
                  refine r_goto 34 dX2_clear_89 (by decide) ?_
                  exact ih34 (uA (f1) (u).toNat (((f1 (u).toNat) + ((p - ((F1 (g (i).toNat)) (coli).toNat)) * (((uM (F1) (g (i).toNat) (f1)) (g (ledi).toNat)) (u).toNat))) % p)) (u + 1) ((v + 1)) (by omega) (by omega) (by omega) (by omega) (fun c => by rw [eun]; by_cases z : c = v; (rw [z, uA_e, if_pos ⟨by omega, by omega⟩, hfv, hlv0, ht5]); rw [uA_n z, hf1 c]; by_cases w : col ≤ c ∧ c < v; (rw [if_pos w, if_pos ⟨w.1, by omega⟩]); rw [if_neg w, if_neg (by omega)])
            exact lp34 ((42 : Int) + 1).toNat (F1 (g (i).toNat)) (coli) (col) (by omega) hcol (by omega) (Nat.le_refl _) (fun c => by rw [if_neg (by omega), ein, hu j (Nat.le_refl j) (by omega)])
  exact lp3 ((41 : Int) + 1).toNat (F) (0) (0) (by omega) rfl (by omega) (fun t a => absurd a (Nat.not_lt_zero t)) (fun t a b => rfl) rfl
set_option maxHeartbeats 2000000 in
set_option maxRecDepth 20000 in
theorem c_X2_leadLines {N : Nat} {h : Hp} {Q : QP} {q pl sp : Nat} {size p span pli : Int} {g : Nat → Nat} {F : Nat → Nat → Int} {ld : Nat → Int} {A : Mat} (hq0 : h q = NUo q size p span) (hN : q + 47 < N) (hli : h (q + 3) = aR 3 40 (pR (q + 4) g)) (hm : ∀ i, i < 40 → h (q + 4 + i) = aI 41 (F i)) (hg : ∀ i, i < 40 → g i < 40) (hgi : ∀ i j, i < 40 → j < 40 → g i = g j → i = j) (hld : h (q + 44) = aI 40 ld) (hpl : pli = (pl : Int)) (hsp : span = (sp : Int)) (hsp2 : sp ≤ 40) (hpl2 : pl ≤ 40) (hp : Prm p) (hE0 : mE pl sp (fun i c => F (g i) c) A) (hF0 : ∀ i, i < pl → ∀ c, c ≤ sp → 0 ≤ F (g i) c ∧ F (g i) c < p) (hQ : ∀ (F2 : Nat → Nat → Int) (g2 : Nat → Nat) (ld2 : Nat → Int), (∀ i, i < 40 → g2 i < 40) → (∀ i j, i < 40 → j < 40 → g2 i = g2 j → i = j) → mE pl sp (fun i c => F2 (g2 i) c) (gss p sp pl A sp).1 → (∀ r, r < (gss p sp pl A sp).2.1 → ld2 r = ((gss p sp pl A sp).2.2 r : Int)) → (∀ i, i < pl → ∀ c, c ≤ sp → 0 ≤ F2 (g2 i) c ∧ F2 (g2 i) c < p) → Q (some (.int (iZ ((gss p sp pl A sp).2.1 : Int)))) N (hs (hs (mx h (q + 4) F2) (q + 3) (aR 3 40 (pR (q + 4) g2))) (q + 44) (aI 40 ld2))) : Runs mX2_leadLines [.ref (q), .int (iZ (pli))] N h Q := by
  have hp2 := hp.1
  have hp97 := hp.2.1
  refine run_start (own := RX2) rfl (by decide) (nle rfl) rfl (fun X hq hini => ?_)
  show G X RX2 cX2_leadLines mX2_leadLines.rm N 0 0 0 [some (.ref (q)), some (.int (iZ (pli))), none, none, none, none] [] h
  refine g_heap (h2 := (mx h (q + 4) (F))) (mx_id hm).symm ?_
  refine r_iconst (z := 0) dX2_leadLines_0 ?_
  refine r_istore_n (L2 := [_, _, _, none, none, none]) dX2_leadLines_1 rfl (nlt rfl) rfl ?_
  refine r_iconst (z := 0) dX2_leadLines_2 ?_
  refine r_istore_n (L2 := [_, _, _, _, none, none]) dX2_leadLines_3 rfl (nlt rfl) rfl ?_
  have lp4 : ∀ (fu4 : Nat) (F1 : Nat → Nat → Int) (g1 : Nat → Nat) (ld1 : Nat → Int) (lc : Int) (ci : Int) (e : Nat) (cj : Nat), (41 - ci) < (fu4 : Int) → (ci = (cj : Int)) → (cj ≤ sp) → (lc = (e : Int)) → (e = (gss p sp pl A cj).2.1) → (∀ i, i < 40 → g1 i < 40) → (∀ i j, i < 40 → j < 40 → g1 i = g1 j → i = j) → (mE pl sp (fun i c => F1 (g1 i) c) (gss p sp pl A cj).1) → (∀ r, r < e → ld1 r = ((gss p sp pl A cj).2.2 r : Int)) → (∀ i, i < pl → ∀ c, c ≤ sp → 0 ≤ F1 (g1 i) c ∧ F1 (g1 i) c < p) → G X RX2 cX2_leadLines mX2_leadLines.rm N 0 0 4 [some (.ref (q)), some (.int (iZ (pli))), some (.int (iZ (lc))), some (.int (iZ (ci))), none, none] [] (hs (hs (mx h (q + 4) (F1)) (q + 3) (aR 3 40 (pR (q + 4) g1))) (q + 44) (aI 40 (ld1))) := by
    intro fu4
    induction fu4 with
    | zero => intro F1 g1 ld1 lc ci e cj hm eci cj1 elc he hg1 hgi1 hE hL hFb; exfalso; omega
    | succ fu4 ih4 =>
      intro F1 g1 ld1 lc ci e cj hms4 eci cj1 elc he hg1 hgi1 hE hL hFb
      have hgl := gss_led (p := p) (span := sp) (places := pl) (A := A) cj
      rw [← he] at hgl
      refine r_iload_n dX2_leadLines_4 rfl rfl ?_
      refine r_aload_n dX2_leadLines_5 rfl rfl ?_
      refine gf_X2_22 dX2_leadLines_6 (by omega) ((hs_n (by omega)).trans ((hs_n (by omega)).trans ((mx_out (by omega)).trans hq0))) rfl ?_
      refine r_icmp_ge 96 dX2_leadLines_9 (by decide) ⟨by omega, by omega⟩ ⟨by omega, by omega⟩ (fun c_9 => ?_) (fun c_9 => ?_)
      · refine r_iload_n dX2_leadLines_96 rfl rfl ?_
        refine r_ireturn hq dX2_leadLines_97 rfl rfl rfl ?_
        have hfn : gss p sp pl A sp = gss p sp pl A cj := by
          have z : cj = sp := (by omega)
          rw [z]
        rw [elc, he, ← hfn]
        rw [← hfn] at hE
        exact hQ F1 g1 ld1 hg1 hgi1 hE (fun r hr => by rw [hfn] at hr ⊢; exact hL r (by rw [he]; exact hr)) hFb
      · refine r_iload_n dX2_leadLines_12 rfl rfl ?_
        refine r_iload_n dX2_leadLines_13 rfl rfl ?_
        refine r_icmp_ge 96 dX2_leadLines_14 (by decide) ⟨by omega, by omega⟩ ⟨by omega, by omega⟩ (fun c_14 => ?_) (fun c_14 => ?_)
        · refine r_iload_n dX2_leadLines_96 rfl rfl ?_
          refine r_ireturn hq dX2_leadLines_97 rfl rfl rfl ?_
          have hfn : gss p sp pl A sp = gss p sp pl A cj := by
            have z := gss_stop (p := p) (span := sp) (places := pl) (A := A) (col := cj) (by omega) (sp - cj)
            have z2 : cj + (sp - cj) = sp := (by omega)
            rw [z2] at z
            exact z
          rw [elc, he, ← hfn]
          rw [← hfn] at hE
          exact hQ F1 g1 ld1 hg1 hgi1 hE (fun r hr => by rw [hfn] at hr ⊢; exact hL r (by rw [he]; exact hr)) hFb
        · refine r_aload_n dX2_leadLines_17 rfl rfl ?_
          refine r_iload_n dX2_leadLines_18 rfl rfl ?_
          refine r_iload_n dX2_leadLines_19 rfl rfl ?_
          refine r_iload_n dX2_leadLines_20 rfl rfl ?_
          refine r_callV (av := [.int (iZ (ci)), .int (iZ (lc)), .int (iZ (pli))]) dX2_leadLines_21 lkX2_lineWith ml_X2_68 imX2_lineWith seX2_lineWith (by omega) (rfl : vwCl[2]? = _) ⟨_, ((hs_n (by omega)).trans ((hs_n (by omega)).trans ((mx_out (by omega)).trans hq0)))⟩ ⟨Nat.le_of_ble_eq_true rfl, Nat.le_of_ble_eq_true rfl⟩ rfl rfl (nle rfl) ⟨Nat.le_of_ble_eq_true rfl, Nat.le_of_ble_eq_true rfl⟩ (c_X2_lineWith (q := q) (col := cj) (fr := e) (pl := pl) (g := g1) (F := F1) ((hs_n (by omega)).trans ((hs_n (by omega)).trans ((mx_out (by omega)).trans hq0))) (by omega) ((hs_n (by omega)).trans hs_e) (fun i9 hi9 => ((hs_n (by omega)).trans ((hs_n (by omega)).trans (mx_in hi9)))) hg1 eci elc hpl (by omega) (by omega) (by omega) (fun i9 hi9 => by have := hFb i9 hi9 cj (by omega); exact ⟨by omega, by omega⟩) (fun l hl => ?_))
          refine g_heap (h2 := (hs (hs (mx h (q + 4) (F1)) (q + 3) (aR 3 40 (pR (q + 4) g1))) (q + 44) (aI 40 (ld1)))) ((mx_sw (by omega)).trans (congrArg (fun x9 => hs x9 (q + 44) (aI 40 (ld1))) ((mx_sw (by omega)).trans (congrArg (fun x9 => hs x9 (q + 3) (aR 3 40 (pR (q + 4) g1))) mx_mx)))) ?_
          show G _ _ _ _ _ _ _ 24 _ _ _
          have hl1 := hl.1
          have hl2 := hl.2.1
          refine r_istore (L2 := [_, _, _, _, _, none]) dX2_leadLines_24 (nlt rfl) rfl ?_
          refine r_iload dX2_leadLines_26 rfl ?_
          refine r_iload_n dX2_leadLines_28 rfl rfl ?_
          refine r_icmp_ge 90 dX2_leadLines_29 (by decide) ⟨by omega, by omega⟩ ⟨by omega, by omega⟩ (fun c_29 => ?_) (fun c_29 => ?_)
          · have hS := gss_s p sp pl A cj
            have hlpl : l = pl := by have := hl.2.1; omega
            have hW : flW (gss p sp pl A cj).1 cj e pl = l := LW.one (fun j hj => (hE j hj cj (by omega)).symm) (flW_LW (by omega)) hl
            rw [gst_no (by rw [← he, hW]; omega)] at hS
            refine r_iinc (L2 := [_, _, _, _, _, none]) dX2_leadLines_90 (nlt rfl) rfl rfl ?_
            refine r_goto 4 dX2_leadLines_93 (by decide) ?_
            refine r_mask [true, true, true, true, false, false] (L2 := [_, _, _, _, none, none]) rfl ?_
            exact ih4 (F1) (g1) (ld1) (lc) (ci + 1) (e) ((cj + 1)) (by omega) (by omega) (by omega) (by omega) (by rw [hS]; exact he) hg1 hgi1 (by rw [hS]; exact hE) (by rw [hS]; exact hL) hFb
          · have hlpl : l < pl := by omega
            have eln : ((l : Int)).toNat = l := rfl
            have elcn : lc.toNat = e := by omega
            have ecin : ci.toNat = cj := by omega
            have gl := hg1 l (by omega)
            have ge := hg1 e (by omega)
            rw [← elcn] at ge
            have gl2 : g1 ((l : Int)).toNat < 40 := gl
            have hg3 := swg_lt (g := g1) (a := e) (b := l) hg1 (by omega) (by omega)
            have hgi3 := swg_in (g := g1) (a := e) (b := l) hgi1 (by omega) (by omega)
            have ge3 := hg3 lc.toNat (by omega)
            have heq3 : F1 (swg g1 e l lc.toNat) = F1 (g1 l) := by rw [elcn]; unfold swg; rw [if_pos rfl]
            have hW : flW (gss p sp pl A cj).1 cj e pl = l := LW.one (fun j hj => (hE j hj cj (by omega)).symm) (flW_LW (by omega)) hl
            have hS := gss_s p sp pl A cj
            rw [gst_yes (by rw [← he, hW]; exact ⟨by omega, hlpl⟩), ← he, hW] at hS
            have hf1 : ∀ c, c ≤ sp → 0 ≤ F1 (swg g1 e l lc.toNat) c ∧ F1 (swg g1 e l lc.toNat) c < p := fun c hc => by rw [heq3]; exact hFb l hlpl c hc
            have hf0 : 0 < F1 (swg g1 e l lc.toNat) cj := by
              have h8 := hf1 cj (by omega)
              have h9 : F1 (g1 l) cj ≠ 0 := hl.2.2.2 hlpl
              rw [heq3] at h8 ⊢
              omega
            refine r_aload_n dX2_leadLines_32 rfl rfl ?_
            refine gf_X2_30 dX2_leadLines_33 (by omega) ((hs_n (by omega)).trans ((hs_n (by omega)).trans ((mx_out (by omega)).trans hq0))) rfl ?_
            refine r_iload_n dX2_leadLines_36 rfl rfl ?_
            refine r_aaload dX2_leadLines_37 (by omega) ((hs_n (by omega)).trans hs_e) (by decide) (by omega) (by omega) (by decide) rfl ?_
            refine r_astore (L2 := [_, _, _, _, _, _]) dX2_leadLines_38 (nlt rfl) rfl ?_
            refine r_aload_n dX2_leadLines_40 rfl rfl ?_
            refine gf_X2_30 dX2_leadLines_41 (by omega) ((hs_n (by omega)).trans ((hs_n (by omega)).trans ((mx_out (by omega)).trans hq0))) rfl ?_
            refine r_iload_n dX2_leadLines_44 rfl rfl ?_
            refine r_aload_n dX2_leadLines_45 rfl rfl ?_
            refine gf_X2_30 dX2_leadLines_46 (by omega) ((hs_n (by omega)).trans ((hs_n (by omega)).trans ((mx_out (by omega)).trans hq0))) rfl ?_
            refine r_iload dX2_leadLines_49 rfl ?_
            refine r_aaload dX2_leadLines_51 (by omega) ((hs_n (by omega)).trans hs_e) (by decide) (by omega) (by omega) (by decide) rfl ?_
            refine r_aastoreA dX2_leadLines_52 (by omega) ((hs_n (by omega)).trans hs_e) (by omega) ⟨_, _, ((hs_n (by omega)).trans ((hs_n (by omega)).trans (mx_in (by omega))))⟩ (by omega) (by omega) (by decide) ?_
            refine g_heap (h2 := (hs (hs (mx h (q + 4) (F1)) (q + 3) (aR 3 40 (uR (pR (q + 4) g1) (lc).toNat (some (q + 4 + g1 ((l : Int)).toNat))))) (q + 44) (aI 40 (ld1)))) (hs_put (by omega) hs_hs) ?_
            refine r_aload_n dX2_leadLines_53 rfl rfl ?_
            refine gf_X2_30 dX2_leadLines_54 (by omega) ((hs_n (by omega)).trans ((hs_n (by omega)).trans ((mx_out (by omega)).trans hq0))) rfl ?_
            refine r_iload dX2_leadLines_57 rfl ?_
            refine r_aload dX2_leadLines_59 rfl ?_
            refine r_aastoreA dX2_leadLines_61 (by omega) ((hs_n (by omega)).trans hs_e) (by omega) ⟨_, _, ((hs_n (by omega)).trans ((hs_n (by omega)).trans (mx_in (by omega))))⟩ (by omega) (by omega) (by decide) ?_
            refine g_heap (h2 := (hs (hs (mx h (q + 4) (F1)) (q + 3) (aR 3 40 (uR (uR (pR (q + 4) g1) (lc).toNat (some (q + 4 + g1 ((l : Int)).toNat))) ((l : Int)).toNat (some (q + 4 + g1 (lc).toNat))))) (q + 44) (aI 40 (ld1)))) (hs_put (by omega) hs_hs) ?_
            rw [eln, elcn, swg_R]
            refine r_aload_n dX2_leadLines_62 rfl rfl ?_
            refine gf_X2_33 dX2_leadLines_63 (by omega) ((hs_n (by omega)).trans ((hs_n (by omega)).trans ((mx_out (by omega)).trans hq0))) rfl ?_
            refine r_iload_n dX2_leadLines_66 rfl rfl ?_
            refine r_iload_n dX2_leadLines_67 rfl rfl ?_
            refine r_iastore dX2_leadLines_68 (by omega) hs_e (by omega) (by omega) (by decide) ?_
            refine g_heap (h2 := (hs (hs (mx h (q + 4) (F1)) (q + 3) (aR 3 40 (pR (q + 4) (swg g1 e l)))) (q + 44) (aI 40 (uA (ld1) (lc).toNat (ci))))) hs_hs ?_
            refine r_aload_n dX2_leadLines_69 rfl rfl ?_
            refine r_aload_n dX2_leadLines_70 rfl rfl ?_
            refine gf_X2_30 dX2_leadLines_71 (by omega) ((hs_n (by omega)).trans ((hs_n (by omega)).trans ((mx_out (by omega)).trans hq0))) rfl ?_
            refine r_iload_n dX2_leadLines_74 rfl rfl ?_
            refine r_aaload dX2_leadLines_75 (by omega) ((hs_n (by omega)).trans hs_e) (by decide) (by omega) (by omega) (by decide) rfl ?_
            refine r_iload_n dX2_leadLines_76 rfl rfl ?_
            refine r_callV (av := [.ref (q + 4 + swg g1 e l (lc).toNat), .int (iZ (ci))]) dX2_leadLines_77 lkX2_scale ml_X2_72 imX2_scale seX2_scale (by omega) (rfl : vwCl[2]? = _) ⟨_, ((hs_n (by omega)).trans ((hs_n (by omega)).trans ((mx_out (by omega)).trans hq0)))⟩ ⟨Nat.le_of_ble_eq_true rfl, Nat.le_of_ble_eq_true rfl⟩ rfl rfl (nle rfl) ⟨Nat.le_of_ble_eq_true rfl, Nat.le_of_ble_eq_true rfl⟩ (c_X2_scale (q := q) (x := q + 4 + swg g1 e l (lc).toNat) (col := cj) (sp := sp) (f := F1 (swg g1 e l (lc).toNat)) ((hs_n (by omega)).trans ((hs_n (by omega)).trans ((mx_out (by omega)).trans hq0))) (by omega) (by omega) (by omega) ((hs_n (by omega)).trans ((hs_n (by omega)).trans (mx_in (by omega)))) eci hsp (by omega) (by omega) hp hf0 hf1 (fun f8 hf8 => ?_))
            refine g_heap (h2 := (hs (hs (mx h (q + 4) (uM (F1) (swg g1 e l (lc).toNat) (f8))) (q + 3) (aR 3 40 (pR (q + 4) (swg g1 e l)))) (q + 44) (aI 40 (uA (ld1) (lc).toNat (ci))))) (hs_put (by omega) (hs_put (by omega) (mx_hs (by omega)))) ?_
            show G _ _ _ _ _ _ _ 80 _ _ _
            have hmat8 : ∀ i, i < 40 → ∀ c, uM F1 (swg g1 e l lc.toNat) f8 (swg g1 e l i) c = scl (swp (fun i c => F1 (g1 i) c) e l) e cj sp (ivf p (F1 (g1 l) cj)) p i c := by
              rw [← swg_F]
              intro i hi c
              unfold scl uM
              rw [elcn]
              by_cases z : i = e
              · subst z
                rw [if_pos rfl, hf8 c]
                have h7 : swg g1 i l i = g1 l := by unfold swg; rw [if_pos rfl]
                rw [elcn, h7]
                by_cases w : cj ≤ c ∧ c ≤ sp
                · rw [if_pos w, if_pos ⟨rfl, w.1, w.2⟩]
                · rw [if_neg w, if_neg (fun y => w y.2)]
              · rw [if_neg (fun w : i = e ∧ cj ≤ c ∧ c ≤ sp => z w.1)]
                rw [if_neg (fun y => z (hgi3 i e hi (by omega) y))]
            have hF8 : ∀ i, i < pl → ∀ c, c ≤ sp → 0 ≤ uM F1 (swg g1 e l lc.toNat) f8 (swg g1 e l i) c ∧ uM F1 (swg g1 e l lc.toNat) f8 (swg g1 e l i) c < p := fun i hi c hc => by
              rw [hmat8 i (by omega) c]
              exact range_scl (by omega) (range_swp (by omega) hlpl hFb) i hi c hc
            refine r_aload_n dX2_leadLines_80 rfl rfl ?_
            refine r_iload_n dX2_leadLines_81 rfl rfl ?_
            refine r_iload_n dX2_leadLines_82 rfl rfl ?_
            refine r_iload_n dX2_leadLines_83 rfl rfl ?_
            refine r_callV (av := [.int (iZ (ci)), .int (iZ (lc)), .int (iZ (pli))]) dX2_leadLines_84 lkX2_clear ml_X2_76 imX2_clear seX2_clear (by omega) (rfl : vwCl[2]? = _) ⟨_, ((hs_n (by omega)).trans ((hs_n (by omega)).trans ((mx_out (by omega)).trans hq0)))⟩ ⟨Nat.le_of_ble_eq_true rfl, Nat.le_of_ble_eq_true rfl⟩ rfl rfl (nle rfl) ⟨Nat.le_of_ble_eq_true rfl, Nat.le_of_ble_eq_true rfl⟩ (c_X2_clear (q := q) (col := cj) (led := e) (pl := pl) (sp := sp) (g := swg g1 e l) (F := uM (F1) (swg g1 e l (lc).toNat) (f8)) ((hs_n (by omega)).trans ((hs_n (by omega)).trans ((mx_out (by omega)).trans hq0))) (by omega) ((hs_n (by omega)).trans hs_e) (fun i9 hi9 => ((hs_n (by omega)).trans ((hs_n (by omega)).trans (mx_in hi9)))) hg3 hgi3 eci elc hpl hsp (by omega) (by omega) (by omega) (by omega) hp2 hp97 hF8 (fun F9 hF9 => ?_))
            refine g_heap (h2 := (hs (hs (mx h (q + 4) (F9)) (q + 3) (aR 3 40 (pR (q + 4) (swg g1 e l)))) (q + 44) (aI 40 (uA (ld1) (lc).toNat (ci))))) ((mx_sw (by omega)).trans (congrArg (fun x9 => hs x9 (q + 44) (aI 40 (uA (ld1) (lc).toNat (ci)))) ((mx_sw (by omega)).trans (congrArg (fun x9 => hs x9 (q + 3) (aR 3 40 (pR (q + 4) (swg g1 e l)))) mx_mx)))) ?_
            show G _ _ _ _ _ _ _ 87 _ _ _
            refine r_iinc (L2 := [_, _, _, _, _, _]) dX2_leadLines_87 (nlt rfl) rfl rfl ?_
            have hE9 : mE pl sp (fun i c => F9 (swg g1 e l i) c) (clr (scl (swp (gss p sp pl A cj).1 e l) e cj sp (ivf p ((gss p sp pl A cj).1 l cj)) p) e cj sp pl p) := by
              refine mE.tr (fun i hi c hc => hF9 i (by omega) c) (mE_clr ?_ (by omega) (by omega))
              rw [← hE l hlpl cj (by omega)]
              exact mE.tr (fun i hi c hc => hmat8 i (by omega) c) (mE_scl (mE_swp hE (by omega) hlpl))
            have hL9 : ∀ r, r < e + 1 → uA ld1 lc.toNat ci r = ((if r = e then cj else (gss p sp pl A cj).2.2 r : Nat) : Int) := fun r hr => by
              rw [elcn]
              by_cases z : r = e
              · rw [z, uA_e, if_pos rfl]; exact eci
              · rw [uA_n z, if_neg z]; exact hL r (by omega)
            have hF9b : ∀ i, i < pl → ∀ c, c ≤ sp → 0 ≤ F9 (swg g1 e l i) c ∧ F9 (swg g1 e l i) c < p := fun i hi c hc => by
              rw [hF9 i (by omega) c]
              exact range_clr (by omega) hF8 i hi c hc
            refine r_iinc (L2 := [_, _, _, _, _, _]) dX2_leadLines_90 (nlt rfl) rfl rfl ?_
            refine r_goto 4 dX2_leadLines_93 (by decide) ?_
            refine r_mask [true, true, true, true, false, false] (L2 := [_, _, _, _, none, none]) rfl ?_
            exact ih4 (F9) ((swg g1 e l)) (uA (ld1) (lc).toNat (ci)) (lc + 1) (ci + 1) ((e + 1)) ((cj + 1)) (by omega) (by omega) (by omega) (by omega) (by rw [hS]) hg3 hgi3 (by rw [hS]; exact hE9) (by rw [hS]; exact hL9) hF9b
  refine g_heap (hs_id (c := aR 3 40 (pR (q + 4) g)) ((mx_out (by omega)).trans hli)).symm ?_
  refine g_heap (hs_id (c := aI 40 (ld)) ((hs_n (by omega)).trans ((mx_out (by omega)).trans hld))).symm ?_
  exact lp4 ((41 : Int) + 1).toNat (F) (g) (ld) (0) (0) (0) (0) (by omega) rfl (by omega) rfl rfl hg hgi hE0 (fun r h8 => absurd h8 (Nat.not_lt_zero r)) hF0
