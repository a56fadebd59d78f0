theorem uM_ea {F : Nat → Nat → Int} {i j : Nat} {f : Nat → Int} (e : j = i) : uM F i f j = f := by rw [e]; exact uM_e
abbrev NUo (q : Nat) (size p span : Int) : ACell := ob 2 [.ref (q + 1), .int (iZ size), .int (iZ p), .int (iZ span), .ref (q + 2), .ref (q + 3), .ref (q + 44), .ref (q + 45)]
set_option maxHeartbeats 2000000 in
set_option maxRecDepth 20000 in
theorem c_X2_append {N : Nat} {h : Hp} {Q : QP} {q sz : Nat} {size p span v : Int} {vs : Nat → Int} (hq0 : h q = NUo q size p span) (hN : q + 47 < N) (hvs : h (q + 1) = aI 40 vs) (hsz : size = (sz : Int)) (hsz2 : sz ≤ 40) (hQ : ∀ (b size2 : Int) (vs2 : Nat → Int), (b = 0 ∧ sz = 40 ∧ size2 = size ∧ vs2 = vs ∨ b = 1 ∧ sz < 40 ∧ size2 = size + 1 ∧ vs2 = uA vs sz v) → Q (some (.int (iZ b))) N (hs (hs h (q + 1) (aI 40 vs2)) q (NUo q size2 p span))) : Runs mX2_append [.ref (q), .int (iZ (v))] N h Q := by
  refine run_start (own := RX2) rfl (by decide) (nle rfl) rfl (fun X hq hini => ?_)
  show G X RX2 cX2_append mX2_append.rm N 0 0 0 [some (.ref (q)), some (.int (iZ (v)))] [] h
  refine r_aload_n dX2_append_0 rfl rfl ?_
  refine gf_X2_15 dX2_append_1 (by omega) hq0 rfl ?_
  refine r_bipush (z := 40) dX2_append_4 (by decide) ?_
  refine r_icmp_lt 11 dX2_append_6 (by decide) ⟨by omega, by omega⟩ ⟨by decide, by decide⟩ (fun c_6 => ?_) (fun c_6 => ?_)
  · refine r_aload_n dX2_append_11 rfl rfl ?_
    refine gf_X2_9 dX2_append_12 (by omega) hq0 rfl ?_
    refine r_aload_n dX2_append_15 rfl rfl ?_
    refine gf_X2_15 dX2_append_16 (by omega) hq0 rfl ?_
    refine r_iload_n dX2_append_19 rfl rfl ?_
    refine r_iastore dX2_append_20 (by omega) hvs (by omega) (by omega) (by decide) ?_
    refine r_aload_n dX2_append_21 rfl rfl ?_
    refine r_dup dX2_append_22 rfl ?_
    refine gf_X2_15 dX2_append_23 (by omega) ((hs_n (by omega)).trans hq0) rfl ?_
    refine r_iconst (z := 1) dX2_append_26 ?_
    refine r_iadd dX2_append_27 ?_
    refine pf_X2_15 (fs2 := [_, _, _, _, _, _, _, _]) dX2_append_28 (fun _ _ => rfl) (fun _ _ => rfl) (nlt rfl) (by omega) ((hs_n (by omega)).trans hq0) rfl ?_
    refine r_iconst (z := 1) dX2_append_31 ?_
    refine r_zreturn hq dX2_append_32 rfl (by decide) rfl rfl ?_
    exact hQ 1 (size + 1) _ (Or.inr ⟨rfl, by omega, rfl, by congr 1; omega⟩)
  · refine r_iconst (z := 0) dX2_append_9 ?_
    refine r_zreturn hq dX2_append_10 rfl (by decide) rfl rfl ?_
    have hfin := hQ 0 size vs (Or.inl ⟨rfl, by omega, rfl, rfl⟩)
    rw [hs_id (a := q + 1) hvs, hs_id hq0] at hfin
    exact hfin
set_option maxHeartbeats 2000000 in
set_option maxRecDepth 20000 in
theorem c_X2_lineWith {N : Nat} {h : Hp} {Q : QP} {q col fr pl : Nat} {size p span coli fri pli : Int} {g : Nat → Nat} {F : Nat → Nat → Int} (hq0 : h q = NUo q size p span) (hN : q + 47 < N) (hli : h (q + 3) = aR 3 40 (pR (q + 4) g)) (hm : ∀ i, i < 40 → h (q + 4 + i) = aI 41 (F i)) (hg : ∀ i, i < 40 → g i < 40) (hcol : coli = (col : Int)) (hfr : fri = (fr : Int)) (hpl : pli = (pl : Int)) (hcol2 : col ≤ 40) (hfp : fr ≤ pl) (hpl2 : pl ≤ 40) (hF : ∀ i, i < pl → rI (F (g i) col)) (hQ : ∀ l : Nat, LW (fun i c => F (g i) c) col fr pl l → Q (some (.int (iZ (l : Int)))) N (mx h (q + 4) F)) : Runs mX2_lineWith [.ref (q), .int (iZ (coli)), .int (iZ (fri)), .int (iZ (pli))] N h Q := by
  have ecol : coli.toNat = col := by omega
  refine run_start (own := RX2) rfl (by decide) (nle rfl) rfl (fun X hq hini => ?_)
  show G X RX2 cX2_lineWith mX2_lineWith.rm N 0 0 0 [some (.ref (q)), some (.int (iZ (coli))), some (.int (iZ (fri))), some (.int (iZ (pli))), none] [] h
  refine g_heap (h2 := (mx h (q + 4) (F))) (mx_id hm).symm ?_
  refine r_iload_n dX2_lineWith_0 rfl rfl ?_
  refine r_istore (L2 := [_, _, _, _, _]) dX2_lineWith_1 (nlt rfl) rfl ?_
  have lp3 : ∀ (fu3 : Nat) (i : Int) (j : Nat), (41 - i) < (fu3 : Int) → (i = (j : Int)) → (fr ≤ j) → (j ≤ pl) → (∀ t, fr ≤ t → t < j → F (g t) col = 0) → G X RX2 cX2_lineWith mX2_lineWith.rm N 0 0 3 [some (.ref (q)), some (.int (iZ (coli))), some (.int (iZ (fri))), some (.int (iZ (pli))), some (.int (iZ (i)))] [] (mx h (q + 4) (F)) := by
    intro fu3
    induction fu3 with
    | zero => intro i j hm ei j0 j1 hz; exfalso; omega
    | succ fu3 ih3 =>
      intro i j hms3 ei j0 j1 hz
      refine r_iload dX2_lineWith_3 rfl ?_
      refine r_iload_n dX2_lineWith_5 rfl rfl ?_
      refine r_icmp_ge 27 dX2_lineWith_6 (by decide) ⟨by omega, by omega⟩ ⟨by omega, by omega⟩ (fun c_6 => ?_) (fun c_6 => ?_)
      · refine r_iload dX2_lineWith_27 rfl ?_
        refine r_ireturn hq dX2_lineWith_29 rfl rfl rfl ?_
        rw [ei]
        exact hQ j ⟨j0, j1, hz, fun w => by omega⟩
      · have ein : i.toNat = j := by omega
        have gj := hg i.toNat (by omega)
        have rj := hF i.toNat (by omega)
        refine r_aload_n dX2_lineWith_9 rfl rfl ?_
        refine gf_X2_30 dX2_lineWith_10 (by omega) ((mx_out (by omega)).trans hq0) rfl ?_
        refine r_iload dX2_lineWith_13 rfl ?_
        refine r_aaload dX2_lineWith_15 (by omega) ((mx_out (by omega)).trans hli) (by decide) (by omega) (by omega) (by decide) rfl ?_
        refine r_iload_n dX2_lineWith_16 rfl rfl ?_
        refine r_iaload dX2_lineWith_17 (by omega) (mx_in (by omega)) (by omega) (by omega) (by decide) ?_
        refine r_if_ne 27 dX2_lineWith_18 (by decide) (by rw [ecol]; exact rj) (fun c_18 => ?_) (fun c_18 => ?_)
        · refine r_iload dX2_lineWith_27 rfl ?_
          refine r_ireturn hq dX2_lineWith_29 rfl rfl rfl ?_
          rw [ei]
          exact hQ j ⟨j0, j1, hz, fun w => by rw [← ein, ← ecol]; exact c_18⟩
        · refine r_iinc (L2 := [_, _, _, _, _]) dX2_lineWith_21 (nlt rfl) rfl rfl ?_
          refine r_goto 3 dX2_lineWith_24 (by decide) ?_
          exact ih3 (i + 1) ((j + 1)) (by omega) (by omega) (by omega) (by omega) (fun t a b => by by_cases z : t = j; (subst z; rw [← ein, ← ecol]; exact c_18); exact hz t a (by omega))
  exact lp3 ((41 : Int) + 1).toNat (fri) (fr) (by omega) hfr (Nat.le_refl _) hfp (fun t a b => by omega)
set_option maxHeartbeats 2000000 in
set_option maxRecDepth 20000 in
theorem c_X2_scale {N : Nat} {h : Hp} {Q : QP} {q x col sp : Nat} {size p span coli : Int} {f : Nat → Int} (hq0 : h q = NUo q size p span) (hN : q + 47 < N) (hx : q + 3 < x) (hx2 : x < q + 44) (hf : h x = aI 41 f) (hcol : coli = (col : Int)) (hsp : span = (sp : Int)) (hcs : col ≤ sp) (hsp2 : sp ≤ 40) (hp : Prm p) (hf0 : 0 < f col) (hfb : ∀ c, c ≤ sp → 0 ≤ f c ∧ f c < p) (hQ : ∀ f2 : Nat → Int, (∀ c, f2 c = if col ≤ c ∧ c ≤ sp then f c * ivf p (f col) % p else f c) → Q none N (hs h x (aI 41 f2))) : Runs mX2_scale [.ref (q), .ref (x), .int (iZ (coli))] N h Q := by
  have hp2 := hp.1
  have hp97 := hp.2.1
  have ecol : coli.toNat = col := by omega
  have fc := hfb col hcs
  rw [← ecol] at fc hf0
  have hgcd := prm_gcd hp hf0 fc.2
  refine run_start (own := RX2) rfl (by decide) (nle rfl) rfl (fun X hq hini => ?_)
  show G X RX2 cX2_scale mX2_scale.rm N 0 0 0 [some (.ref (q)), some (.ref (x)), some (.int (iZ (coli))), none, none] [] h
  refine r_aload_n dX2_scale_0 rfl rfl ?_
  refine r_iload_n dX2_scale_1 rfl rfl ?_
  refine r_iaload dX2_scale_2 (by omega) hf (by omega) (by omega) (by decide) ?_
  refine r_i2l dX2_scale_3 ⟨by omega, by omega⟩ ?_
  refine r_aload_n dX2_scale_4 rfl rfl ?_
  refine gf_X2_19 dX2_scale_5 (by omega) hq0 rfl ?_
  refine r_callSN (av := [.long (lZ (f (coli).toNat)), .int (iZ (p))]) dX2_scale_8 lkX10_inverse nl_X2_80 stX10_inverse ⟨Nat.le_of_ble_eq_true rfl, Nat.le_of_ble_eq_true rfl⟩ rfl rfl (nle rfl) ⟨Nat.le_of_ble_eq_true rfl, Nat.le_of_ble_eq_true rfl⟩ (c_X10_inverse (a := f (coli).toNat) (m := p) (by omega) (by omega) hgcd (fun x8 hx8 => ?_))
  show G _ _ _ _ _ _ _ 11 _ _ _
  have hiv := ivf_of hx8
  have x8a := hx8.1
  have x8b := hx8.2.1
  refine r_istore_n (L2 := [_, _, _, _, none]) dX2_scale_11 rfl (nlt rfl) rfl ?_
  refine r_iload_n dX2_scale_12 rfl rfl ?_
  refine r_istore (L2 := [_, _, _, _, _]) dX2_scale_13 (nlt rfl) rfl ?_
  have lp15 : ∀ (fu15 : Nat) (f1 : Nat → Int) (i : Int) (j : Nat), (42 - i) < (fu15 : Int) → (i = (j : Int)) → (j ≤ sp + 1) → (col ≤ j) → (∀ c, f1 c = if col ≤ c ∧ c < j then f c * x8 % p else f c) → G X RX2 cX2_scale mX2_scale.rm N 0 0 15 [some (.ref (q)), some (.ref (x)), some (.int (iZ (coli))), some (.int (iZ (x8))), some (.int (iZ (i)))] [] (hs h (x) (aI 41 (f1))) := by
    intro fu15
    induction fu15 with
    | zero => intro f1 i j hm ei j1 j0 hf1; exfalso; omega
    | succ fu15 ih15 =>
      intro f1 i j hms15 ei j1 j0 hf1
      refine r_iload dX2_scale_15 rfl ?_
      refine r_aload_n dX2_scale_17 rfl rfl ?_
      refine gf_X2_22 dX2_scale_18 (by omega) ((hs_n (by omega)).trans hq0) rfl ?_
      refine r_icmp_gt 45 dX2_scale_21 (by decide) ⟨by omega, by omega⟩ ⟨by omega, by omega⟩ (fun c_21 => ?_) (fun c_21 => ?_)
      · refine r_return hq dX2_scale_45 rfl rfl rfl ?_
        refine hQ f1 (fun c => ?_)
        have j9 : j = sp + 1 := by omega
        rw [hf1 c, j9, ← ecol, hiv]
        by_cases w : coli.toNat ≤ c ∧ c ≤ sp
        · rw [if_pos w, if_pos ⟨w.1, by omega⟩]
        · rw [if_neg w, if_neg (by omega)]
      · have ein : i.toNat = j := by omega
        refine r_aload_n dX2_scale_24 rfl rfl ?_
        refine r_iload dX2_scale_25 rfl ?_
        refine r_aload_n dX2_scale_27 rfl rfl ?_
        refine r_iload dX2_scale_28 rfl ?_
        refine r_iaload dX2_scale_30 (by omega) hs_e (by omega) (by omega) (by decide) ?_
        refine r_iload_n dX2_scale_31 rfl rfl ?_
        have hfj : f1 j = f j := by rw [hf1 j, if_neg (by omega)]
        have fjb := hfb j (by omega)
        rw [← hfj, ← ein] at fjb
        have m32 := mulb (A := 97) (B := 97) (a := f1 i.toNat) (b := x8) (C := 9409) (by omega) (by omega) (by omega) (by omega) (by decide)
        have m33 := Int.mul_nonneg fjb.1 x8a
        refine r_imul dX2_scale_32 ?_
        refine r_aload_n dX2_scale_33 rfl rfl ?_
        refine gf_X2_19 dX2_scale_34 (by omega) ((hs_n (by omega)).trans hq0) rfl ?_
        refine r_iremp dX2_scale_37 ⟨by omega, by omega⟩ ⟨by omega, by omega⟩ (by omega) (by omega) ?_
        have eb_37 := emod_bd ((f1 (i).toNat) * x8) (show 0 < p by omega)
        refine r_iastore dX2_scale_38 (by omega) hs_e (by omega) (by omega) (by decide) ?_
        refine g_heap (h2 := (hs h (x) (aI 41 (uA (f1) (i).toNat (((f1 (i).toNat) * x8) % p))))) hs_hs ?_
        refine r_iinc (L2 := [_, _, _, _, _]) dX2_scale_39 (nlt rfl) rfl rfl ?_
        refine r_goto 15 dX2_scale_42 (by decide) ?_
        exact ih15 (uA (f1) (i).toNat (((f1 (i).toNat) * x8) % p)) (i + 1) ((j + 1)) (by omega) (by omega) (by omega) (by omega) (fun c => by rw [ein]; by_cases z : c = j; (subst z; rw [uA_e, if_pos ⟨by omega, by omega⟩, hfj]); rw [uA_n z, hf1 c]; by_cases w : col ≤ c ∧ c < j; (rw [if_pos w, if_pos ⟨w.1, by omega⟩]); rw [if_neg w, if_neg (by omega)])
  refine g_heap (hs_id (c := aI 41 (f)) hf).symm ?_
  exact lp15 ((42 : Int) + 1).toNat (f) (coli) (col) (by omega) hcol (by omega) (Nat.le_refl _) (fun c => by rw [if_neg (by omega)])
set_option maxHeartbeats 2000000 in
set_option maxRecDepth 20000 in
theorem c_X2_clear {N : Nat} {h : Hp} {Q : QP} {q col led pl sp : Nat} {size p span coli ledi pli : Int} {g : Nat → Nat} {F : Nat → Nat → Int} (hq0 : h q = NUo q size p span) (hN : q + 47 < N) (hli : h (q + 3) = aR 3 40 (pR (q + 4) g)) (hm : ∀ i, i < 40 → h (q + 4 + i) = aI 41 (F i)) (hg : ∀ i, i < 40 → g i < 40) (hgi : ∀ i j, i < 40 → j < 40 → g i = g j → i = j) (hcol : coli = (col : Int)) (hled : ledi = (led : Int)) (hpl : pli = (pl : Int)) (hspn : span = (sp : Int)) (hcs : col ≤ sp) (hsp2 : sp ≤ 40) (hlp : led < pl) (hpl2 : pl ≤ 40) (hp2 : 2 ≤ p) (hp97 : p ≤ 97) (hF : ∀ i, i < pl → ∀ c, c ≤ sp → 0 ≤ F (g i) c ∧ F (g i) c < p) (hQ : ∀ F2 : Nat → Nat → Int, (∀ i, i < 40 → ∀ c, F2 (g i) c = clr (fun i c => F (g i) c) led col sp pl p i c) → Q none N (mx h (q + 4) F2)) : Runs mX2_clear [.ref (q), .int (iZ (coli)), .int (iZ (ledi)), .int (iZ (pli))] N h Q := by
  have ecol : coli.toNat = col := by omega
  have eled : ledi.toNat = led := by omega
  have gled := hg ledi.toNat (by omega)
  have gled2 : g led < 40 := hg led (by omega)
  refine run_start (own := RX2) rfl (by decide) (nle rfl) rfl (fun X hq hini => ?_)
  show G X RX2 cX2_clear mX2_clear.rm N 0 0 0 [some (.ref (q)), some (.int (iZ (coli))), some (.int (iZ (ledi))), some (.int (iZ (pli))), none, none, none] [] h
  refine g_heap (h2 := (mx h (q + 4) (F))) (mx_id hm).symm ?_
  refine r_iconst (z := 0) dX2_clear_0 ?_
  refine r_istore (L2 := [_, _, _, _, _, none, none]) dX2_clear_1 (nlt rfl) rfl ?_
  have lp3 : ∀ (fu3 : Nat) (F1 : Nat → Nat → Int) (i : Int) (j : Nat), (41 - i) < (fu3 : Int) → (i = (j : Int)) → (j ≤ pl) → (∀ t, t < j → ∀ c, F1 (g t) c = clr (fun i c => F (g i) c) led col sp pl p t c) → (∀ t, j ≤ t → t < 40 → F1 (g t) = F (g t)) → (F1 (g led) = F (g led)) → G X RX2 cX2_clear mX2_clear.rm N 0 0 3 [some (.ref (q)), some (.int (iZ (coli))), some (.int (iZ (ledi))), some (.int (iZ (pli))), some (.int (iZ (i))), none, none] [] (mx h (q + 4) (F1)) := by
    intro fu3
    induction fu3 with
    | zero => intro F1 i j hm ei j1 hd hu hl1; exfalso; omega
    | succ fu3 ih3 =>
      intro F1 i j hms3 ei j1 hd hu hl1
      refine r_iload dX2_clear_3 rfl ?_
      refine r_iload_n dX2_clear_5 rfl rfl ?_
      refine r_icmp_ge 98 dX2_clear_6 (by decide) ⟨by omega, by omega⟩ ⟨by omega, by omega⟩ (fun c_6 => ?_) (fun c_6 => ?_)
      · refine r_return hq dX2_clear_98 rfl rfl rfl ?_
        have j9 : j = pl := by omega
        refine hQ F1 (fun t ht c => ?_)
        by_cases w : t < pl
        · exact hd t (by omega) c
        · rw [hu t (by omega) ht]; unfold clr; rw [if_neg (fun z => w z.1)]
      · have ein : i.toNat = j := by omega
        have gj := hg i.toNat (by omega)
        have gne : ∀ t, t < 40 → t ≠ j → g t ≠ g i.toNat := fun t a b z => b (by rw [ein] at z; exact hgi t j a (by omega) z)
        refine r_aload_n dX2_clear_9 rfl rfl ?_
        refine gf_X2_30 dX2_clear_10 (by omega) ((mx_out (by omega)).trans hq0) rfl ?_
        refine r_iload dX2_clear_13 rfl ?_
        refine r_aaload dX2_clear_15 (by omega) ((mx_out (by omega)).trans hli) (by decide) (by omega) (by omega) (by decide) rfl ?_
        refine r_iload_n dX2_clear_16 rfl rfl ?_
        refine r_iaload dX2_clear_17 (by omega) (mx_in (by omega)) (by omega) (by omega) (by decide) ?_
        have ht5 : F1 (g i.toNat) coli.toNat = F (g j) col := by rw [ein, ecol, hu j (Nat.le_refl j) (by omega)]
        have tb := hF j (by omega) col hcs
        rw [← ht5] at tb
        refine r_istore (L2 := [_, _, _, _, _, _, none]) dX2_clear_18 (nlt rfl) rfl ?_
        refine r_iload dX2_clear_20 rfl ?_
        refine r_iload_n dX2_clear_22 rfl rfl ?_
        refine r_icmp_eq 92 dX2_clear_23 (by decide) ⟨by omega, by omega⟩ ⟨by omega, by omega⟩ (fun c_23 => ?_) (fun c_23 => ?_)
        · refine r_iinc (L2 := [_, _, _, _, _, _, none]) dX2_clear_92 (nlt rfl) rfl rfl ?_
          refine r_goto 3 dX2_clear_95 (by decide) ?_
          refine r_mask [true, true, true, true, true, false, false] (L2 := [_, _, _, _, _, none, none]) rfl ?_
          exact ih3 (F1) (i + 1) ((j + 1)) (by omega) (by omega) (by omega) (fun t a c => by by_cases z : t = j; (subst z; rw [hu t (Nat.le_refl t) (by omega)]; unfold clr; rw [if_neg (fun w => w.2.1 (by omega))]); exact hd t (by omega) c) (fun t a b => hu t (by omega) b) hl1
        · refine r_iload dX2_clear_26 rfl ?_
          refine r_if_eq 92 dX2_clear_28 (by decide) ⟨by omega, by omega⟩ (fun c_28 => ?_) (fun c_28 => ?_)
          · have hz0 : F (g j) col = 0 := by rw [← ht5]; exact c_28
            refine r_iinc (L2 := [_, _, _, _, _, _, none]) dX2_clear_92 (nlt rfl) rfl rfl ?_
            refine r_goto 3 dX2_clear_95 (by decide) ?_
            refine r_mask [true, true, true, true, true, false, false] (L2 := [_, _, _, _, _, none, none]) rfl ?_
            exact ih3 (F1) (i + 1) ((j + 1)) (by omega) (by omega) (by omega) (fun t a c => by by_cases z : t = j; (subst z; rw [hu t (Nat.le_refl t) (by omega)]; unfold clr; rw [if_neg (fun w => w.2.2.1 hz0)]); exact hd t (by omega) c) (fun t a b => hu t (by omega) b) hl1
          · have hnl : led ≠ j := fun z => c_23 (by omega)
            have hnz : F (g j) col ≠ 0 := by rw [← ht5]; exact c_28
            refine r_iload_n dX2_clear_31 rfl rfl ?_
            refine r_istore (L2 := [_, _, _, _, _, _, _]) dX2_clear_32 (nlt rfl) rfl ?_
            refine g_heap (h2 := (mx h (q + 4) (uM (F1) (g (i).toNat) (F1 (g (i).toNat))))) (congrArg (mx h (q + 4)) (uM_id (F := F1) (i := g (i).toNat)).symm) ?_
            have lp34 : ∀ (fu34 : Nat) (f1 : Nat → Int) (u : Int) (v : Nat), (42 - u) < (fu34 : Int) → (u = (v : Int)) → (v ≤ sp + 1) → (col ≤ v) → (∀ c, f1 c = if col ≤ c ∧ c < v then (F (g j) c + (p - F (g j) col) * F (g led) c) % p else F (g j) c) → G X RX2 cX2_clear mX2_clear.rm N 0 0 34 [some (.ref (q)), some (.int (iZ (coli))), some (.int (iZ (ledi))), some (.int (iZ (pli))), some (.int (iZ (i))), some (.int (iZ ((F1 (g (i).toNat)) (coli).toNat))), some (.int (iZ (u)))] [] (mx h (q + 4) (uM (F1) (g (i).toNat) (f1))) := by
              intro fu34
              induction fu34 with
              | zero => intro f1 u v hm eu v1 v0 hf1; exfalso; omega
              | succ fu34 ih34 =>
                intro f1 u v hms34 eu v1 v0 hf1
                refine r_iload dX2_clear_34 rfl ?_
                refine r_aload_n dX2_clear_36 rfl rfl ?_
                refine gf_X2_22 dX2_clear_37 (by omega) ((mx_out (by omega)).trans hq0) rfl ?_
                refine r_icmp_gt 92 dX2_clear_40 (by decide) ⟨by omega, by omega⟩ ⟨by omega, by omega⟩ (fun c_40 => ?_) (fun c_40 => ?_)
                · have v9 : v = sp + 1 := by omega
                  have hfin : ∀ c, f1 c = clr (fun i c => F (g i) c) led col sp pl p j c := fun c => by
                    unfold clr
                    rw [hf1 c, v9]
                    by_cases w : col ≤ c ∧ c ≤ sp
                    · rw [if_pos ⟨w.1, by omega⟩, if_pos ⟨by omega, fun z => hnl z.symm, hnz, w.1, w.2⟩]
                    · rw [if_neg (by omega), if_neg (fun z => w z.2.2.2)]
                  refine r_iinc (L2 := [_, _, _, _, _, _, _]) dX2_clear_92 (nlt rfl) rfl rfl ?_
                  refine r_goto 3 dX2_clear_95 (by decide) ?_
                  refine r_mask [true, true, true, true, true, false, false] (L2 := [_, _, _, _, _, none, none]) rfl ?_
                  exact ih3 (uM (F1) (g (i).toNat) (f1)) (i + 1) ((j + 1)) (by omega) (by omega) (by omega) (fun t a c => by by_cases z : t = j; (subst z; rw [uM_ea (by rw [ein]), hfin c]); rw [uM_n (gne t (by omega) (by omega))]; exact hd t (by omega) c) (fun t a b => by rw [uM_n (gne t (by omega) (by omega))]; exact hu t (by omega) b) (by rw [uM_n (gne led (by omega) (by omega))]; exact hl1)
                · have eun : u.toNat = v := by omega
                  refine r_aload_n dX2_clear_43 rfl rfl ?_
                  refine gf_X2_30 dX2_clear_44 (by omega) ((mx_out (by omega)).trans hq0) rfl ?_
                  refine r_iload dX2_clear_47 rfl ?_
                  refine r_aaload dX2_clear_49 (by omega) ((mx_out (by omega)).trans hli) (by decide) (by omega) (by omega) (by decide) rfl ?_
                  refine r_iload dX2_clear_50 rfl ?_
                  refine r_aload_n dX2_clear_52 rfl rfl ?_
                  refine gf_X2_30 dX2_clear_53 (by omega) ((mx_out (by omega)).trans hq0) rfl ?_
                  refine r_iload dX2_clear_56 rfl ?_
                  refine r_aaload dX2_clear_58 (by omega) ((mx_out (by omega)).trans hli) (by decide) (by omega) (by omega) (by decide) rfl ?_
                  refine r_iload dX2_clear_59 rfl ?_
                  have hfv : f1 v = F (g j) v := by rw [hf1 v, if_neg (by omega)]
                  have fvb := hF j (by omega) v (by omega)
                  rw [← hfv, ← eun] at fvb
                  refine r_iaload dX2_clear_61 (by omega) ((mx_in (by omega)).trans (congrArg (aI 41) uM_e)) (by omega) (by omega) (by decide) ?_
                  refine r_aload_n dX2_clear_62 rfl rfl ?_
                  refine gf_X2_19 dX2_clear_63 (by omega) ((mx_out (by omega)).trans hq0) rfl ?_
                  refine r_iload dX2_clear_66 rfl ?_
                  refine r_isub dX2_clear_68 ?_
                  refine r_aload_n dX2_clear_69 rfl rfl ?_
                  refine gf_X2_30 dX2_clear_70 (by omega) ((mx_out (by omega)).trans hq0) rfl ?_
                  refine r_iload_n dX2_clear_73 rfl rfl ?_
                  refine r_aaload dX2_clear_74 (by omega) ((mx_out (by omega)).trans hli) (by decide) (by omega) (by omega) (by decide) rfl ?_
                  refine r_iload dX2_clear_75 rfl ?_
                  refine r_iaload dX2_clear_77 (by omega) (mx_in (by omega)) (by omega) (by omega) (by decide) ?_
                  have hlv0 : uM F1 (g i.toNat) f1 (g ledi.toNat) = F (g led) := by rw [eled, uM_n (gne led (by omega) hnl)]; exact hl1
                  have hlv : uM F1 (g i.toNat) f1 (g ledi.toNat) u.toNat = F (g led) v := by rw [hlv0, eun]
                  have lvb := hF led (by omega) v (by omega)
                  rw [← hlv] at lvb
                  have m78 := mulb (A := 97) (B := 97) (a := p - F1 (g i.toNat) coli.toNat) (b := uM F1 (g i.toNat) f1 (g ledi.toNat) u.toNat) (C := 9409) (by omega) (by omega) (by omega) (by omega) (by decide)
                  have m79 := Int.mul_nonneg (show 0 ≤ p - F1 (g i.toNat) coli.toNat by omega) lvb.1
                  refine r_imul dX2_clear_78 ?_
                  refine r_iadd dX2_clear_79 ?_
                  refine r_aload_n dX2_clear_80 rfl rfl ?_
                  refine gf_X2_19 dX2_clear_81 (by omega) ((mx_out (by omega)).trans hq0) rfl ?_
                  refine r_iremp dX2_clear_84 ⟨by omega, by omega⟩ ⟨by omega, by omega⟩ (by omega) (by omega) ?_
                  have eb_84 := emod_bd ((f1 (u).toNat) + ((p - ((F1 (g (i).toNat)) (coli).toNat)) * (((uM (F1) (g (i).toNat) (f1)) (g (ledi).toNat)) (u).toNat))) (show 0 < p by omega)
                  refine r_iastore dX2_clear_85 (by omega) ((mx_in (by omega)).trans (congrArg (aI 41) uM_e)) (by omega) (by omega) (by decide) ?_
                  refine g_heap (h2 := (mx h (q + 4) (uM (F1) (g (i).toNat) (uA (f1) (u).toNat (((f1 (u).toNat) + ((p - ((F1 (g (i).toNat)) (coli).toNat)) * (((uM (F1) (g (i).toNat) (f1)) (g (ledi).toNat)) (u).toNat))) % p))))) (mx_hs2 (by omega)) ?_
                  refine r_iinc (L2 := [_, _, _, _, _, _, _]) dX2_clear_86 (nlt rfl) rfl rfl ?_
                  refine r_goto 34 dX2_clear_89 (by decide) ?_
                  exact ih34 (uA (f1) (u).toNat (((f1 (u).toNat) + ((p - ((F1 (g (i).toNat)) (coli).toNat)) * (((uM (F1) (g (i).toNat) (f1)) (g (ledi).toNat)) (u).toNat))) % p)) (u + 1) ((v + 1)) (by omega) (by omega) (by omega) (by omega) (fun c => by rw [eun]; by_cases z : c = v; (rw [z, uA_e, if_pos ⟨by omega, by omega⟩, hfv, hlv0, ht5]); rw [uA_n z, hf1 c]; by_cases w : col ≤ c ∧ c < v; (rw [if_pos w, if_pos ⟨w.1, by omega⟩]); rw [if_neg w, if_neg (by omega)])
            exact lp34 ((42 : Int) + 1).toNat (F1 (g (i).toNat)) (coli) (col) (by omega) hcol (by omega) (Nat.le_refl _) (fun c => by rw [if_neg (by omega), ein, hu j (Nat.le_refl j) (by omega)])
  exact lp3 ((41 : Int) + 1).toNat (F) (0) (0) (by omega) rfl (by omega) (fun t a => absurd a (Nat.not_lt_zero t)) (fun t a b => rfl) rfl
set_option maxHeartbeats 2000000 in
set_option maxRecDepth 20000 in
theorem c_X2_leadLines {N : Nat} {h : Hp} {Q : QP} {q pl sp : Nat} {size p span pli : Int} {g : Nat → Nat} {F : Nat → Nat → Int} {ld : Nat → Int} {A : Mat} (hq0 : h q = NUo q size p span) (hN : q + 47 < N) (hli : h (q + 3) = aR 3 40 (pR (q + 4) g)) (hm : ∀ i, i < 40 → h (q + 4 + i) = aI 41 (F i)) (hg : ∀ i, i < 40 → g i < 40) (hgi : ∀ i j, i < 40 → j < 40 → g i = g j → i = j) (hld : h (q + 44) = aI 40 ld) (hpl : pli = (pl : Int)) (hsp : span = (sp : Int)) (hsp2 : sp ≤ 40) (hpl2 : pl ≤ 40) (hp : Prm p) (hE0 : mE pl sp (fun i c => F (g i) c) A) (hF0 : ∀ i, i < pl → ∀ c, c ≤ sp → 0 ≤ F (g i) c ∧ F (g i) c < p) (hQ : ∀ (F2 : Nat → Nat → Int) (g2 : Nat → Nat) (ld2 : Nat → Int), (∀ i, i < 40 → g2 i < 40) → (∀ i j, i < 40 → j < 40 → g2 i = g2 j → i = j) → mE pl sp (fun i c => F2 (g2 i) c) (gss p sp pl A sp).1 → (∀ r, r < (gss p sp pl A sp).2.1 → ld2 r = ((gss p sp pl A sp).2.2 r : Int)) → (∀ i, i < pl → ∀ c, c ≤ sp → 0 ≤ F2 (g2 i) c ∧ F2 (g2 i) c < p) → Q (some (.int (iZ ((gss p sp pl A sp).2.1 : Int)))) N (hs (hs (mx h (q + 4) F2) (q + 3) (aR 3 40 (pR (q + 4) g2))) (q + 44) (aI 40 ld2))) : Runs mX2_leadLines [.ref (q), .int (iZ (pli))] N h Q := by
  have hp2 := hp.1
  have hp97 := hp.2.1
  refine run_start (own := RX2) rfl (by decide) (nle rfl) rfl (fun X hq hini => ?_)
  show G X RX2 cX2_leadLines mX2_leadLines.rm N 0 0 0 [some (.ref (q)), some (.int (iZ (pli))), none, none, none, none] [] h
  refine g_heap (h2 := (mx h (q + 4) (F))) (mx_id hm).symm ?_
  refine r_iconst (z := 0) dX2_leadLines_0 ?_
  refine r_istore_n (L2 := [_, _, _, none, none, none]) dX2_leadLines_1 rfl (nlt rfl) rfl ?_
  refine r_iconst (z := 0) dX2_leadLines_2 ?_
  refine r_istore_n (L2 := [_, _, _, _, none, none]) dX2_leadLines_3 rfl (nlt rfl) rfl ?_
  have lp4 : ∀ (fu4 : Nat) (F1 : Nat → Nat → Int) (g1 : Nat → Nat) (ld1 : Nat → Int) (lc : Int) (ci : Int) (e : Nat) (cj : Nat), (41 - ci) < (fu4 : Int) → (ci = (cj : Int)) → (cj ≤ sp) → (lc = (e : Int)) → (e = (gss p sp pl A cj).2.1) → (∀ i, i < 40 → g1 i < 40) → (∀ i j, i < 40 → j < 40 → g1 i = g1 j → i = j) → (mE pl sp (fun i c => F1 (g1 i) c) (gss p sp pl A cj).1) → (∀ r, r < e → ld1 r = ((gss p sp pl A cj).2.2 r : Int)) → (∀ i, i < pl → ∀ c, c ≤ sp → 0 ≤ F1 (g1 i) c ∧ F1 (g1 i) c < p) → G X RX2 cX2_leadLines mX2_leadLines.rm N 0 0 4 [some (.ref (q)), some (.int (iZ (pli))), some (.int (iZ (lc))), some (.int (iZ (ci))), none, none] [] (hs (hs (mx h (q + 4) (F1)) (q + 3) (aR 3 40 (pR (q + 4) g1))) (q + 44) (aI 40 (ld1))) := by
    intro fu4
    induction fu4 with
    | zero => intro F1 g1 ld1 lc ci e cj hm eci cj1 elc he hg1 hgi1 hE hL hFb; exfalso; omega
    | succ fu4 ih4 =>
      intro F1 g1 ld1 lc ci e cj hms4 eci cj1 elc he hg1 hgi1 hE hL hFb
      have hgl := gss_led (p := p) (span := sp) (places := pl) (A := A) cj
      rw [← he] at hgl
      refine r_iload_n dX2_leadLines_4 rfl rfl ?_
      refine r_aload_n dX2_leadLines_5 rfl rfl ?_
      refine gf_X2_22 dX2_leadLines_6 (by omega) ((hs_n (by omega)).trans ((hs_n (by omega)).trans ((mx_out (by omega)).trans hq0))) rfl ?_
      refine r_icmp_ge 96 dX2_leadLines_9 (by decide) ⟨by omega, by omega⟩ ⟨by omega, by omega⟩ (fun c_9 => ?_) (fun c_9 => ?_)
      · refine r_iload_n dX2_leadLines_96 rfl rfl ?_
        refine r_ireturn hq dX2_leadLines_97 rfl rfl rfl ?_
        have hfn : gss p sp pl A sp = gss p sp pl A cj := by
          have z : cj = sp := (by omega)
          rw [z]
        rw [elc, he, ← hfn]
        rw [← hfn] at hE
        exact hQ F1 g1 ld1 hg1 hgi1 hE (fun r hr => by rw [hfn] at hr ⊢; exact hL r (by rw [he]; exact hr)) hFb
      · refine r_iload_n dX2_leadLines_12 rfl rfl ?_
        refine r_iload_n dX2_leadLines_13 rfl rfl ?_
        refine r_icmp_ge 96 dX2_leadLines_14 (by decide) ⟨by omega, by omega⟩ ⟨by omega, by omega⟩ (fun c_14 => ?_) (fun c_14 => ?_)
        · refine r_iload_n dX2_leadLines_96 rfl rfl ?_
          refine r_ireturn hq dX2_leadLines_97 rfl rfl rfl ?_
          have hfn : gss p sp pl A sp = gss p sp pl A cj := by
            have z := gss_stop (p := p) (span := sp) (places := pl) (A := A) (col := cj) (by omega) (sp - cj)
            have z2 : cj + (sp - cj) = sp := (by omega)
            rw [z2] at z
            exact z
          rw [elc, he, ← hfn]
          rw [← hfn] at hE
          exact hQ F1 g1 ld1 hg1 hgi1 hE (fun r hr => by rw [hfn] at hr ⊢; exact hL r (by rw [he]; exact hr)) hFb
        · refine r_aload_n dX2_leadLines_17 rfl rfl ?_
          refine r_iload_n dX2_leadLines_18 rfl rfl ?_
          refine r_iload_n dX2_leadLines_19 rfl rfl ?_
          refine r_iload_n dX2_leadLines_20 rfl rfl ?_
          refine r_callV (av := [.int (iZ (ci)), .int (iZ (lc)), .int (iZ (pli))]) dX2_leadLines_21 lkX2_lineWith ml_X2_68 imX2_lineWith seX2_lineWith (by omega) (rfl : vwCl[2]? = _) ⟨_, ((hs_n (by omega)).trans ((hs_n (by omega)).trans ((mx_out (by omega)).trans hq0)))⟩ ⟨Nat.le_of_ble_eq_true rfl, Nat.le_of_ble_eq_true rfl⟩ rfl rfl (nle rfl) ⟨Nat.le_of_ble_eq_true rfl, Nat.le_of_ble_eq_true rfl⟩ (c_X2_lineWith (q := q) (col := cj) (fr := e) (pl := pl) (g := g1) (F := F1) ((hs_n (by omega)).trans ((hs_n (by omega)).trans ((mx_out (by omega)).trans hq0))) (by omega) ((hs_n (by omega)).trans hs_e) (fun i9 hi9 => ((hs_n (by omega)).trans ((hs_n (by omega)).trans (mx_in hi9)))) hg1 eci elc hpl (by omega) (by omega) (by omega) (fun i9 hi9 => by have := hFb i9 hi9 cj (by omega); exact ⟨by omega, by omega⟩) (fun l hl => ?_))
          refine g_heap (h2 := (hs (hs (mx h (q + 4) (F1)) (q + 3) (aR 3 40 (pR (q + 4) g1))) (q + 44) (aI 40 (ld1)))) ((mx_sw (by omega)).trans (congrArg (fun x9 => hs x9 (q + 44) (aI 40 (ld1))) ((mx_sw (by omega)).trans (congrArg (fun x9 => hs x9 (q + 3) (aR 3 40 (pR (q + 4) g1))) mx_mx)))) ?_
          show G _ _ _ _ _ _ _ 24 _ _ _
          have hl1 := hl.1
          have hl2 := hl.2.1
          refine r_istore (L2 := [_, _, _, _, _, none]) dX2_leadLines_24 (nlt rfl) rfl ?_
          refine r_iload dX2_leadLines_26 rfl ?_
          refine r_iload_n dX2_leadLines_28 rfl rfl ?_
          refine r_icmp_ge 90 dX2_leadLines_29 (by decide) ⟨by omega, by omega⟩ ⟨by omega, by omega⟩ (fun c_29 => ?_) (fun c_29 => ?_)
          · have hS := gss_s p sp pl A cj
            have hlpl : l = pl := by have := hl.2.1; omega
            have hW : flW (gss p sp pl A cj).1 cj e pl = l := LW.one (fun j hj => (hE j hj cj (by omega)).symm) (flW_LW (by omega)) hl
            rw [gst_no (by rw [← he, hW]; omega)] at hS
            refine r_iinc (L2 := [_, _, _, _, _, none]) dX2_leadLines_90 (nlt rfl) rfl rfl ?_
            refine r_goto 4 dX2_leadLines_93 (by decide) ?_
            refine r_mask [true, true, true, true, false, false] (L2 := [_, _, _, _, none, none]) rfl ?_
            exact ih4 (F1) (g1) (ld1) (lc) (ci + 1) (e) ((cj + 1)) (by omega) (by omega) (by omega) (by omega) (by rw [hS]; exact he) hg1 hgi1 (by rw [hS]; exact hE) (by rw [hS]; exact hL) hFb
          · have hlpl : l < pl := by omega
            have eln : ((l : Int)).toNat = l := rfl
            have elcn : lc.toNat = e := by omega
            have ecin : ci.toNat = cj := by omega
            have gl := hg1 l (by omega)
            have ge := hg1 e (by omega)
            rw [← elcn] at ge
            have gl2 : g1 ((l : Int)).toNat < 40 := gl
            have hg3 := swg_lt (g := g1) (a := e) (b := l) hg1 (by omega) (by omega)
            have hgi3 := swg_in (g := g1) (a := e) (b := l) hgi1 (by omega) (by omega)
            have ge3 := hg3 lc.toNat (by omega)
            have heq3 : F1 (swg g1 e l lc.toNat) = F1 (g1 l) := by rw [elcn]; unfold swg; rw [if_pos rfl]
            have hW : flW (gss p sp pl A cj).1 cj e pl = l := LW.one (fun j hj => (hE j hj cj (by omega)).symm) (flW_LW (by omega)) hl
            have hS := gss_s p sp pl A cj
            rw [gst_yes (by rw [← he, hW]; exact ⟨by omega, hlpl⟩), ← he, hW] at hS
            have hf1 : ∀ c, c ≤ sp → 0 ≤ F1 (swg g1 e l lc.toNat) c ∧ F1 (swg g1 e l lc.toNat) c < p := fun c hc => by rw [heq3]; exact hFb l hlpl c hc
            have hf0 : 0 < F1 (swg g1 e l lc.toNat) cj := by
              have h8 := hf1 cj (by omega)
              have h9 : F1 (g1 l) cj ≠ 0 := hl.2.2.2 hlpl
              rw [heq3] at h8 ⊢
              omega
            refine r_aload_n dX2_leadLines_32 rfl rfl ?_
            refine gf_X2_30 dX2_leadLines_33 (by omega) ((hs_n (by omega)).trans ((hs_n (by omega)).trans ((mx_out (by omega)).trans hq0))) rfl ?_
            refine r_iload_n dX2_leadLines_36 rfl rfl ?_
            refine r_aaload dX2_leadLines_37 (by omega) ((hs_n (by omega)).trans hs_e) (by decide) (by omega) (by omega) (by decide) rfl ?_
            refine r_astore (L2 := [_, _, _, _, _, _]) dX2_leadLines_38 (nlt rfl) rfl ?_
            refine r_aload_n dX2_leadLines_40 rfl rfl ?_
            refine gf_X2_30 dX2_leadLines_41 (by omega) ((hs_n (by omega)).trans ((hs_n (by omega)).trans ((mx_out (by omega)).trans hq0))) rfl ?_
            refine r_iload_n dX2_leadLines_44 rfl rfl ?_
            refine r_aload_n dX2_leadLines_45 rfl rfl ?_
            refine gf_X2_30 dX2_leadLines_46 (by omega) ((hs_n (by omega)).trans ((hs_n (by omega)).trans ((mx_out (by omega)).trans hq0))) rfl ?_
            refine r_iload dX2_leadLines_49 rfl ?_
            refine r_aaload dX2_leadLines_51 (by omega) ((hs_n (by omega)).trans hs_e) (by decide) (by omega) (by omega) (by decide) rfl ?_
            refine r_aastoreA dX2_leadLines_52 (by omega) ((hs_n (by omega)).trans hs_e) (by omega) ⟨_, _, ((hs_n (by omega)).trans ((hs_n (by omega)).trans (mx_in (by omega))))⟩ (by omega) (by omega) (by decide) ?_
            refine g_heap (h2 := (hs (hs (mx h (q + 4) (F1)) (q + 3) (aR 3 40 (uR (pR (q + 4) g1) (lc).toNat (some (q + 4 + g1 ((l : Int)).toNat))))) (q + 44) (aI 40 (ld1)))) (hs_put (by omega) hs_hs) ?_
            refine r_aload_n dX2_leadLines_53 rfl rfl ?_
            refine gf_X2_30 dX2_leadLines_54 (by omega) ((hs_n (by omega)).trans ((hs_n (by omega)).trans ((mx_out (by omega)).trans hq0))) rfl ?_
            refine r_iload dX2_leadLines_57 rfl ?_
            refine r_aload dX2_leadLines_59 rfl ?_
            refine r_aastoreA dX2_leadLines_61 (by omega) ((hs_n (by omega)).trans hs_e) (by omega) ⟨_, _, ((hs_n (by omega)).trans ((hs_n (by omega)).trans (mx_in (by omega))))⟩ (by omega) (by omega) (by decide) ?_
            refine g_heap (h2 := (hs (hs (mx h (q + 4) (F1)) (q + 3) (aR 3 40 (uR (uR (pR (q + 4) g1) (lc).toNat (some (q + 4 + g1 ((l : Int)).toNat))) ((l : Int)).toNat (some (q + 4 + g1 (lc).toNat))))) (q + 44) (aI 40 (ld1)))) (hs_put (by omega) hs_hs) ?_
            rw [eln, elcn, swg_R]
            refine r_aload_n dX2_leadLines_62 rfl rfl ?_
            refine gf_X2_33 dX2_leadLines_63 (by omega) ((hs_n (by omega)).trans ((hs_n (by omega)).trans ((mx_out (by omega)).trans hq0))) rfl ?_
            refine r_iload_n dX2_leadLines_66 rfl rfl ?_
            refine r_iload_n dX2_leadLines_67 rfl rfl ?_
            refine r_iastore dX2_leadLines_68 (by omega) hs_e (by omega) (by omega) (by decide) ?_
            refine g_heap (h2 := (hs (hs (mx h (q + 4) (F1)) (q + 3) (aR 3 40 (pR (q + 4) (swg g1 e l)))) (q + 44) (aI 40 (uA (ld1) (lc).toNat (ci))))) hs_hs ?_
            refine r_aload_n dX2_leadLines_69 rfl rfl ?_
            refine r_aload_n dX2_leadLines_70 rfl rfl ?_
            refine gf_X2_30 dX2_leadLines_71 (by omega) ((hs_n (by omega)).trans ((hs_n (by omega)).trans ((mx_out (by omega)).trans hq0))) rfl ?_
            refine r_iload_n dX2_leadLines_74 rfl rfl ?_
            refine r_aaload dX2_leadLines_75 (by omega) ((hs_n (by omega)).trans hs_e) (by decide) (by omega) (by omega) (by decide) rfl ?_
            refine r_iload_n dX2_leadLines_76 rfl rfl ?_
            refine r_callV (av := [.ref (q + 4 + swg g1 e l (lc).toNat), .int (iZ (ci))]) dX2_leadLines_77 lkX2_scale ml_X2_72 imX2_scale seX2_scale (by omega) (rfl : vwCl[2]? = _) ⟨_, ((hs_n (by omega)).trans ((hs_n (by omega)).trans ((mx_out (by omega)).trans hq0)))⟩ ⟨Nat.le_of_ble_eq_true rfl, Nat.le_of_ble_eq_true rfl⟩ rfl rfl (nle rfl) ⟨Nat.le_of_ble_eq_true rfl, Nat.le_of_ble_eq_true rfl⟩ (c_X2_scale (q := q) (x := q + 4 + swg g1 e l (lc).toNat) (col := cj) (sp := sp) (f := F1 (swg g1 e l (lc).toNat)) ((hs_n (by omega)).trans ((hs_n (by omega)).trans ((mx_out (by omega)).trans hq0))) (by omega) (by omega) (by omega) ((hs_n (by omega)).trans ((hs_n (by omega)).trans (mx_in (by omega)))) eci hsp (by omega) (by omega) hp hf0 hf1 (fun f8 hf8 => ?_))
            refine g_heap (h2 := (hs (hs (mx h (q + 4) (uM (F1) (swg g1 e l (lc).toNat) (f8))) (q + 3) (aR 3 40 (pR (q + 4) (swg g1 e l)))) (q + 44) (aI 40 (uA (ld1) (lc).toNat (ci))))) (hs_put (by omega) (hs_put (by omega) (mx_hs (by omega)))) ?_
            show G _ _ _ _ _ _ _ 80 _ _ _
            have hmat8 : ∀ i, i < 40 → ∀ c, uM F1 (swg g1 e l lc.toNat) f8 (swg g1 e l i) c = scl (swp (fun i c => F1 (g1 i) c) e l) e cj sp (ivf p (F1 (g1 l) cj)) p i c := by
              rw [← swg_F]
              intro i hi c
              unfold scl uM
              rw [elcn]
              by_cases z : i = e
              · subst z
                rw [if_pos rfl, hf8 c]
                have h7 : swg g1 i l i = g1 l := by unfold swg; rw [if_pos rfl]
                rw [elcn, h7]
                by_cases w : cj ≤ c ∧ c ≤ sp
                · rw [if_pos w, if_pos ⟨rfl, w.1, w.2⟩]; show _ = F1 (swg g1 i l i) c * _ % p; rw [h7]
                · rw [if_neg w, if_neg (fun y => w y.2)]; show _ = F1 (swg g1 i l i) c; rw [h7]
              · rw [if_neg (fun w : i = e ∧ cj ≤ c ∧ c ≤ sp => z w.1)]
                rw [if_neg (fun y => z (hgi3 i e hi (by omega) y))]
            have hF8 : ∀ i, i < pl → ∀ c, c ≤ sp → 0 ≤ uM F1 (swg g1 e l lc.toNat) f8 (swg g1 e l i) c ∧ uM F1 (swg g1 e l lc.toNat) f8 (swg g1 e l i) c < p := fun i hi c hc => by
              rw [hmat8 i (by omega) c]
              exact range_scl (by omega) (range_swp (by omega) hlpl hFb) i hi c hc
            refine r_aload_n dX2_leadLines_80 rfl rfl ?_
            refine r_iload_n dX2_leadLines_81 rfl rfl ?_
            refine r_iload_n dX2_leadLines_82 rfl rfl ?_
            refine r_iload_n dX2_leadLines_83 rfl rfl ?_
            refine r_callV (av := [.int (iZ (ci)), .int (iZ (lc)), .int (iZ (pli))]) dX2_leadLines_84 lkX2_clear ml_X2_76 imX2_clear seX2_clear (by omega) (rfl : vwCl[2]? = _) ⟨_, ((hs_n (by omega)).trans ((hs_n (by omega)).trans ((mx_out (by omega)).trans hq0)))⟩ ⟨Nat.le_of_ble_eq_true rfl, Nat.le_of_ble_eq_true rfl⟩ rfl rfl (nle rfl) ⟨Nat.le_of_ble_eq_true rfl, Nat.le_of_ble_eq_true rfl⟩ (c_X2_clear (q := q) (col := cj) (led := e) (pl := pl) (sp := sp) (g := swg g1 e l) (F := uM (F1) (swg g1 e l (lc).toNat) (f8)) ((hs_n (by omega)).trans ((hs_n (by omega)).trans ((mx_out (by omega)).trans hq0))) (by omega) ((hs_n (by omega)).trans hs_e) (fun i9 hi9 => ((hs_n (by omega)).trans ((hs_n (by omega)).trans (mx_in hi9)))) hg3 hgi3 eci elc hpl hsp (by omega) (by omega) (by omega) (by omega) hp2 hp97 hF8 (fun F9 hF9 => ?_))
            refine g_heap (h2 := (hs (hs (mx h (q + 4) (F9)) (q + 3) (aR 3 40 (pR (q + 4) (swg g1 e l)))) (q + 44) (aI 40 (uA (ld1) (lc).toNat (ci))))) ((mx_sw (by omega)).trans (congrArg (fun x9 => hs x9 (q + 44) (aI 40 (uA (ld1) (lc).toNat (ci)))) ((mx_sw (by omega)).trans (congrArg (fun x9 => hs x9 (q + 3) (aR 3 40 (pR (q + 4) (swg g1 e l)))) mx_mx)))) ?_
            show G _ _ _ _ _ _ _ 87 _ _ _
            refine r_iinc (L2 := [_, _, _, _, _, _]) dX2_leadLines_87 (nlt rfl) rfl rfl ?_
            have hE9 : mE pl sp (fun i c => F9 (swg g1 e l i) c) (clr (scl (swp (gss p sp pl A cj).1 e l) e cj sp (ivf p ((gss p sp pl A cj).1 l cj)) p) e cj sp pl p) := by
              refine mE.tr (fun i hi c hc => hF9 i (by omega) c) (mE_clr ?_ (by omega) (by omega))
              rw [← hE l hlpl cj (by omega)]
              exact mE.tr (fun i hi c hc => hmat8 i (by omega) c) (mE_scl (mE_swp hE (by omega) hlpl))
            have hL9 : ∀ r, r < e + 1 → uA ld1 lc.toNat ci r = ((if r = e then cj else (gss p sp pl A cj).2.2 r : Nat) : Int) := fun r hr => by
              rw [elcn]
              by_cases z : r = e
              · rw [z, uA_e, if_pos rfl]; exact eci
              · rw [uA_n z, if_neg z]; exact hL r (by omega)
            have hF9b : ∀ i, i < pl → ∀ c, c ≤ sp → 0 ≤ F9 (swg g1 e l i) c ∧ F9 (swg g1 e l i) c < p := fun i hi c hc => by
              rw [hF9 i (by omega) c]
              exact range_clr (by omega) hF8 i hi c hc
            refine r_iinc (L2 := [_, _, _, _, _, _]) dX2_leadLines_90 (nlt rfl) rfl rfl ?_
            refine r_goto 4 dX2_leadLines_93 (by decide) ?_
            refine r_mask [true, true, true, true, false, false] (L2 := [_, _, _, _, none, none]) rfl ?_
            exact ih4 (F9) ((swg g1 e l)) (uA (ld1) (lc).toNat (ci)) (lc + 1) (ci + 1) ((e + 1)) ((cj + 1)) (by omega) (by omega) (by omega) (by omega) (by rw [hS]) hg3 hgi3 (by rw [hS]; exact hE9) (by rw [hS]; exact hL9) hF9b
  refine g_heap (hs_id (c := aR 3 40 (pR (q + 4) g)) ((mx_out (by omega)).trans hli)).symm ?_
  refine g_heap (hs_id (c := aI 40 (ld)) ((hs_n (by omega)).trans ((mx_out (by omega)).trans hld))).symm ?_
  exact lp4 ((41 : Int) + 1).toNat (F) (g) (ld) (0) (0) (0) (0) (by omega) rfl (by omega) rfl rfl hg hgi hE0 (fun r h8 => absurd h8 (Nat.not_lt_zero r)) hF0
set_option maxHeartbeats 2000000 in
set_option maxRecDepth 20000 in
theorem c_X2_solve {N : Nat} {h : Hp} {Q : QP} {q sp sz : Nat} {size p span : Int} {g : Nat → Nat} {F : Nat → Nat → Int} {ld vs lw : Nat → Int} (hq0 : h q = NUo q size p span) (hN : q + 47 < N) (hli : h (q + 3) = aR 3 40 (pR (q + 4) g)) (hm : ∀ i, i < 40 → h (q + 4 + i) = aI 41 (F i)) (hg : ∀ i, i < 40 → g i < 40) (hgi : ∀ i j, i < 40 → j < 40 → g i = g j → i = j) (hld : h (q + 44) = aI 40 ld) (hlw : h (q + 2) = aI 41 lw) (hvs : h (q + 1) = aI 40 vs) (hsz : size = (sz : Int)) (hsz2 : sz ≤ 40) (hvb : ∀ i, i < sz → 0 ≤ vs i ∧ vs i < p) (hsp : span = (sp : Int)) (hss : sp ≤ sz) (hp : Prm p) (hQ : ∀ (b : Int) (F2 : Nat → Nat → Int) (g2 : Nat → Nat) (ld2 lw2 : Nat → Int), (∀ i, i < 40 → g2 i < 40) → (∀ i j, i < 40 → j < 40 → g2 i = g2 j → i = j) → (b = 1 ∧ SOLb p vs sz sp ∧ LAWR p vs sz sp lw2 ∧ (∀ t, 1 ≤ t → t ≤ sp → 0 ≤ lw2 t ∧ lw2 t < p) ∨ b = 0 ∧ ¬ SOLb p vs sz sp) → Q (some (.int (iZ b))) N (hs (hs (hs (mx h (q + 4) F2) (q + 3) (aR 3 40 (pR (q + 4) g2))) (q + 44) (aI 40 ld2)) (q + 2) (aI 41 lw2))) : Runs mX2_solve [.ref (q)] N h Q := by
  have hp2 := hp.1
  have hp97 := hp.2.1
  have espn : span.toNat = sp := by omega
  refine run_start (own := RX2) rfl (by decide) (nle rfl) rfl (fun X hq hini => ?_)
  show G X RX2 cX2_solve mX2_solve.rm N 0 0 0 [some (.ref (q)), none, none, none] [] h
  refine g_heap (h2 := (mx h (q + 4) (F))) (mx_id hm).symm ?_
  refine r_aload_n dX2_solve_0 rfl rfl ?_
  refine gf_X2_15 dX2_solve_1 (by omega) ((mx_out (by omega)).trans hq0) rfl ?_
  refine r_aload_n dX2_solve_4 rfl rfl ?_
  refine gf_X2_22 dX2_solve_5 (by omega) ((mx_out (by omega)).trans hq0) rfl ?_
  refine r_isub dX2_solve_8 ?_
  refine r_istore_n (L2 := [_, _, none, none]) dX2_solve_9 rfl (nlt rfl) rfl ?_
  refine r_iconst (z := 0) dX2_solve_10 ?_
  refine r_istore_n (L2 := [_, _, _, none]) dX2_solve_11 rfl (nlt rfl) rfl ?_
  have lp12 : ∀ (fu12 : Nat) (F1 : Nat → Nat → Int) (i : Int) (j : Nat), (41 - i) < (fu12 : Int) → (i = (j : Int)) → (j ≤ sz - sp) → (∀ t, t < j → ∀ c, c ≤ sp → F1 (g t) c = vs (t + c)) → G X RX2 cX2_solve mX2_solve.rm N 0 0 12 [some (.ref (q)), some (.int (iZ (size - span))), some (.int (iZ (i))), none] [] (mx h (q + 4) (F1)) := by
    intro fu12
    induction fu12 with
    | zero => intro F1 i j hm ei j1 hr1; exfalso; omega
    | succ fu12 ih12 =>
      intro F1 i j hms12 ei j1 hr1
      refine r_iload_n dX2_solve_12 rfl rfl ?_
      refine r_iload_n dX2_solve_13 rfl rfl ?_
      refine r_icmp_ge 44 dX2_solve_14 (by decide) ⟨by omega, by omega⟩ ⟨by omega, by omega⟩ (fun c_14 => ?_) (fun c_14 => ?_)
      · have j9 : j = sz - sp := by omega
        subst j9
        have hrows := hr1
        refine r_aload_n dX2_solve_44 rfl rfl ?_
        refine r_iload_n dX2_solve_45 rfl rfl ?_
        refine r_callV (av := [.int (iZ (size - span))]) dX2_solve_46 lkX2_leadLines ml_X2_64 imX2_leadLines seX2_leadLines (by omega) (rfl : vwCl[2]? = _) ⟨_, ((mx_out (by omega)).trans hq0)⟩ ⟨Nat.le_of_ble_eq_true rfl, Nat.le_of_ble_eq_true rfl⟩ rfl rfl (nle rfl) ⟨Nat.le_of_ble_eq_true rfl, Nat.le_of_ble_eq_true rfl⟩ (c_X2_leadLines (q := q) (pl := sz - sp) (sp := sp) (g := g) (F := F1) (ld := ld) (A := fun i c => vs (i + c)) ((mx_out (by omega)).trans hq0) (by omega) ((mx_out (by omega)).trans hli) (fun i9 hi9 => (mx_in hi9)) hg hgi ((mx_out (by omega)).trans hld) (by omega) hsp (by omega) (by omega) hp (fun i hi c hc => hrows i (by omega) c hc) (fun i hi c hc => by rw [hrows i (by omega) c hc]; exact hvb (i + c) (by omega)) (fun F2 g2 ld2 hg2 hgi2 hE2 hL2 hb2 => ?_))
        refine g_heap (h2 := (hs (hs (mx h (q + 4) (F2)) (q + 3) (aR 3 40 (pR (q + 4) g2))) (q + 44) (aI 40 (ld2)))) ((congrArg (fun x9 => hs x9 (q + 44) (aI 40 (ld2))) ((congrArg (fun x9 => hs x9 (q + 3) (aR 3 40 (pR (q + 4) g2))) mx_mx).trans rfl)).trans rfl) ?_
        show G _ _ _ _ _ _ _ 49 _ _ _
        have hgl := gss_led (p := p) (span := sp) (places := sz - sp) (A := fun i c => vs (i + c)) sp
        have hgd := gss_ld (p := p) (span := sp) (places := sz - sp) (A := fun i c => vs (i + c)) sp
        refine r_istore_n (L2 := [_, _, _, none]) dX2_solve_49 rfl (nlt rfl) rfl ?_
        refine r_iload_n dX2_solve_50 rfl rfl ?_
        refine r_istore_n (L2 := [_, _, _, _]) dX2_solve_51 rfl (nlt rfl) rfl ?_
        have lp52 : ∀ (fu52 : Nat) (i : Int) (j : Nat), (41 - i) < (fu52 : Int) → (i = (j : Int)) → ((gss p sp (sz - sp) (fun i c => vs (i + c)) sp).2.1 ≤ j) → (j ≤ sz - sp) → (∀ t, (gss p sp (sz - sp) (fun i c => vs (i + c)) sp).2.1 ≤ t → t < j → (gss p sp (sz - sp) (fun i c => vs (i + c)) sp).1 t sp = 0) → G X RX2 cX2_solve mX2_solve.rm N 0 0 52 [some (.ref (q)), some (.int (iZ (size - span))), some (.int (iZ (((gss p sp (sz - sp) (fun i c => vs (i + c)) sp).2.1 : Int)))), some (.int (iZ (i)))] [] (hs (hs (mx h (q + 4) (F2)) (q + 3) (aR 3 40 (pR (q + 4) g2))) (q + 44) (aI 40 (ld2))) := by
          intro fu52
          induction fu52 with
          | zero => intro i j hm ei j0 j1 hz; exfalso; omega
          | succ fu52 ih52 =>
            intro i j hms52 ei j0 j1 hz
            refine r_iload_n dX2_solve_52 rfl rfl ?_
            refine r_iload_n dX2_solve_53 rfl rfl ?_
            refine r_icmp_ge 79 dX2_solve_54 (by decide) ⟨by omega, by omega⟩ ⟨by omega, by omega⟩ (fun c_54 => ?_) (fun c_54 => ?_)
            · refine r_iconst (z := 1) dX2_solve_79 ?_
              refine r_istore_n (L2 := [_, _, _, _]) dX2_solve_80 rfl (nlt rfl) rfl ?_
              have hsol : SOLb p vs sz sp := fun r h8 h9 => hz r h8 (by omega)
              have lp81 : ∀ (fu81 : Nat) (l1 : Nat → Int) (i : Int) (j : Nat), (42 - i) < (fu81 : Int) → (i = (j : Int)) → (1 ≤ j) → (j ≤ sp + 1) → (∀ t, 1 ≤ t → t < j → l1 t = 0) → G X RX2 cX2_solve mX2_solve.rm N 0 0 81 [some (.ref (q)), some (.int (iZ (size - span))), some (.int (iZ (((gss p sp (sz - sp) (fun i c => vs (i + c)) sp).2.1 : Int)))), some (.int (iZ (i)))] [] (hs (hs (hs (mx h (q + 4) (F2)) (q + 3) (aR 3 40 (pR (q + 4) g2))) (q + 44) (aI 40 (ld2))) (q + 2) (aI 41 (l1))) := by
                intro fu81
                induction fu81 with
                | zero => intro l1 i j hm ei j0 j1 hl1; exfalso; omega
                | succ fu81 ih81 =>
                  intro l1 i j hms81 ei j0 j1 hl1
                  refine r_iload_n dX2_solve_81 rfl rfl ?_
                  refine r_aload_n dX2_solve_82 rfl rfl ?_
                  refine gf_X2_22 dX2_solve_83 (by omega) ((hs_n (by omega)).trans ((hs_n (by omega)).trans ((hs_n (by omega)).trans ((mx_out (by omega)).trans hq0)))) rfl ?_
                  refine r_icmp_gt 102 dX2_solve_86 (by decide) ⟨by omega, by omega⟩ ⟨by omega, by omega⟩ (fun c_86 => ?_) (fun c_86 => ?_)
                  · refine r_iconst (z := 0) dX2_solve_102 ?_
                    refine r_istore_n (L2 := [_, _, _, _]) dX2_solve_103 rfl (nlt rfl) rfl ?_
                    have j9 : j = sp + 1 := by omega
                    have lp104 : ∀ (fu104 : Nat) (l2 : Nat → Int) (i : Int) (j : Nat), (41 - i) < (fu104 : Int) → (i = (j : Int)) → (j ≤ (gss p sp (sz - sp) (fun i c => vs (i + c)) sp).2.1) → (∀ t, 1 ≤ t → t ≤ sp → (∀ r, r < j → (gss p sp (sz - sp) (fun i c => vs (i + c)) sp).2.2 r + t = sp → l2 t = (gss p sp (sz - sp) (fun i c => vs (i + c)) sp).1 r sp) ∧ ((∀ r, r < j → (gss p sp (sz - sp) (fun i c => vs (i + c)) sp).2.2 r + t ≠ sp) → l2 t = 0)) → (∀ t, 1 ≤ t → t ≤ sp → 0 ≤ l2 t ∧ l2 t < p) → G X RX2 cX2_solve mX2_solve.rm N 0 0 104 [some (.ref (q)), some (.int (iZ (size - span))), some (.int (iZ (((gss p sp (sz - sp) (fun i c => vs (i + c)) sp).2.1 : Int)))), some (.int (iZ (i)))] [] (hs (hs (hs (mx h (q + 4) (F2)) (q + 3) (aR 3 40 (pR (q + 4) g2))) (q + 44) (aI 40 (ld2))) (q + 2) (aI 41 (l2))) := by
                      intro fu104
                      induction fu104 with
                      | zero => intro l2 i j hm ei2 j2 hl2 hlb; exfalso; omega
                      | succ fu104 ih104 =>
                        intro l2 i j hms104 ei2 j2 hl2 hlb
                        refine r_iload_n dX2_solve_104 rfl rfl ?_
                        refine r_iload_n dX2_solve_105 rfl rfl ?_
                        refine r_icmp_ge 142 dX2_solve_106 (by decide) ⟨by omega, by omega⟩ ⟨by omega, by omega⟩ (fun c_106 => ?_) (fun c_106 => ?_)
                        · refine r_iconst (z := 1) dX2_solve_142 ?_
                          refine r_zreturn hq dX2_solve_143 rfl (by decide) rfl rfl ?_
                          have j8 : j = (gss p sp (sz - sp) (fun i c => vs (i + c)) sp).2.1 := by omega
                          rw [j8] at hl2
                          exact hQ 1 F2 g2 ld2 l2 hg2 hgi2 (Or.inl ⟨rfl, hsol, hl2, hlb⟩)
                        · have ein : i.toNat = j := by omega
                          have gj := hg2 i.toNat (by omega)
                          have hEj : F2 (g2 i.toNat) span.toNat = (gss p sp (sz - sp) (fun i c => vs (i + c)) sp).1 j sp := by rw [ein, espn]; exact hE2 j (by omega) sp (by omega)
                          have hLj := hL2 j (by omega)
                          rw [← ein] at hLj
                          have hLb := hgd.1 j (by omega)
                          refine r_aload_n dX2_solve_109 rfl rfl ?_
                          refine gf_X2_25 dX2_solve_110 (by omega) ((hs_n (by omega)).trans ((hs_n (by omega)).trans ((hs_n (by omega)).trans ((mx_out (by omega)).trans hq0)))) rfl ?_
                          refine r_aload_n dX2_solve_113 rfl rfl ?_
                          refine gf_X2_22 dX2_solve_114 (by omega) ((hs_n (by omega)).trans ((hs_n (by omega)).trans ((hs_n (by omega)).trans ((mx_out (by omega)).trans hq0)))) rfl ?_
                          refine r_aload_n dX2_solve_117 rfl rfl ?_
                          refine gf_X2_33 dX2_solve_118 (by omega) ((hs_n (by omega)).trans ((hs_n (by omega)).trans ((hs_n (by omega)).trans ((mx_out (by omega)).trans hq0)))) rfl ?_
                          refine r_iload_n dX2_solve_121 rfl rfl ?_
                          refine r_iaload dX2_solve_122 (by omega) ((hs_n (by omega)).trans hs_e) (by omega) (by omega) (by decide) ?_
                          have exn : (span - ld2 i.toNat).toNat = sp - (gss p sp (sz - sp) (fun i c => vs (i + c)) sp).2.2 j := by rw [hLj, ein]; omega
                          have hLj2 : ld2 i.toNat = ((gss p sp (sz - sp) (fun i c => vs (i + c)) sp).2.2 j : Int) := by rw [hLj, ein]
                          refine r_isub dX2_solve_123 ?_
                          refine r_aload_n dX2_solve_124 rfl rfl ?_
                          refine gf_X2_30 dX2_solve_125 (by omega) ((hs_n (by omega)).trans ((hs_n (by omega)).trans ((hs_n (by omega)).trans ((mx_out (by omega)).trans hq0)))) rfl ?_
                          refine r_iload_n dX2_solve_128 rfl rfl ?_
                          refine r_aaload dX2_solve_129 (by omega) ((hs_n (by omega)).trans ((hs_n (by omega)).trans hs_e)) (by decide) (by omega) (by omega) (by decide) rfl ?_
                          refine r_aload_n dX2_solve_130 rfl rfl ?_
                          refine gf_X2_22 dX2_solve_131 (by omega) ((hs_n (by omega)).trans ((hs_n (by omega)).trans ((hs_n (by omega)).trans ((mx_out (by omega)).trans hq0)))) rfl ?_
                          refine r_iaload dX2_solve_134 (by omega) ((hs_n (by omega)).trans ((hs_n (by omega)).trans ((hs_n (by omega)).trans (mx_in (by omega))))) (by omega) (by omega) (by decide) ?_
                          refine r_iastore dX2_solve_135 (by omega) hs_e (by omega) (by omega) (by decide) ?_
                          refine g_heap (h2 := (hs (hs (hs (mx h (q + 4) (F2)) (q + 3) (aR 3 40 (pR (q + 4) g2))) (q + 44) (aI 40 (ld2))) (q + 2) (aI 41 (uA (l2) (span - (ld2 (i).toNat)).toNat ((F2 (g2 (i).toNat)) (span).toNat))))) hs_hs ?_
                          refine r_iinc (L2 := [_, _, _, _]) dX2_solve_136 (nlt rfl) rfl rfl ?_
                          refine r_goto 104 dX2_solve_139 (by decide) ?_
                          exact ih104 (uA (l2) (span - (ld2 (i).toNat)).toNat ((F2 (g2 (i).toNat)) (span).toNat)) (i + 1) ((j + 1)) (by omega) (by omega) (by omega) (fun t a b => by
                            rw [exn]
                            by_cases z : t = sp - (gss p sp (sz - sp) (fun i c => vs (i + c)) sp).2.2 j
                            · rw [z, uA_e, hEj]
                              refine ⟨fun r hr e => ?_, fun y => absurd (by omega) (y j (by omega))⟩
                              have : r = j := hgd.2 r j (by omega) (by omega) (by omega)
                              rw [this]
                            · rw [uA_n z]
                              refine ⟨fun r hr e => (hl2 t a b).1 r (by by_cases y : r = j; (subst y; omega); omega) e, fun y => (hl2 t a b).2 (fun r hr => y r (by omega))⟩) (fun t a b => by
                            rw [exn]
                            by_cases z : t = sp - (gss p sp (sz - sp) (fun i c => vs (i + c)) sp).2.2 j
                            · rw [z, uA_e]; have := hb2 j (by omega) sp (by omega); rw [← ein] at this; rw [espn]; exact this
                            · rw [uA_n z]; exact hlb t a b)
                    exact lp104 ((41 : Int) + 1).toNat (l1) (0) (0) (by omega) rfl (Nat.zero_le _) (fun t a b => ⟨fun r hr => absurd hr (Nat.not_lt_zero r), fun _ => hl1 t a (by omega)⟩) (fun t a b => by rw [hl1 t a (by omega)]; omega)
                  · have ein : i.toNat = j := by omega
                    refine r_aload_n dX2_solve_89 rfl rfl ?_
                    refine gf_X2_25 dX2_solve_90 (by omega) ((hs_n (by omega)).trans ((hs_n (by omega)).trans ((hs_n (by omega)).trans ((mx_out (by omega)).trans hq0)))) rfl ?_
                    refine r_iload_n dX2_solve_93 rfl rfl ?_
                    refine r_iconst (z := 0) dX2_solve_94 ?_
                    refine r_iastore dX2_solve_95 (by omega) hs_e (by omega) (by omega) (by decide) ?_
                    refine g_heap (h2 := (hs (hs (hs (mx h (q + 4) (F2)) (q + 3) (aR 3 40 (pR (q + 4) g2))) (q + 44) (aI 40 (ld2))) (q + 2) (aI 41 (uA (l1) (i).toNat (0))))) hs_hs ?_
                    refine r_iinc (L2 := [_, _, _, _]) dX2_solve_96 (nlt rfl) rfl rfl ?_
                    refine r_goto 81 dX2_solve_99 (by decide) ?_
                    exact ih81 (uA (l1) (i).toNat (0)) (i + 1) ((j + 1)) (by omega) (by omega) (by omega) (by omega) (fun t a b => by rw [ein]; by_cases z : t = j; (rw [z, uA_e]); rw [uA_n z]; exact hl1 t a (by omega))
              refine g_heap (hs_id (c := aI 41 (lw)) ((hs_n (by omega)).trans ((hs_n (by omega)).trans ((mx_out (by omega)).trans hlw)))).symm ?_
              exact lp81 ((42 : Int) + 1).toNat (lw) (1) (1) (by omega) rfl (Nat.le_refl _) (by omega) (fun t a b => by omega)
            · have ein : i.toNat = j := by omega
              have gj := hg2 i.toNat (by omega)
              have hEj : F2 (g2 i.toNat) span.toNat = (gss p sp (sz - sp) (fun i c => vs (i + c)) sp).1 j sp := by rw [ein, espn]; exact hE2 j (by omega) sp (by omega)
              have hbj := hb2 j (by omega) sp (by omega)
              rw [← ein, ← espn] at hbj
              refine r_aload_n dX2_solve_57 rfl rfl ?_
              refine gf_X2_30 dX2_solve_58 (by omega) ((hs_n (by omega)).trans ((hs_n (by omega)).trans ((mx_out (by omega)).trans hq0))) rfl ?_
              refine r_iload_n dX2_solve_61 rfl rfl ?_
              refine r_aaload dX2_solve_62 (by omega) ((hs_n (by omega)).trans hs_e) (by decide) (by omega) (by omega) (by decide) rfl ?_
              refine r_aload_n dX2_solve_63 rfl rfl ?_
              refine gf_X2_22 dX2_solve_64 (by omega) ((hs_n (by omega)).trans ((hs_n (by omega)).trans ((mx_out (by omega)).trans hq0))) rfl ?_
              refine r_iaload dX2_solve_67 (by omega) ((hs_n (by omega)).trans ((hs_n (by omega)).trans (mx_in (by omega)))) (by omega) (by omega) (by decide) ?_
              refine r_if_eq 73 dX2_solve_68 (by decide) ⟨by omega, by omega⟩ (fun c_68 => ?_) (fun c_68 => ?_)
              · refine r_iinc (L2 := [_, _, _, _]) dX2_solve_73 (nlt rfl) rfl rfl ?_
                refine r_goto 52 dX2_solve_76 (by decide) ?_
                exact ih52 (i + 1) ((j + 1)) (by omega) (by omega) (by omega) (by omega) (fun t a b => by by_cases z : t = j; (rw [z, ← hEj]; exact c_68); exact hz t a (by omega))
              · refine r_iconst (z := 0) dX2_solve_71 ?_
                refine r_zreturn hq dX2_solve_72 rfl (by decide) rfl rfl ?_
                have hfin := hQ 0 F2 g2 ld2 lw hg2 hgi2 (Or.inr ⟨rfl, fun w => c_68 (by rw [hEj]; exact w j j0 (by omega))⟩)
                rw [hs_id (a := q + 2) (c := aI 41 lw) ((hs_n (by omega)).trans ((hs_n (by omega)).trans ((mx_out (by omega)).trans hlw)))] at hfin
                exact hfin
        exact lp52 ((41 : Int) + 1).toNat (((gss p sp (sz - sp) (fun i c => vs (i + c)) sp).2.1 : Int)) ((gss p sp (sz - sp) (fun i c => vs (i + c)) sp).2.1) (by omega) rfl (Nat.le_refl _) hgl.2 (fun t a b => by omega)
      · have ein : i.toNat = j := by omega
        have gj := hg i.toNat (by omega)
        have gne : ∀ t, t < 40 → t ≠ j → g t ≠ g i.toNat := fun t a b z => b (by rw [ein] at z; exact hgi t j a (by omega) z)
        refine r_aload_n dX2_solve_17 rfl rfl ?_
        refine gf_X2_9 dX2_solve_18 (by omega) ((mx_out (by omega)).trans hq0) rfl ?_
        refine r_iload_n dX2_solve_21 rfl rfl ?_
        refine r_aload_n dX2_solve_22 rfl rfl ?_
        refine gf_X2_30 dX2_solve_23 (by omega) ((mx_out (by omega)).trans hq0) rfl ?_
        refine r_iload_n dX2_solve_26 rfl rfl ?_
        refine r_aaload dX2_solve_27 (by omega) ((mx_out (by omega)).trans hli) (by decide) (by omega) (by omega) (by decide) rfl ?_
        refine r_iconst (z := 0) dX2_solve_28 ?_
        refine r_aload_n dX2_solve_29 rfl rfl ?_
        refine gf_X2_22 dX2_solve_30 (by omega) ((mx_out (by omega)).trans hq0) rfl ?_
        refine r_iconst (z := 1) dX2_solve_33 ?_
        refine r_iadd dX2_solve_34 ?_
        refine r_copyI dX2_solve_35 ml_X2_58 jna_copy jst_copy jin_System (by omega) (by omega) ((mx_out (by omega)).trans hvs) (mx_in (by omega)) (by omega) (by omega) (by omega) (by omega) (by omega) (by decide) (by decide) ⟨by decide, by decide⟩ (nle rfl) ?_
        refine g_heap (h2 := (mx h (q + 4) (uM (F1) (g (i).toNat) (cpy (vs) (F1 (g (i).toNat)) (i : Int).toNat (0 : Int).toNat (span + 1 : Int).toNat)))) (mx_hs (by omega)) ?_
        refine r_iinc (L2 := [_, _, _, none]) dX2_solve_38 (nlt rfl) rfl rfl ?_
        refine r_goto 12 dX2_solve_41 (by decide) ?_
        exact ih12 (uM (F1) (g (i).toNat) (cpy (vs) (F1 (g (i).toNat)) (i : Int).toNat (0 : Int).toNat (span + 1 : Int).toNat)) (i + 1) ((j + 1)) (by omega) (by omega) (by omega) (fun t a c hc => by by_cases z : t = j; (rw [z, ← ein, uM_e]; unfold cpy; rw [if_pos ⟨Nat.zero_le _, by omega⟩, ein]; congr 1); rw [uM_n (gne t (by omega) z)]; exact hr1 t (by omega) c hc)
  exact lp12 ((41 : Int) + 1).toNat (F) (0) (0) (by omega) rfl (by omega) (fun t a => absurd a (Nat.not_lt_zero t))
set_option maxHeartbeats 2000000 in
set_option maxRecDepth 20000 in
theorem c_X2_findLeastLaw {N : Nat} {h : Hp} {Q : QP} {q sz : Nat} {size p span : Int} {g : Nat → Nat} {F : Nat → Nat → Int} {ld vs lw : Nat → Int} (hq0 : h q = NUo q size p span) (hN : q + 47 < N) (hli : h (q + 3) = aR 3 40 (pR (q + 4) g)) (hm : ∀ i, i < 40 → h (q + 4 + i) = aI 41 (F i)) (hg : ∀ i, i < 40 → g i < 40) (hgi : ∀ i j, i < 40 → j < 40 → g i = g j → i = j) (hld : h (q + 44) = aI 40 ld) (hlw : h (q + 2) = aI 41 lw) (hvs : h (q + 1) = aI 40 vs) (hsz : size = (sz : Int)) (hsz2 : sz ≤ 40) (hvb : ∀ i, i < sz → 0 ≤ vs i ∧ vs i < p) (hp : Prm p) (hQ : ∀ (sp2 : Nat) (F2 : Nat → Nat → Int) (g2 : Nat → Nat) (ld2 lw2 : Nat → Int), (∀ i, i < 40 → g2 i < 40) → (∀ i j, i < 40 → j < 40 → g2 i = g2 j → i = j) → LEAST p vs sz sp2 → LAWR p vs sz sp2 lw2 → (∀ t, 1 ≤ t → t ≤ sp2 → 0 ≤ lw2 t ∧ lw2 t < p) → Q none N (hs (hs (hs (hs (mx h (q + 4) F2) q (NUo q size p (sp2 : Int))) (q + 3) (aR 3 40 (pR (q + 4) g2))) (q + 44) (aI 40 ld2)) (q + 2) (aI 41 lw2))) : Runs mX2_findLeastLaw [.ref (q)] N h Q := by
  have hp2 := hp.1
  have hp97 := hp.2.1
  refine run_start (own := RX2) rfl (by decide) (nle rfl) rfl (fun X hq hini => ?_)
  show G X RX2 cX2_findLeastLaw mX2_findLeastLaw.rm N 0 0 0 [some (.ref (q))] [] h
  refine g_heap (h2 := (mx h (q + 4) (F))) (mx_id hm).symm ?_
  refine r_aload_n dX2_findLeastLaw_0 rfl rfl ?_
  refine r_iconst (z := 0) dX2_findLeastLaw_1 ?_
  refine pf_X2_22 (fs2 := [_, _, _, _, _, _, _, _]) dX2_findLeastLaw_2 (fun _ _ => rfl) (fun _ _ => rfl) (nlt rfl) (by omega) ((mx_out (by omega)).trans hq0) rfl ?_
  have lp5 : ∀ (fu5 : Nat) (F1 : Nat → Nat → Int) (g1 : Nat → Nat) (ld1 : Nat → Int) (lw1 : Nat → Int) (spi : Int) (sp : Nat), (41 - spi) < (fu5 : Int) → (spi = (sp : Int)) → (sp ≤ sz) → (∀ i, i < 40 → g1 i < 40) → (∀ i j, i < 40 → j < 40 → g1 i = g1 j → i = j) → (∀ t, t < sp → ¬ SOLb p vs sz t) → G X RX2 cX2_findLeastLaw mX2_findLeastLaw.rm N 0 0 5 [some (.ref (q))] [] (hs (hs (hs (hs (mx h (q + 4) (F1)) (q) (ob 2 [.ref (q + 1), .int (iZ (size)), .int (iZ (p)), .int (iZ (spi)), .ref (q + 2), .ref (q + 3), .ref (q + 44), .ref (q + 45)])) (q + 3) (aR 3 40 (pR (q + 4) g1))) (q + 44) (aI 40 (ld1))) (q + 2) (aI 41 (lw1))) := by
    intro fu5
    induction fu5 with
    | zero => intro F1 g1 ld1 lw1 spi sp hm esp sp1 hg1 hgi1 hno; exfalso; omega
    | succ fu5 ih5 =>
      intro F1 g1 ld1 lw1 spi sp hms5 esp sp1 hg1 hgi1 hno
      refine r_aload_n dX2_findLeastLaw_5 rfl rfl ?_
      refine gf_X2_22 dX2_findLeastLaw_6 (by omega) ((hs_n (by omega)).trans ((hs_n (by omega)).trans ((hs_n (by omega)).trans hs_e))) rfl ?_
      refine r_aload_n dX2_findLeastLaw_9 rfl rfl ?_
      refine gf_X2_15 dX2_findLeastLaw_10 (by omega) ((hs_n (by omega)).trans ((hs_n (by omega)).trans ((hs_n (by omega)).trans hs_e))) rfl ?_
      refine r_icmp_ge 36 dX2_findLeastLaw_13 (by decide) ⟨by omega, by omega⟩ ⟨by omega, by omega⟩ (fun c_13 => ?_) (fun c_13 => ?_)
      · refine r_aload_n dX2_findLeastLaw_36 rfl rfl ?_
        refine gf_X2_22 dX2_findLeastLaw_37 (by omega) ((hs_n (by omega)).trans ((hs_n (by omega)).trans ((hs_n (by omega)).trans hs_e))) rfl ?_
        refine r_aload_n dX2_findLeastLaw_40 rfl rfl ?_
        refine gf_X2_15 dX2_findLeastLaw_41 (by omega) ((hs_n (by omega)).trans ((hs_n (by omega)).trans ((hs_n (by omega)).trans hs_e))) rfl ?_
        refine r_icmp_ne 52 dX2_findLeastLaw_44 (by decide) ⟨by omega, by omega⟩ ⟨by omega, by omega⟩ (fun c_44 => ?_) (fun c_44 => ?_)
        · refine r_return hq dX2_findLeastLaw_52 rfl rfl rfl ?_
          rw [esp]
          exfalso; omega
        · refine r_aload_n dX2_findLeastLaw_47 rfl rfl ?_
          refine r_callV (av := []) dX2_findLeastLaw_48 lkX2_solve ml_X2_54 imX2_solve seX2_solve (by omega) (rfl : vwCl[2]? = _) ⟨_, ((hs_n (by omega)).trans ((hs_n (by omega)).trans ((hs_n (by omega)).trans hs_e)))⟩ ⟨Nat.le_of_ble_eq_true rfl, Nat.le_of_ble_eq_true rfl⟩ rfl rfl (nle rfl) ⟨Nat.le_of_ble_eq_true rfl, Nat.le_of_ble_eq_true rfl⟩ (c_X2_solve (q := q) (sp := sp) (sz := sz) (g := g1) (F := F1) (ld := ld1) (vs := vs) (lw := lw1) ((hs_n (by omega)).trans ((hs_n (by omega)).trans ((hs_n (by omega)).trans hs_e))) (by omega) ((hs_n (by omega)).trans ((hs_n (by omega)).trans hs_e)) (fun i9 hi9 => ((hs_n (by omega)).trans ((hs_n (by omega)).trans ((hs_n (by omega)).trans ((hs_n (by omega)).trans (mx_in hi9)))))) hg1 hgi1 ((hs_n (by omega)).trans hs_e) hs_e ((hs_n (by omega)).trans ((hs_n (by omega)).trans ((hs_n (by omega)).trans ((hs_n (by omega)).trans ((mx_out (by omega)).trans hvs))))) hsz hsz2 hvb esp (by omega) hp (fun b48 F48 g48 ld48 lw48 hg48 hgi48 hb48 => ?_))
          refine g_heap (h2 := (hs (hs (hs (hs (mx h (q + 4) (F48)) (q) (ob 2 [.ref (q + 1), .int (iZ (size)), .int (iZ (p)), .int (iZ (spi)), .ref (q + 2), .ref (q + 3), .ref (q + 44), .ref (q + 45)])) (q + 3) (aR 3 40 (pR (q + 4) g48))) (q + 44) (aI 40 (ld48))) (q + 2) (aI 41 (lw48)))) ((congrArg (fun x9 => hs x9 (q + 2) (aI 41 (lw48))) ((congrArg (fun x9 => hs x9 (q + 44) (aI 40 (ld48))) ((congrArg (fun x9 => hs x9 (q + 3) (aR 3 40 (pR (q + 4) g48))) ((mx_sw (by omega)).trans (congrArg (fun x9 => hs x9 (q + 2) (aI 41 (lw1))) ((mx_sw (by omega)).trans (congrArg (fun x9 => hs x9 (q + 44) (aI 40 (ld1))) ((mx_sw (by omega)).trans (congrArg (fun x9 => hs x9 (q + 3) (aR 3 40 (pR (q + 4) g1))) ((mx_sw (by omega)).trans (congrArg (fun x9 => hs x9 (q) (ob 2 [.ref (q + 1), .int (iZ (size)), .int (iZ (p)), .int (iZ (spi)), .ref (q + 2), .ref (q + 3), .ref (q + 44), .ref (q + 45)])) mx_mx))))))))).trans (hs_put (by omega) (hs_put (by omega) hs_hs)))).trans (hs_put (by omega) hs_hs))).trans hs_hs) ?_
          show G _ _ _ _ _ _ _ 51 _ _ _
          refine r_pop dX2_findLeastLaw_51 rfl ?_
          refine r_return hq dX2_findLeastLaw_52 rfl rfl rfl ?_
          rw [esp]
          have e9 : sp = sz := by omega
          rcases hb48 with ⟨_, y1, y2, y3⟩ | ⟨y0, y1⟩
          · exact hQ sp F48 g48 ld48 lw48 hg48 hgi48 ⟨by omega, hno, y1⟩ y2 y3
          · exact absurd (by rw [e9]; exact SOLb_end) y1
      · refine r_aload_n dX2_findLeastLaw_16 rfl rfl ?_
        refine r_callV (av := []) dX2_findLeastLaw_17 lkX2_solve ml_X2_54 imX2_solve seX2_solve (by omega) (rfl : vwCl[2]? = _) ⟨_, ((hs_n (by omega)).trans ((hs_n (by omega)).trans ((hs_n (by omega)).trans hs_e)))⟩ ⟨Nat.le_of_ble_eq_true rfl, Nat.le_of_ble_eq_true rfl⟩ rfl rfl (nle rfl) ⟨Nat.le_of_ble_eq_true rfl, Nat.le_of_ble_eq_true rfl⟩ (c_X2_solve (q := q) (sp := sp) (sz := sz) (g := g1) (F := F1) (ld := ld1) (vs := vs) (lw := lw1) ((hs_n (by omega)).trans ((hs_n (by omega)).trans ((hs_n (by omega)).trans hs_e))) (by omega) ((hs_n (by omega)).trans ((hs_n (by omega)).trans hs_e)) (fun i9 hi9 => ((hs_n (by omega)).trans ((hs_n (by omega)).trans ((hs_n (by omega)).trans ((hs_n (by omega)).trans (mx_in hi9)))))) hg1 hgi1 ((hs_n (by omega)).trans hs_e) hs_e ((hs_n (by omega)).trans ((hs_n (by omega)).trans ((hs_n (by omega)).trans ((hs_n (by omega)).trans ((mx_out (by omega)).trans hvs))))) hsz hsz2 hvb esp (by omega) hp (fun b17 F17 g17 ld17 lw17 hg17 hgi17 hb17 => ?_))
        refine g_heap (h2 := (hs (hs (hs (hs (mx h (q + 4) (F17)) (q) (ob 2 [.ref (q + 1), .int (iZ (size)), .int (iZ (p)), .int (iZ (spi)), .ref (q + 2), .ref (q + 3), .ref (q + 44), .ref (q + 45)])) (q + 3) (aR 3 40 (pR (q + 4) g17))) (q + 44) (aI 40 (ld17))) (q + 2) (aI 41 (lw17)))) ((congrArg (fun x9 => hs x9 (q + 2) (aI 41 (lw17))) ((congrArg (fun x9 => hs x9 (q + 44) (aI 40 (ld17))) ((congrArg (fun x9 => hs x9 (q + 3) (aR 3 40 (pR (q + 4) g17))) ((mx_sw (by omega)).trans (congrArg (fun x9 => hs x9 (q + 2) (aI 41 (lw1))) ((mx_sw (by omega)).trans (congrArg (fun x9 => hs x9 (q + 44) (aI 40 (ld1))) ((mx_sw (by omega)).trans (congrArg (fun x9 => hs x9 (q + 3) (aR 3 40 (pR (q + 4) g1))) ((mx_sw (by omega)).trans (congrArg (fun x9 => hs x9 (q) (ob 2 [.ref (q + 1), .int (iZ (size)), .int (iZ (p)), .int (iZ (spi)), .ref (q + 2), .ref (q + 3), .ref (q + 44), .ref (q + 45)])) mx_mx))))))))).trans (hs_put (by omega) (hs_put (by omega) hs_hs)))).trans (hs_put (by omega) hs_hs))).trans hs_hs) ?_
        show G _ _ _ _ _ _ _ 20 _ _ _
        refine r_if_ne 36 dX2_findLeastLaw_20 (by decide) (by rcases hb17 with ⟨y, _⟩ | ⟨y, _⟩ <;> exact ⟨by omega, by omega⟩) (fun c_20 => ?_) (fun c_20 => ?_)
        · refine r_aload_n dX2_findLeastLaw_36 rfl rfl ?_
          refine gf_X2_22 dX2_findLeastLaw_37 (by omega) ((hs_n (by omega)).trans ((hs_n (by omega)).trans ((hs_n (by omega)).trans hs_e))) rfl ?_
          refine r_aload_n dX2_findLeastLaw_40 rfl rfl ?_
          refine gf_X2_15 dX2_findLeastLaw_41 (by omega) ((hs_n (by omega)).trans ((hs_n (by omega)).trans ((hs_n (by omega)).trans hs_e))) rfl ?_
          refine r_icmp_ne 52 dX2_findLeastLaw_44 (by decide) ⟨by omega, by omega⟩ ⟨by omega, by omega⟩ (fun c_44 => ?_) (fun c_44 => ?_)
          · refine r_return hq dX2_findLeastLaw_52 rfl rfl rfl ?_
            rw [esp]
            have hok : b17 = 1 := by omega
            rcases hb17 with ⟨_, y1, y2, y3⟩ | ⟨y0, _⟩
            · exact hQ sp F17 g17 ld17 lw17 hg17 hgi17 ⟨by omega, hno, y1⟩ y2 y3
            · exfalso; omega
          · refine r_aload_n dX2_findLeastLaw_47 rfl rfl ?_
            refine r_callV (av := []) dX2_findLeastLaw_48 lkX2_solve ml_X2_54 imX2_solve seX2_solve (by omega) (rfl : vwCl[2]? = _) ⟨_, ((hs_n (by omega)).trans ((hs_n (by omega)).trans ((hs_n (by omega)).trans hs_e)))⟩ ⟨Nat.le_of_ble_eq_true rfl, Nat.le_of_ble_eq_true rfl⟩ rfl rfl (nle rfl) ⟨Nat.le_of_ble_eq_true rfl, Nat.le_of_ble_eq_true rfl⟩ (c_X2_solve (q := q) (sp := sp) (sz := sz) (g := g17) (F := F17) (ld := ld17) (vs := vs) (lw := lw17) ((hs_n (by omega)).trans ((hs_n (by omega)).trans ((hs_n (by omega)).trans hs_e))) (by omega) ((hs_n (by omega)).trans ((hs_n (by omega)).trans hs_e)) (fun i9 hi9 => ((hs_n (by omega)).trans ((hs_n (by omega)).trans ((hs_n (by omega)).trans ((hs_n (by omega)).trans (mx_in hi9)))))) hg17 hgi17 ((hs_n (by omega)).trans hs_e) hs_e ((hs_n (by omega)).trans ((hs_n (by omega)).trans ((hs_n (by omega)).trans ((hs_n (by omega)).trans ((mx_out (by omega)).trans hvs))))) hsz hsz2 hvb esp (by omega) hp (fun b48 F48 g48 ld48 lw48 hg48 hgi48 hb48 => ?_))
            refine g_heap (h2 := (hs (hs (hs (hs (mx h (q + 4) (F48)) (q) (ob 2 [.ref (q + 1), .int (iZ (size)), .int (iZ (p)), .int (iZ (spi)), .ref (q + 2), .ref (q + 3), .ref (q + 44), .ref (q + 45)])) (q + 3) (aR 3 40 (pR (q + 4) g48))) (q + 44) (aI 40 (ld48))) (q + 2) (aI 41 (lw48)))) ((congrArg (fun x9 => hs x9 (q + 2) (aI 41 (lw48))) ((congrArg (fun x9 => hs x9 (q + 44) (aI 40 (ld48))) ((congrArg (fun x9 => hs x9 (q + 3) (aR 3 40 (pR (q + 4) g48))) ((mx_sw (by omega)).trans (congrArg (fun x9 => hs x9 (q + 2) (aI 41 (lw17))) ((mx_sw (by omega)).trans (congrArg (fun x9 => hs x9 (q + 44) (aI 40 (ld17))) ((mx_sw (by omega)).trans (congrArg (fun x9 => hs x9 (q + 3) (aR 3 40 (pR (q + 4) g17))) ((mx_sw (by omega)).trans (congrArg (fun x9 => hs x9 (q) (ob 2 [.ref (q + 1), .int (iZ (size)), .int (iZ (p)), .int (iZ (spi)), .ref (q + 2), .ref (q + 3), .ref (q + 44), .ref (q + 45)])) mx_mx))))))))).trans (hs_put (by omega) (hs_put (by omega) hs_hs)))).trans (hs_put (by omega) hs_hs))).trans hs_hs) ?_
            show G _ _ _ _ _ _ _ 51 _ _ _
            refine r_pop dX2_findLeastLaw_51 rfl ?_
            refine r_return hq dX2_findLeastLaw_52 rfl rfl rfl ?_
            rw [esp]
            have e9 : sp = sz := by omega
            rcases hb48 with ⟨_, y1, y2, y3⟩ | ⟨y0, y1⟩
            · exact hQ sp F48 g48 ld48 lw48 hg48 hgi48 ⟨by omega, hno, y1⟩ y2 y3
            · exact absurd (by rw [e9]; exact SOLb_end) y1
        · refine r_aload_n dX2_findLeastLaw_23 rfl rfl ?_
          refine r_dup dX2_findLeastLaw_24 rfl ?_
          refine gf_X2_22 dX2_findLeastLaw_25 (by omega) ((hs_n (by omega)).trans ((hs_n (by omega)).trans ((hs_n (by omega)).trans hs_e))) rfl ?_
          refine r_iconst (z := 1) dX2_findLeastLaw_28 ?_
          refine r_iadd dX2_findLeastLaw_29 ?_
          refine pf_X2_22 (fs2 := [_, _, _, _, _, _, _, _]) dX2_findLeastLaw_30 (fun _ _ => rfl) (fun _ _ => rfl) (nlt rfl) (by omega) ((hs_n (by omega)).trans ((hs_n (by omega)).trans ((hs_n (by omega)).trans hs_e))) rfl ?_
          refine g_heap (h2 := (hs (hs (hs (hs (mx h (q + 4) (F17)) (q) (ob 2 [.ref (q + 1), .int (iZ (size)), .int (iZ (p)), .int (iZ (spi + 1)), .ref (q + 2), .ref (q + 3), .ref (q + 44), .ref (q + 45)])) (q + 3) (aR 3 40 (pR (q + 4) g17))) (q + 44) (aI 40 (ld17))) (q + 2) (aI 41 (lw17)))) (hs_put (by omega) (hs_put (by omega) (hs_put (by omega) hs_hs))) ?_
          refine r_goto 5 dX2_findLeastLaw_33 (by decide) ?_
          exact ih5 (F17) (g17) (ld17) (lw17) (spi + 1) ((sp + 1)) (by omega) (by omega) (by omega) hg17 hgi17 (fun t a => by by_cases z : t = sp; (rw [z]; rcases hb17 with ⟨y, _⟩ | ⟨_, y⟩; (exfalso; omega); exact y); exact hno t (by omega))
  refine g_heap (hs_id (c := aR 3 40 (pR (q + 4) g)) ((hs_n (by omega)).trans ((mx_out (by omega)).trans hli))).symm ?_
  refine g_heap (hs_id (c := aI 40 (ld)) ((hs_n (by omega)).trans ((hs_n (by omega)).trans ((mx_out (by omega)).trans hld)))).symm ?_
  refine g_heap (hs_id (c := aI 41 (lw)) ((hs_n (by omega)).trans ((hs_n (by omega)).trans ((hs_n (by omega)).trans ((mx_out (by omega)).trans hlw))))).symm ?_
  exact lp5 ((41 : Int) + 1).toNat (F) (g) (ld) (lw) (0) (0) (by omega) rfl (Nat.zero_le _) hg hgi (fun t a => absurd a (Nat.not_lt_zero t))
set_option maxHeartbeats 2000000 in
set_option maxRecDepth 20000 in
theorem c_X2_carriedOn {N : Nat} {h : Hp} {Q : QP} {q sp sz : Nat} {size p span : Int} {vs lw : Nat → Int} (hq0 : h q = NUo q size p span) (hN : q + 47 < N) (hlw : h (q + 2) = aI 41 lw) (hvs : h (q + 1) = aI 40 vs) (hsz : size = (sz : Int)) (hsz2 : sz ≤ 40) (hvb : ∀ i, i < sz → 0 ≤ vs i ∧ vs i < p) (hp2 : 2 ≤ p) (hp97 : p ≤ 97) (hsp : span = (sp : Int)) (hss : sp ≤ sz) (hlb : ∀ t, 1 ≤ t → t ≤ sp → 0 ≤ lw t ∧ lw t < p) (hQ : Q (some (.int (iZ (sm (fun t => lw (t + 1) * vs (sz - 1 - t)) sp % p)))) N h) : Runs mX2_carriedOn [.ref (q)] N h Q := by
  refine run_start (own := RX2) rfl (by decide) (nle rfl) rfl (fun X hq hini => ?_)
  show G X RX2 cX2_carriedOn mX2_carriedOn.rm N 0 0 0 [some (.ref (q)), none, none] [] h
  refine r_iconst (z := 0) dX2_carriedOn_0 ?_
  refine r_istore_n (L2 := [_, _, none]) dX2_carriedOn_1 rfl (nlt rfl) rfl ?_
  refine r_iconst (z := 1) dX2_carriedOn_2 ?_
  refine r_istore_n (L2 := [_, _, _]) dX2_carriedOn_3 rfl (nlt rfl) rfl ?_
  have lp4 : ∀ (fu4 : Nat) (sum : Int) (i : Int) (j : Nat), (42 - i) < (fu4 : Int) → (i = (j : Int) + 1) → (j ≤ sp) → (sum = sm (fun t => lw (t + 1) * vs (sz - 1 - t)) j) → (0 ≤ sum) → (sum ≤ (j : Int) * 9409) → G X RX2 cX2_carriedOn mX2_carriedOn.rm N 0 0 4 [some (.ref (q)), some (.int (iZ (sum))), some (.int (iZ (i)))] [] h := by
    intro fu4
    induction fu4 with
    | zero => intro sum i j hm ei j1 es s0 s1; exfalso; omega
    | succ fu4 ih4 =>
      intro sum i j hms4 ei j1 es s0 s1
      refine r_iload_n dX2_carriedOn_4 rfl rfl ?_
      refine r_aload_n dX2_carriedOn_5 rfl rfl ?_
      refine gf_X2_22 dX2_carriedOn_6 (by omega) hq0 rfl ?_
      refine r_icmp_gt 39 dX2_carriedOn_9 (by decide) ⟨by omega, by omega⟩ ⟨by omega, by omega⟩ (fun c_9 => ?_) (fun c_9 => ?_)
      · have j9 : j = sp := by omega
        subst j9
        refine r_iload_n dX2_carriedOn_39 rfl rfl ?_
        refine r_aload_n dX2_carriedOn_40 rfl rfl ?_
        refine gf_X2_19 dX2_carriedOn_41 (by omega) hq0 rfl ?_
        refine r_iremp dX2_carriedOn_44 ⟨by omega, by omega⟩ ⟨by omega, by omega⟩ (by omega) (by omega) ?_
        have eb_44 := emod_bd (sum) (show 0 < p by omega)
        refine r_ireturn hq dX2_carriedOn_45 rfl rfl rfl ?_
        rw [es]; exact hQ
      · refine r_iload_n dX2_carriedOn_12 rfl rfl ?_
        refine r_aload_n dX2_carriedOn_13 rfl rfl ?_
        refine gf_X2_25 dX2_carriedOn_14 (by omega) hq0 rfl ?_
        refine r_iload_n dX2_carriedOn_17 rfl rfl ?_
        refine r_iaload dX2_carriedOn_18 (by omega) hlw (by omega) (by omega) (by decide) ?_
        refine r_aload_n dX2_carriedOn_19 rfl rfl ?_
        refine gf_X2_9 dX2_carriedOn_20 (by omega) hq0 rfl ?_
        refine r_aload_n dX2_carriedOn_23 rfl rfl ?_
        refine gf_X2_15 dX2_carriedOn_24 (by omega) hq0 rfl ?_
        refine r_iload_n dX2_carriedOn_27 rfl rfl ?_
        refine r_isub dX2_carriedOn_28 ?_
        refine r_iaload dX2_carriedOn_29 (by omega) hvs (by omega) (by omega) (by decide) ?_
        have e1 : lw i.toNat = lw (j + 1) := by congr 1; omega
        have e2 : vs (size - i).toNat = vs (sz - 1 - j) := by congr 1; omega
        have b1 := hlb (j + 1) (by omega) (by omega)
        have b2 := hvb (sz - 1 - j) (by omega)
        rw [← e1] at b1
        rw [← e2] at b2
        have m30 := mulb (A := 97) (B := 97) (a := lw i.toNat) (b := vs (size - i).toNat) (C := 9409) (by omega) (by omega) (by omega) (by omega) (by decide)
        have m31 := Int.mul_nonneg b1.1 b2.1
        refine r_imul dX2_carriedOn_30 ?_
        refine r_iadd dX2_carriedOn_31 ?_
        refine r_istore_n (L2 := [_, _, _]) dX2_carriedOn_32 rfl (nlt rfl) rfl ?_
        refine r_iinc (L2 := [_, _, _]) dX2_carriedOn_33 (nlt rfl) rfl rfl ?_
        refine r_goto 4 dX2_carriedOn_36 (by decide) ?_
        exact ih4 (sum + ((lw (i).toNat) * (vs (size - i).toNat))) (i + 1) ((j + 1)) (by omega) (by omega) (by omega) (by rw [sm_s, ← es, e1, e2]) (by omega) (by omega)
  exact lp4 ((42 : Int) + 1).toNat (0) (1) (0) (by omega) rfl (Nat.zero_le _) rfl (by decide) (by decide)
def FIRSTB (k : Nat) (c s : Nat → Int) (p : Int) (vs : Nat → Int) (sz : Nat) (z : Int) : Prop := (∃ n : Nat, n < sz ∧ rs k c s p n ≠ vs n ∧ (∀ t, t < n → rs k c s p t = vs t) ∧ z = (n : Int)) ∨ ((∀ t, t < sz → rs k c s p t = vs t) ∧ z = -4)
theorem FIRSTB.one {k : Nat} {c s : Nat → Int} {p : Int} {vs : Nat → Int} {sz : Nat} {z z2 : Int} (h1 : FIRSTB k c s p vs sz z) (h2 : FIRSTB k c s p vs sz z2) : z = z2 := by
  rcases h1 with ⟨n, a1, a2, a3, a4⟩ | ⟨a1, a2⟩ <;> rcases h2 with ⟨n2, b1, b2, b3, b4⟩ | ⟨b1, b2⟩
  · rcases Nat.lt_trichotomy n n2 with q | q | q
    · exact absurd (b3 n q) a2
    · omega
    · exact absurd (a3 n2 q) b2
  · exact absurd (b1 n a1) a2
  · exact absurd (a1 n2 b1) b2
  · omega
set_option maxHeartbeats 2000000 in
set_option maxRecDepth 20000 in
theorem c_X2_brokenBy {N : Nat} {h : Hp} {Q : QP} {q r k sz : Nat} {size p span k9 m9 t9 d9 : Int} {vs lw7 sw c s : Nat → Int} (hq0 : h q = NUo q size p span) (hN : q + 47 < N) (hvs : h (q + 1) = aI 40 vs) (hsz : size = (sz : Int)) (hsz2 : sz ≤ 40) (hvb : ∀ i, i < sz → 0 ≤ vs i ∧ vs i < p) (ho : h (q + 45) = WKo (q + 45) k9 m9 t9 d9) (h1 : h (q + 45 + 1) = aI 7 lw7) (h2 : h (q + 45 + 2) = aI 6 sw) (hp2 : 2 ≤ p) (hp97 : p ≤ 97) (hk0 : 0 < k) (hk : k ≤ 6) (hr : RowAt h r k c s) (hrN : r + 2 < N) (hrw : r + 2 < q ∨ q + 47 < r) (hcb : ∀ j, j < 7 → -100000 ≤ c j ∧ c j ≤ 100000) (hsb : ∀ j, j < 6 → -1000000 ≤ s j ∧ s j ≤ 1000000) (hQ : ∀ (z k8 m8 tp8 cd8 : Int) (lw8 sw8 : Nat → Int), FIRSTB k c s p vs sz z → Q (some (.int (iZ z))) N (hs (hs (hs h (q + 45) (WKo (q + 45) k8 m8 tp8 cd8)) (q + 45 + 1) (aI 7 lw8)) (q + 45 + 2) (aI 6 sw8))) : Runs mX2_brokenBy [.ref (q), .ref (r)] N h Q := by
  have hsin := rs_in (k := k) (c := c) (s := s) (m := p) (by omega)
  refine run_start (own := RX2) rfl (by decide) (nle rfl) rfl (fun X hq hini => ?_)
  show G X RX2 cX2_brokenBy mX2_brokenBy.rm N 0 0 0 [some (.ref (q)), some (.ref (r)), none] [] h
  refine r_aload_n dX2_brokenBy_0 rfl rfl ?_
  refine gf_X2_39 dX2_brokenBy_1 (by omega) hq0 rfl ?_
  refine r_aload_n dX2_brokenBy_4 rfl rfl ?_
  refine r_aload_n dX2_brokenBy_5 rfl rfl ?_
  refine gf_X2_19 dX2_brokenBy_6 (by omega) hq0 rfl ?_
  refine r_callV (av := [.ref (r), .int (iZ (p))]) dX2_brokenBy_9 lkX9_begin ml_X2_43 imX9_begin seX9_begin (by omega) (rfl : vwCl[9]? = _) ⟨_, ho⟩ ⟨Nat.le_of_ble_eq_true rfl, Nat.le_of_ble_eq_true rfl⟩ rfl rfl (nle rfl) ⟨Nat.le_of_ble_eq_true rfl, Nat.le_of_ble_eq_true rfl⟩ (c_X9_begin (w := q + 45) (r := r) (k := k) (m := p) (k9 := k9) (m9 := m9) (t9 := t9) (d9 := d9) (lw := lw7) (sw := sw) (c := c) (s := s) ho h1 h2 (by omega) (by omega) (by omega) (by omega) (by omega) (RowAt.to hr.1 hr.2.1 hr.2.2) (by omega) (by omega) hcb hsb (fun lw9 sw9 hlw9 hsw9 => ?_))
  have hsw9 : ∀ j, j < k → sw9 j = rs k c s p (0 + j) := fun j hj => by rw [Nat.zero_add]; exact hsw9 j hj
  show G _ _ _ _ _ _ _ 12 _ _ _
  refine r_iconst (z := 0) dX2_brokenBy_12 ?_
  refine r_istore_n (L2 := [_, _, _]) dX2_brokenBy_13 rfl (nlt rfl) rfl ?_
  have hlw9 := hlw9
  have lp14 : ∀ (fu14 : Nat) (sw1 : Nat → Int) (i : Int) (n : Nat), (41 - i) < (fu14 : Int) → (i = (n : Int)) → (n ≤ sz) → (∀ j, j < k → sw1 j = rs k c s p (n + j)) → (∀ t, t < n → rs k c s p t = vs t) → G X RX2 cX2_brokenBy mX2_brokenBy.rm N 0 0 14 [some (.ref (q)), some (.ref (r)), some (.int (iZ (i)))] [] (hs (hs (hs h (q + 45) (ob 9 [.ref (q + 45 + 1), .ref (q + 45 + 2), .int (iZ ((k : Int))), .int (iZ (p)), .long (lZ (p ^ (k - 1))), .long (lZ (cdf p (rs k c s p) n k))])) (q + 45 + 1) (aI 7 (lw9))) (q + 45 + 2) (aI 6 (sw1))) := by
    intro fu14
    induction fu14 with
    | zero => intro sw1 i n hm ei n1 hsw heq; exfalso; omega
    | succ fu14 ih14 =>
      intro sw1 i n hms14 ei n1 hsw heq
      have s0 := hsin (n + 0)
      have e0 := hsw 0 hk0
      refine r_iload_n dX2_brokenBy_14 rfl rfl ?_
      refine r_aload_n dX2_brokenBy_15 rfl rfl ?_
      refine gf_X2_15 dX2_brokenBy_16 (by omega) ((hs_n (by omega)).trans ((hs_n (by omega)).trans ((hs_n (by omega)).trans hq0))) rfl ?_
      refine r_icmp_ge 53 dX2_brokenBy_19 (by decide) ⟨by omega, by omega⟩ ⟨by omega, by omega⟩ (fun c_19 => ?_) (fun c_19 => ?_)
      · refine r_bipush (z := -4) dX2_brokenBy_53 (by decide) ?_
        refine r_ireturn hq dX2_brokenBy_55 rfl rfl rfl ?_
        have n9 : n = sz := by omega
        exact hQ _ _ _ _ _ _ _ (Or.inr ⟨by rw [← n9]; exact heq, rfl⟩)
      · refine r_aload_n dX2_brokenBy_22 rfl rfl ?_
        refine gf_X2_39 dX2_brokenBy_23 (by omega) ((hs_n (by omega)).trans ((hs_n (by omega)).trans ((hs_n (by omega)).trans hq0))) rfl ?_
        refine r_callV (av := []) dX2_brokenBy_26 lkX9_here ml_X2_47 imX9_here seX9_here (by omega) (rfl : vwCl[9]? = _) ⟨_, ((hs_n (by omega)).trans ((hs_n (by omega)).trans hs_e))⟩ ⟨Nat.le_of_ble_eq_true rfl, Nat.le_of_ble_eq_true rfl⟩ rfl rfl (nle rfl) ⟨Nat.le_of_ble_eq_true rfl, Nat.le_of_ble_eq_true rfl⟩ (c_X9_here (w := q + 45) ((hs_n (by omega)).trans ((hs_n (by omega)).trans hs_e)) ((hs_n (by omega)).trans hs_e) hs_e (by omega) ?_)
        show G _ _ _ _ _ _ _ 29 _ _ _
        have ein : i.toNat = n := by omega
        have evn : vs i.toNat = vs n := by rw [ein]
        have vb := hvb n (by omega)
        rw [← evn] at vb
        refine r_aload_n dX2_brokenBy_29 rfl rfl ?_
        refine gf_X2_9 dX2_brokenBy_30 (by omega) ((hs_n (by omega)).trans ((hs_n (by omega)).trans ((hs_n (by omega)).trans hq0))) rfl ?_
        refine r_iload_n dX2_brokenBy_33 rfl rfl ?_
        refine r_iaload dX2_brokenBy_34 (by omega) ((hs_n (by omega)).trans ((hs_n (by omega)).trans ((hs_n (by omega)).trans hvs))) (by omega) (by omega) (by decide) ?_
        refine r_icmp_eq 40 dX2_brokenBy_35 (by decide) ⟨by omega, by omega⟩ ⟨by omega, by omega⟩ (fun c_35 => ?_) (fun c_35 => ?_)
        · refine r_aload_n dX2_brokenBy_40 rfl rfl ?_
          refine gf_X2_39 dX2_brokenBy_41 (by omega) ((hs_n (by omega)).trans ((hs_n (by omega)).trans ((hs_n (by omega)).trans hq0))) rfl ?_
          refine r_callV (av := []) dX2_brokenBy_44 lkX9_step ml_X2_51 imX9_step seX9_step (by omega) (rfl : vwCl[9]? = _) ⟨_, ((hs_n (by omega)).trans ((hs_n (by omega)).trans hs_e))⟩ ⟨Nat.le_of_ble_eq_true rfl, Nat.le_of_ble_eq_true rfl⟩ rfl rfl (nle rfl) ⟨Nat.le_of_ble_eq_true rfl, Nat.le_of_ble_eq_true rfl⟩ (c_X9_step (w := q + 45) (k := k) (n := n) (m := p) (lw := lw9) (sw := sw1) (c := c) (s := s) ((hs_n (by omega)).trans ((hs_n (by omega)).trans hs_e)) ((hs_n (by omega)).trans hs_e) hs_e (by omega) (by omega) (by omega) (by omega) (by omega) hlw9 hsw (fun st44 hst44 => ?_))
          refine g_heap (h2 := (hs (hs (hs h (q + 45) (ob 9 [.ref (q + 45 + 1), .ref (q + 45 + 2), .int (iZ ((k : Int))), .int (iZ (p)), .long (lZ (p ^ (k - 1))), .long (lZ (cdf p (rs k c s p) (n + 1) k))])) (q + 45 + 1) (aI 7 (lw9))) (q + 45 + 2) (aI 6 (st44)))) ((congrArg (fun x9 => hs x9 (q + 45) (ob 9 [.ref (q + 45 + 1), .ref (q + 45 + 2), .int (iZ ((k : Int))), .int (iZ (p)), .long (lZ (p ^ (k - 1))), .long (lZ (cdf p (rs k c s p) (n + 1) k))])) hs_hs).trans (hs_put (by omega) (hs_put (by omega) hs_hs))) ?_
          show G _ _ _ _ _ _ _ 47 _ _ _
          refine r_iinc (L2 := [_, _, _]) dX2_brokenBy_47 (nlt rfl) rfl rfl ?_
          refine r_goto 14 dX2_brokenBy_50 (by decide) ?_
          exact ih14 (st44) (i + 1) ((n + 1)) (by omega) (by omega) (by omega) hst44 (fun t a => by by_cases z : t = n; (rw [z, ← evn]; rw [Nat.add_zero] at e0; rw [← e0]; exact c_35); exact heq t (by omega))
        · refine r_iload_n dX2_brokenBy_38 rfl rfl ?_
          refine r_ireturn hq dX2_brokenBy_39 rfl rfl rfl ?_
          exact hQ _ _ _ _ _ _ _ (Or.inl ⟨n, by omega, fun z => c_35 (by rw [e0, evn]; exact z), heq, ei⟩)
  exact lp14 ((41 : Int) + 1).toNat (sw9) (0) (0) (by omega) rfl (Nat.zero_le _) hsw9 (fun t a => absurd a (Nat.not_lt_zero t))
