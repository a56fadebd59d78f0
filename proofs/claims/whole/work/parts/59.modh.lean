set_option maxHeartbeats 8000000 in
set_option maxRecDepth 20000 in
theorem c_X11_makeFold {N : Nat} {h : Hp} {Q : QP} {ln pr nm at_ wr va em ta ro dg : Int} {om ml ms : Nat → Int} {x130 x138 x139 x140 x141 x142 c s : Nat → Int} {r k : Nat} {xi : Int} {d t : Nat → Int} {r2 l : Nat} {yi : Int} {ddi : Int} (hm0 : h 124 = MOo ln pr nm at_ wr va em ta ro dg) (hN : 146 ≤ N) (hom : h 125 = aI 7 om) (hml : h 126 = aL 42 ml) (hms : h 127 = aL 42 ms) (hex : h 130 = aL 2001 x130) (h138 : h 138 = aL 14 x138) (h139 : h 139 = aL 37 x139) (h140 : h 140 = aL 37 x140) (h141 : h 141 = aL 7 x141) (h142 : h 142 = aL 100 x142) (hg : RG om ml ms r k c s) (hri : xi = (r : Int)) (hr6 : r < 6) (hc0 : c 0 = -1) (hgy : RG om ml ms r2 l d t) (hrj : yi = (r2 : Int)) (hr26 : r2 < 6) (hd0 : d 0 = -1) (hQ : ∀ (b : Int) (h2 : Hp), MKR h ln pr nm at_ wr va ta ro dg om ml ms (mOk 3 k l (ddi).toNat c d ∧ sOk 3 (mK 3 k l) (ex k c s) (ex l d t) ddi) (mK 3 k l) (mLaw 3 k l (ddi).toNat c d) (mNum 3 (ex k c s) (ex l d t) ddi) b h2 → Q (some (.int (iZ b))) N h2) : Runs mX11_makeFold [.ref (124), .int (iZ (xi)), .int (iZ (yi))] N h Q := by
  have hw9 : (3 : Int) = 0 ∨ (3 : Int) = 1 ∨ (3 : Int) = 3 := Or.inr (Or.inr rfl)
  rw [mOkP hw9, mKP hw9, mLawP hw9] at hQ
  obtain ⟨hg1, hk1, hk6, hg4, hg5⟩ := id hg
  have ern : xi.toNat = r := by omega
  have eom : om xi.toNat = (k : Int) := by rw [ern]; exact hg1
  obtain ⟨hj1, hl1, hl6, hj4, hj5⟩ := id hgy
  have ern2 : yi.toNat = r2 := by omega
  have eom2 : om yi.toNat = (l : Int) := by rw [ern2]; exact hj1
  have hdb : ∀ j, j ≤ l → -100000 ≤ d j ∧ d j ≤ 100000 := fun j hj => by
    by_cases z : j = 0
    · rw [z, hd0]; decide
    · exact (hj4 j (by omega) hj).2
  have hy1 : 0 ≤ yi → yi ≤ 5 ∧ om yi.toNat = (l : Int) ∧ ∀ j, 1 ≤ j → j ≤ l → ml ((6 * yi) + j - 1).toNat = d j := fun _ => ⟨by omega, eom2, fun j a b => by rw [show ((6 * yi) + (j : Int) - 1).toNat = 6 * r2 + j - 1 by omega]; exact (hj4 j a b).1⟩
  have hlast : mLast 3 (k + l) ddi.toNat = k + l - 1 := mLast_n (by decide) (by decide)
  refine run_start (own := RX11) rfl (by decide) (nle rfl) rfl (fun X hq hini => ?_)
  show G X RX11 cX11_makeFold mX11_makeFold.rm N 0 0 0 [some (.ref (124)), some (.int (iZ (xi))), some (.int (iZ (yi))), none, none, none, none] [] h
  refine r_aload_n dX11_makeFold_0 rfl rfl ?_
  refine r_iload_n dX11_makeFold_1 rfl rfl ?_
  refine r_iload_n dX11_makeFold_2 rfl rfl ?_
  refine r_callV (av := [.int (iZ (xi)), .int (iZ (yi))]) dX11_makeFold_3 lkX11_multiply ml_X11_234 imX11_multiply seX11_multiply (by omega) (rfl : vwCl[11]? = _) ⟨_, hm0⟩ ⟨Nat.le_of_ble_eq_true rfl, Nat.le_of_ble_eq_true rfl⟩ rfl rfl (nle rfl) ⟨Nat.le_of_ble_eq_true rfl, Nat.le_of_ble_eq_true rfl⟩ (c_X11_multiply (c := c) (s := s) (d := d) (l := l) (r := r) (k := k) (po := x138) (om := om) (ml := ml) (ms := ms) (ln := ln) (pr := pr) (nm := nm) (at_ := at_) (wr := wr) (va := va) (em := em) (ta := ta) (ro := ro) (dg := dg) hm0 hN hom hml hms h138 hg hri hr6 hc0 hd0 hl1 hl6 hdb (by omega) (fun w => by omega) hy1 (fun b3 om3 ml3 po3 hM => ?_))
  show G _ _ _ _ _ _ _ 6 _ _ _
  refine r_if_eq 48 dX11_makeFold_6 (by decide) (by rcases hM.2.2 with ⟨y, _⟩ | ⟨y, _⟩ <;> exact ⟨by omega, by omega⟩) (fun c_6 => ?_) (fun c_6 => ?_)
  · refine r_iconst (z := 0) dX11_makeFold_48 ?_
    refine r_zreturn hq dX11_makeFold_49 rfl (by decide) rfl rfl ?_
    refine hQ _ _ ⟨fun a9 h9 => ((hs_n (by omega)).trans ((hs_n (by omega)).trans ((hs_n (by omega)).trans rfl))), _, _, _, _, _, _, _, _, _, _, ((hs_n (by omega)).trans ((hs_n (by omega)).trans ((hs_n (by omega)).trans hm0))), ((hs_n (by omega)).trans hs_e), hs_e, ((hs_n (by omega)).trans ((hs_n (by omega)).trans ((hs_n (by omega)).trans hms))), ((hs_n (by omega)).trans ((hs_n (by omega)).trans ((hs_n (by omega)).trans hex))), ((hs_n (by omega)).trans ((hs_n (by omega)).trans hs_e)), ((hs_n (by omega)).trans ((hs_n (by omega)).trans ((hs_n (by omega)).trans h139))), ((hs_n (by omega)).trans ((hs_n (by omega)).trans ((hs_n (by omega)).trans h140))), ((hs_n (by omega)).trans ((hs_n (by omega)).trans ((hs_n (by omega)).trans h141))), ((hs_n (by omega)).trans ((hs_n (by omega)).trans ((hs_n (by omega)).trans h142))), hM.1, hM.2.1, (fun _ _ => rfl), ?_⟩
    refine Or.inl ⟨rfl, fun w9 => ?_⟩
    rcases hM.2.2 with ⟨_, y⟩ | ⟨y, _⟩
    · exact y w9.1
    · omega
  · obtain ⟨hM0, ⟨hkl, hlaw⟩, eo6, hlw⟩ := hM.2.2.resolve_left (fun w => c_6 w.1)
    have eo6t : om3 (6 : Int).toNat = _ := eo6
    have hgM := hg.low hr6 hM.1 hM.2.1 (fun _ _ => rfl)
    have hgM2 := hgy.low hr26 hM.1 hM.2.1 (fun _ _ => rfl)
    refine r_aload_n dX11_makeFold_9 rfl rfl ?_
    refine r_iload_n dX11_makeFold_10 rfl rfl ?_
    refine r_aload_n dX11_makeFold_11 rfl rfl ?_
    refine gf_X11_7 dX11_makeFold_12 (by omega) ((hs_n (by omega)).trans ((hs_n (by omega)).trans ((hs_n (by omega)).trans hm0))) rfl ?_
    refine r_bipush (z := 6) dX11_makeFold_15 (by decide) ?_
    refine r_iaload dX11_makeFold_17 (by omega) ((hs_n (by omega)).trans hs_e) (by omega) (by omega) (by decide) ?_
    refine r_callV (av := [.int (iZ (xi)), .int (iZ (om3 (6 : Int).toNat))]) dX11_makeFold_18 lkX11_layFirst ml_X11_237 imX11_layFirst seX11_layFirst (by omega) (rfl : vwCl[11]? = _) ⟨_, ((hs_n (by omega)).trans ((hs_n (by omega)).trans ((hs_n (by omega)).trans hm0)))⟩ ⟨Nat.le_of_ble_eq_true rfl, Nat.le_of_ble_eq_true rfl⟩ rfl rfl (nle rfl) ⟨Nat.le_of_ble_eq_true rfl, Nat.le_of_ble_eq_true rfl⟩ (c_X11_layFirst (c := c) (s := s) (r := r) (k := k) (m := (k + l)) (ex0 := x130) (f0 := x142) (om := om3) (ml := ml3) (ms := ms) (ln := ln) (pr := pr) (nm := nm) (at_ := at_) (wr := wr) (va := va) (em := em) (ta := ta) (ro := ro) (dg := dg) ((hs_n (by omega)).trans ((hs_n (by omega)).trans ((hs_n (by omega)).trans hm0))) hN ((hs_n (by omega)).trans hs_e) hs_e ((hs_n (by omega)).trans ((hs_n (by omega)).trans ((hs_n (by omega)).trans hms))) ((hs_n (by omega)).trans ((hs_n (by omega)).trans ((hs_n (by omega)).trans hex))) ((hs_n (by omega)).trans ((hs_n (by omega)).trans ((hs_n (by omega)).trans h142))) hgM (by omega) (by omega) (by omega) (by omega) (by omega) (fun b18 em18 X18 fi18 hb18 => ?_))
    show G _ _ _ _ _ _ _ 21 _ _ _
    refine r_if_eq 48 dX11_makeFold_21 (by decide) ⟨by omega, by omega⟩ (fun c_21 => ?_) (fun c_21 => ?_)
    · refine r_iconst (z := 0) dX11_makeFold_48 ?_
      refine r_zreturn hq dX11_makeFold_49 rfl (by decide) rfl rfl ?_
      refine hQ _ _ ⟨fun a9 h9 => ((hs_n (by omega)).trans ((hs_n (by omega)).trans ((hs_n (by omega)).trans ((hs_n (by omega)).trans ((hs_n (by omega)).trans ((hs_n (by omega)).trans rfl)))))), _, _, _, _, _, _, _, _, _, _, ((hs_n (by omega)).trans ((hs_n (by omega)).trans hs_e)), ((hs_n (by omega)).trans ((hs_n (by omega)).trans ((hs_n (by omega)).trans ((hs_n (by omega)).trans hs_e)))), ((hs_n (by omega)).trans ((hs_n (by omega)).trans ((hs_n (by omega)).trans hs_e))), ((hs_n (by omega)).trans ((hs_n (by omega)).trans ((hs_n (by omega)).trans ((hs_n (by omega)).trans ((hs_n (by omega)).trans ((hs_n (by omega)).trans hms)))))), ((hs_n (by omega)).trans hs_e), ((hs_n (by omega)).trans ((hs_n (by omega)).trans ((hs_n (by omega)).trans ((hs_n (by omega)).trans ((hs_n (by omega)).trans hs_e))))), ((hs_n (by omega)).trans ((hs_n (by omega)).trans ((hs_n (by omega)).trans ((hs_n (by omega)).trans ((hs_n (by omega)).trans ((hs_n (by omega)).trans h139)))))), ((hs_n (by omega)).trans ((hs_n (by omega)).trans ((hs_n (by omega)).trans ((hs_n (by omega)).trans ((hs_n (by omega)).trans ((hs_n (by omega)).trans h140)))))), ((hs_n (by omega)).trans ((hs_n (by omega)).trans ((hs_n (by omega)).trans ((hs_n (by omega)).trans ((hs_n (by omega)).trans ((hs_n (by omega)).trans h141)))))), hs_e, hM.1, hM.2.1, (fun _ _ => rfl), ?_⟩
      refine Or.inl ⟨rfl, fun w9 => ?_⟩
      rcases hb18 with ⟨_, y⟩ | ⟨y, _⟩
      · exact y (fun j hj => w9.2.1 j (by rw [hlast]; omega))
      · omega
    · obtain ⟨hb180, hxin, hxf⟩ := hb18.resolve_left (fun w => c_21 w.1)
      refine r_aload_n dX11_makeFold_24 rfl rfl ?_
      refine r_iload_n dX11_makeFold_25 rfl rfl ?_
      refine r_aload_n dX11_makeFold_26 rfl rfl ?_
      refine gf_X11_7 dX11_makeFold_27 (by omega) ((hs_n (by omega)).trans ((hs_n (by omega)).trans hs_e)) rfl ?_
      refine r_bipush (z := 6) dX11_makeFold_30 (by decide) ?_
      refine r_iaload dX11_makeFold_32 (by omega) ((hs_n (by omega)).trans ((hs_n (by omega)).trans ((hs_n (by omega)).trans ((hs_n (by omega)).trans hs_e)))) (by omega) (by omega) (by decide) ?_
      refine r_iconst (z := 1) dX11_makeFold_33 ?_
      refine r_isub dX11_makeFold_34 ?_
      refine r_callV (av := [.int (iZ (yi)), .int (iZ ((om3 (6 : Int).toNat) - 1))]) dX11_makeFold_35 lkX11_layExact ml_X11_150 imX11_layExact seX11_layExact (by omega) (rfl : vwCl[11]? = _) ⟨_, ((hs_n (by omega)).trans ((hs_n (by omega)).trans hs_e))⟩ ⟨Nat.le_of_ble_eq_true rfl, Nat.le_of_ble_eq_true rfl⟩ rfl rfl (nle rfl) ⟨Nat.le_of_ble_eq_true rfl, Nat.le_of_ble_eq_true rfl⟩ (c_X11_layExact (r := r2) (k := l) (c := d) (s := t) (last := (k + l - 1)) (om := om3) (ml := ml3) (ms := ms) (ex0 := X18) (ln := ln) (pr := pr) (nm := nm) (at_ := at_) (wr := wr) (va := va) (em := em18) (ta := ta) (ro := ro) (dg := dg) ((hs_n (by omega)).trans ((hs_n (by omega)).trans hs_e)) hN ((hs_n (by omega)).trans ((hs_n (by omega)).trans ((hs_n (by omega)).trans ((hs_n (by omega)).trans hs_e)))) ((hs_n (by omega)).trans ((hs_n (by omega)).trans ((hs_n (by omega)).trans hs_e))) ((hs_n (by omega)).trans ((hs_n (by omega)).trans ((hs_n (by omega)).trans ((hs_n (by omega)).trans ((hs_n (by omega)).trans ((hs_n (by omega)).trans hms)))))) ((hs_n (by omega)).trans hs_e) hgM2 (by omega) (by omega) (by omega) (by omega) (fun t35 X35 hT35 hX35 => ?_))
      refine g_heap (h2 := (hs (hs (hs (hs (hs (hs h (138) (aL 14 (po3))) (125) (aI 7 (om3))) (126) (aL 42 (ml3))) (124) (MOo (ln) (pr) (nm) (at_) (wr) (va) ((t35 : Int)) (ta) (ro) (dg))) (130) (aL 2001 (X35))) (142) (aL 100 (fi18)))) ((congrArg (fun x9 => hs x9 (130) (aL 2001 (X35))) (hs_put (by omega) (hs_put (by omega) hs_hs))).trans (hs_put (by omega) hs_hs)) ?_
      show G _ _ _ _ _ _ _ 38 _ _ _
      have tl35 : t35 ≤ k + l := by have := hT35.1; omega
      refine r_aload_n dX11_makeFold_38 rfl rfl ?_
      refine gf_X11_7 dX11_makeFold_39 (by omega) ((hs_n (by omega)).trans ((hs_n (by omega)).trans hs_e)) rfl ?_
      refine r_bipush (z := 6) dX11_makeFold_42 (by decide) ?_
      refine r_iaload dX11_makeFold_44 (by omega) ((hs_n (by omega)).trans ((hs_n (by omega)).trans ((hs_n (by omega)).trans ((hs_n (by omega)).trans hs_e)))) (by omega) (by omega) (by decide) ?_
      refine r_icmp_ge 50 dX11_makeFold_45 (by decide) ⟨by omega, by omega⟩ ⟨by omega, by omega⟩ (fun c_45 => ?_) (fun c_45 => ?_)
      · have te35 : t35 = k + l := by omega
        have hyin : ∀ j, j < k + l → inM (ex l d t j) := fun j hj => hT35.2.1 j (by omega)
        refine r_iconst (z := 0) dX11_makeFold_50 ?_
        refine r_istore_n (L2 := [_, _, _, _, none, none, none]) dX11_makeFold_51 rfl (nlt rfl) rfl ?_
        have lp52 : ∀ (fu52 : Nat) (ms1 : Nat → Int) (i : Int) (u : Nat), (8 - i) < (fu52 : Int) → (i = (u : Int)) → (u ≤ k + l) → (∀ t9, t9 < 36 → ms1 t9 = ms t9) → (∀ t9, t9 < u → ms1 (36 + t9) = (mNum 3 (ex k c s) (ex l d t) ddi) t9 ∧ (-1000000 ≤ (mNum 3 (ex k c s) (ex l d t) ddi) t9 ∧ (mNum 3 (ex k c s) (ex l d t) ddi) t9 ≤ 1000000) ∧ FoldOk (ex k c s) (ex l d t) t9) → G X RX11 cX11_makeFold mX11_makeFold.rm N 0 0 52 [some (.ref (124)), some (.int (iZ (xi))), some (.int (iZ (yi))), some (.int (iZ (i))), none, none, none] [] (hs (hs (hs (hs (hs (hs (hs h (138) (aL 14 (po3))) (125) (aI 7 (om3))) (126) (aL 42 (ml3))) (124) (MOo (ln) (pr) (nm) (at_) (wr) (va) ((t35 : Int)) (ta) (ro) (dg))) (130) (aL 2001 (X35))) (142) (aL 100 (fi18))) (127) (aL 42 (ms1))) := by
          intro fu52
          induction fu52 with
          | zero => intro ms1 i u hm ei ul hms1 hst; exfalso; omega
          | succ fu52 ih52 =>
            intro ms1 i u hms52 ei ul hms1 hst
            refine r_iload_n dX11_makeFold_52 rfl rfl ?_
            refine r_aload_n dX11_makeFold_53 rfl rfl ?_
            refine gf_X11_7 dX11_makeFold_54 (by omega) ((hs_n (by omega)).trans ((hs_n (by omega)).trans ((hs_n (by omega)).trans hs_e))) rfl ?_
            refine r_bipush (z := 6) dX11_makeFold_57 (by decide) ?_
            refine r_iaload dX11_makeFold_59 (by omega) ((hs_n (by omega)).trans ((hs_n (by omega)).trans ((hs_n (by omega)).trans ((hs_n (by omega)).trans ((hs_n (by omega)).trans hs_e))))) (by omega) (by omega) (by decide) ?_
            refine r_icmp_ge 159 dX11_makeFold_60 (by decide) ⟨by omega, by omega⟩ ⟨by omega, by omega⟩ (fun c_60 => ?_) (fun c_60 => ?_)
            · refine r_iconst (z := 1) dX11_makeFold_159 ?_
              refine r_zreturn hq dX11_makeFold_160 rfl (by decide) rfl rfl ?_
              rw [show u = k + l by omega] at hst
              refine hQ _ _ ⟨fun a9 h9 => ((hs_n (by omega)).trans ((hs_n (by omega)).trans ((hs_n (by omega)).trans ((hs_n (by omega)).trans ((hs_n (by omega)).trans ((hs_n (by omega)).trans ((hs_n (by omega)).trans rfl))))))), _, _, _, _, _, _, _, _, _, _, ((hs_n (by omega)).trans ((hs_n (by omega)).trans ((hs_n (by omega)).trans hs_e))), ((hs_n (by omega)).trans ((hs_n (by omega)).trans ((hs_n (by omega)).trans ((hs_n (by omega)).trans ((hs_n (by omega)).trans hs_e))))), ((hs_n (by omega)).trans ((hs_n (by omega)).trans ((hs_n (by omega)).trans ((hs_n (by omega)).trans hs_e)))), hs_e, ((hs_n (by omega)).trans ((hs_n (by omega)).trans hs_e)), ((hs_n (by omega)).trans ((hs_n (by omega)).trans ((hs_n (by omega)).trans ((hs_n (by omega)).trans ((hs_n (by omega)).trans ((hs_n (by omega)).trans hs_e)))))), ((hs_n (by omega)).trans ((hs_n (by omega)).trans ((hs_n (by omega)).trans ((hs_n (by omega)).trans ((hs_n (by omega)).trans ((hs_n (by omega)).trans ((hs_n (by omega)).trans h139))))))), ((hs_n (by omega)).trans ((hs_n (by omega)).trans ((hs_n (by omega)).trans ((hs_n (by omega)).trans ((hs_n (by omega)).trans ((hs_n (by omega)).trans ((hs_n (by omega)).trans h140))))))), ((hs_n (by omega)).trans ((hs_n (by omega)).trans ((hs_n (by omega)).trans ((hs_n (by omega)).trans ((hs_n (by omega)).trans ((hs_n (by omega)).trans ((hs_n (by omega)).trans h141))))))), ((hs_n (by omega)).trans hs_e), hM.1, hM.2.1, hms1, ?_⟩
              exact Or.inr ⟨rfl, ⟨⟨hkl, hlaw⟩, fun j hj => hxin j (by rw [hlast] at hj; omega), fun _ j hj => hyin j hj, fun _ n hn => (hst n hn).2.2, fun n hn => (hst n hn).2.1⟩, eo6, hlw, fun n hn => (hst n hn).1⟩
            · refine r_lconst (z := 0) dX11_makeFold_63 (by decide) ?_
              refine r_lstore (L2 := [_, _, _, _, _, none, none]) dX11_makeFold_64 (nlt rfl) rfl ?_
              refine r_iconst (z := 0) dX11_makeFold_66 ?_
              refine r_istore (L2 := [_, _, _, _, _, none, _]) dX11_makeFold_67 (nlt rfl) rfl ?_
              have lp69 : ∀ (fu69 : Nat) (a : Int) (j : Int) (v : Nat), (8 - j) < (fu69 : Int) → (j = (v : Int)) → (v ≤ u + 1) → (a = sm (fun t9 => ex k c s t9 * ex l d t (u - t9)) v) → (-1000000000000000000 ≤ a) → (a ≤ 1000000000000000000) → (∀ i9, i9 < v → (-1000000000000000000 ≤ ex k c s i9 * ex l d t (u - i9) ∧ ex k c s i9 * ex l d t (u - i9) ≤ 1000000000000000000) ∧ (-1000000000000000000 ≤ sm (fun t9 => ex k c s t9 * ex l d t (u - t9)) (i9 + 1) ∧ sm (fun t9 => ex k c s t9 * ex l d t (u - t9)) (i9 + 1) ≤ 1000000000000000000)) → G X RX11 cX11_makeFold mX11_makeFold.rm N 0 0 69 [some (.ref (124)), some (.int (iZ (xi))), some (.int (iZ (yi))), some (.int (iZ (i))), some (.long (lZ (a))), none, some (.int (iZ (j)))] [] (hs (hs (hs (hs (hs (hs (hs h (138) (aL 14 (po3))) (125) (aI 7 (om3))) (126) (aL 42 (ml3))) (124) (MOo (ln) (pr) (nm) (at_) (wr) (va) ((t35 : Int)) (ta) (ro) (dg))) (130) (aL 2001 (X35))) (142) (aL 100 (fi18))) (127) (aL 42 (ms1))) := by
                intro fu69
                induction fu69 with
                | zero => intro a j v hm ej vl ea a0 a1 hfo; exfalso; omega
                | succ fu69 ih69 =>
                  intro a j v hms69 ej vl ea a0 a1 hfo
                  refine r_iload dX11_makeFold_69 rfl ?_
                  refine r_iload_n dX11_makeFold_71 rfl rfl ?_
                  refine r_icmp_gt 141 dX11_makeFold_72 (by decide) ⟨by omega, by omega⟩ ⟨by omega, by omega⟩ (fun c_72 => ?_) (fun c_72 => ?_)
                  · have v9 : v = u + 1 := by omega
                    rw [v9] at ea hfo
                    have hnum : a = mNum 3 (ex k c s) (ex l d t) ddi u := ea
                    have hFo : FoldOk (ex k c s) (ex l d t) u := fun i9 h9 => hfo i9 (by omega)
                    refine r_aload_n dX11_makeFold_141 rfl rfl ?_
                    refine r_iload_n dX11_makeFold_142 rfl rfl ?_
                    refine r_lload dX11_makeFold_143 rfl ?_
                    refine r_callV (av := [.int (iZ (i)), .long (lZ (a))]) dX11_makeFold_145 lkX11_start ml_X11_240 imX11_start seX11_start (by omega) (rfl : vwCl[11]? = _) ⟨_, ((hs_n (by omega)).trans ((hs_n (by omega)).trans ((hs_n (by omega)).trans hs_e)))⟩ ⟨Nat.le_of_ble_eq_true rfl, Nat.le_of_ble_eq_true rfl⟩ rfl rfl (nle rfl) ⟨Nat.le_of_ble_eq_true rfl, Nat.le_of_ble_eq_true rfl⟩ (c_X11_start (n := u) (v := a) (ms := ms1) (ln := ln) (pr := pr) (nm := nm) (at_ := at_) (wr := wr) (va := va) (em := (t35 : Int)) (ta := ta) (ro := ro) (dg := dg) ((hs_n (by omega)).trans ((hs_n (by omega)).trans ((hs_n (by omega)).trans hs_e))) hN hs_e (by omega) (by omega) ⟨by omega, by omega⟩ (fun b145 hb145 => ?_))
                    refine g_heap (h2 := (hs (hs (hs (hs (hs (hs (hs h (138) (aL 14 (po3))) (125) (aI 7 (om3))) (126) (aL 42 (ml3))) (124) (MOo (ln) (pr) (nm) (at_) (wr) (va) ((t35 : Int)) (ta) (ro) (dg))) (130) (aL 2001 (X35))) (142) (aL 100 (fi18))) (127) (aL 42 (uA ms1 (36 + u) (a))))) hs_hs ?_
                    show G _ _ _ _ _ _ _ 148 _ _ _
                    refine r_if_ne 153 dX11_makeFold_148 (by decide) (by rcases hb145 with ⟨y, _⟩ | ⟨y, _⟩ <;> exact ⟨by omega, by omega⟩) (fun c_148 => ?_) (fun c_148 => ?_)
                    · refine r_iinc (L2 := [_, _, _, _, _, none, _]) dX11_makeFold_153 (nlt rfl) rfl rfl ?_
                      refine r_goto 52 dX11_makeFold_156 (by decide) ?_
                      refine r_mask [true, true, true, true, false, false, false] (L2 := [_, _, _, _, none, none, none]) rfl ?_
                      exact ih52 (uA ms1 (36 + u) (a)) (i + 1) ((u + 1)) (by omega) (by omega) (by omega) (fun t9 h9 => by rw [uA_n (by omega)]; exact hms1 t9 h9) (fun t9 h9 => by by_cases z : t9 = u; (rw [z, uA_e, ← hnum]; exact ⟨rfl, by rcases hb145 with ⟨_, y⟩ | ⟨y, _⟩; exact y; omega, hFo⟩); rw [uA_n (by omega)]; exact hst t9 (by omega))
                    · refine r_iconst (z := 0) dX11_makeFold_151 ?_
                      refine r_zreturn hq dX11_makeFold_152 rfl (by decide) rfl rfl ?_
                      refine hQ _ _ ⟨fun a9 h9 => ((hs_n (by omega)).trans ((hs_n (by omega)).trans ((hs_n (by omega)).trans ((hs_n (by omega)).trans ((hs_n (by omega)).trans ((hs_n (by omega)).trans ((hs_n (by omega)).trans rfl))))))), _, _, _, _, _, _, _, _, _, _, ((hs_n (by omega)).trans ((hs_n (by omega)).trans ((hs_n (by omega)).trans hs_e))), ((hs_n (by omega)).trans ((hs_n (by omega)).trans ((hs_n (by omega)).trans ((hs_n (by omega)).trans ((hs_n (by omega)).trans hs_e))))), ((hs_n (by omega)).trans ((hs_n (by omega)).trans ((hs_n (by omega)).trans ((hs_n (by omega)).trans hs_e)))), hs_e, ((hs_n (by omega)).trans ((hs_n (by omega)).trans hs_e)), ((hs_n (by omega)).trans ((hs_n (by omega)).trans ((hs_n (by omega)).trans ((hs_n (by omega)).trans ((hs_n (by omega)).trans ((hs_n (by omega)).trans hs_e)))))), ((hs_n (by omega)).trans ((hs_n (by omega)).trans ((hs_n (by omega)).trans ((hs_n (by omega)).trans ((hs_n (by omega)).trans ((hs_n (by omega)).trans ((hs_n (by omega)).trans h139))))))), ((hs_n (by omega)).trans ((hs_n (by omega)).trans ((hs_n (by omega)).trans ((hs_n (by omega)).trans ((hs_n (by omega)).trans ((hs_n (by omega)).trans ((hs_n (by omega)).trans h140))))))), ((hs_n (by omega)).trans ((hs_n (by omega)).trans ((hs_n (by omega)).trans ((hs_n (by omega)).trans ((hs_n (by omega)).trans ((hs_n (by omega)).trans ((hs_n (by omega)).trans h141))))))), ((hs_n (by omega)).trans hs_e), hM.1, hM.2.1, (fun t9 h9 => (uA_n (by omega)).trans (hms1 t9 h9)), ?_⟩
                      refine Or.inl ⟨rfl, fun w9 => ?_⟩
                      rcases hb145 with ⟨y, _⟩ | ⟨_, y⟩
                      · omega
                      · exact y (by have h9 := w9.2.2.2.2 u (by omega); rw [← hnum] at h9; exact h9)
                  · have exf : fi18 j.toNat = ex k c s v := by rw [show j.toNat = v by omega]; exact hxf v (by omega) (by omega)
                    have eyf : X35 (i - j).toNat = ex l d t (u - v) := by rw [show (i - j).toNat = u - v by omega]; exact hX35 (u - v) (by omega)
                    have i1 := hxin v (by omega)
                    have i2 := hyin (u - v) (by omega)
                    rw [← exf] at i1
                    rw [← eyf] at i2
                    refine r_aload_n dX11_makeFold_75 rfl rfl ?_
                    refine gf_X11_66 dX11_makeFold_76 (by omega) ((hs_n (by omega)).trans ((hs_n (by omega)).trans ((hs_n (by omega)).trans hs_e))) rfl ?_
                    refine r_iload dX11_makeFold_79 rfl ?_
                    refine r_laload dX11_makeFold_81 (by omega) ((hs_n (by omega)).trans hs_e) (by omega) (by omega) (by decide) ?_
                    refine r_aload_n dX11_makeFold_82 rfl rfl ?_
                    refine gf_X11_30 dX11_makeFold_83 (by omega) ((hs_n (by omega)).trans ((hs_n (by omega)).trans ((hs_n (by omega)).trans hs_e))) rfl ?_
                    refine r_iload_n dX11_makeFold_86 rfl rfl ?_
                    refine r_iload dX11_makeFold_87 rfl ?_
                    refine r_isub dX11_makeFold_89 ?_
                    refine r_laload dX11_makeFold_90 (by omega) ((hs_n (by omega)).trans ((hs_n (by omega)).trans hs_e)) (by omega) (by omega) (by decide) ?_
                    refine r_callS (av := [.long (lZ (fi18 (j).toNat)), .long (lZ (X35 (i - j).toNat))]) dX11_makeFold_91 lkX11_isGreat ml_X11_251 stX11_isGreat ⟨Nat.le_of_ble_eq_true rfl, Nat.le_of_ble_eq_true rfl⟩ rfl rfl (nle rfl) ⟨Nat.le_of_ble_eq_true rfl, Nat.le_of_ble_eq_true rfl⟩ (c_X11_isGreat (x := fi18 (j).toNat) (y := X35 (i - j).toNat) i1 i2 (fun b91 hb91 => ?_))
                    show G _ _ _ _ _ _ _ 94 _ _ _
                    refine r_if_eq 99 dX11_makeFold_94 (by decide) (by rcases hb91 with ⟨y, _⟩ | ⟨y, _⟩ <;> exact ⟨by omega, by omega⟩) (fun c_94 => ?_) (fun c_94 => ?_)
                    · have gr9 : -1000000000000000000 ≤ fi18 j.toNat * X35 (i - j).toNat ∧ fi18 j.toNat * X35 (i - j).toNat ≤ 1000000000000000000 := by
                        rcases hb91 with ⟨y, _⟩ | ⟨_, y⟩
                        · exfalso; omega
                        · exact y
                      refine r_lload dX11_makeFold_99 rfl ?_
                      refine r_aload_n dX11_makeFold_101 rfl rfl ?_
                      refine gf_X11_66 dX11_makeFold_102 (by omega) ((hs_n (by omega)).trans ((hs_n (by omega)).trans ((hs_n (by omega)).trans hs_e))) rfl ?_
                      refine r_iload dX11_makeFold_105 rfl ?_
                      refine r_laload dX11_makeFold_107 (by omega) ((hs_n (by omega)).trans hs_e) (by omega) (by omega) (by decide) ?_
                      refine r_aload_n dX11_makeFold_108 rfl rfl ?_
                      refine gf_X11_30 dX11_makeFold_109 (by omega) ((hs_n (by omega)).trans ((hs_n (by omega)).trans ((hs_n (by omega)).trans hs_e))) rfl ?_
                      refine r_iload_n dX11_makeFold_112 rfl rfl ?_
                      refine r_iload dX11_makeFold_113 rfl ?_
                      refine r_isub dX11_makeFold_115 ?_
                      refine r_laload dX11_makeFold_116 (by omega) ((hs_n (by omega)).trans ((hs_n (by omega)).trans hs_e)) (by omega) (by omega) (by decide) ?_
                      refine r_lmul dX11_makeFold_117 ?_
                      refine r_ladd dX11_makeFold_118 ?_
                      refine r_lstore (L2 := [_, _, _, _, _, none, _]) dX11_makeFold_119 (nlt rfl) rfl ?_
                      refine r_lload dX11_makeFold_121 rfl ?_
                      refine r_callS (av := [.long (lZ (a + ((fi18 (j).toNat) * (X35 (i - j).toNat))))]) dX11_makeFold_123 lkX11_size ml_X11_84 stX11_size ⟨Nat.le_of_ble_eq_true rfl, Nat.le_of_ble_eq_true rfl⟩ rfl rfl (nle rfl) ⟨Nat.le_of_ble_eq_true rfl, Nat.le_of_ble_eq_true rfl⟩ (c_X11_size (x := a + ((fi18 (j).toNat) * (X35 (i - j).toNat))) (by omega) ?_)
                      show G _ _ _ _ _ _ _ 126 _ _ _
                      refine r_ldc2 (z := 1000000000000000000) dX11_makeFold_126 kc_X11_232 ?_
                      refine r_lcmp_le 135 dX11_makeFold_129 dX11_makeFold_130 (by decide) ⟨by omega, by omega⟩ ⟨by decide, by decide⟩ (fun c_129 => ?_) (fun c_129 => ?_)
                      · refine r_iinc (L2 := [_, _, _, _, _, none, _]) dX11_makeFold_135 (nlt rfl) rfl rfl ?_
                        refine r_goto 69 dX11_makeFold_138 (by decide) ?_
                        exact ih69 (a + ((fi18 (j).toNat) * (X35 (i - j).toNat))) (j + 1) ((v + 1)) (by omega) (by omega) (by omega) (by rw [sm_s, ea, exf, eyf]) (by omega) (by omega) (fun i9 h9 => by by_cases z : i9 = v; (rw [z, sm_s, ← exf, ← eyf, ← ea]; exact ⟨gr9, by omega⟩); exact hfo i9 (by omega))
                      · refine r_iconst (z := 0) dX11_makeFold_133 ?_
                        refine r_zreturn hq dX11_makeFold_134 rfl (by decide) rfl rfl ?_
                        refine hQ _ _ ⟨fun a9 h9 => ((hs_n (by omega)).trans ((hs_n (by omega)).trans ((hs_n (by omega)).trans ((hs_n (by omega)).trans ((hs_n (by omega)).trans ((hs_n (by omega)).trans ((hs_n (by omega)).trans rfl))))))), _, _, _, _, _, _, _, _, _, _, ((hs_n (by omega)).trans ((hs_n (by omega)).trans ((hs_n (by omega)).trans hs_e))), ((hs_n (by omega)).trans ((hs_n (by omega)).trans ((hs_n (by omega)).trans ((hs_n (by omega)).trans ((hs_n (by omega)).trans hs_e))))), ((hs_n (by omega)).trans ((hs_n (by omega)).trans ((hs_n (by omega)).trans ((hs_n (by omega)).trans hs_e)))), hs_e, ((hs_n (by omega)).trans ((hs_n (by omega)).trans hs_e)), ((hs_n (by omega)).trans ((hs_n (by omega)).trans ((hs_n (by omega)).trans ((hs_n (by omega)).trans ((hs_n (by omega)).trans ((hs_n (by omega)).trans hs_e)))))), ((hs_n (by omega)).trans ((hs_n (by omega)).trans ((hs_n (by omega)).trans ((hs_n (by omega)).trans ((hs_n (by omega)).trans ((hs_n (by omega)).trans ((hs_n (by omega)).trans h139))))))), ((hs_n (by omega)).trans ((hs_n (by omega)).trans ((hs_n (by omega)).trans ((hs_n (by omega)).trans ((hs_n (by omega)).trans ((hs_n (by omega)).trans ((hs_n (by omega)).trans h140))))))), ((hs_n (by omega)).trans ((hs_n (by omega)).trans ((hs_n (by omega)).trans ((hs_n (by omega)).trans ((hs_n (by omega)).trans ((hs_n (by omega)).trans ((hs_n (by omega)).trans h141))))))), ((hs_n (by omega)).trans hs_e), hM.1, hM.2.1, hms1, ?_⟩
                        refine Or.inl ⟨rfl, fun w9 => ?_⟩
                        have h9 := (w9.2.2.2.1 rfl u (by omega) v (by omega)).2
                        rw [sm_s] at h9
                        have e9 : sm (fun t9 => ex k c s t9 * ex l d t (u - t9)) v + ex k c s v * ex l d t (u - v) = a + (fi18 j.toNat * X35 (i - j).toNat) := by rw [ea, exf, eyf]
                        rw [e9] at h9
                        omega
                    · refine r_iconst (z := 0) dX11_makeFold_97 ?_
                      refine r_zreturn hq dX11_makeFold_98 rfl (by decide) rfl rfl ?_
                      refine hQ _ _ ⟨fun a9 h9 => ((hs_n (by omega)).trans ((hs_n (by omega)).trans ((hs_n (by omega)).trans ((hs_n (by omega)).trans ((hs_n (by omega)).trans ((hs_n (by omega)).trans ((hs_n (by omega)).trans rfl))))))), _, _, _, _, _, _, _, _, _, _, ((hs_n (by omega)).trans ((hs_n (by omega)).trans ((hs_n (by omega)).trans hs_e))), ((hs_n (by omega)).trans ((hs_n (by omega)).trans ((hs_n (by omega)).trans ((hs_n (by omega)).trans ((hs_n (by omega)).trans hs_e))))), ((hs_n (by omega)).trans ((hs_n (by omega)).trans ((hs_n (by omega)).trans ((hs_n (by omega)).trans hs_e)))), hs_e, ((hs_n (by omega)).trans ((hs_n (by omega)).trans hs_e)), ((hs_n (by omega)).trans ((hs_n (by omega)).trans ((hs_n (by omega)).trans ((hs_n (by omega)).trans ((hs_n (by omega)).trans ((hs_n (by omega)).trans hs_e)))))), ((hs_n (by omega)).trans ((hs_n (by omega)).trans ((hs_n (by omega)).trans ((hs_n (by omega)).trans ((hs_n (by omega)).trans ((hs_n (by omega)).trans ((hs_n (by omega)).trans h139))))))), ((hs_n (by omega)).trans ((hs_n (by omega)).trans ((hs_n (by omega)).trans ((hs_n (by omega)).trans ((hs_n (by omega)).trans ((hs_n (by omega)).trans ((hs_n (by omega)).trans h140))))))), ((hs_n (by omega)).trans ((hs_n (by omega)).trans ((hs_n (by omega)).trans ((hs_n (by omega)).trans ((hs_n (by omega)).trans ((hs_n (by omega)).trans ((hs_n (by omega)).trans h141))))))), ((hs_n (by omega)).trans hs_e), hM.1, hM.2.1, hms1, ?_⟩
                      refine Or.inl ⟨rfl, fun w9 => ?_⟩
                      rcases hb91 with ⟨_, y⟩ | ⟨y, _⟩
                      · have h9 := (w9.2.2.2.1 rfl u (by omega) v (by omega)).1
                        rw [← exf, ← eyf] at h9
                        exact y h9
                      · exact absurd y c_94
              exact lp69 ((8 : Int) + 1).toNat (0) (0) (0) (by omega) rfl (Nat.zero_le _) rfl (by decide) (by decide) (fun i9 h9 => absurd h9 (Nat.not_lt_zero i9))
        refine g_heap (hs_id (c := aL 42 (ms)) ((hs_n (by omega)).trans ((hs_n (by omega)).trans ((hs_n (by omega)).trans ((hs_n (by omega)).trans ((hs_n (by omega)).trans ((hs_n (by omega)).trans hms))))))).symm ?_
        exact lp52 ((8 : Int) + 1).toNat (ms) (0) (0) (by omega) rfl (Nat.zero_le _) (fun _ _ => rfl) (fun t9 h9 => absurd h9 (Nat.not_lt_zero t9))
      · refine r_iconst (z := 0) dX11_makeFold_48 ?_
        refine r_zreturn hq dX11_makeFold_49 rfl (by decide) rfl rfl ?_
        refine hQ _ _ ⟨fun a9 h9 => ((hs_n (by omega)).trans ((hs_n (by omega)).trans ((hs_n (by omega)).trans ((hs_n (by omega)).trans ((hs_n (by omega)).trans ((hs_n (by omega)).trans rfl)))))), _, _, _, _, _, _, _, _, _, _, ((hs_n (by omega)).trans ((hs_n (by omega)).trans hs_e)), ((hs_n (by omega)).trans ((hs_n (by omega)).trans ((hs_n (by omega)).trans ((hs_n (by omega)).trans hs_e)))), ((hs_n (by omega)).trans ((hs_n (by omega)).trans ((hs_n (by omega)).trans hs_e))), ((hs_n (by omega)).trans ((hs_n (by omega)).trans ((hs_n (by omega)).trans ((hs_n (by omega)).trans ((hs_n (by omega)).trans ((hs_n (by omega)).trans hms)))))), ((hs_n (by omega)).trans hs_e), ((hs_n (by omega)).trans ((hs_n (by omega)).trans ((hs_n (by omega)).trans ((hs_n (by omega)).trans ((hs_n (by omega)).trans hs_e))))), ((hs_n (by omega)).trans ((hs_n (by omega)).trans ((hs_n (by omega)).trans ((hs_n (by omega)).trans ((hs_n (by omega)).trans ((hs_n (by omega)).trans h139)))))), ((hs_n (by omega)).trans ((hs_n (by omega)).trans ((hs_n (by omega)).trans ((hs_n (by omega)).trans ((hs_n (by omega)).trans ((hs_n (by omega)).trans h140)))))), ((hs_n (by omega)).trans ((hs_n (by omega)).trans ((hs_n (by omega)).trans ((hs_n (by omega)).trans ((hs_n (by omega)).trans ((hs_n (by omega)).trans h141)))))), hs_e, hM.1, hM.2.1, (fun _ _ => rfl), ?_⟩
        refine Or.inl ⟨rfl, fun w9 => ?_⟩
        exact hT35.2.2 (by omega) (w9.2.2.1 (by omega) t35 (by omega))
set_option maxHeartbeats 8000000 in
set_option maxRecDepth 20000 in
theorem c_X11_makeEach {N : Nat} {h : Hp} {Q : QP} {ln pr nm at_ wr va em ta ro dg : Int} {om ml ms : Nat → Int} {x130 x138 x139 x140 x141 x142 c s : Nat → Int} {r k : Nat} {xi : Int} {ddi : Int} (hm0 : h 124 = MOo ln pr nm at_ wr va em ta ro dg) (hN : 146 ≤ N) (hom : h 125 = aI 7 om) (hml : h 126 = aL 42 ml) (hms : h 127 = aL 42 ms) (hex : h 130 = aL 2001 x130) (h138 : h 138 = aL 14 x138) (h139 : h 139 = aL 37 x139) (h140 : h 140 = aL 37 x140) (h141 : h 141 = aL 7 x141) (h142 : h 142 = aL 100 x142) (hg : RG om ml ms r k c s) (hri : xi = (r : Int)) (hr6 : r < 6) (hc0 : c 0 = -1) (hdd2 : 2 ≤ ddi) (hdd6 : ddi ≤ 6) (hQ : ∀ (b : Int) (h2 : Hp), MKR h ln pr nm at_ wr va ta ro dg om ml ms (mOk 4 k k (ddi).toNat c c ∧ sOk 4 (mK 4 k k) (ex k c s) (ex k c s) ddi) (mK 4 k k) (mLaw 4 k k (ddi).toNat c c) (mNum 4 (ex k c s) (ex k c s) ddi) b h2 → Q (some (.int (iZ b))) N h2) : Runs mX11_makeEach [.ref (124), .int (iZ (xi)), .int (iZ (ddi))] N h Q := by
  rw [mOk4 rfl, mK4 rfl, mLaw4 rfl] at hQ
  obtain ⟨hg1, hk1, hk6, hg4, hg5⟩ := id hg
  have ern : xi.toNat = r := by omega
  have eom : om xi.toNat = (k : Int) := by rw [ern]; exact hg1
  obtain ⟨dd, hdd⟩ : ∃ dd : Nat, dd = ddi.toNat := ⟨_, rfl⟩
  rw [← hdd] at hQ
  have hdi : ddi = (dd : Int) := by omega
  have hKi : ddi * (k : Int) = ((dd * k : Nat) : Int) := by rw [hdi, Int.natCast_mul]
  have hK1 : dd * k ≤ 36 := Nat.mul_le_mul (show dd ≤ 6 by omega) hk6
  have hKm : ddi * ((k : Int) - 1) = ((dd * (k - 1) : Nat) : Int) := by rw [hdi, Int.natCast_mul]; congr 1; omega
  have hKm1 : dd * (k - 1) ≤ 36 := Nat.mul_le_mul (show dd ≤ 6 by omega) (show k - 1 ≤ 6 by omega)
  have hlast : mLast 4 k ddi.toNat = dd * (k - 1) := by rw [← hdd]; rfl
  refine run_start (own := RX11) rfl (by decide) (nle rfl) rfl (fun X hq hini => ?_)
  show G X RX11 cX11_makeEach mX11_makeEach.rm N 0 0 0 [some (.ref (124)), some (.int (iZ (xi))), some (.int (iZ (ddi))), none, none, none] [] h
  refine r_aload_n dX11_makeEach_0 rfl rfl ?_
  refine gf_X11_7 dX11_makeEach_1 (by omega) hm0 rfl ?_
  refine r_iload_n dX11_makeEach_4 rfl rfl ?_
  refine r_iaload dX11_makeEach_5 (by omega) hom (by omega) (by omega) (by decide) ?_
  refine r_istore_n (L2 := [_, _, _, _, none, none]) dX11_makeEach_6 rfl (nlt rfl) rfl ?_
  rw [eom]
  refine r_aload_n dX11_makeEach_7 rfl rfl ?_
  refine r_iload_n dX11_makeEach_8 rfl rfl ?_
  refine r_iload_n dX11_makeEach_9 rfl rfl ?_
  refine r_iload_n dX11_makeEach_10 rfl rfl ?_
  refine r_imul dX11_makeEach_11 ?_
  refine r_aload_n dX11_makeEach_12 rfl rfl ?_
  refine gf_X11_57 dX11_makeEach_13 (by omega) hm0 rfl ?_
  refine r_callV (av := [.int (iZ (xi)), .int (iZ (ddi * (k : Int))), .ref (139)]) dX11_makeEach_16 lkX11_layPowers ml_X11_244 imX11_layPowers seX11_layPowers (by omega) (rfl : vwCl[11]? = _) ⟨_, hm0⟩ ⟨Nat.le_of_ble_eq_true rfl, Nat.le_of_ble_eq_true rfl⟩ rfl rfl (nle rfl) ⟨Nat.le_of_ble_eq_true rfl, Nat.le_of_ble_eq_true rfl⟩ (c_X11_layPowers (c := c) (s := s) (r := r) (k := k) (u := 139) (la := (dd * k)) (f := x139) (om := om) (ml := ml) (ms := ms) (ln := ln) (pr := pr) (nm := nm) (at_ := at_) (wr := wr) (va := va) (em := em) (ta := ta) (ro := ro) (dg := dg) hm0 hN hom hml hms hg (by omega) (by omega) (by omega) h139 hKi (by omega) (fun b16 f16 hb16 => ?_))
  show G _ _ _ _ _ _ _ 19 _ _ _
  refine r_if_ne 24 dX11_makeEach_19 (by decide) (by rcases hb16 with ⟨y, _⟩ | ⟨y, _⟩ <;> exact ⟨by omega, by omega⟩) (fun c_19 => ?_) (fun c_19 => ?_)
  · have hf16 : powB (dd * k) (pw c k) ∧ ∀ j, 1 ≤ j → j ≤ dd * k → f16 j = pw c k j := by
      rcases hb16 with ⟨_, y⟩ | ⟨y, _⟩
      · exact y
      · exfalso; omega
    refine r_iconst (z := 1) dX11_makeEach_24 ?_
    refine r_istore (L2 := [_, _, _, _, _, none]) dX11_makeEach_25 (nlt rfl) rfl ?_
    have lp27 : ∀ (fu27 : Nat) (x1 : Nat → Int) (i : Int) (j : Nat), (8 - i) < (fu27 : Int) → (i = (j : Int)) → (1 ≤ j) → (j ≤ k + 1) → (∀ t, 1 ≤ t → t < j → x1 t = pw c k (dd * t)) → G X RX11 cX11_makeEach mX11_makeEach.rm N 0 0 27 [some (.ref (124)), some (.int (iZ (xi))), some (.int (iZ (ddi))), some (.int (iZ ((k : Int)))), some (.int (iZ (i))), none] [] (hs (hs h (139) (aL 37 (f16))) (141) (aL 7 (x1))) := by
      intro fu27
      induction fu27 with
      | zero => intro x1 i j hm ei j0 j1 hx; exfalso; omega
      | succ fu27 ih27 =>
        intro x1 i j hms27 ei j0 j1 hx
        refine r_iload dX11_makeEach_27 rfl ?_
        refine r_iload_n dX11_makeEach_29 rfl rfl ?_
        refine r_icmp_gt 55 dX11_makeEach_30 (by decide) ⟨by omega, by omega⟩ ⟨by omega, by omega⟩ (fun c_30 => ?_) (fun c_30 => ?_)
        · have j9 : j = k + 1 := by omega
          have hP9 : powB k x1 := fun t a b => by rw [hx t a (by omega)]; have h8 : dd * t ≤ dd * k := Nat.mul_le_mul_left dd b; have h9 : 1 * t ≤ dd * t := Nat.mul_le_mul_right t (by omega); exact hf16.1 (dd * t) (by omega) h8
          have hlc := lb_cong (P := x1) (P2 := fun j => pw c k (dd * j)) (K := k) (fun t a b => hx t a (by omega))
          refine r_aload_n dX11_makeEach_55 rfl rfl ?_
          refine r_iload_n dX11_makeEach_56 rfl rfl ?_
          refine r_callV (av := [.int (iZ ((k : Int)))]) dX11_makeEach_57 lkX11_fromPowers ml_X11_248 imX11_fromPowers seX11_fromPowers (by omega) (rfl : vwCl[11]? = _) ⟨_, ((hs_n (by omega)).trans ((hs_n (by omega)).trans hm0))⟩ ⟨Nat.le_of_ble_eq_true rfl, Nat.le_of_ble_eq_true rfl⟩ rfl rfl (nle rfl) ⟨Nat.le_of_ble_eq_true rfl, Nat.le_of_ble_eq_true rfl⟩ (c_X11_fromPowers (K := k) (xp := x1) (om := om) (ml := ml) (ms := ms) (ln := ln) (pr := pr) (nm := nm) (at_ := at_) (wr := wr) (va := va) (em := em) (ta := ta) (ro := ro) (dg := dg) ((hs_n (by omega)).trans ((hs_n (by omega)).trans hm0)) hN ((hs_n (by omega)).trans ((hs_n (by omega)).trans hom)) ((hs_n (by omega)).trans ((hs_n (by omega)).trans hml)) ((hs_n (by omega)).trans ((hs_n (by omega)).trans hms)) hs_e (by omega) (by omega) (by omega) hP9 (fun b57 om57 ml57 hM => ?_))
          show G _ _ _ _ _ _ _ 60 _ _ _
          refine r_if_eq 78 dX11_makeEach_60 (by decide) (by rcases hM.2.2 with ⟨y, _⟩ | ⟨y, _⟩ <;> exact ⟨by omega, by omega⟩) (fun c_60 => ?_) (fun c_60 => ?_)
          · refine r_iconst (z := 0) dX11_makeEach_78 ?_
            refine r_zreturn hq dX11_makeEach_79 rfl (by decide) rfl rfl ?_
            refine hQ _ _ ⟨fun a9 h9 => ((hs_n (by omega)).trans ((hs_n (by omega)).trans ((hs_n (by omega)).trans ((hs_n (by omega)).trans rfl)))), _, _, _, _, _, _, _, _, _, _, ((hs_n (by omega)).trans ((hs_n (by omega)).trans ((hs_n (by omega)).trans ((hs_n (by omega)).trans hm0)))), ((hs_n (by omega)).trans hs_e), hs_e, ((hs_n (by omega)).trans ((hs_n (by omega)).trans ((hs_n (by omega)).trans ((hs_n (by omega)).trans hms)))), ((hs_n (by omega)).trans ((hs_n (by omega)).trans ((hs_n (by omega)).trans ((hs_n (by omega)).trans hex)))), ((hs_n (by omega)).trans ((hs_n (by omega)).trans ((hs_n (by omega)).trans ((hs_n (by omega)).trans h138)))), ((hs_n (by omega)).trans ((hs_n (by omega)).trans ((hs_n (by omega)).trans hs_e))), ((hs_n (by omega)).trans ((hs_n (by omega)).trans ((hs_n (by omega)).trans ((hs_n (by omega)).trans h140)))), ((hs_n (by omega)).trans ((hs_n (by omega)).trans hs_e)), ((hs_n (by omega)).trans ((hs_n (by omega)).trans ((hs_n (by omega)).trans ((hs_n (by omega)).trans h142)))), hM.1, hM.2.1, (fun _ _ => rfl), ?_⟩
            refine Or.inl ⟨rfl, fun w9 => ?_⟩
            rcases hM.2.2 with ⟨_, y⟩ | ⟨y, _⟩
            · exact y (lawB_cong (fun t a b => (hlc t a b).symm) w9.1.2)
            · omega
          · obtain ⟨hM0, hlaw, eo6, hlw⟩ := hM.2.2.resolve_left (fun w => c_60 w.1)
            have hgM := hg.low hr6 hM.1 hM.2.1 (fun _ _ => rfl)
            refine r_aload_n dX11_makeEach_63 rfl rfl ?_
            refine r_iload_n dX11_makeEach_64 rfl rfl ?_
            refine r_iload_n dX11_makeEach_65 rfl rfl ?_
            refine r_iload_n dX11_makeEach_66 rfl rfl ?_
            refine r_iconst (z := 1) dX11_makeEach_67 ?_
            refine r_isub dX11_makeEach_68 ?_
            refine r_imul dX11_makeEach_69 ?_
            refine r_iconst (z := 1) dX11_makeEach_70 ?_
            refine r_iadd dX11_makeEach_71 ?_
            refine r_callV (av := [.int (iZ (xi)), .int (iZ ((ddi * ((k : Int) - 1)) + 1))]) dX11_makeEach_72 lkX11_layFirst ml_X11_237 imX11_layFirst seX11_layFirst (by omega) (rfl : vwCl[11]? = _) ⟨_, ((hs_n (by omega)).trans ((hs_n (by omega)).trans ((hs_n (by omega)).trans ((hs_n (by omega)).trans hm0))))⟩ ⟨Nat.le_of_ble_eq_true rfl, Nat.le_of_ble_eq_true rfl⟩ rfl rfl (nle rfl) ⟨Nat.le_of_ble_eq_true rfl, Nat.le_of_ble_eq_true rfl⟩ (c_X11_layFirst (c := c) (s := s) (r := r) (k := k) (m := (dd * (k - 1) + 1)) (ex0 := x130) (f0 := x142) (om := om57) (ml := ml57) (ms := ms) (ln := ln) (pr := pr) (nm := nm) (at_ := at_) (wr := wr) (va := va) (em := em) (ta := ta) (ro := ro) (dg := dg) ((hs_n (by omega)).trans ((hs_n (by omega)).trans ((hs_n (by omega)).trans ((hs_n (by omega)).trans hm0)))) hN ((hs_n (by omega)).trans hs_e) hs_e ((hs_n (by omega)).trans ((hs_n (by omega)).trans ((hs_n (by omega)).trans ((hs_n (by omega)).trans hms)))) ((hs_n (by omega)).trans ((hs_n (by omega)).trans ((hs_n (by omega)).trans ((hs_n (by omega)).trans hex)))) ((hs_n (by omega)).trans ((hs_n (by omega)).trans ((hs_n (by omega)).trans ((hs_n (by omega)).trans h142)))) hgM (by omega) (by omega) (by omega) (by omega) (by omega) (fun b72 em72 X72 fi72 hb72 => ?_))
            show G _ _ _ _ _ _ _ 75 _ _ _
            refine r_if_ne 80 dX11_makeEach_75 (by decide) (by rcases hb72 with ⟨y, _⟩ | ⟨y, _⟩ <;> exact ⟨by omega, by omega⟩) (fun c_75 => ?_) (fun c_75 => ?_)
            · obtain ⟨hb720, hxin, hxf⟩ := hb72.resolve_left (fun w => c_75 w.1)
              refine r_iconst (z := 1) dX11_makeEach_80 ?_
              refine r_istore (L2 := [_, _, _, _, _, none]) dX11_makeEach_81 (nlt rfl) rfl ?_
              refine r_iconst (z := 0) dX11_makeEach_83 ?_
              refine r_istore (L2 := [_, _, _, _, _, _]) dX11_makeEach_84 (nlt rfl) rfl ?_
              have lp86 : ∀ (fu86 : Nat) (ms1 : Nat → Int) (fit : Int) (nn : Int) (u : Nat), (8 - nn) < (fu86 : Int) → (nn = (u : Int)) → (u ≤ k) → (STL (mNum 4 (ex k c s) (ex k c s) ddi) ms ms1 fit u) → G X RX11 cX11_makeEach mX11_makeEach.rm N 0 0 86 [some (.ref (124)), some (.int (iZ (xi))), some (.int (iZ (ddi))), some (.int (iZ ((k : Int)))), some (.int (iZ (fit))), some (.int (iZ (nn)))] [] (hs (hs (hs (hs (hs (hs (hs (hs h (139) (aL 37 (f16))) (141) (aL 7 (x1))) (125) (aI 7 (om57))) (126) (aL 42 (ml57))) (124) (MOo (ln) (pr) (nm) (at_) (wr) (va) (em72) (ta) (ro) (dg))) (130) (aL 2001 (X72))) (142) (aL 100 (fi72))) (127) (aL 42 (ms1))) := by
                intro fu86
                induction fu86 with
                | zero => intro ms1 fit nn u hm en uK hS; exfalso; omega
                | succ fu86 ih86 =>
                  intro ms1 fit nn u hms86 en uK hS
                  have f01 := hS.1
                  refine r_iload dX11_makeEach_86 rfl ?_
                  refine r_iload_n dX11_makeEach_88 rfl rfl ?_
                  refine r_icmp_ge 128 dX11_makeEach_89 (by decide) ⟨by omega, by omega⟩ ⟨by omega, by omega⟩ (fun c_89 => ?_) (fun c_89 => ?_)
                  · refine r_iload dX11_makeEach_128 rfl ?_
                    refine r_zreturn hq dX11_makeEach_130 rfl (by omega) rfl rfl ?_
                    rw [show u = k by omega] at hS
                    refine hQ _ _ ⟨fun a9 h9 => ((hs_n (by omega)).trans ((hs_n (by omega)).trans ((hs_n (by omega)).trans ((hs_n (by omega)).trans ((hs_n (by omega)).trans ((hs_n (by omega)).trans ((hs_n (by omega)).trans ((hs_n (by omega)).trans rfl)))))))), _, _, _, _, _, _, _, _, _, _, ((hs_n (by omega)).trans ((hs_n (by omega)).trans ((hs_n (by omega)).trans hs_e))), ((hs_n (by omega)).trans ((hs_n (by omega)).trans ((hs_n (by omega)).trans ((hs_n (by omega)).trans ((hs_n (by omega)).trans hs_e))))), ((hs_n (by omega)).trans ((hs_n (by omega)).trans ((hs_n (by omega)).trans ((hs_n (by omega)).trans hs_e)))), hs_e, ((hs_n (by omega)).trans ((hs_n (by omega)).trans hs_e)), ((hs_n (by omega)).trans ((hs_n (by omega)).trans ((hs_n (by omega)).trans ((hs_n (by omega)).trans ((hs_n (by omega)).trans ((hs_n (by omega)).trans ((hs_n (by omega)).trans ((hs_n (by omega)).trans h138)))))))), ((hs_n (by omega)).trans ((hs_n (by omega)).trans ((hs_n (by omega)).trans ((hs_n (by omega)).trans ((hs_n (by omega)).trans ((hs_n (by omega)).trans ((hs_n (by omega)).trans hs_e))))))), ((hs_n (by omega)).trans ((hs_n (by omega)).trans ((hs_n (by omega)).trans ((hs_n (by omega)).trans ((hs_n (by omega)).trans ((hs_n (by omega)).trans ((hs_n (by omega)).trans ((hs_n (by omega)).trans h140)))))))), ((hs_n (by omega)).trans ((hs_n (by omega)).trans ((hs_n (by omega)).trans ((hs_n (by omega)).trans ((hs_n (by omega)).trans ((hs_n (by omega)).trans hs_e)))))), ((hs_n (by omega)).trans hs_e), hM.1, hM.2.1, hS.2.1, ?_⟩
                    rcases hS.fin with ⟨y, z⟩ | ⟨y1, y2, y3⟩
                    · exact Or.inl ⟨y, fun w9 => z w9.2.2.2.2⟩
                    · exact Or.inr ⟨y1, ⟨⟨hf16.1, lawB_cong hlc hlaw⟩, fun j hj => hxin j (by rw [hlast] at hj; omega), fun w3 => by omega, fun w3 => by omega, y2⟩, eo6, fun t a b => by rw [hlw t a b]; exact hlc t a b, y3⟩
                  · have hdu : ddi * nn = ((dd * u : Nat) : Int) := by rw [hdi, en, Int.natCast_mul]
                    have hdu1 : dd * u ≤ dd * (k - 1) := Nat.mul_le_mul_left dd (by omega)
                    have eg : fi72 (ddi * nn).toNat = mNum 4 (ex k c s) (ex k c s) ddi u := by
                      rw [show (ddi * nn).toNat = dd * u by omega, hxf (dd * u) (by omega) (by omega)]
                      show _ = ex k c s (ddi.toNat * u)
                      rw [← hdd]
                    have i1 := hxin (dd * u) (by omega)
                    have i0 : fi72 (ddi * nn).toNat = ex k c s (dd * u) := by rw [show (ddi * nn).toNat = dd * u by omega, hxf (dd * u) (by omega) (by omega)]
                    rw [← i0] at i1
                    have i11 := i1.1
                    have i12 := i1.2
                    refine r_aload_n dX11_makeEach_92 rfl rfl ?_
                    refine r_iload dX11_makeEach_93 rfl ?_
                    refine r_aload_n dX11_makeEach_95 rfl rfl ?_
                    refine gf_X11_66 dX11_makeEach_96 (by omega) ((hs_n (by omega)).trans ((hs_n (by omega)).trans ((hs_n (by omega)).trans hs_e))) rfl ?_
                    refine r_iload_n dX11_makeEach_99 rfl rfl ?_
                    refine r_iload dX11_makeEach_100 rfl ?_
                    refine r_imul dX11_makeEach_102 ?_
                    refine r_laload dX11_makeEach_103 (by omega) ((hs_n (by omega)).trans hs_e) (by omega) (by omega) (by decide) ?_
                    refine r_callV (av := [.int (iZ (nn)), .long (lZ (fi72 (ddi * nn).toNat))]) dX11_makeEach_104 lkX11_start ml_X11_240 imX11_start seX11_start (by omega) (rfl : vwCl[11]? = _) ⟨_, ((hs_n (by omega)).trans ((hs_n (by omega)).trans ((hs_n (by omega)).trans hs_e)))⟩ ⟨Nat.le_of_ble_eq_true rfl, Nat.le_of_ble_eq_true rfl⟩ rfl rfl (nle rfl) ⟨Nat.le_of_ble_eq_true rfl, Nat.le_of_ble_eq_true rfl⟩ (c_X11_start (n := u) (v := fi72 (ddi * nn).toNat) (ms := ms1) (ln := ln) (pr := pr) (nm := nm) (at_ := at_) (wr := wr) (va := va) (em := em72) (ta := ta) (ro := ro) (dg := dg) ((hs_n (by omega)).trans ((hs_n (by omega)).trans ((hs_n (by omega)).trans hs_e))) hN hs_e (by omega) (by omega) ⟨by omega, by omega⟩ (fun b104 hb104 => ?_))
                    refine g_heap (h2 := (hs (hs (hs (hs (hs (hs (hs (hs h (139) (aL 37 (f16))) (141) (aL 7 (x1))) (125) (aI 7 (om57))) (126) (aL 42 (ml57))) (124) (MOo (ln) (pr) (nm) (at_) (wr) (va) (em72) (ta) (ro) (dg))) (130) (aL 2001 (X72))) (142) (aL 100 (fi72))) (127) (aL 42 (uA ms1 (36 + u) (fi72 (ddi * nn).toNat))))) hs_hs ?_
                    show G _ _ _ _ _ _ _ 107 _ _ _
                    refine r_if_eq 119 dX11_makeEach_107 (by decide) ⟨by omega, by omega⟩ (fun c_107 => ?_) (fun c_107 => ?_)
                    · refine r_iconst (z := 0) dX11_makeEach_119 ?_
                      refine r_istore (L2 := [_, _, _, _, _, _]) dX11_makeEach_120 (nlt rfl) rfl ?_
                      refine r_iinc (L2 := [_, _, _, _, _, _]) dX11_makeEach_122 (nlt rfl) rfl rfl ?_
                      refine r_goto 86 dX11_makeEach_125 (by decide) ?_
                      exact ih86 (uA ms1 (36 + u) (fi72 (ddi * nn).toNat)) (0) (nn + 1) ((u + 1)) (by omega) (by omega) (by omega) (hS.no (fun w => by rcases hb104 with ⟨y, _⟩ | ⟨_, y⟩; omega; exact y (by have e := eg; rw [e]; exact w)) (fun t9 h9 => uA_n (by omega)))
                    · refine r_iload dX11_makeEach_110 rfl ?_
                      refine r_if_eq 119 dX11_makeEach_112 (by decide) ⟨by omega, by omega⟩ (fun c_112 => ?_) (fun c_112 => ?_)
                      · refine r_iconst (z := 0) dX11_makeEach_119 ?_
                        refine r_istore (L2 := [_, _, _, _, _, _]) dX11_makeEach_120 (nlt rfl) rfl ?_
                        refine r_iinc (L2 := [_, _, _, _, _, _]) dX11_makeEach_122 (nlt rfl) rfl rfl ?_
                        refine r_goto 86 dX11_makeEach_125 (by decide) ?_
                        exact ih86 (uA ms1 (36 + u) (fi72 (ddi * nn).toNat)) (0) (nn + 1) ((u + 1)) (by omega) (by omega) (by omega) (hS.old c_112 (fun t9 h9 => uA_n (by omega)))
                      · refine r_iconst (z := 1) dX11_makeEach_115 ?_
                        refine r_goto 120 dX11_makeEach_116 (by decide) ?_
                        refine r_istore (L2 := [_, _, _, _, _, _]) dX11_makeEach_120 (nlt rfl) rfl ?_
                        refine r_iinc (L2 := [_, _, _, _, _, _]) dX11_makeEach_122 (nlt rfl) rfl rfl ?_
                        refine r_goto 86 dX11_makeEach_125 (by decide) ?_
                        exact ih86 (uA ms1 (36 + u) (fi72 (ddi * nn).toNat)) (1) (nn + 1) ((u + 1)) (by omega) (by omega) (by omega) (hS.yes c_112 eg (by rcases hb104 with ⟨_, y⟩ | ⟨y, _⟩; exact y; omega))
              refine g_heap (hs_id (c := aL 42 (ms)) ((hs_n (by omega)).trans ((hs_n (by omega)).trans ((hs_n (by omega)).trans ((hs_n (by omega)).trans ((hs_n (by omega)).trans ((hs_n (by omega)).trans ((hs_n (by omega)).trans hms)))))))).symm ?_
              exact lp86 ((8 : Int) + 1).toNat (ms) (1) (0) (0) (by omega) rfl (Nat.zero_le _) (STL.nil _ _)
            · refine r_iconst (z := 0) dX11_makeEach_78 ?_
              refine r_zreturn hq dX11_makeEach_79 rfl (by decide) rfl rfl ?_
              refine hQ _ _ ⟨fun a9 h9 => ((hs_n (by omega)).trans ((hs_n (by omega)).trans ((hs_n (by omega)).trans ((hs_n (by omega)).trans ((hs_n (by omega)).trans ((hs_n (by omega)).trans ((hs_n (by omega)).trans rfl))))))), _, _, _, _, _, _, _, _, _, _, ((hs_n (by omega)).trans ((hs_n (by omega)).trans hs_e)), ((hs_n (by omega)).trans ((hs_n (by omega)).trans ((hs_n (by omega)).trans ((hs_n (by omega)).trans hs_e)))), ((hs_n (by omega)).trans ((hs_n (by omega)).trans ((hs_n (by omega)).trans hs_e))), ((hs_n (by omega)).trans ((hs_n (by omega)).trans ((hs_n (by omega)).trans ((hs_n (by omega)).trans ((hs_n (by omega)).trans ((hs_n (by omega)).trans ((hs_n (by omega)).trans hms))))))), ((hs_n (by omega)).trans hs_e), ((hs_n (by omega)).trans ((hs_n (by omega)).trans ((hs_n (by omega)).trans ((hs_n (by omega)).trans ((hs_n (by omega)).trans ((hs_n (by omega)).trans ((hs_n (by omega)).trans h138))))))), ((hs_n (by omega)).trans ((hs_n (by omega)).trans ((hs_n (by omega)).trans ((hs_n (by omega)).trans ((hs_n (by omega)).trans ((hs_n (by omega)).trans hs_e)))))), ((hs_n (by omega)).trans ((hs_n (by omega)).trans ((hs_n (by omega)).trans ((hs_n (by omega)).trans ((hs_n (by omega)).trans ((hs_n (by omega)).trans ((hs_n (by omega)).trans h140))))))), ((hs_n (by omega)).trans ((hs_n (by omega)).trans ((hs_n (by omega)).trans ((hs_n (by omega)).trans ((hs_n (by omega)).trans hs_e))))), hs_e, hM.1, hM.2.1, (fun _ _ => rfl), ?_⟩
              refine Or.inl ⟨rfl, fun w9 => ?_⟩
              rcases hb72 with ⟨_, y⟩ | ⟨y, _⟩
              · exact y (fun j hj => w9.2.1 j (by rw [hlast]; omega))
              · omega
        · have ein : i.toNat = j := by omega
          have hdj : ddi * i = ((dd * j : Nat) : Int) := by rw [hdi, ei, Int.natCast_mul]
          have hdj1 : dd * j ≤ dd * k := Nat.mul_le_mul_left dd (by omega)
          have hdj2 : 1 * j ≤ dd * j := Nat.mul_le_mul_right j (by omega)
          have hdn : (ddi * i).toNat = dd * j := by omega
          have hxj : f16 (ddi * i).toNat = pw c k (dd * j) := by rw [hdn]; exact hf16.2 _ (by omega) hdj1
          refine r_aload_n dX11_makeEach_33 rfl rfl ?_
          refine gf_X11_63 dX11_makeEach_34 (by omega) ((hs_n (by omega)).trans ((hs_n (by omega)).trans hm0)) rfl ?_
          refine r_iload dX11_makeEach_37 rfl ?_
          refine r_aload_n dX11_makeEach_39 rfl rfl ?_
          refine gf_X11_57 dX11_makeEach_40 (by omega) ((hs_n (by omega)).trans ((hs_n (by omega)).trans hm0)) rfl ?_
          refine r_iload_n dX11_makeEach_43 rfl rfl ?_
          refine r_iload dX11_makeEach_44 rfl ?_
          refine r_imul dX11_makeEach_46 ?_
          refine r_laload dX11_makeEach_47 (by omega) ((hs_n (by omega)).trans hs_e) (by omega) (by omega) (by decide) ?_
          refine r_lastore dX11_makeEach_48 (by omega) hs_e (by omega) (by omega) (by decide) ?_
          refine g_heap (h2 := (hs (hs h (139) (aL 37 (f16))) (141) (aL 7 (uA (x1) (i).toNat (f16 (ddi * i).toNat))))) hs_hs ?_
          refine r_iinc (L2 := [_, _, _, _, _, none]) dX11_makeEach_49 (nlt rfl) rfl rfl ?_
          refine r_goto 27 dX11_makeEach_52 (by decide) ?_
          exact ih27 (uA (x1) (i).toNat (f16 (ddi * i).toNat)) (i + 1) ((j + 1)) (by omega) (by omega) (by omega) (by omega) (fun t a b => by rw [ein]; by_cases z : t = j; (rw [z, uA_e]; exact hxj); rw [uA_n z]; exact hx t a (by omega))
    refine g_heap (hs_id (c := aL 7 (x141)) ((hs_n (by omega)).trans h141)).symm ?_
    exact lp27 ((8 : Int) + 1).toNat (x141) (1) (1) (by omega) rfl (Nat.le_refl _) (by omega) (fun t a b => by omega)
  · refine r_iconst (z := 0) dX11_makeEach_22 ?_
    refine r_zreturn hq dX11_makeEach_23 rfl (by decide) rfl rfl ?_
    refine hQ _ _ ⟨fun a9 h9 => ((hs_n (by omega)).trans rfl), _, _, _, _, _, _, _, _, _, _, ((hs_n (by omega)).trans hm0), ((hs_n (by omega)).trans hom), ((hs_n (by omega)).trans hml), ((hs_n (by omega)).trans hms), ((hs_n (by omega)).trans hex), ((hs_n (by omega)).trans h138), hs_e, ((hs_n (by omega)).trans h140), ((hs_n (by omega)).trans h141), ((hs_n (by omega)).trans h142), (fun _ _ => rfl), (fun _ _ => rfl), (fun _ _ => rfl), ?_⟩
    refine Or.inl ⟨rfl, fun w9 => ?_⟩
    rcases hb16 with ⟨y, _⟩ | ⟨_, y⟩
    · omega
    · exact y w9.1.1
set_option maxHeartbeats 8000000 in
set_option maxRecDepth 20000 in
theorem c_X11_makeSums {N : Nat} {h : Hp} {Q : QP} {ln pr nm at_ wr va em ta ro dg : Int} {om ml ms : Nat → Int} {x130 x138 x139 x140 x141 x142 c s : Nat → Int} {r k : Nat} {xi : Int} {ddi : Int} (hm0 : h 124 = MOo ln pr nm at_ wr va em ta ro dg) (hN : 146 ≤ N) (hom : h 125 = aI 7 om) (hml : h 126 = aL 42 ml) (hms : h 127 = aL 42 ms) (hex : h 130 = aL 2001 x130) (h138 : h 138 = aL 14 x138) (h139 : h 139 = aL 37 x139) (h140 : h 140 = aL 37 x140) (h141 : h 141 = aL 7 x141) (h142 : h 142 = aL 100 x142) (hg : RG om ml ms r k c s) (hri : xi = (r : Int)) (hr6 : r < 6) (hc0 : c 0 = -1) (hQ : ∀ (b : Int) (h2 : Hp), MKR h ln pr nm at_ wr va ta ro dg om ml ms (mOk 5 k k (ddi).toNat c c ∧ sOk 5 (mK 5 k k) (ex k c s) (ex k c s) ddi) (mK 5 k k) (mLaw 5 k k (ddi).toNat c c) (mNum 5 (ex k c s) (ex k c s) ddi) b h2 → Q (some (.int (iZ b))) N h2) : Runs mX11_makeSums [.ref (124), .int (iZ (xi))] N h Q := by
  rw [mOk5 rfl, mK5 rfl, mLaw5 rfl] at hQ
  obtain ⟨hg1, hk1, hk6, hg4, hg5⟩ := id hg
  have ern : xi.toNat = r := by omega
  have eom : om xi.toNat = (k : Int) := by rw [ern]; exact hg1
  have hlast : mLast 5 (k + 1) ddi.toNat = k + 1 - 1 := mLast_n (by decide) (by decide)
  refine run_start (own := RX11) rfl (by decide) (nle rfl) rfl (fun X hq hini => ?_)
  show G X RX11 cX11_makeSums mX11_makeSums.rm N 0 0 0 [some (.ref (124)), some (.int (iZ (xi))), none, none, none, none] [] h
  refine r_aload_n dX11_makeSums_0 rfl rfl ?_
  refine r_iload_n dX11_makeSums_1 rfl rfl ?_
  refine r_iconst (z := -1) dX11_makeSums_2 ?_
  refine r_callV (av := [.int (iZ (xi)), .int (iZ ((-1)))]) dX11_makeSums_3 lkX11_multiply ml_X11_234 imX11_multiply seX11_multiply (by omega) (rfl : vwCl[11]? = _) ⟨_, hm0⟩ ⟨Nat.le_of_ble_eq_true rfl, Nat.le_of_ble_eq_true rfl⟩ rfl rfl (nle rfl) ⟨Nat.le_of_ble_eq_true rfl, Nat.le_of_ble_eq_true rfl⟩ (c_X11_multiply (c := c) (s := s) (d := one1) (l := 1) (r := r) (k := k) (po := x138) (om := om) (ml := ml) (ms := ms) (ln := ln) (pr := pr) (nm := nm) (at_ := at_) (wr := wr) (va := va) (em := em) (ta := ta) (ro := ro) (dg := dg) hm0 hN hom hml hms h138 hg hri hr6 hc0 rfl (by decide) (by decide) (fun j _ => by unfold one1; split <;> decide) (by decide) (fun _ => ⟨by decide, rfl, rfl⟩) (fun w => absurd w (by decide)) (fun b3 om3 ml3 po3 hM => ?_))
  show G _ _ _ _ _ _ _ 6 _ _ _
  refine r_if_eq 24 dX11_makeSums_6 (by decide) (by rcases hM.2.2 with ⟨y, _⟩ | ⟨y, _⟩ <;> exact ⟨by omega, by omega⟩) (fun c_6 => ?_) (fun c_6 => ?_)
  · refine r_iconst (z := 0) dX11_makeSums_24 ?_
    refine r_zreturn hq dX11_makeSums_25 rfl (by decide) rfl rfl ?_
    refine hQ _ _ ⟨fun a9 h9 => ((hs_n (by omega)).trans ((hs_n (by omega)).trans ((hs_n (by omega)).trans rfl))), _, _, _, _, _, _, _, _, _, _, ((hs_n (by omega)).trans ((hs_n (by omega)).trans ((hs_n (by omega)).trans hm0))), ((hs_n (by omega)).trans hs_e), hs_e, ((hs_n (by omega)).trans ((hs_n (by omega)).trans ((hs_n (by omega)).trans hms))), ((hs_n (by omega)).trans ((hs_n (by omega)).trans ((hs_n (by omega)).trans hex))), ((hs_n (by omega)).trans ((hs_n (by omega)).trans hs_e)), ((hs_n (by omega)).trans ((hs_n (by omega)).trans ((hs_n (by omega)).trans h139))), ((hs_n (by omega)).trans ((hs_n (by omega)).trans ((hs_n (by omega)).trans h140))), ((hs_n (by omega)).trans ((hs_n (by omega)).trans ((hs_n (by omega)).trans h141))), ((hs_n (by omega)).trans ((hs_n (by omega)).trans ((hs_n (by omega)).trans h142))), hM.1, hM.2.1, (fun _ _ => rfl), ?_⟩
    refine Or.inl ⟨rfl, fun w9 => ?_⟩
    rcases hM.2.2 with ⟨_, y⟩ | ⟨y, _⟩
    · exact y w9.1
    · omega
  · obtain ⟨hM0, ⟨hkl, hlaw⟩, eo6, hlw⟩ := hM.2.2.resolve_left (fun w => c_6 w.1)
    have eo6t : om3 (6 : Int).toNat = _ := eo6
    have hgM := hg.low hr6 hM.1 hM.2.1 (fun _ _ => rfl)
    refine r_aload_n dX11_makeSums_9 rfl rfl ?_
    refine r_iload_n dX11_makeSums_10 rfl rfl ?_
    refine r_aload_n dX11_makeSums_11 rfl rfl ?_
    refine gf_X11_7 dX11_makeSums_12 (by omega) ((hs_n (by omega)).trans ((hs_n (by omega)).trans ((hs_n (by omega)).trans hm0))) rfl ?_
    refine r_bipush (z := 6) dX11_makeSums_15 (by decide) ?_
    refine r_iaload dX11_makeSums_17 (by omega) ((hs_n (by omega)).trans hs_e) (by omega) (by omega) (by decide) ?_
    refine r_callV (av := [.int (iZ (xi)), .int (iZ (om3 (6 : Int).toNat))]) dX11_makeSums_18 lkX11_layFirst ml_X11_237 imX11_layFirst seX11_layFirst (by omega) (rfl : vwCl[11]? = _) ⟨_, ((hs_n (by omega)).trans ((hs_n (by omega)).trans ((hs_n (by omega)).trans hm0)))⟩ ⟨Nat.le_of_ble_eq_true rfl, Nat.le_of_ble_eq_true rfl⟩ rfl rfl (nle rfl) ⟨Nat.le_of_ble_eq_true rfl, Nat.le_of_ble_eq_true rfl⟩ (c_X11_layFirst (c := c) (s := s) (r := r) (k := k) (m := (k + 1)) (ex0 := x130) (f0 := x142) (om := om3) (ml := ml3) (ms := ms) (ln := ln) (pr := pr) (nm := nm) (at_ := at_) (wr := wr) (va := va) (em := em) (ta := ta) (ro := ro) (dg := dg) ((hs_n (by omega)).trans ((hs_n (by omega)).trans ((hs_n (by omega)).trans hm0))) hN ((hs_n (by omega)).trans hs_e) hs_e ((hs_n (by omega)).trans ((hs_n (by omega)).trans ((hs_n (by omega)).trans hms))) ((hs_n (by omega)).trans ((hs_n (by omega)).trans ((hs_n (by omega)).trans hex))) ((hs_n (by omega)).trans ((hs_n (by omega)).trans ((hs_n (by omega)).trans h142))) hgM (by omega) (by omega) (by omega) (by omega) (by omega) (fun b18 em18 X18 fi18 hb18 => ?_))
    show G _ _ _ _ _ _ _ 21 _ _ _
    refine r_if_ne 26 dX11_makeSums_21 (by decide) ⟨by omega, by omega⟩ (fun c_21 => ?_) (fun c_21 => ?_)
    · obtain ⟨hb180, hxin, hxf⟩ := hb18.resolve_left (fun w => c_21 w.1)
      refine r_lconst (z := 0) dX11_makeSums_26 (by decide) ?_
      refine r_lstore_n (L2 := [_, _, _, none, none, none]) dX11_makeSums_27 rfl (nlt rfl) rfl ?_
      refine r_iconst (z := 1) dX11_makeSums_28 ?_
      refine r_istore (L2 := [_, _, _, none, _, none]) dX11_makeSums_29 (nlt rfl) rfl ?_
      refine r_iconst (z := 0) dX11_makeSums_31 ?_
      refine r_istore (L2 := [_, _, _, none, _, _]) dX11_makeSums_32 (nlt rfl) rfl ?_
      have lp34 : ∀ (fu34 : Nat) (ms1 : Nat → Int) (a : Int) (fit : Int) (nn : Int) (u : Nat), (8 - nn) < (fu34 : Int) → (nn = (u : Int)) → (u ≤ k + 1) → (STL (mNum 5 (ex k c s) (ex k c s) ddi) ms ms1 fit u) → (a = sm (ex k c s) u) → (-((u : Int) * 100000000000000000) ≤ a) → (a ≤ (u : Int) * 100000000000000000) → G X RX11 cX11_makeSums mX11_makeSums.rm N 0 0 34 [some (.ref (124)), some (.int (iZ (xi))), some (.long (lZ (a))), none, some (.int (iZ (fit))), some (.int (iZ (nn)))] [] (hs (hs (hs (hs (hs (hs (hs h (138) (aL 14 (po3))) (125) (aI 7 (om3))) (126) (aL 42 (ml3))) (124) (MOo (ln) (pr) (nm) (at_) (wr) (va) (em18) (ta) (ro) (dg))) (130) (aL 2001 (X18))) (142) (aL 100 (fi18))) (127) (aL 42 (ms1))) := by
        intro fu34
        induction fu34 with
        | zero => intro ms1 a fit nn u hm en uK hS ea a0 a1; exfalso; omega
        | succ fu34 ih34 =>
          intro ms1 a fit nn u hms34 en uK hS ea a0 a1
          have f01 := hS.1
          refine r_iload dX11_makeSums_34 rfl ?_
          refine r_aload_n dX11_makeSums_36 rfl rfl ?_
          refine gf_X11_7 dX11_makeSums_37 (by omega) ((hs_n (by omega)).trans ((hs_n (by omega)).trans ((hs_n (by omega)).trans hs_e))) rfl ?_
          refine r_bipush (z := 6) dX11_makeSums_40 (by decide) ?_
          refine r_iaload dX11_makeSums_42 (by omega) ((hs_n (by omega)).trans ((hs_n (by omega)).trans ((hs_n (by omega)).trans ((hs_n (by omega)).trans ((hs_n (by omega)).trans hs_e))))) (by omega) (by omega) (by decide) ?_
          refine r_icmp_ge 84 dX11_makeSums_43 (by decide) ⟨by omega, by omega⟩ ⟨by omega, by omega⟩ (fun c_43 => ?_) (fun c_43 => ?_)
          · refine r_iload dX11_makeSums_84 rfl ?_
            refine r_zreturn hq dX11_makeSums_86 rfl (by omega) rfl rfl ?_
            rw [show u = k + 1 by omega] at hS
            refine hQ _ _ ⟨fun a9 h9 => ((hs_n (by omega)).trans ((hs_n (by omega)).trans ((hs_n (by omega)).trans ((hs_n (by omega)).trans ((hs_n (by omega)).trans ((hs_n (by omega)).trans ((hs_n (by omega)).trans rfl))))))), _, _, _, _, _, _, _, _, _, _, ((hs_n (by omega)).trans ((hs_n (by omega)).trans ((hs_n (by omega)).trans hs_e))), ((hs_n (by omega)).trans ((hs_n (by omega)).trans ((hs_n (by omega)).trans ((hs_n (by omega)).trans ((hs_n (by omega)).trans hs_e))))), ((hs_n (by omega)).trans ((hs_n (by omega)).trans ((hs_n (by omega)).trans ((hs_n (by omega)).trans hs_e)))), hs_e, ((hs_n (by omega)).trans ((hs_n (by omega)).trans hs_e)), ((hs_n (by omega)).trans ((hs_n (by omega)).trans ((hs_n (by omega)).trans ((hs_n (by omega)).trans ((hs_n (by omega)).trans ((hs_n (by omega)).trans hs_e)))))), ((hs_n (by omega)).trans ((hs_n (by omega)).trans ((hs_n (by omega)).trans ((hs_n (by omega)).trans ((hs_n (by omega)).trans ((hs_n (by omega)).trans ((hs_n (by omega)).trans h139))))))), ((hs_n (by omega)).trans ((hs_n (by omega)).trans ((hs_n (by omega)).trans ((hs_n (by omega)).trans ((hs_n (by omega)).trans ((hs_n (by omega)).trans ((hs_n (by omega)).trans h140))))))), ((hs_n (by omega)).trans ((hs_n (by omega)).trans ((hs_n (by omega)).trans ((hs_n (by omega)).trans ((hs_n (by omega)).trans ((hs_n (by omega)).trans ((hs_n (by omega)).trans h141))))))), ((hs_n (by omega)).trans hs_e), hM.1, hM.2.1, hS.2.1, ?_⟩
            rcases hS.fin with ⟨y, z⟩ | ⟨y1, y2, y3⟩
            · exact Or.inl ⟨y, fun w9 => z w9.2.2.2.2⟩
            · exact Or.inr ⟨y1, ⟨⟨hkl, hlaw⟩, fun j hj => hxin j (by rw [hlast] at hj; omega), fun w3 => by omega, fun w3 => by omega, y2⟩, eo6, hlw, y3⟩
          · have exf : fi18 nn.toNat = ex k c s u := by rw [show nn.toNat = u by omega]; exact hxf u (by omega) (by omega)
            have i1 := hxin u (by omega)
            rw [← exf] at i1
            have i11 := i1.1
            have i12 := i1.2
            have eg : a + fi18 nn.toNat = mNum 5 (ex k c s) (ex k c s) ddi u := by
              rw [exf, ea]; rfl
            refine r_lload_n dX11_makeSums_46 rfl rfl ?_
            refine r_aload_n dX11_makeSums_47 rfl rfl ?_
            refine gf_X11_66 dX11_makeSums_48 (by omega) ((hs_n (by omega)).trans ((hs_n (by omega)).trans ((hs_n (by omega)).trans hs_e))) rfl ?_
            refine r_iload dX11_makeSums_51 rfl ?_
            refine r_laload dX11_makeSums_53 (by omega) ((hs_n (by omega)).trans hs_e) (by omega) (by omega) (by decide) ?_
            refine r_ladd dX11_makeSums_54 ?_
            refine r_lstore_n (L2 := [_, _, _, none, _, _]) dX11_makeSums_55 rfl (nlt rfl) rfl ?_
            refine r_aload_n dX11_makeSums_56 rfl rfl ?_
            refine r_iload dX11_makeSums_57 rfl ?_
            refine r_lload_n dX11_makeSums_59 rfl rfl ?_
            refine r_callV (av := [.int (iZ (nn)), .long (lZ (a + (fi18 (nn).toNat)))]) dX11_makeSums_60 lkX11_start ml_X11_240 imX11_start seX11_start (by omega) (rfl : vwCl[11]? = _) ⟨_, ((hs_n (by omega)).trans ((hs_n (by omega)).trans ((hs_n (by omega)).trans hs_e)))⟩ ⟨Nat.le_of_ble_eq_true rfl, Nat.le_of_ble_eq_true rfl⟩ rfl rfl (nle rfl) ⟨Nat.le_of_ble_eq_true rfl, Nat.le_of_ble_eq_true rfl⟩ (c_X11_start (n := u) (v := a + (fi18 (nn).toNat)) (ms := ms1) (ln := ln) (pr := pr) (nm := nm) (at_ := at_) (wr := wr) (va := va) (em := em18) (ta := ta) (ro := ro) (dg := dg) ((hs_n (by omega)).trans ((hs_n (by omega)).trans ((hs_n (by omega)).trans hs_e))) hN hs_e (by omega) (by omega) ⟨by omega, by omega⟩ (fun b60 hb60 => ?_))
            refine g_heap (h2 := (hs (hs (hs (hs (hs (hs (hs h (138) (aL 14 (po3))) (125) (aI 7 (om3))) (126) (aL 42 (ml3))) (124) (MOo (ln) (pr) (nm) (at_) (wr) (va) (em18) (ta) (ro) (dg))) (130) (aL 2001 (X18))) (142) (aL 100 (fi18))) (127) (aL 42 (uA ms1 (36 + u) (a + (fi18 (nn).toNat)))))) hs_hs ?_
            show G _ _ _ _ _ _ _ 63 _ _ _
            refine r_if_eq 75 dX11_makeSums_63 (by decide) ⟨by omega, by omega⟩ (fun c_63 => ?_) (fun c_63 => ?_)
            · refine r_iconst (z := 0) dX11_makeSums_75 ?_
              refine r_istore (L2 := [_, _, _, none, _, _]) dX11_makeSums_76 (nlt rfl) rfl ?_
              refine r_iinc (L2 := [_, _, _, none, _, _]) dX11_makeSums_78 (nlt rfl) rfl rfl ?_
              refine r_goto 34 dX11_makeSums_81 (by decide) ?_
              exact ih34 (uA ms1 (36 + u) (a + (fi18 (nn).toNat))) (a + (fi18 (nn).toNat)) (0) (nn + 1) ((u + 1)) (by omega) (by omega) (by omega) (hS.no (fun w => by rcases hb60 with ⟨y, _⟩ | ⟨_, y⟩; omega; exact y (by have e := eg; rw [e]; exact w)) (fun t9 h9 => uA_n (by omega))) (by rw [sm_s, ea, exf]) (by omega) (by omega)
            · refine r_iload dX11_makeSums_66 rfl ?_
              refine r_if_eq 75 dX11_makeSums_68 (by decide) ⟨by omega, by omega⟩ (fun c_68 => ?_) (fun c_68 => ?_)
              · refine r_iconst (z := 0) dX11_makeSums_75 ?_
                refine r_istore (L2 := [_, _, _, none, _, _]) dX11_makeSums_76 (nlt rfl) rfl ?_
                refine r_iinc (L2 := [_, _, _, none, _, _]) dX11_makeSums_78 (nlt rfl) rfl rfl ?_
                refine r_goto 34 dX11_makeSums_81 (by decide) ?_
                exact ih34 (uA ms1 (36 + u) (a + (fi18 (nn).toNat))) (a + (fi18 (nn).toNat)) (0) (nn + 1) ((u + 1)) (by omega) (by omega) (by omega) (hS.old c_68 (fun t9 h9 => uA_n (by omega))) (by rw [sm_s, ea, exf]) (by omega) (by omega)
              · refine r_iconst (z := 1) dX11_makeSums_71 ?_
                refine r_goto 76 dX11_makeSums_72 (by decide) ?_
                refine r_istore (L2 := [_, _, _, none, _, _]) dX11_makeSums_76 (nlt rfl) rfl ?_
                refine r_iinc (L2 := [_, _, _, none, _, _]) dX11_makeSums_78 (nlt rfl) rfl rfl ?_
                refine r_goto 34 dX11_makeSums_81 (by decide) ?_
                exact ih34 (uA ms1 (36 + u) (a + (fi18 (nn).toNat))) (a + (fi18 (nn).toNat)) (1) (nn + 1) ((u + 1)) (by omega) (by omega) (by omega) (hS.yes c_68 eg (by rcases hb60 with ⟨_, y⟩ | ⟨y, _⟩; exact y; omega)) (by rw [sm_s, ea, exf]) (by omega) (by omega)
      refine g_heap (hs_id (c := aL 42 (ms)) ((hs_n (by omega)).trans ((hs_n (by omega)).trans ((hs_n (by omega)).trans ((hs_n (by omega)).trans ((hs_n (by omega)).trans ((hs_n (by omega)).trans hms))))))).symm ?_
      exact lp34 ((8 : Int) + 1).toNat (ms) (0) (1) (0) (0) (by omega) rfl (Nat.zero_le _) (STL.nil _ _) rfl (by omega) (by omega)
    · refine r_iconst (z := 0) dX11_makeSums_24 ?_
      refine r_zreturn hq dX11_makeSums_25 rfl (by decide) rfl rfl ?_
      refine hQ _ _ ⟨fun a9 h9 => ((hs_n (by omega)).trans ((hs_n (by omega)).trans ((hs_n (by omega)).trans ((hs_n (by omega)).trans ((hs_n (by omega)).trans ((hs_n (by omega)).trans rfl)))))), _, _, _, _, _, _, _, _, _, _, ((hs_n (by omega)).trans ((hs_n (by omega)).trans hs_e)), ((hs_n (by omega)).trans ((hs_n (by omega)).trans ((hs_n (by omega)).trans ((hs_n (by omega)).trans hs_e)))), ((hs_n (by omega)).trans ((hs_n (by omega)).trans ((hs_n (by omega)).trans hs_e))), ((hs_n (by omega)).trans ((hs_n (by omega)).trans ((hs_n (by omega)).trans ((hs_n (by omega)).trans ((hs_n (by omega)).trans ((hs_n (by omega)).trans hms)))))), ((hs_n (by omega)).trans hs_e), ((hs_n (by omega)).trans ((hs_n (by omega)).trans ((hs_n (by omega)).trans ((hs_n (by omega)).trans ((hs_n (by omega)).trans hs_e))))), ((hs_n (by omega)).trans ((hs_n (by omega)).trans ((hs_n (by omega)).trans ((hs_n (by omega)).trans ((hs_n (by omega)).trans ((hs_n (by omega)).trans h139)))))), ((hs_n (by omega)).trans ((hs_n (by omega)).trans ((hs_n (by omega)).trans ((hs_n (by omega)).trans ((hs_n (by omega)).trans ((hs_n (by omega)).trans h140)))))), ((hs_n (by omega)).trans ((hs_n (by omega)).trans ((hs_n (by omega)).trans ((hs_n (by omega)).trans ((hs_n (by omega)).trans ((hs_n (by omega)).trans h141)))))), hs_e, hM.1, hM.2.1, (fun _ _ => rfl), ?_⟩
      refine Or.inl ⟨rfl, fun w9 => ?_⟩
      rcases hb18 with ⟨_, y⟩ | ⟨y, _⟩
      · exact y (fun j hj => w9.2.1 j (by rw [hlast]; omega))
      · omega
set_option maxHeartbeats 8000000 in
set_option maxRecDepth 20000 in
theorem c_X11_makeMoved {N : Nat} {h : Hp} {Q : QP} {ln pr nm at_ wr va em ta ro dg : Int} {om ml ms : Nat → Int} {x130 x138 x139 x140 x141 x142 c s : Nat → Int} {r k : Nat} {xi : Int} {ddi : Int} (hm0 : h 124 = MOo ln pr nm at_ wr va em ta ro dg) (hN : 146 ≤ N) (hom : h 125 = aI 7 om) (hml : h 126 = aL 42 ml) (hms : h 127 = aL 42 ms) (hex : h 130 = aL 2001 x130) (h138 : h 138 = aL 14 x138) (h139 : h 139 = aL 37 x139) (h140 : h 140 = aL 37 x140) (h141 : h 141 = aL 7 x141) (h142 : h 142 = aL 100 x142) (hg : RG om ml ms r k c s) (hri : xi = (r : Int)) (hr6 : r < 6) (hc0 : c 0 = -1) (hdd0 : 0 ≤ ddi) (hdd1 : ddi ≤ 1000) (hQ : ∀ (b : Int) (h2 : Hp), MKR h ln pr nm at_ wr va ta ro dg om ml ms (mOk 6 k k (ddi).toNat c c ∧ sOk 6 (mK 6 k k) (ex k c s) (ex k c s) ddi) (mK 6 k k) (mLaw 6 k k (ddi).toNat c c) (mNum 6 (ex k c s) (ex k c s) ddi) b h2 → Q (some (.int (iZ b))) N h2) : Runs mX11_makeMoved [.ref (124), .int (iZ (xi)), .int (iZ (ddi))] N h Q := by
  rw [mOk67 (Or.inl rfl), mK67 (Or.inl rfl), mLaw67 (Or.inl rfl)] at hQ
  obtain ⟨hg1, hk1, hk6, hg4, hg5⟩ := id hg
  have ern : xi.toNat = r := by omega
  have eom : om xi.toNat = (k : Int) := by rw [ern]; exact hg1
  have eomM : (uA om 6 (om r)) xi.toNat = (k : Int) := (uA_n (by omega)).trans eom
  have hlast : mLast 6 k ddi.toNat = ddi.toNat + (k - 1) := rfl
  refine run_start (own := RX11) rfl (by decide) (nle rfl) rfl (fun X hq hini => ?_)
  show G X RX11 cX11_makeMoved mX11_makeMoved.rm N 0 0 0 [some (.ref (124)), some (.int (iZ (xi))), some (.int (iZ (ddi))), none, none] [] h
  refine r_aload_n dX11_makeMoved_0 rfl rfl ?_
  refine r_iload_n dX11_makeMoved_1 rfl rfl ?_
  refine r_callV (av := [.int (iZ (xi))]) dX11_makeMoved_2 lkX11_copyLaw ml_X11_255 imX11_copyLaw seX11_copyLaw (by omega) (rfl : vwCl[11]? = _) ⟨_, hm0⟩ ⟨Nat.le_of_ble_eq_true rfl, Nat.le_of_ble_eq_true rfl⟩ rfl rfl (nle rfl) ⟨Nat.le_of_ble_eq_true rfl, Nat.le_of_ble_eq_true rfl⟩ (c_X11_copyLaw (r := r) (om := om) (ml := ml) (ms := ms) (ln := ln) (pr := pr) (nm := nm) (at_ := at_) (wr := wr) (va := va) (em := em) (ta := ta) (ro := ro) (dg := dg) hm0 hN hom hml hms hri hr6 (fun ml2 hc12 hc22 => ?_))
  show G _ _ _ _ _ _ _ 5 _ _ _
  have hgM : RG (uA om 6 (om r)) ml2 ms r k c s := hg.low hr6 (fun i9 h9 => uA_n (f := om) (show i9 ≠ 6 by omega)) hc12 (fun _ _ => rfl)
  refine r_aload_n dX11_makeMoved_5 rfl rfl ?_
  refine r_iload_n dX11_makeMoved_6 rfl rfl ?_
  refine r_iload_n dX11_makeMoved_7 rfl rfl ?_
  refine r_aload_n dX11_makeMoved_8 rfl rfl ?_
  refine gf_X11_7 dX11_makeMoved_9 (by omega) ((hs_n (by omega)).trans ((hs_n (by omega)).trans hm0)) rfl ?_
  refine r_iload_n dX11_makeMoved_12 rfl rfl ?_
  refine r_iaload dX11_makeMoved_13 (by omega) ((hs_n (by omega)).trans hs_e) (by omega) (by omega) (by decide) ?_
  refine r_iadd dX11_makeMoved_14 ?_
  refine r_iconst (z := 1) dX11_makeMoved_15 ?_
  refine r_isub dX11_makeMoved_16 ?_
  refine r_callV (av := [.int (iZ (xi)), .int (iZ ((ddi + ((uA om 6 (om r)) (xi).toNat)) - 1))]) dX11_makeMoved_17 lkX11_layExact ml_X11_150 imX11_layExact seX11_layExact (by omega) (rfl : vwCl[11]? = _) ⟨_, ((hs_n (by omega)).trans ((hs_n (by omega)).trans hm0))⟩ ⟨Nat.le_of_ble_eq_true rfl, Nat.le_of_ble_eq_true rfl⟩ rfl rfl (nle rfl) ⟨Nat.le_of_ble_eq_true rfl, Nat.le_of_ble_eq_true rfl⟩ (c_X11_layExact (r := r) (k := k) (c := c) (s := s) (last := (ddi.toNat + k - 1)) (om := uA om 6 (om r)) (ml := ml2) (ms := ms) (ex0 := x130) (ln := ln) (pr := pr) (nm := nm) (at_ := at_) (wr := wr) (va := va) (em := em) (ta := ta) (ro := ro) (dg := dg) ((hs_n (by omega)).trans ((hs_n (by omega)).trans hm0)) hN ((hs_n (by omega)).trans hs_e) hs_e ((hs_n (by omega)).trans ((hs_n (by omega)).trans hms)) ((hs_n (by omega)).trans ((hs_n (by omega)).trans hex)) hgM (by omega) (by omega) (by omega) (by omega) (fun t17 X17 hT17 hX17 => ?_))
  show G _ _ _ _ _ _ _ 20 _ _ _
  have tl17 : t17 ≤ ddi.toNat + k := by have := hT17.1; omega
  refine r_iload_n dX11_makeMoved_20 rfl rfl ?_
  refine r_aload_n dX11_makeMoved_21 rfl rfl ?_
  refine gf_X11_7 dX11_makeMoved_22 (by omega) ((hs_n (by omega)).trans hs_e) rfl ?_
  refine r_iload_n dX11_makeMoved_25 rfl rfl ?_
  refine r_iaload dX11_makeMoved_26 (by omega) ((hs_n (by omega)).trans ((hs_n (by omega)).trans ((hs_n (by omega)).trans hs_e))) (by omega) (by omega) (by decide) ?_
  refine r_iadd dX11_makeMoved_27 ?_
  refine r_icmp_ge 33 dX11_makeMoved_28 (by decide) ⟨by omega, by omega⟩ ⟨by omega, by omega⟩ (fun c_28 => ?_) (fun c_28 => ?_)
  · have te : t17 = ddi.toNat + k := by omega
    refine r_iconst (z := 1) dX11_makeMoved_33 ?_
    refine r_istore_n (L2 := [_, _, _, _, none]) dX11_makeMoved_34 rfl (nlt rfl) rfl ?_
    refine r_iconst (z := 0) dX11_makeMoved_35 ?_
    refine r_istore (L2 := [_, _, _, _, _]) dX11_makeMoved_36 (nlt rfl) rfl ?_
    have lp38 : ∀ (fu38 : Nat) (ms1 : Nat → Int) (fit : Int) (nn : Int) (u : Nat), (8 - nn) < (fu38 : Int) → (nn = (u : Int)) → (u ≤ k) → (STL (mNum 6 (ex k c s) (ex k c s) ddi) ms ms1 fit u) → G X RX11 cX11_makeMoved mX11_makeMoved.rm N 0 0 38 [some (.ref (124)), some (.int (iZ (xi))), some (.int (iZ (ddi))), some (.int (iZ (fit))), some (.int (iZ (nn)))] [] (hs (hs (hs (hs (hs h (125) (aI 7 (uA om 6 (om r)))) (126) (aL 42 (ml2))) (124) (MOo (ln) (pr) (nm) (at_) (wr) (va) ((t17 : Int)) (ta) (ro) (dg))) (130) (aL 2001 (X17))) (127) (aL 42 (ms1))) := by
      intro fu38
      induction fu38 with
      | zero => intro ms1 fit nn u hm en uK hS; exfalso; omega
      | succ fu38 ih38 =>
        intro ms1 fit nn u hms38 en uK hS
        have f01 := hS.1
        refine r_iload dX11_makeMoved_38 rfl ?_
        refine r_aload_n dX11_makeMoved_40 rfl rfl ?_
        refine gf_X11_7 dX11_makeMoved_41 (by omega) ((hs_n (by omega)).trans ((hs_n (by omega)).trans hs_e)) rfl ?_
        refine r_iload_n dX11_makeMoved_44 rfl rfl ?_
        refine r_iaload dX11_makeMoved_45 (by omega) ((hs_n (by omega)).trans ((hs_n (by omega)).trans ((hs_n (by omega)).trans ((hs_n (by omega)).trans hs_e)))) (by omega) (by omega) (by decide) ?_
        refine r_icmp_ge 83 dX11_makeMoved_46 (by decide) ⟨by omega, by omega⟩ ⟨by omega, by omega⟩ (fun c_46 => ?_) (fun c_46 => ?_)
        · refine r_iload_n dX11_makeMoved_83 rfl rfl ?_
          refine r_zreturn hq dX11_makeMoved_84 rfl (by omega) rfl rfl ?_
          rw [show u = k by omega] at hS
          refine hQ _ _ ⟨fun a9 h9 => ((hs_n (by omega)).trans ((hs_n (by omega)).trans ((hs_n (by omega)).trans ((hs_n (by omega)).trans ((hs_n (by omega)).trans rfl))))), _, _, _, _, _, _, _, _, _, _, ((hs_n (by omega)).trans ((hs_n (by omega)).trans hs_e)), ((hs_n (by omega)).trans ((hs_n (by omega)).trans ((hs_n (by omega)).trans ((hs_n (by omega)).trans hs_e)))), ((hs_n (by omega)).trans ((hs_n (by omega)).trans ((hs_n (by omega)).trans hs_e))), hs_e, ((hs_n (by omega)).trans hs_e), ((hs_n (by omega)).trans ((hs_n (by omega)).trans ((hs_n (by omega)).trans ((hs_n (by omega)).trans ((hs_n (by omega)).trans h138))))), ((hs_n (by omega)).trans ((hs_n (by omega)).trans ((hs_n (by omega)).trans ((hs_n (by omega)).trans ((hs_n (by omega)).trans h139))))), ((hs_n (by omega)).trans ((hs_n (by omega)).trans ((hs_n (by omega)).trans ((hs_n (by omega)).trans ((hs_n (by omega)).trans h140))))), ((hs_n (by omega)).trans ((hs_n (by omega)).trans ((hs_n (by omega)).trans ((hs_n (by omega)).trans ((hs_n (by omega)).trans h141))))), ((hs_n (by omega)).trans ((hs_n (by omega)).trans ((hs_n (by omega)).trans ((hs_n (by omega)).trans ((hs_n (by omega)).trans h142))))), (fun i9 h9 => uA_n (show i9 ≠ 6 by omega)), hc12, hS.2.1, ?_⟩
          rcases hS.fin with ⟨y, z⟩ | ⟨y1, y2, y3⟩
          · exact Or.inl ⟨y, fun w9 => z w9.2.2.2.2⟩
          · exact Or.inr ⟨y1, ⟨trivial, fun j hj => hT17.2.1 j (by rw [hlast] at hj; omega), fun w3 => by omega, fun w3 => by omega, y2⟩, uA_e.trans hg1, fun t a b => by rw [show 36 + t - 1 = 36 + (t - 1) by omega, hc22 (t - 1) (by omega), show 6 * r + (t - 1) = 6 * r + t - 1 by omega]; exact (hg4 t a b).1, y3⟩
        · have exf : X17 (ddi + nn).toNat = ex k c s (u + ddi.toNat) := by rw [show (ddi + nn).toNat = u + ddi.toNat by omega]; exact hX17 _ (by omega)
          have i1 := hT17.2.1 (u + ddi.toNat) (by omega)
          rw [← exf] at i1
          have i11 := i1.1
          have i12 := i1.2
          have eg : X17 (ddi + nn).toNat = mNum 6 (ex k c s) (ex k c s) ddi u := exf
          refine r_aload_n dX11_makeMoved_49 rfl rfl ?_
          refine r_iload dX11_makeMoved_50 rfl ?_
          refine r_aload_n dX11_makeMoved_52 rfl rfl ?_
          refine gf_X11_30 dX11_makeMoved_53 (by omega) ((hs_n (by omega)).trans ((hs_n (by omega)).trans hs_e)) rfl ?_
          refine r_iload_n dX11_makeMoved_56 rfl rfl ?_
          refine r_iload dX11_makeMoved_57 rfl ?_
          refine r_iadd dX11_makeMoved_59 ?_
          refine r_laload dX11_makeMoved_60 (by omega) ((hs_n (by omega)).trans hs_e) (by omega) (by omega) (by decide) ?_
          refine r_callV (av := [.int (iZ (nn)), .long (lZ (X17 (ddi + nn).toNat))]) dX11_makeMoved_61 lkX11_start ml_X11_240 imX11_start seX11_start (by omega) (rfl : vwCl[11]? = _) ⟨_, ((hs_n (by omega)).trans ((hs_n (by omega)).trans hs_e))⟩ ⟨Nat.le_of_ble_eq_true rfl, Nat.le_of_ble_eq_true rfl⟩ rfl rfl (nle rfl) ⟨Nat.le_of_ble_eq_true rfl, Nat.le_of_ble_eq_true rfl⟩ (c_X11_start (n := u) (v := X17 (ddi + nn).toNat) (ms := ms1) (ln := ln) (pr := pr) (nm := nm) (at_ := at_) (wr := wr) (va := va) (em := (t17 : Int)) (ta := ta) (ro := ro) (dg := dg) ((hs_n (by omega)).trans ((hs_n (by omega)).trans hs_e)) hN hs_e (by omega) (by omega) ⟨by omega, by omega⟩ (fun b61 hb61 => ?_))
          refine g_heap (h2 := (hs (hs (hs (hs (hs h (125) (aI 7 (uA om 6 (om r)))) (126) (aL 42 (ml2))) (124) (MOo (ln) (pr) (nm) (at_) (wr) (va) ((t17 : Int)) (ta) (ro) (dg))) (130) (aL 2001 (X17))) (127) (aL 42 (uA ms1 (36 + u) (X17 (ddi + nn).toNat))))) hs_hs ?_
          show G _ _ _ _ _ _ _ 64 _ _ _
          refine r_if_eq 75 dX11_makeMoved_64 (by decide) ⟨by omega, by omega⟩ (fun c_64 => ?_) (fun c_64 => ?_)
          · refine r_iconst (z := 0) dX11_makeMoved_75 ?_
            refine r_istore_n (L2 := [_, _, _, _, _]) dX11_makeMoved_76 rfl (nlt rfl) rfl ?_
            refine r_iinc (L2 := [_, _, _, _, _]) dX11_makeMoved_77 (nlt rfl) rfl rfl ?_
            refine r_goto 38 dX11_makeMoved_80 (by decide) ?_
            exact ih38 (uA ms1 (36 + u) (X17 (ddi + nn).toNat)) (0) (nn + 1) ((u + 1)) (by omega) (by omega) (by omega) (hS.no (fun w => by rcases hb61 with ⟨y, _⟩ | ⟨_, y⟩; omega; exact y (by have e := eg; rw [e]; exact w)) (fun t9 h9 => uA_n (by omega)))
          · refine r_iload_n dX11_makeMoved_67 rfl rfl ?_
            refine r_if_eq 75 dX11_makeMoved_68 (by decide) ⟨by omega, by omega⟩ (fun c_68 => ?_) (fun c_68 => ?_)
            · refine r_iconst (z := 0) dX11_makeMoved_75 ?_
              refine r_istore_n (L2 := [_, _, _, _, _]) dX11_makeMoved_76 rfl (nlt rfl) rfl ?_
              refine r_iinc (L2 := [_, _, _, _, _]) dX11_makeMoved_77 (nlt rfl) rfl rfl ?_
              refine r_goto 38 dX11_makeMoved_80 (by decide) ?_
              exact ih38 (uA ms1 (36 + u) (X17 (ddi + nn).toNat)) (0) (nn + 1) ((u + 1)) (by omega) (by omega) (by omega) (hS.old c_68 (fun t9 h9 => uA_n (by omega)))
            · refine r_iconst (z := 1) dX11_makeMoved_71 ?_
              refine r_goto 76 dX11_makeMoved_72 (by decide) ?_
              refine r_istore_n (L2 := [_, _, _, _, _]) dX11_makeMoved_76 rfl (nlt rfl) rfl ?_
              refine r_iinc (L2 := [_, _, _, _, _]) dX11_makeMoved_77 (nlt rfl) rfl rfl ?_
              refine r_goto 38 dX11_makeMoved_80 (by decide) ?_
              exact ih38 (uA ms1 (36 + u) (X17 (ddi + nn).toNat)) (1) (nn + 1) ((u + 1)) (by omega) (by omega) (by omega) (hS.yes c_68 eg (by rcases hb61 with ⟨_, y⟩ | ⟨y, _⟩; exact y; omega))
    refine g_heap (hs_id (c := aL 42 (ms)) ((hs_n (by omega)).trans ((hs_n (by omega)).trans ((hs_n (by omega)).trans ((hs_n (by omega)).trans hms))))).symm ?_
    exact lp38 ((8 : Int) + 1).toNat (ms) (1) (0) (0) (by omega) rfl (Nat.zero_le _) (STL.nil _ _)
  · refine r_iconst (z := 0) dX11_makeMoved_31 ?_
    refine r_zreturn hq dX11_makeMoved_32 rfl (by decide) rfl rfl ?_
    refine hQ _ _ ⟨fun a9 h9 => ((hs_n (by omega)).trans ((hs_n (by omega)).trans ((hs_n (by omega)).trans ((hs_n (by omega)).trans rfl)))), _, _, _, _, _, _, _, _, _, _, ((hs_n (by omega)).trans hs_e), ((hs_n (by omega)).trans ((hs_n (by omega)).trans ((hs_n (by omega)).trans hs_e))), ((hs_n (by omega)).trans ((hs_n (by omega)).trans hs_e)), ((hs_n (by omega)).trans ((hs_n (by omega)).trans ((hs_n (by omega)).trans ((hs_n (by omega)).trans hms)))), hs_e, ((hs_n (by omega)).trans ((hs_n (by omega)).trans ((hs_n (by omega)).trans ((hs_n (by omega)).trans h138)))), ((hs_n (by omega)).trans ((hs_n (by omega)).trans ((hs_n (by omega)).trans ((hs_n (by omega)).trans h139)))), ((hs_n (by omega)).trans ((hs_n (by omega)).trans ((hs_n (by omega)).trans ((hs_n (by omega)).trans h140)))), ((hs_n (by omega)).trans ((hs_n (by omega)).trans ((hs_n (by omega)).trans ((hs_n (by omega)).trans h141)))), ((hs_n (by omega)).trans ((hs_n (by omega)).trans ((hs_n (by omega)).trans ((hs_n (by omega)).trans h142)))), (fun i9 h9 => uA_n (show i9 ≠ 6 by omega)), hc12, (fun _ _ => rfl), ?_⟩
    exact Or.inl ⟨rfl, fun w9 => hT17.2.2 (by omega) (w9.2.1 t17 (by rw [hlast]; omega))⟩
set_option maxHeartbeats 8000000 in
set_option maxRecDepth 20000 in
theorem c_X11_makeTimes {N : Nat} {h : Hp} {Q : QP} {ln pr nm at_ wr va em ta ro dg : Int} {om ml ms : Nat → Int} {x130 x138 x139 x140 x141 x142 c s : Nat → Int} {r k : Nat} {xi : Int} {ddi : Int} (hm0 : h 124 = MOo ln pr nm at_ wr va em ta ro dg) (hN : 146 ≤ N) (hom : h 125 = aI 7 om) (hml : h 126 = aL 42 ml) (hms : h 127 = aL 42 ms) (hex : h 130 = aL 2001 x130) (h138 : h 138 = aL 14 x138) (h139 : h 139 = aL 37 x139) (h140 : h 140 = aL 37 x140) (h141 : h 141 = aL 7 x141) (h142 : h 142 = aL 100 x142) (hg : RG om ml ms r k c s) (hri : xi = (r : Int)) (hr6 : r < 6) (hc0 : c 0 = -1) (hdd0 : -1000 ≤ ddi) (hdd1 : ddi ≤ 1000) (hQ : ∀ (b : Int) (h2 : Hp), MKR h ln pr nm at_ wr va ta ro dg om ml ms (mOk 7 k k (ddi).toNat c c ∧ sOk 7 (mK 7 k k) (ex k c s) (ex k c s) ddi) (mK 7 k k) (mLaw 7 k k (ddi).toNat c c) (mNum 7 (ex k c s) (ex k c s) ddi) b h2 → Q (some (.int (iZ b))) N h2) : Runs mX11_makeTimes [.ref (124), .int (iZ (xi)), .int (iZ (ddi))] N h Q := by
  rw [mOk67 (Or.inr rfl), mK67 (Or.inr rfl), mLaw67 (Or.inr rfl)] at hQ
  obtain ⟨hg1, hk1, hk6, hg4, hg5⟩ := id hg
  have ern : xi.toNat = r := by omega
  have eom : om xi.toNat = (k : Int) := by rw [ern]; exact hg1
  have eomM : (uA om 6 (om r)) xi.toNat = (k : Int) := (uA_n (by omega)).trans eom
  have hlast : mLast 7 k ddi.toNat = k - 1 := mLast_n (by decide) (by decide)
  refine run_start (own := RX11) rfl (by decide) (nle rfl) rfl (fun X hq hini => ?_)
  show G X RX11 cX11_makeTimes mX11_makeTimes.rm N 0 0 0 [some (.ref (124)), some (.int (iZ (xi))), some (.int (iZ (ddi))), none, none] [] h
  refine r_aload_n dX11_makeTimes_0 rfl rfl ?_
  refine r_iload_n dX11_makeTimes_1 rfl rfl ?_
  refine r_callV (av := [.int (iZ (xi))]) dX11_makeTimes_2 lkX11_copyLaw ml_X11_255 imX11_copyLaw seX11_copyLaw (by omega) (rfl : vwCl[11]? = _) ⟨_, hm0⟩ ⟨Nat.le_of_ble_eq_true rfl, Nat.le_of_ble_eq_true rfl⟩ rfl rfl (nle rfl) ⟨Nat.le_of_ble_eq_true rfl, Nat.le_of_ble_eq_true rfl⟩ (c_X11_copyLaw (r := r) (om := om) (ml := ml) (ms := ms) (ln := ln) (pr := pr) (nm := nm) (at_ := at_) (wr := wr) (va := va) (em := em) (ta := ta) (ro := ro) (dg := dg) hm0 hN hom hml hms hri hr6 (fun ml2 hc12 hc22 => ?_))
  show G _ _ _ _ _ _ _ 5 _ _ _
  refine r_iconst (z := 1) dX11_makeTimes_5 ?_
  refine r_istore_n (L2 := [_, _, _, _, none]) dX11_makeTimes_6 rfl (nlt rfl) rfl ?_
  refine r_iconst (z := 0) dX11_makeTimes_7 ?_
  refine r_istore (L2 := [_, _, _, _, _]) dX11_makeTimes_8 (nlt rfl) rfl ?_
  have lp10 : ∀ (fu10 : Nat) (ms1 : Nat → Int) (fit : Int) (nn : Int) (u : Nat), (8 - nn) < (fu10 : Int) → (nn = (u : Int)) → (u ≤ k) → (STL (mNum 7 (ex k c s) (ex k c s) ddi) ms ms1 fit u) → G X RX11 cX11_makeTimes mX11_makeTimes.rm N 0 0 10 [some (.ref (124)), some (.int (iZ (xi))), some (.int (iZ (ddi))), some (.int (iZ (fit))), some (.int (iZ (nn)))] [] (hs (hs (hs h (125) (aI 7 (uA om 6 (om r)))) (126) (aL 42 (ml2))) (127) (aL 42 (ms1))) := by
    intro fu10
    induction fu10 with
    | zero => intro ms1 fit nn u hm en uK hS; exfalso; omega
    | succ fu10 ih10 =>
      intro ms1 fit nn u hms10 en uK hS
      have f01 := hS.1
      refine r_iload dX11_makeTimes_10 rfl ?_
      refine r_aload_n dX11_makeTimes_12 rfl rfl ?_
      refine gf_X11_7 dX11_makeTimes_13 (by omega) ((hs_n (by omega)).trans ((hs_n (by omega)).trans ((hs_n (by omega)).trans hm0))) rfl ?_
      refine r_iload_n dX11_makeTimes_16 rfl rfl ?_
      refine r_iaload dX11_makeTimes_17 (by omega) ((hs_n (by omega)).trans ((hs_n (by omega)).trans hs_e)) (by omega) (by omega) (by decide) ?_
      refine r_icmp_ge 61 dX11_makeTimes_18 (by decide) ⟨by omega, by omega⟩ ⟨by omega, by omega⟩ (fun c_18 => ?_) (fun c_18 => ?_)
      · refine r_iload_n dX11_makeTimes_61 rfl rfl ?_
        refine r_zreturn hq dX11_makeTimes_62 rfl (by omega) rfl rfl ?_
        rw [show u = k by omega] at hS
        refine hQ _ _ ⟨fun a9 h9 => ((hs_n (by omega)).trans ((hs_n (by omega)).trans ((hs_n (by omega)).trans rfl))), _, _, _, _, _, _, _, _, _, _, ((hs_n (by omega)).trans ((hs_n (by omega)).trans ((hs_n (by omega)).trans hm0))), ((hs_n (by omega)).trans ((hs_n (by omega)).trans hs_e)), ((hs_n (by omega)).trans hs_e), hs_e, ((hs_n (by omega)).trans ((hs_n (by omega)).trans ((hs_n (by omega)).trans hex))), ((hs_n (by omega)).trans ((hs_n (by omega)).trans ((hs_n (by omega)).trans h138))), ((hs_n (by omega)).trans ((hs_n (by omega)).trans ((hs_n (by omega)).trans h139))), ((hs_n (by omega)).trans ((hs_n (by omega)).trans ((hs_n (by omega)).trans h140))), ((hs_n (by omega)).trans ((hs_n (by omega)).trans ((hs_n (by omega)).trans h141))), ((hs_n (by omega)).trans ((hs_n (by omega)).trans ((hs_n (by omega)).trans h142))), (fun i9 h9 => uA_n (show i9 ≠ 6 by omega)), hc12, hS.2.1, ?_⟩
        rcases hS.fin with ⟨y, z⟩ | ⟨y1, y2, y3⟩
        · exact Or.inl ⟨y, fun w9 => z w9.2.2.2.2⟩
        · exact Or.inr ⟨y1, ⟨trivial, fun j hj => by rw [hlast] at hj; rw [ex_lt (by omega)]; have := (hg5 j (by omega)).2; exact ⟨by omega, by omega⟩, fun w3 => by omega, fun w3 => by omega, y2⟩, uA_e.trans hg1, fun t a b => by rw [show 36 + t - 1 = 36 + (t - 1) by omega, hc22 (t - 1) (by omega), show 6 * r + (t - 1) = 6 * r + t - 1 by omega]; exact (hg4 t a b).1, y3⟩
      · have exf : ms1 ((6 * xi) + nn).toNat = s u := by rw [show ((6 * xi) + nn).toNat = 6 * r + u by omega]; exact (hS.2.1 _ (by omega)).trans (hg5 u (by omega)).1
        have sb := (hg5 u (by omega)).2
        rw [← exf] at sb
        have m38 := mulb (A := 1000000) (B := 1000) (a := ms1 ((6 * xi) + nn).toNat) (b := ddi) (C := 1000000000) (by omega) (by omega) (by omega) (by omega) (by decide)
        have eg : ms1 ((6 * xi) + nn).toNat * ddi = mNum 7 (ex k c s) (ex k c s) ddi u := by
          show _ = ddi * ex k c s u
          rw [exf, ex_lt (by omega), Int.mul_comm]
        refine r_aload_n dX11_makeTimes_21 rfl rfl ?_
        refine r_iload dX11_makeTimes_22 rfl ?_
        refine r_aload_n dX11_makeTimes_24 rfl rfl ?_
        refine gf_X11_17 dX11_makeTimes_25 (by omega) ((hs_n (by omega)).trans ((hs_n (by omega)).trans ((hs_n (by omega)).trans hm0))) rfl ?_
        refine r_bipush (z := 6) dX11_makeTimes_28 (by decide) ?_
        refine r_iload_n dX11_makeTimes_30 rfl rfl ?_
        refine r_imul dX11_makeTimes_31 ?_
        refine r_iload dX11_makeTimes_32 rfl ?_
        refine r_iadd dX11_makeTimes_34 ?_
        refine r_laload dX11_makeTimes_35 (by omega) hs_e (by omega) (by omega) (by decide) ?_
        refine r_iload_n dX11_makeTimes_36 rfl rfl ?_
        refine r_i2l dX11_makeTimes_37 ⟨by omega, by omega⟩ ?_
        refine r_lmul dX11_makeTimes_38 ?_
        refine r_callV (av := [.int (iZ (nn)), .long (lZ ((ms1 ((6 * xi) + nn).toNat) * ddi))]) dX11_makeTimes_39 lkX11_start ml_X11_240 imX11_start seX11_start (by omega) (rfl : vwCl[11]? = _) ⟨_, ((hs_n (by omega)).trans ((hs_n (by omega)).trans ((hs_n (by omega)).trans hm0)))⟩ ⟨Nat.le_of_ble_eq_true rfl, Nat.le_of_ble_eq_true rfl⟩ rfl rfl (nle rfl) ⟨Nat.le_of_ble_eq_true rfl, Nat.le_of_ble_eq_true rfl⟩ (c_X11_start (n := u) (v := (ms1 ((6 * xi) + nn).toNat) * ddi) (ms := ms1) (ln := ln) (pr := pr) (nm := nm) (at_ := at_) (wr := wr) (va := va) (em := em) (ta := ta) (ro := ro) (dg := dg) ((hs_n (by omega)).trans ((hs_n (by omega)).trans ((hs_n (by omega)).trans hm0))) hN hs_e (by omega) (by omega) ⟨by omega, by omega⟩ (fun b39 hb39 => ?_))
        refine g_heap (h2 := (hs (hs (hs h (125) (aI 7 (uA om 6 (om r)))) (126) (aL 42 (ml2))) (127) (aL 42 (uA ms1 (36 + u) ((ms1 ((6 * xi) + nn).toNat) * ddi))))) hs_hs ?_
        show G _ _ _ _ _ _ _ 42 _ _ _
        refine r_if_eq 53 dX11_makeTimes_42 (by decide) ⟨by omega, by omega⟩ (fun c_42 => ?_) (fun c_42 => ?_)
        · refine r_iconst (z := 0) dX11_makeTimes_53 ?_
          refine r_istore_n (L2 := [_, _, _, _, _]) dX11_makeTimes_54 rfl (nlt rfl) rfl ?_
          refine r_iinc (L2 := [_, _, _, _, _]) dX11_makeTimes_55 (nlt rfl) rfl rfl ?_
          refine r_goto 10 dX11_makeTimes_58 (by decide) ?_
          exact ih10 (uA ms1 (36 + u) ((ms1 ((6 * xi) + nn).toNat) * ddi)) (0) (nn + 1) ((u + 1)) (by omega) (by omega) (by omega) (hS.no (fun w => by rcases hb39 with ⟨y, _⟩ | ⟨_, y⟩; omega; exact y (by have e := eg; rw [e]; exact w)) (fun t9 h9 => uA_n (by omega)))
        · refine r_iload_n dX11_makeTimes_45 rfl rfl ?_
          refine r_if_eq 53 dX11_makeTimes_46 (by decide) ⟨by omega, by omega⟩ (fun c_46 => ?_) (fun c_46 => ?_)
          · refine r_iconst (z := 0) dX11_makeTimes_53 ?_
            refine r_istore_n (L2 := [_, _, _, _, _]) dX11_makeTimes_54 rfl (nlt rfl) rfl ?_
            refine r_iinc (L2 := [_, _, _, _, _]) dX11_makeTimes_55 (nlt rfl) rfl rfl ?_
            refine r_goto 10 dX11_makeTimes_58 (by decide) ?_
            exact ih10 (uA ms1 (36 + u) ((ms1 ((6 * xi) + nn).toNat) * ddi)) (0) (nn + 1) ((u + 1)) (by omega) (by omega) (by omega) (hS.old c_46 (fun t9 h9 => uA_n (by omega)))
          · refine r_iconst (z := 1) dX11_makeTimes_49 ?_
            refine r_goto 54 dX11_makeTimes_50 (by decide) ?_
            refine r_istore_n (L2 := [_, _, _, _, _]) dX11_makeTimes_54 rfl (nlt rfl) rfl ?_
            refine r_iinc (L2 := [_, _, _, _, _]) dX11_makeTimes_55 (nlt rfl) rfl rfl ?_
            refine r_goto 10 dX11_makeTimes_58 (by decide) ?_
            exact ih10 (uA ms1 (36 + u) ((ms1 ((6 * xi) + nn).toNat) * ddi)) (1) (nn + 1) ((u + 1)) (by omega) (by omega) (by omega) (hS.yes c_46 eg (by rcases hb39 with ⟨_, y⟩ | ⟨y, _⟩; exact y; omega))
  refine g_heap (hs_id (c := aL 42 (ms)) ((hs_n (by omega)).trans ((hs_n (by omega)).trans hms))).symm ?_
  exact lp10 ((8 : Int) + 1).toNat (ms) (1) (0) (0) (by omega) rfl (Nat.zero_le _) (STL.nil _ _)
