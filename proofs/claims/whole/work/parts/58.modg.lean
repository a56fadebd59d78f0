/-- what a making leaves behind -/
def MKR (h : Hp) (ln pr nm at_ wr va ta ro dg : Int) (om ml ms : Nat → Int) (ok : Prop) (K : Nat) (f g : Nat → Int) (b : Int) (h2 : Hp) : Prop := (∀ a, a < 124 ∨ a = 128 ∨ a = 129 ∨ (131 ≤ a ∧ a ≤ 137) ∨ 143 ≤ a → h2 a = h a) ∧ ∃ (em2 : Int) (om2 ml2 ms2 x130 x138 x139 x140 x141 x142 : Nat → Int), h2 124 = MOo ln pr nm at_ wr va em2 ta ro dg ∧ h2 125 = aI 7 om2 ∧ h2 126 = aL 42 ml2 ∧ h2 127 = aL 42 ms2 ∧ h2 130 = aL 2001 x130 ∧ h2 138 = aL 14 x138 ∧ h2 139 = aL 37 x139 ∧ h2 140 = aL 37 x140 ∧ h2 141 = aL 7 x141 ∧ h2 142 = aL 100 x142 ∧ (∀ i, i < 6 → om2 i = om i) ∧ (∀ t, t < 36 → ml2 t = ml t) ∧ (∀ t, t < 36 → ms2 t = ms t) ∧ ((b = 0 ∧ ¬ ok) ∨ (b = 1 ∧ ok ∧ om2 6 = (K : Int) ∧ (∀ j, 1 ≤ j → j ≤ K → ml2 (36 + j - 1) = f j) ∧ ∀ n, n < K → ms2 (36 + n) = g n))
def sB (x : Int) : Prop := -1000000 ≤ x ∧ x ≤ 1000000
def STL (g ms ms1 : Nat → Int) (fit : Int) (u : Nat) : Prop := (fit = 0 ∨ fit = 1) ∧ (∀ t, t < 36 → ms1 t = ms t) ∧ (fit = 1 → ∀ t, t < u → ms1 (36 + t) = g t ∧ sB (g t)) ∧ (fit = 0 → ∃ t, t < u ∧ ¬ sB (g t))
theorem STL.nil (g ms : Nat → Int) : STL g ms ms 1 0 := ⟨Or.inr rfl, fun _ _ => rfl, fun _ t h => absurd h (Nat.not_lt_zero t), fun h => absurd h (by decide)⟩
theorem STL.yes {g ms ms1 : Nat → Int} {fit v : Int} {u : Nat} (h : STL g ms ms1 fit u) (h1 : fit ≠ 0) (e : v = g u) (hv : sB v) : STL g ms (uA ms1 (36 + u) v) 1 (u + 1) := by
  obtain ⟨a1, a2, a3, a4⟩ := h
  refine ⟨Or.inr rfl, fun t ht => by rw [uA_n (by omega)]; exact a2 t ht, fun _ t ht => ?_, fun w => absurd w (by decide)⟩
  by_cases z : t = u
  · rw [z, uA_e, ← e]; exact ⟨rfl, hv⟩
  · rw [uA_n (by omega)]; exact a3 (a1.resolve_left h1) t (by omega)
theorem STL.no {g ms ms1 ms2 : Nat → Int} {fit : Int} {u : Nat} (h : STL g ms ms1 fit u) (hv : ¬ sB (g u)) (h2 : ∀ t, t < 36 → ms2 t = ms1 t) : STL g ms ms2 0 (u + 1) :=
  ⟨Or.inl rfl, fun t ht => (h2 t ht).trans (h.2.1 t ht), fun w => absurd w (by decide), fun _ => ⟨u, Nat.lt_succ_self u, hv⟩⟩
theorem STL.old {g ms ms1 ms2 : Nat → Int} {fit : Int} {u : Nat} (h : STL g ms ms1 fit u) (h1 : fit = 0) (h2 : ∀ t, t < 36 → ms2 t = ms1 t) : STL g ms ms2 0 (u + 1) := by
  obtain ⟨t, t1, t2⟩ := h.2.2.2 h1
  exact ⟨Or.inl rfl, fun t ht => (h2 t ht).trans (h.2.1 t ht), fun w => absurd w (by decide), fun _ => ⟨t, Nat.lt_succ_of_lt t1, t2⟩⟩
theorem STL.fin {g ms ms1 : Nat → Int} {fit : Int} {K : Nat} (h : STL g ms ms1 fit K) : (fit = 0 ∧ ¬ ∀ n, n < K → -1000000 ≤ g n ∧ g n ≤ 1000000) ∨ (fit = 1 ∧ (∀ n, n < K → -1000000 ≤ g n ∧ g n ≤ 1000000) ∧ ∀ n, n < K → ms1 (36 + n) = g n) := by
  obtain ⟨a1, a2, a3, a4⟩ := h
  rcases a1 with e | e
  · refine Or.inl ⟨e, fun w => ?_⟩
    obtain ⟨t, t1, t2⟩ := a4 e
    exact t2 (w t t1)
  · exact Or.inr ⟨e, fun n hn => (a3 e n hn).2, fun n hn => (a3 e n hn).1⟩
theorem mLast_n {w : Int} {K dd : Nat} (h4 : w ≠ 4) (h6 : w ≠ 6) : mLast w K dd = K - 1 := by unfold mLast; rw [if_neg h4, if_neg h6]
set_option maxHeartbeats 4000000 in
set_option maxRecDepth 20000 in
theorem c_X11_makeSum {N : Nat} {h : Hp} {Q : QP} {ln pr nm at_ wr va em ta ro dg : Int} {om ml ms : Nat → Int} {x130 x138 x139 x140 x141 x142 c s : Nat → Int} {r k : Nat} {xi : Int} {d t : Nat → Int} {r2 l : Nat} {yi : Int} {zi w ddi : Int} (hm0 : h 124 = MOo ln pr nm at_ wr va em ta ro dg) (hN : 146 ≤ N) (hom : h 125 = aI 7 om) (hml : h 126 = aL 42 ml) (hms : h 127 = aL 42 ms) (hex : h 130 = aL 2001 x130) (h138 : h 138 = aL 14 x138) (h139 : h 139 = aL 37 x139) (h140 : h 140 = aL 37 x140) (h141 : h 141 = aL 7 x141) (h142 : h 142 = aL 100 x142) (hg : RG om ml ms r k c s) (hri : xi = (r : Int)) (hr6 : r < 6) (hc0 : c 0 = -1) (hgy : RG om ml ms r2 l d t) (hrj : yi = (r2 : Int)) (hr26 : r2 < 6) (hd0 : d 0 = -1) (hw01 : (zi = 0 ∧ w = 0) ∨ (zi = 1 ∧ w = 1)) (hQ : ∀ (b : Int) (h2 : Hp), MKR h ln pr nm at_ wr va ta ro dg om ml ms (mOk w k l (ddi).toNat c d ∧ sOk w (mK w k l) (ex k c s) (ex l d t) ddi) (mK w k l) (mLaw w k l (ddi).toNat c d) (mNum w (ex k c s) (ex l d t) ddi) b h2 → Q (some (.int (iZ b))) N h2) : Runs mX11_makeSum [.ref (124), .int (iZ (xi)), .int (iZ (yi)), .int (iZ (zi))] N h Q := by
  have hw9 : w = 0 ∨ w = 1 ∨ w = 3 := by omega
  rw [mOkP hw9, mKP hw9, mLawP hw9] at hQ
  obtain ⟨hg1, hk1, hk6, hg4, hg5⟩ := id hg
  have ern : xi.toNat = r := by omega
  have eom : om xi.toNat = (k : Int) := by rw [ern]; exact hg1
  obtain ⟨hj1, hl1, hl6, hj4, hj5⟩ := id hgy
  have ern2 : yi.toNat = r2 := by omega
  have eom2 : om yi.toNat = (l : Int) := by rw [ern2]; exact hj1
  have hdb : ∀ j, j ≤ l → -100000 ≤ d j ∧ d j ≤ 100000 := fun j hj => by
    by_cases z : j = 0
    · rw [z, hd0]; decide
    · exact (hj4 j (by omega) hj).2
  have hy1 : 0 ≤ yi → yi ≤ 5 ∧ om yi.toNat = (l : Int) ∧ ∀ j, 1 ≤ j → j ≤ l → ml ((6 * yi) + j - 1).toNat = d j := fun _ => ⟨by omega, eom2, fun j a b => by rw [show ((6 * yi) + (j : Int) - 1).toNat = 6 * r2 + j - 1 by omega]; exact (hj4 j a b).1⟩
  have hlast : mLast w (k + l) ddi.toNat = k + l - 1 := mLast_n (by omega) (by omega)
  refine run_start (own := RX11) rfl (by decide) (nle rfl) rfl (fun X hq hini => ?_)
  show G X RX11 cX11_makeSum mX11_makeSum.rm N 0 0 0 [some (.ref (124)), some (.int (iZ (xi))), some (.int (iZ (yi))), some (.int (iZ (zi))), none, none] [] h
  refine r_aload_n dX11_makeSum_0 rfl rfl ?_
  refine r_iload_n dX11_makeSum_1 rfl rfl ?_
  refine r_iload_n dX11_makeSum_2 rfl rfl ?_
  refine r_callV (av := [.int (iZ (xi)), .int (iZ (yi))]) dX11_makeSum_3 lkX11_multiply ml_X11_234 imX11_multiply seX11_multiply (by omega) (rfl : vwCl[11]? = _) ⟨_, hm0⟩ ⟨Nat.le_of_ble_eq_true rfl, Nat.le_of_ble_eq_true rfl⟩ rfl rfl (nle rfl) ⟨Nat.le_of_ble_eq_true rfl, Nat.le_of_ble_eq_true rfl⟩ (c_X11_multiply (c := c) (s := s) (d := d) (l := l) (r := r) (k := k) (po := x138) (om := om) (ml := ml) (ms := ms) (ln := ln) (pr := pr) (nm := nm) (at_ := at_) (wr := wr) (va := va) (em := em) (ta := ta) (ro := ro) (dg := dg) hm0 hN hom hml hms h138 hg hri hr6 hc0 hd0 hl1 hl6 hdb (by omega) (fun w => by omega) hy1 (fun b3 om3 ml3 po3 hM => ?_))
  show G _ _ _ _ _ _ _ 6 _ _ _
  refine r_if_eq 48 dX11_makeSum_6 (by decide) (by rcases hM.2.2 with ⟨y, _⟩ | ⟨y, _⟩ <;> exact ⟨by omega, by omega⟩) (fun c_6 => ?_) (fun c_6 => ?_)
  · refine r_iconst (z := 0) dX11_makeSum_48 ?_
    refine r_zreturn hq dX11_makeSum_49 rfl (by decide) rfl rfl ?_
    refine hQ _ _ ⟨fun a9 h9 => ((hs_n (by omega)).trans ((hs_n (by omega)).trans ((hs_n (by omega)).trans rfl))), _, _, _, _, _, _, _, _, _, _, ((hs_n (by omega)).trans ((hs_n (by omega)).trans ((hs_n (by omega)).trans hm0))), ((hs_n (by omega)).trans hs_e), hs_e, ((hs_n (by omega)).trans ((hs_n (by omega)).trans ((hs_n (by omega)).trans hms))), ((hs_n (by omega)).trans ((hs_n (by omega)).trans ((hs_n (by omega)).trans hex))), ((hs_n (by omega)).trans ((hs_n (by omega)).trans hs_e)), ((hs_n (by omega)).trans ((hs_n (by omega)).trans ((hs_n (by omega)).trans h139))), ((hs_n (by omega)).trans ((hs_n (by omega)).trans ((hs_n (by omega)).trans h140))), ((hs_n (by omega)).trans ((hs_n (by omega)).trans ((hs_n (by omega)).trans h141))), ((hs_n (by omega)).trans ((hs_n (by omega)).trans ((hs_n (by omega)).trans h142))), hM.1, hM.2.1, (fun _ _ => rfl), ?_⟩
    refine Or.inl ⟨rfl, fun w9 => ?_⟩
    rcases hM.2.2 with ⟨_, y⟩ | ⟨y, _⟩
    · exact y w9.1
    · omega
  · obtain ⟨hM0, ⟨hkl, hlaw⟩, eo6, hlw⟩ := hM.2.2.resolve_left (fun w => c_6 w.1)
    have eo6t : om3 (6 : Int).toNat = _ := eo6
    have hgM := hg.low hr6 hM.1 hM.2.1 (fun _ _ => rfl)
    have hgM2 := hgy.low hr26 hM.1 hM.2.1 (fun _ _ => rfl)
    refine r_aload_n dX11_makeSum_9 rfl rfl ?_
    refine r_iload_n dX11_makeSum_10 rfl rfl ?_
    refine r_aload_n dX11_makeSum_11 rfl rfl ?_
    refine gf_X11_7 dX11_makeSum_12 (by omega) ((hs_n (by omega)).trans ((hs_n (by omega)).trans ((hs_n (by omega)).trans hm0))) rfl ?_
    refine r_bipush (z := 6) dX11_makeSum_15 (by decide) ?_
    refine r_iaload dX11_makeSum_17 (by omega) ((hs_n (by omega)).trans hs_e) (by omega) (by omega) (by decide) ?_
    refine r_callV (av := [.int (iZ (xi)), .int (iZ (om3 (6 : Int).toNat))]) dX11_makeSum_18 lkX11_layFirst ml_X11_237 imX11_layFirst seX11_layFirst (by omega) (rfl : vwCl[11]? = _) ⟨_, ((hs_n (by omega)).trans ((hs_n (by omega)).trans ((hs_n (by omega)).trans hm0)))⟩ ⟨Nat.le_of_ble_eq_true rfl, Nat.le_of_ble_eq_true rfl⟩ rfl rfl (nle rfl) ⟨Nat.le_of_ble_eq_true rfl, Nat.le_of_ble_eq_true rfl⟩ (c_X11_layFirst (c := c) (s := s) (r := r) (k := k) (m := (k + l)) (ex0 := x130) (f0 := x142) (om := om3) (ml := ml3) (ms := ms) (ln := ln) (pr := pr) (nm := nm) (at_ := at_) (wr := wr) (va := va) (em := em) (ta := ta) (ro := ro) (dg := dg) ((hs_n (by omega)).trans ((hs_n (by omega)).trans ((hs_n (by omega)).trans hm0))) hN ((hs_n (by omega)).trans hs_e) hs_e ((hs_n (by omega)).trans ((hs_n (by omega)).trans ((hs_n (by omega)).trans hms))) ((hs_n (by omega)).trans ((hs_n (by omega)).trans ((hs_n (by omega)).trans hex))) ((hs_n (by omega)).trans ((hs_n (by omega)).trans ((hs_n (by omega)).trans h142))) hgM (by omega) (by omega) (by omega) (by omega) (by omega) (fun b18 em18 X18 fi18 hb18 => ?_))
    show G _ _ _ _ _ _ _ 21 _ _ _
    refine r_if_eq 48 dX11_makeSum_21 (by decide) ⟨by omega, by omega⟩ (fun c_21 => ?_) (fun c_21 => ?_)
    · refine r_iconst (z := 0) dX11_makeSum_48 ?_
      refine r_zreturn hq dX11_makeSum_49 rfl (by decide) rfl rfl ?_
      refine hQ _ _ ⟨fun a9 h9 => ((hs_n (by omega)).trans ((hs_n (by omega)).trans ((hs_n (by omega)).trans ((hs_n (by omega)).trans ((hs_n (by omega)).trans ((hs_n (by omega)).trans rfl)))))), _, _, _, _, _, _, _, _, _, _, ((hs_n (by omega)).trans ((hs_n (by omega)).trans hs_e)), ((hs_n (by omega)).trans ((hs_n (by omega)).trans ((hs_n (by omega)).trans ((hs_n (by omega)).trans hs_e)))), ((hs_n (by omega)).trans ((hs_n (by omega)).trans ((hs_n (by omega)).trans hs_e))), ((hs_n (by omega)).trans ((hs_n (by omega)).trans ((hs_n (by omega)).trans ((hs_n (by omega)).trans ((hs_n (by omega)).trans ((hs_n (by omega)).trans hms)))))), ((hs_n (by omega)).trans hs_e), ((hs_n (by omega)).trans ((hs_n (by omega)).trans ((hs_n (by omega)).trans ((hs_n (by omega)).trans ((hs_n (by omega)).trans hs_e))))), ((hs_n (by omega)).trans ((hs_n (by omega)).trans ((hs_n (by omega)).trans ((hs_n (by omega)).trans ((hs_n (by omega)).trans ((hs_n (by omega)).trans h139)))))), ((hs_n (by omega)).trans ((hs_n (by omega)).trans ((hs_n (by omega)).trans ((hs_n (by omega)).trans ((hs_n (by omega)).trans ((hs_n (by omega)).trans h140)))))), ((hs_n (by omega)).trans ((hs_n (by omega)).trans ((hs_n (by omega)).trans ((hs_n (by omega)).trans ((hs_n (by omega)).trans ((hs_n (by omega)).trans h141)))))), hs_e, hM.1, hM.2.1, (fun _ _ => rfl), ?_⟩
      refine Or.inl ⟨rfl, fun w9 => ?_⟩
      rcases hb18 with ⟨_, y⟩ | ⟨y, _⟩
      · exact y (fun j hj => w9.2.1 j (by rw [hlast]; omega))
      · omega
    · obtain ⟨hb180, hxin, hxf⟩ := hb18.resolve_left (fun w => c_21 w.1)
      refine r_aload_n dX11_makeSum_24 rfl rfl ?_
      refine r_iload_n dX11_makeSum_25 rfl rfl ?_
      refine r_aload_n dX11_makeSum_26 rfl rfl ?_
      refine gf_X11_7 dX11_makeSum_27 (by omega) ((hs_n (by omega)).trans ((hs_n (by omega)).trans hs_e)) rfl ?_
      refine r_bipush (z := 6) dX11_makeSum_30 (by decide) ?_
      refine r_iaload dX11_makeSum_32 (by omega) ((hs_n (by omega)).trans ((hs_n (by omega)).trans ((hs_n (by omega)).trans ((hs_n (by omega)).trans hs_e)))) (by omega) (by omega) (by decide) ?_
      refine r_iconst (z := 1) dX11_makeSum_33 ?_
      refine r_isub dX11_makeSum_34 ?_
      refine r_callV (av := [.int (iZ (yi)), .int (iZ ((om3 (6 : Int).toNat) - 1))]) dX11_makeSum_35 lkX11_layExact ml_X11_150 imX11_layExact seX11_layExact (by omega) (rfl : vwCl[11]? = _) ⟨_, ((hs_n (by omega)).trans ((hs_n (by omega)).trans hs_e))⟩ ⟨Nat.le_of_ble_eq_true rfl, Nat.le_of_ble_eq_true rfl⟩ rfl rfl (nle rfl) ⟨Nat.le_of_ble_eq_true rfl, Nat.le_of_ble_eq_true rfl⟩ (c_X11_layExact (r := r2) (k := l) (c := d) (s := t) (last := (k + l - 1)) (om := om3) (ml := ml3) (ms := ms) (ex0 := X18) (ln := ln) (pr := pr) (nm := nm) (at_ := at_) (wr := wr) (va := va) (em := em18) (ta := ta) (ro := ro) (dg := dg) ((hs_n (by omega)).trans ((hs_n (by omega)).trans hs_e)) hN ((hs_n (by omega)).trans ((hs_n (by omega)).trans ((hs_n (by omega)).trans ((hs_n (by omega)).trans hs_e)))) ((hs_n (by omega)).trans ((hs_n (by omega)).trans ((hs_n (by omega)).trans hs_e))) ((hs_n (by omega)).trans ((hs_n (by omega)).trans ((hs_n (by omega)).trans ((hs_n (by omega)).trans ((hs_n (by omega)).trans ((hs_n (by omega)).trans hms)))))) ((hs_n (by omega)).trans hs_e) hgM2 (by omega) (by omega) (by omega) (by omega) (fun t35 X35 hT35 hX35 => ?_))
      refine g_heap (h2 := (hs (hs (hs (hs (hs (hs h (138) (aL 14 (po3))) (125) (aI 7 (om3))) (126) (aL 42 (ml3))) (124) (MOo (ln) (pr) (nm) (at_) (wr) (va) ((t35 : Int)) (ta) (ro) (dg))) (130) (aL 2001 (X35))) (142) (aL 100 (fi18)))) ((congrArg (fun x9 => hs x9 (130) (aL 2001 (X35))) (hs_put (by omega) (hs_put (by omega) hs_hs))).trans (hs_put (by omega) hs_hs)) ?_
      show G _ _ _ _ _ _ _ 38 _ _ _
      have tl35 : t35 ≤ k + l := by have := hT35.1; omega
      refine r_aload_n dX11_makeSum_38 rfl rfl ?_
      refine gf_X11_7 dX11_makeSum_39 (by omega) ((hs_n (by omega)).trans ((hs_n (by omega)).trans hs_e)) rfl ?_
      refine r_bipush (z := 6) dX11_makeSum_42 (by decide) ?_
      refine r_iaload dX11_makeSum_44 (by omega) ((hs_n (by omega)).trans ((hs_n (by omega)).trans ((hs_n (by omega)).trans ((hs_n (by omega)).trans hs_e)))) (by omega) (by omega) (by decide) ?_
      refine r_icmp_ge 50 dX11_makeSum_45 (by decide) ⟨by omega, by omega⟩ ⟨by omega, by omega⟩ (fun c_45 => ?_) (fun c_45 => ?_)
      · have te35 : t35 = k + l := by omega
        have hyin : ∀ j, j < k + l → inM (ex l d t j) := fun j hj => hT35.2.1 j (by omega)
        refine r_iconst (z := 1) dX11_makeSum_50 ?_
        refine r_istore (L2 := [_, _, _, _, _, none]) dX11_makeSum_51 (nlt rfl) rfl ?_
        refine r_iconst (z := 0) dX11_makeSum_53 ?_
        refine r_istore (L2 := [_, _, _, _, _, _]) dX11_makeSum_54 (nlt rfl) rfl ?_
        have lp56 : ∀ (fu56 : Nat) (ms1 : Nat → Int) (fit : Int) (nn : Int) (u : Nat), (8 - nn) < (fu56 : Int) → (nn = (u : Int)) → (u ≤ k + l) → (STL (mNum w (ex k c s) (ex l d t) ddi) ms ms1 fit u) → G X RX11 cX11_makeSum mX11_makeSum.rm N 0 0 56 [some (.ref (124)), some (.int (iZ (xi))), some (.int (iZ (yi))), some (.int (iZ (zi))), some (.int (iZ (fit))), some (.int (iZ (nn)))] [] (hs (hs (hs (hs (hs (hs (hs h (138) (aL 14 (po3))) (125) (aI 7 (om3))) (126) (aL 42 (ml3))) (124) (MOo (ln) (pr) (nm) (at_) (wr) (va) ((t35 : Int)) (ta) (ro) (dg))) (130) (aL 2001 (X35))) (142) (aL 100 (fi18))) (127) (aL 42 (ms1))) := by
          intro fu56
          induction fu56 with
          | zero => intro ms1 fit nn u hm en uK hS; exfalso; omega
          | succ fu56 ih56 =>
            intro ms1 fit nn u hms56 en uK hS
            have f01 := hS.1
            refine r_iload dX11_makeSum_56 rfl ?_
            refine r_aload_n dX11_makeSum_58 rfl rfl ?_
            refine gf_X11_7 dX11_makeSum_59 (by omega) ((hs_n (by omega)).trans ((hs_n (by omega)).trans ((hs_n (by omega)).trans hs_e))) rfl ?_
            refine r_bipush (z := 6) dX11_makeSum_62 (by decide) ?_
            refine r_iaload dX11_makeSum_64 (by omega) ((hs_n (by omega)).trans ((hs_n (by omega)).trans ((hs_n (by omega)).trans ((hs_n (by omega)).trans ((hs_n (by omega)).trans hs_e))))) (by omega) (by omega) (by decide) ?_
            refine r_icmp_ge 125 dX11_makeSum_65 (by decide) ⟨by omega, by omega⟩ ⟨by omega, by omega⟩ (fun c_65 => ?_) (fun c_65 => ?_)
            · refine r_iload dX11_makeSum_125 rfl ?_
              refine r_zreturn hq dX11_makeSum_127 rfl (by omega) rfl rfl ?_
              rw [show u = k + l by omega] at hS
              refine hQ _ _ ⟨fun a9 h9 => ((hs_n (by omega)).trans ((hs_n (by omega)).trans ((hs_n (by omega)).trans ((hs_n (by omega)).trans ((hs_n (by omega)).trans ((hs_n (by omega)).trans ((hs_n (by omega)).trans rfl))))))), _, _, _, _, _, _, _, _, _, _, ((hs_n (by omega)).trans ((hs_n (by omega)).trans ((hs_n (by omega)).trans hs_e))), ((hs_n (by omega)).trans ((hs_n (by omega)).trans ((hs_n (by omega)).trans ((hs_n (by omega)).trans ((hs_n (by omega)).trans hs_e))))), ((hs_n (by omega)).trans ((hs_n (by omega)).trans ((hs_n (by omega)).trans ((hs_n (by omega)).trans hs_e)))), hs_e, ((hs_n (by omega)).trans ((hs_n (by omega)).trans hs_e)), ((hs_n (by omega)).trans ((hs_n (by omega)).trans ((hs_n (by omega)).trans ((hs_n (by omega)).trans ((hs_n (by omega)).trans ((hs_n (by omega)).trans hs_e)))))), ((hs_n (by omega)).trans ((hs_n (by omega)).trans ((hs_n (by omega)).trans ((hs_n (by omega)).trans ((hs_n (by omega)).trans ((hs_n (by omega)).trans ((hs_n (by omega)).trans h139))))))), ((hs_n (by omega)).trans ((hs_n (by omega)).trans ((hs_n (by omega)).trans ((hs_n (by omega)).trans ((hs_n (by omega)).trans ((hs_n (by omega)).trans ((hs_n (by omega)).trans h140))))))), ((hs_n (by omega)).trans ((hs_n (by omega)).trans ((hs_n (by omega)).trans ((hs_n (by omega)).trans ((hs_n (by omega)).trans ((hs_n (by omega)).trans ((hs_n (by omega)).trans h141))))))), ((hs_n (by omega)).trans hs_e), hM.1, hM.2.1, hS.2.1, ?_⟩
              rcases hS.fin with ⟨y, z⟩ | ⟨y1, y2, y3⟩
              · exact Or.inl ⟨y, fun w9 => z w9.2.2.2.2⟩
              · exact Or.inr ⟨y1, ⟨⟨hkl, hlaw⟩, fun j hj => hxin j (by rw [hlast] at hj; omega), fun _ j hj => hyin j hj, fun w3 => by omega, y2⟩, eo6, hlw, y3⟩
            · have exf : fi18 nn.toNat = ex k c s u := by rw [show nn.toNat = u by omega]; exact hxf u (by omega) (by omega)
              have eyf : X35 nn.toNat = ex l d t u := by rw [show nn.toNat = u by omega]; exact hX35 u (by omega)
              have i1 := hxin u (by omega)
              have i2 := hyin u (by omega)
              rw [← exf] at i1
              rw [← eyf] at i2
              have i11 := i1.1
              have i12 := i1.2
              have i21 := i2.1
              have i22 := i2.2
              refine r_aload_n dX11_makeSum_68 rfl rfl ?_
              refine r_iload dX11_makeSum_69 rfl ?_
              refine r_aload_n dX11_makeSum_71 rfl rfl ?_
              refine gf_X11_66 dX11_makeSum_72 (by omega) ((hs_n (by omega)).trans ((hs_n (by omega)).trans ((hs_n (by omega)).trans hs_e))) rfl ?_
              refine r_iload dX11_makeSum_75 rfl ?_
              refine r_laload dX11_makeSum_77 (by omega) ((hs_n (by omega)).trans hs_e) (by omega) (by omega) (by decide) ?_
              refine r_iload_n dX11_makeSum_78 rfl rfl ?_
              refine r_if_eq 93 dX11_makeSum_79 (by decide) ⟨by omega, by omega⟩ (fun c_79 => ?_) (fun c_79 => ?_)
              · refine r_aload_n dX11_makeSum_93 rfl rfl ?_
                refine gf_X11_30 dX11_makeSum_94 (by omega) ((hs_n (by omega)).trans ((hs_n (by omega)).trans ((hs_n (by omega)).trans hs_e))) rfl ?_
                refine r_iload dX11_makeSum_97 rfl ?_
                refine r_laload dX11_makeSum_99 (by omega) ((hs_n (by omega)).trans ((hs_n (by omega)).trans hs_e)) (by omega) (by omega) (by decide) ?_
                refine r_ladd dX11_makeSum_100 ?_
                have eg : (fi18 (nn).toNat) + (X35 (nn).toNat) = mNum w (ex k c s) (ex l d t) ddi u := by
                  rw [exf, eyf]
                  rcases hw01 with ⟨a, b⟩ | ⟨a, b⟩
                  · rw [b]; rfl
                  · omega
                refine r_callV (av := [.int (iZ (nn)), .long (lZ ((fi18 (nn).toNat) + (X35 (nn).toNat)))]) dX11_makeSum_101 lkX11_start ml_X11_240 imX11_start seX11_start (by omega) (rfl : vwCl[11]? = _) ⟨_, ((hs_n (by omega)).trans ((hs_n (by omega)).trans ((hs_n (by omega)).trans hs_e)))⟩ ⟨Nat.le_of_ble_eq_true rfl, Nat.le_of_ble_eq_true rfl⟩ rfl rfl (nle rfl) ⟨Nat.le_of_ble_eq_true rfl, Nat.le_of_ble_eq_true rfl⟩ (c_X11_start (n := u) (v := (fi18 (nn).toNat) + (X35 (nn).toNat)) (ms := ms1) (ln := ln) (pr := pr) (nm := nm) (at_ := at_) (wr := wr) (va := va) (em := (t35 : Int)) (ta := ta) (ro := ro) (dg := dg) ((hs_n (by omega)).trans ((hs_n (by omega)).trans ((hs_n (by omega)).trans hs_e))) hN hs_e (by omega) (by omega) ⟨by omega, by omega⟩ (fun b101 hb101 => ?_))
                refine g_heap (h2 := (hs (hs (hs (hs (hs (hs (hs h (138) (aL 14 (po3))) (125) (aI 7 (om3))) (126) (aL 42 (ml3))) (124) (MOo (ln) (pr) (nm) (at_) (wr) (va) ((t35 : Int)) (ta) (ro) (dg))) (130) (aL 2001 (X35))) (142) (aL 100 (fi18))) (127) (aL 42 (uA ms1 (36 + u) ((fi18 (nn).toNat) + (X35 (nn).toNat)))))) hs_hs ?_
                show G _ _ _ _ _ _ _ 104 _ _ _
                refine r_if_eq 116 dX11_makeSum_104 (by decide) ⟨by omega, by omega⟩ (fun c_104 => ?_) (fun c_104 => ?_)
                · refine r_iconst (z := 0) dX11_makeSum_116 ?_
                  refine r_istore (L2 := [_, _, _, _, _, _]) dX11_makeSum_117 (nlt rfl) rfl ?_
                  refine r_iinc (L2 := [_, _, _, _, _, _]) dX11_makeSum_119 (nlt rfl) rfl rfl ?_
                  refine r_goto 56 dX11_makeSum_122 (by decide) ?_
                  exact ih56 (uA ms1 (36 + u) ((fi18 (nn).toNat) + (X35 (nn).toNat))) (0) (nn + 1) ((u + 1)) (by omega) (by omega) (by omega) (hS.no (fun w => by rcases hb101 with ⟨y, _⟩ | ⟨_, y⟩; omega; exact y (by have e := eg; rw [e]; exact w)) (fun t9 h9 => uA_n (by omega)))
                · refine r_iload dX11_makeSum_107 rfl ?_
                  refine r_if_eq 116 dX11_makeSum_109 (by decide) ⟨by omega, by omega⟩ (fun c_109 => ?_) (fun c_109 => ?_)
                  · refine r_iconst (z := 0) dX11_makeSum_116 ?_
                    refine r_istore (L2 := [_, _, _, _, _, _]) dX11_makeSum_117 (nlt rfl) rfl ?_
                    refine r_iinc (L2 := [_, _, _, _, _, _]) dX11_makeSum_119 (nlt rfl) rfl rfl ?_
                    refine r_goto 56 dX11_makeSum_122 (by decide) ?_
                    exact ih56 (uA ms1 (36 + u) ((fi18 (nn).toNat) + (X35 (nn).toNat))) (0) (nn + 1) ((u + 1)) (by omega) (by omega) (by omega) (hS.old c_109 (fun t9 h9 => uA_n (by omega)))
                  · refine r_iconst (z := 1) dX11_makeSum_112 ?_
                    refine r_goto 117 dX11_makeSum_113 (by decide) ?_
                    refine r_istore (L2 := [_, _, _, _, _, _]) dX11_makeSum_117 (nlt rfl) rfl ?_
                    refine r_iinc (L2 := [_, _, _, _, _, _]) dX11_makeSum_119 (nlt rfl) rfl rfl ?_
                    refine r_goto 56 dX11_makeSum_122 (by decide) ?_
                    exact ih56 (uA ms1 (36 + u) ((fi18 (nn).toNat) + (X35 (nn).toNat))) (1) (nn + 1) ((u + 1)) (by omega) (by omega) (by omega) (hS.yes c_109 eg (by rcases hb101 with ⟨_, y⟩ | ⟨y, _⟩; exact y; omega))
              · refine r_aload_n dX11_makeSum_82 rfl rfl ?_
                refine gf_X11_30 dX11_makeSum_83 (by omega) ((hs_n (by omega)).trans ((hs_n (by omega)).trans ((hs_n (by omega)).trans hs_e))) rfl ?_
                refine r_iload dX11_makeSum_86 rfl ?_
                refine r_laload dX11_makeSum_88 (by omega) ((hs_n (by omega)).trans ((hs_n (by omega)).trans hs_e)) (by omega) (by omega) (by decide) ?_
                refine r_lneg dX11_makeSum_89 ?_
                refine r_goto 100 dX11_makeSum_90 (by decide) ?_
                refine r_ladd dX11_makeSum_100 ?_
                have eg : (fi18 (nn).toNat) + (-(X35 (nn).toNat)) = mNum w (ex k c s) (ex l d t) ddi u := by
                  rw [exf, eyf]
                  rcases hw01 with ⟨a, b⟩ | ⟨a, b⟩
                  · exact absurd a c_79
                  · rw [b]; show _ = _ - _; omega
                refine r_callV (av := [.int (iZ (nn)), .long (lZ ((fi18 (nn).toNat) + (-(X35 (nn).toNat))))]) dX11_makeSum_101 lkX11_start ml_X11_240 imX11_start seX11_start (by omega) (rfl : vwCl[11]? = _) ⟨_, ((hs_n (by omega)).trans ((hs_n (by omega)).trans ((hs_n (by omega)).trans hs_e)))⟩ ⟨Nat.le_of_ble_eq_true rfl, Nat.le_of_ble_eq_true rfl⟩ rfl rfl (nle rfl) ⟨Nat.le_of_ble_eq_true rfl, Nat.le_of_ble_eq_true rfl⟩ (c_X11_start (n := u) (v := (fi18 (nn).toNat) + (-(X35 (nn).toNat))) (ms := ms1) (ln := ln) (pr := pr) (nm := nm) (at_ := at_) (wr := wr) (va := va) (em := (t35 : Int)) (ta := ta) (ro := ro) (dg := dg) ((hs_n (by omega)).trans ((hs_n (by omega)).trans ((hs_n (by omega)).trans hs_e))) hN hs_e (by omega) (by omega) ⟨by omega, by omega⟩ (fun b101 hb101 => ?_))
                refine g_heap (h2 := (hs (hs (hs (hs (hs (hs (hs h (138) (aL 14 (po3))) (125) (aI 7 (om3))) (126) (aL 42 (ml3))) (124) (MOo (ln) (pr) (nm) (at_) (wr) (va) ((t35 : Int)) (ta) (ro) (dg))) (130) (aL 2001 (X35))) (142) (aL 100 (fi18))) (127) (aL 42 (uA ms1 (36 + u) ((fi18 (nn).toNat) + (-(X35 (nn).toNat))))))) hs_hs ?_
                show G _ _ _ _ _ _ _ 104 _ _ _
                refine r_if_eq 116 dX11_makeSum_104 (by decide) ⟨by omega, by omega⟩ (fun c_104 => ?_) (fun c_104 => ?_)
                · refine r_iconst (z := 0) dX11_makeSum_116 ?_
                  refine r_istore (L2 := [_, _, _, _, _, _]) dX11_makeSum_117 (nlt rfl) rfl ?_
                  refine r_iinc (L2 := [_, _, _, _, _, _]) dX11_makeSum_119 (nlt rfl) rfl rfl ?_
                  refine r_goto 56 dX11_makeSum_122 (by decide) ?_
                  exact ih56 (uA ms1 (36 + u) ((fi18 (nn).toNat) + (-(X35 (nn).toNat)))) (0) (nn + 1) ((u + 1)) (by omega) (by omega) (by omega) (hS.no (fun w => by rcases hb101 with ⟨y, _⟩ | ⟨_, y⟩; omega; exact y (by have e := eg; rw [e]; exact w)) (fun t9 h9 => uA_n (by omega)))
                · refine r_iload dX11_makeSum_107 rfl ?_
                  refine r_if_eq 116 dX11_makeSum_109 (by decide) ⟨by omega, by omega⟩ (fun c_109 => ?_) (fun c_109 => ?_)
                  · refine r_iconst (z := 0) dX11_makeSum_116 ?_
                    refine r_istore (L2 := [_, _, _, _, _, _]) dX11_makeSum_117 (nlt rfl) rfl ?_
                    refine r_iinc (L2 := [_, _, _, _, _, _]) dX11_makeSum_119 (nlt rfl) rfl rfl ?_
                    refine r_goto 56 dX11_makeSum_122 (by decide) ?_
                    exact ih56 (uA ms1 (36 + u) ((fi18 (nn).toNat) + (-(X35 (nn).toNat)))) (0) (nn + 1) ((u + 1)) (by omega) (by omega) (by omega) (hS.old c_109 (fun t9 h9 => uA_n (by omega)))
                  · refine r_iconst (z := 1) dX11_makeSum_112 ?_
                    refine r_goto 117 dX11_makeSum_113 (by decide) ?_
                    refine r_istore (L2 := [_, _, _, _, _, _]) dX11_makeSum_117 (nlt rfl) rfl ?_
                    refine r_iinc (L2 := [_, _, _, _, _, _]) dX11_makeSum_119 (nlt rfl) rfl rfl ?_
                    refine r_goto 56 dX11_makeSum_122 (by decide) ?_
                    exact ih56 (uA ms1 (36 + u) ((fi18 (nn).toNat) + (-(X35 (nn).toNat)))) (1) (nn + 1) ((u + 1)) (by omega) (by omega) (by omega) (hS.yes c_109 eg (by rcases hb101 with ⟨_, y⟩ | ⟨y, _⟩; exact y; omega))
        refine g_heap (hs_id (c := aL 42 (ms)) ((hs_n (by omega)).trans ((hs_n (by omega)).trans ((hs_n (by omega)).trans ((hs_n (by omega)).trans ((hs_n (by omega)).trans ((hs_n (by omega)).trans hms))))))).symm ?_
        exact lp56 ((8 : Int) + 1).toNat (ms) (1) (0) (0) (by omega) rfl (Nat.zero_le _) (STL.nil _ _)
      · refine r_iconst (z := 0) dX11_makeSum_48 ?_
        refine r_zreturn hq dX11_makeSum_49 rfl (by decide) rfl rfl ?_
        refine hQ _ _ ⟨fun a9 h9 => ((hs_n (by omega)).trans ((hs_n (by omega)).trans ((hs_n (by omega)).trans ((hs_n (by omega)).trans ((hs_n (by omega)).trans ((hs_n (by omega)).trans rfl)))))), _, _, _, _, _, _, _, _, _, _, ((hs_n (by omega)).trans ((hs_n (by omega)).trans hs_e)), ((hs_n (by omega)).trans ((hs_n (by omega)).trans ((hs_n (by omega)).trans ((hs_n (by omega)).trans hs_e)))), ((hs_n (by omega)).trans ((hs_n (by omega)).trans ((hs_n (by omega)).trans hs_e))), ((hs_n (by omega)).trans ((hs_n (by omega)).trans ((hs_n (by omega)).trans ((hs_n (by omega)).trans ((hs_n (by omega)).trans ((hs_n (by omega)).trans hms)))))), ((hs_n (by omega)).trans hs_e), ((hs_n (by omega)).trans ((hs_n (by omega)).trans ((hs_n (by omega)).trans ((hs_n (by omega)).trans ((hs_n (by omega)).trans hs_e))))), ((hs_n (by omega)).trans ((hs_n (by omega)).trans ((hs_n (by omega)).trans ((hs_n (by omega)).trans ((hs_n (by omega)).trans ((hs_n (by omega)).trans h139)))))), ((hs_n (by omega)).trans ((hs_n (by omega)).trans ((hs_n (by omega)).trans ((hs_n (by omega)).trans ((hs_n (by omega)).trans ((hs_n (by omega)).trans h140)))))), ((hs_n (by omega)).trans ((hs_n (by omega)).trans ((hs_n (by omega)).trans ((hs_n (by omega)).trans ((hs_n (by omega)).trans ((hs_n (by omega)).trans h141)))))), hs_e, hM.1, hM.2.1, (fun _ _ => rfl), ?_⟩
        refine Or.inl ⟨rfl, fun w9 => ?_⟩
        exact hT35.2.2 (by omega) (w9.2.2.1 (by omega) t35 (by omega))
theorem sB_gt {x : Int} (h : sB x) : -1000000000000000000 ≤ x ∧ x ≤ 1000000000000000000 := by have h1 := h.1; have h2 := h.2; omega
set_option maxHeartbeats 8000000 in
set_option maxRecDepth 20000 in
theorem c_X11_makeProduct {N : Nat} {h : Hp} {Q : QP} {ln pr nm at_ wr va em ta ro dg : Int} {om ml ms : Nat → Int} {x130 x138 x139 x140 x141 x142 c s : Nat → Int} {r k : Nat} {xi : Int} {d t : Nat → Int} {r2 l : Nat} {yi : Int} {ddi : Int} (hm0 : h 124 = MOo ln pr nm at_ wr va em ta ro dg) (hN : 146 ≤ N) (hom : h 125 = aI 7 om) (hml : h 126 = aL 42 ml) (hms : h 127 = aL 42 ms) (hex : h 130 = aL 2001 x130) (h138 : h 138 = aL 14 x138) (h139 : h 139 = aL 37 x139) (h140 : h 140 = aL 37 x140) (h141 : h 141 = aL 7 x141) (h142 : h 142 = aL 100 x142) (hg : RG om ml ms r k c s) (hri : xi = (r : Int)) (hr6 : r < 6) (hc0 : c 0 = -1) (hgy : RG om ml ms r2 l d t) (hrj : yi = (r2 : Int)) (hr26 : r2 < 6) (hd0 : d 0 = -1) (hQ : ∀ (b : Int) (h2 : Hp), MKR h ln pr nm at_ wr va ta ro dg om ml ms (mOk 2 k l (ddi).toNat c d ∧ sOk 2 (mK 2 k l) (ex k c s) (ex l d t) ddi) (mK 2 k l) (mLaw 2 k l (ddi).toNat c d) (mNum 2 (ex k c s) (ex l d t) ddi) b h2 → Q (some (.int (iZ b))) N h2) : Runs mX11_makeProduct [.ref (124), .int (iZ (xi)), .int (iZ (yi))] N h Q := by
  rw [mOk2 rfl, mK2 rfl, mLaw2 rfl] at hQ
  obtain ⟨hg1, hk1, hk6, hg4, hg5⟩ := id hg
  have ern : xi.toNat = r := by omega
  have eom : om xi.toNat = (k : Int) := by rw [ern]; exact hg1
  obtain ⟨hj1, hl1, hl6, hj4, hj5⟩ := id hgy
  have ern2 : yi.toNat = r2 := by omega
  have eom2 : om yi.toNat = (l : Int) := by rw [ern2]; exact hj1
  have hdb : ∀ j, j ≤ l → -100000 ≤ d j ∧ d j ≤ 100000 := fun j hj => by
    by_cases z : j = 0
    · rw [z, hd0]; decide
    · exact (hj4 j (by omega) hj).2
  have hy1 : 0 ≤ yi → yi ≤ 5 ∧ om yi.toNat = (l : Int) ∧ ∀ j, 1 ≤ j → j ≤ l → ml ((6 * yi) + j - 1).toNat = d j := fun _ => ⟨by omega, eom2, fun j a b => by rw [show ((6 * yi) + (j : Int) - 1).toNat = 6 * r2 + j - 1 by omega]; exact (hj4 j a b).1⟩
  obtain ⟨K, hK⟩ : ∃ K : Nat, K = k * l := ⟨_, rfl⟩
  have hKi : (k : Int) * (l : Int) = (K : Int) := by rw [hK, Int.natCast_mul]
  have hKx : om xi.toNat * om yi.toNat = (K : Int) := by rw [eom, eom2]; exact hKi
  have hK0 : 0 < K := by rw [hK]; exact Nat.mul_pos hk1 hl1
  have hK1 : K ≤ 36 := by rw [hK]; exact Nat.mul_le_mul hk6 hl6
  rw [← hK] at hQ
  have hlast : mLast 2 K ddi.toNat = K - 1 := mLast_n (by decide) (by decide)
  refine run_start (own := RX11) rfl (by decide) (nle rfl) rfl (fun X hq hini => ?_)
  show G X RX11 cX11_makeProduct mX11_makeProduct.rm N 0 0 0 [some (.ref (124)), some (.int (iZ (xi))), some (.int (iZ (yi))), none, none, none] [] h
  refine r_aload_n dX11_makeProduct_0 rfl rfl ?_
  refine gf_X11_7 dX11_makeProduct_1 (by omega) hm0 rfl ?_
  refine r_iload_n dX11_makeProduct_4 rfl rfl ?_
  refine r_iaload dX11_makeProduct_5 (by omega) hom (by omega) (by omega) (by decide) ?_
  refine r_aload_n dX11_makeProduct_6 rfl rfl ?_
  refine gf_X11_7 dX11_makeProduct_7 (by omega) hm0 rfl ?_
  refine r_iload_n dX11_makeProduct_10 rfl rfl ?_
  refine r_iaload dX11_makeProduct_11 (by omega) hom (by omega) (by omega) (by decide) ?_
  refine r_imul dX11_makeProduct_12 ?_
  refine r_istore_n (L2 := [_, _, _, _, none, none]) dX11_makeProduct_13 rfl (nlt rfl) rfl ?_
  rw [hKx]
  refine r_iload_n dX11_makeProduct_14 rfl rfl ?_
  refine r_bipush (z := 6) dX11_makeProduct_15 (by decide) ?_
  refine r_icmp_gt 46 dX11_makeProduct_17 (by decide) ⟨by omega, by omega⟩ ⟨by decide, by decide⟩ (fun c_17 => ?_) (fun c_17 => ?_)
  · refine r_iconst (z := 0) dX11_makeProduct_46 ?_
    refine r_zreturn hq dX11_makeProduct_47 rfl (by decide) rfl rfl ?_
    refine hQ _ _ ⟨fun a9 h9 => rfl, _, _, _, _, _, _, _, _, _, _, hm0, hom, hml, hms, hex, h138, h139, h140, h141, h142, (fun _ _ => rfl), (fun _ _ => rfl), (fun _ _ => rfl), ?_⟩
    refine Or.inl ⟨rfl, fun w9 => ?_⟩
    have := w9.1.1
    omega
  · refine r_aload_n dX11_makeProduct_20 rfl rfl ?_
    refine r_iload_n dX11_makeProduct_21 rfl rfl ?_
    refine r_iload_n dX11_makeProduct_22 rfl rfl ?_
    refine r_aload_n dX11_makeProduct_23 rfl rfl ?_
    refine gf_X11_57 dX11_makeProduct_24 (by omega) hm0 rfl ?_
    refine r_callV (av := [.int (iZ (xi)), .int (iZ ((K : Int))), .ref (139)]) dX11_makeProduct_27 lkX11_layPowers ml_X11_244 imX11_layPowers seX11_layPowers (by omega) (rfl : vwCl[11]? = _) ⟨_, hm0⟩ ⟨Nat.le_of_ble_eq_true rfl, Nat.le_of_ble_eq_true rfl⟩ rfl rfl (nle rfl) ⟨Nat.le_of_ble_eq_true rfl, Nat.le_of_ble_eq_true rfl⟩ (c_X11_layPowers (c := c) (s := s) (r := r) (k := k) (u := 139) (la := K) (f := x139) (om := om) (ml := ml) (ms := ms) (ln := ln) (pr := pr) (nm := nm) (at_ := at_) (wr := wr) (va := va) (em := em) (ta := ta) (ro := ro) (dg := dg) hm0 hN hom hml hms hg (by omega) (by omega) (by omega) h139 (by omega) (by omega) (fun b27 f27 hb27 => ?_))
    show G _ _ _ _ _ _ _ 30 _ _ _
    refine r_if_eq 46 dX11_makeProduct_30 (by decide) (by rcases hb27 with ⟨y, _⟩ | ⟨y, _⟩ <;> exact ⟨by omega, by omega⟩) (fun c_30 => ?_) (fun c_30 => ?_)
    · refine r_iconst (z := 0) dX11_makeProduct_46 ?_
      refine r_zreturn hq dX11_makeProduct_47 rfl (by decide) rfl rfl ?_
      refine hQ _ _ ⟨fun a9 h9 => ((hs_n (by omega)).trans rfl), _, _, _, _, _, _, _, _, _, _, ((hs_n (by omega)).trans hm0), ((hs_n (by omega)).trans hom), ((hs_n (by omega)).trans hml), ((hs_n (by omega)).trans hms), ((hs_n (by omega)).trans hex), ((hs_n (by omega)).trans h138), hs_e, ((hs_n (by omega)).trans h140), ((hs_n (by omega)).trans h141), ((hs_n (by omega)).trans h142), (fun _ _ => rfl), (fun _ _ => rfl), (fun _ _ => rfl), ?_⟩
      refine Or.inl ⟨rfl, fun w9 => ?_⟩
      rcases hb27 with ⟨y, _⟩ | ⟨_, y⟩
      · omega
      · exact y (by rw [hK]; exact w9.1.2.1)
    · refine r_aload_n dX11_makeProduct_33 rfl rfl ?_
      refine r_iload_n dX11_makeProduct_34 rfl rfl ?_
      refine r_iload_n dX11_makeProduct_35 rfl rfl ?_
      refine r_aload_n dX11_makeProduct_36 rfl rfl ?_
      refine gf_X11_60 dX11_makeProduct_37 (by omega) ((hs_n (by omega)).trans hm0) rfl ?_
      refine r_callV (av := [.int (iZ (yi)), .int (iZ ((K : Int))), .ref (140)]) dX11_makeProduct_40 lkX11_layPowers ml_X11_244 imX11_layPowers seX11_layPowers (by omega) (rfl : vwCl[11]? = _) ⟨_, ((hs_n (by omega)).trans hm0)⟩ ⟨Nat.le_of_ble_eq_true rfl, Nat.le_of_ble_eq_true rfl⟩ rfl rfl (nle rfl) ⟨Nat.le_of_ble_eq_true rfl, Nat.le_of_ble_eq_true rfl⟩ (c_X11_layPowers (c := d) (s := t) (r := r2) (k := l) (u := 140) (la := K) (f := x140) (om := om) (ml := ml) (ms := ms) (ln := ln) (pr := pr) (nm := nm) (at_ := at_) (wr := wr) (va := va) (em := em) (ta := ta) (ro := ro) (dg := dg) ((hs_n (by omega)).trans hm0) hN ((hs_n (by omega)).trans hom) ((hs_n (by omega)).trans hml) ((hs_n (by omega)).trans hms) hgy (by omega) (by omega) (by omega) ((hs_n (by omega)).trans h140) (by omega) (by omega) (fun b40 f40 hb40 => ?_))
      show G _ _ _ _ _ _ _ 43 _ _ _
      refine r_if_ne 48 dX11_makeProduct_43 (by decide) (by rcases hb40 with ⟨y, _⟩ | ⟨y, _⟩ <;> exact ⟨by omega, by omega⟩) (fun c_43 => ?_) (fun c_43 => ?_)
      · have hf27 : powB K (pw c k) ∧ ∀ j, 1 ≤ j → j ≤ K → f27 j = pw c k j := by
          rcases hb27 with ⟨_, y⟩ | ⟨y, _⟩
          · exact y
          · exfalso; omega
        have hf40 : powB K (pw d l) ∧ ∀ j, 1 ≤ j → j ≤ K → f40 j = pw d l j := by
          rcases hb40 with ⟨_, y⟩ | ⟨y, _⟩
          · exact y
          · exfalso; omega
        refine r_iconst (z := 1) dX11_makeProduct_48 ?_
        refine r_istore (L2 := [_, _, _, _, _, none]) dX11_makeProduct_49 (nlt rfl) rfl ?_
        have lp51 : ∀ (fu51 : Nat) (x1 : Nat → Int) (i : Int) (j : Nat), (8 - i) < (fu51 : Int) → (i = (j : Int)) → (1 ≤ j) → (j ≤ K + 1) → (∀ t, 1 ≤ t → t < j → x1 t = pw c k t * pw d l t) → (∀ t, 1 ≤ t → t < j → -1000000000 ≤ pw c k t * pw d l t ∧ pw c k t * pw d l t ≤ 1000000000) → G X RX11 cX11_makeProduct mX11_makeProduct.rm N 0 0 51 [some (.ref (124)), some (.int (iZ (xi))), some (.int (iZ (yi))), some (.int (iZ ((K : Int)))), some (.int (iZ (i))), none] [] (hs (hs (hs h (139) (aL 37 (f27))) (140) (aL 37 (f40))) (141) (aL 7 (x1))) := by
          intro fu51
          induction fu51 with
          | zero => intro x1 i j hm ei j0 j1 hx hB; exfalso; omega
          | succ fu51 ih51 =>
            intro x1 i j hms51 ei j0 j1 hx hB
            refine r_iload dX11_makeProduct_51 rfl ?_
            refine r_iload_n dX11_makeProduct_53 rfl rfl ?_
            refine r_icmp_gt 104 dX11_makeProduct_54 (by decide) ⟨by omega, by omega⟩ ⟨by omega, by omega⟩ (fun c_54 => ?_) (fun c_54 => ?_)
            · have j9 : j = K + 1 := by omega
              have hP8 : powB K (fun j => pw c k j * pw d l j) := fun t a b => hB t a (by omega)
              have hP9 : powB K x1 := fun t a b => by rw [hx t a (by omega)]; exact hP8 t a b
              have hlc := lb_cong (P := x1) (P2 := fun j => pw c k j * pw d l j) (K := K) (fun t a b => hx t a (by omega))
              refine r_aload_n dX11_makeProduct_104 rfl rfl ?_
              refine r_iload_n dX11_makeProduct_105 rfl rfl ?_
              refine r_callV (av := [.int (iZ ((K : Int)))]) dX11_makeProduct_106 lkX11_fromPowers ml_X11_248 imX11_fromPowers seX11_fromPowers (by omega) (rfl : vwCl[11]? = _) ⟨_, ((hs_n (by omega)).trans ((hs_n (by omega)).trans ((hs_n (by omega)).trans hm0)))⟩ ⟨Nat.le_of_ble_eq_true rfl, Nat.le_of_ble_eq_true rfl⟩ rfl rfl (nle rfl) ⟨Nat.le_of_ble_eq_true rfl, Nat.le_of_ble_eq_true rfl⟩ (c_X11_fromPowers (K := K) (xp := x1) (om := om) (ml := ml) (ms := ms) (ln := ln) (pr := pr) (nm := nm) (at_ := at_) (wr := wr) (va := va) (em := em) (ta := ta) (ro := ro) (dg := dg) ((hs_n (by omega)).trans ((hs_n (by omega)).trans ((hs_n (by omega)).trans hm0))) hN ((hs_n (by omega)).trans ((hs_n (by omega)).trans ((hs_n (by omega)).trans hom))) ((hs_n (by omega)).trans ((hs_n (by omega)).trans ((hs_n (by omega)).trans hml))) ((hs_n (by omega)).trans ((hs_n (by omega)).trans ((hs_n (by omega)).trans hms))) hs_e (by omega) (by omega) (by omega) hP9 (fun b106 om106 ml106 hM => ?_))
              show G _ _ _ _ _ _ _ 109 _ _ _
              refine r_if_eq 133 dX11_makeProduct_109 (by decide) (by rcases hM.2.2 with ⟨y, _⟩ | ⟨y, _⟩ <;> exact ⟨by omega, by omega⟩) (fun c_109 => ?_) (fun c_109 => ?_)
              · refine r_iconst (z := 0) dX11_makeProduct_133 ?_
                refine r_zreturn hq dX11_makeProduct_134 rfl (by decide) rfl rfl ?_
                refine hQ _ _ ⟨fun a9 h9 => ((hs_n (by omega)).trans ((hs_n (by omega)).trans ((hs_n (by omega)).trans ((hs_n (by omega)).trans ((hs_n (by omega)).trans rfl))))), _, _, _, _, _, _, _, _, _, _, ((hs_n (by omega)).trans ((hs_n (by omega)).trans ((hs_n (by omega)).trans ((hs_n (by omega)).trans ((hs_n (by omega)).trans hm0))))), ((hs_n (by omega)).trans hs_e), hs_e, ((hs_n (by omega)).trans ((hs_n (by omega)).trans ((hs_n (by omega)).trans ((hs_n (by omega)).trans ((hs_n (by omega)).trans hms))))), ((hs_n (by omega)).trans ((hs_n (by omega)).trans ((hs_n (by omega)).trans ((hs_n (by omega)).trans ((hs_n (by omega)).trans hex))))), ((hs_n (by omega)).trans ((hs_n (by omega)).trans ((hs_n (by omega)).trans ((hs_n (by omega)).trans ((hs_n (by omega)).trans h138))))), ((hs_n (by omega)).trans ((hs_n (by omega)).trans ((hs_n (by omega)).trans ((hs_n (by omega)).trans hs_e)))), ((hs_n (by omega)).trans ((hs_n (by omega)).trans ((hs_n (by omega)).trans hs_e))), ((hs_n (by omega)).trans ((hs_n (by omega)).trans hs_e)), ((hs_n (by omega)).trans ((hs_n (by omega)).trans ((hs_n (by omega)).trans ((hs_n (by omega)).trans ((hs_n (by omega)).trans h142))))), hM.1, hM.2.1, (fun _ _ => rfl), ?_⟩
                refine Or.inl ⟨rfl, fun w9 => ?_⟩
                rcases hM.2.2 with ⟨_, y⟩ | ⟨y, _⟩
                · exact y (lawB_cong (fun t a b => (hlc t a b).symm) (by rw [hK]; exact w9.1.2.2.2.2))
                · omega
              · obtain ⟨hM0, hlaw, eo6, hlw⟩ := hM.2.2.resolve_left (fun w => c_109 w.1)
                have hgM := hg.low hr6 hM.1 hM.2.1 (fun _ _ => rfl)
                have hgM2 := hgy.low hr26 hM.1 hM.2.1 (fun _ _ => rfl)
                refine r_aload_n dX11_makeProduct_112 rfl rfl ?_
                refine r_iload_n dX11_makeProduct_113 rfl rfl ?_
                refine r_iload_n dX11_makeProduct_114 rfl rfl ?_
                refine r_callV (av := [.int (iZ (xi)), .int (iZ ((K : Int)))]) dX11_makeProduct_115 lkX11_layFirst ml_X11_237 imX11_layFirst seX11_layFirst (by omega) (rfl : vwCl[11]? = _) ⟨_, ((hs_n (by omega)).trans ((hs_n (by omega)).trans ((hs_n (by omega)).trans ((hs_n (by omega)).trans ((hs_n (by omega)).trans hm0)))))⟩ ⟨Nat.le_of_ble_eq_true rfl, Nat.le_of_ble_eq_true rfl⟩ rfl rfl (nle rfl) ⟨Nat.le_of_ble_eq_true rfl, Nat.le_of_ble_eq_true rfl⟩ (c_X11_layFirst (c := c) (s := s) (r := r) (k := k) (m := K) (ex0 := x130) (f0 := x142) (om := om106) (ml := ml106) (ms := ms) (ln := ln) (pr := pr) (nm := nm) (at_ := at_) (wr := wr) (va := va) (em := em) (ta := ta) (ro := ro) (dg := dg) ((hs_n (by omega)).trans ((hs_n (by omega)).trans ((hs_n (by omega)).trans ((hs_n (by omega)).trans ((hs_n (by omega)).trans hm0))))) hN ((hs_n (by omega)).trans hs_e) hs_e ((hs_n (by omega)).trans ((hs_n (by omega)).trans ((hs_n (by omega)).trans ((hs_n (by omega)).trans ((hs_n (by omega)).trans hms))))) ((hs_n (by omega)).trans ((hs_n (by omega)).trans ((hs_n (by omega)).trans ((hs_n (by omega)).trans ((hs_n (by omega)).trans hex))))) ((hs_n (by omega)).trans ((hs_n (by omega)).trans ((hs_n (by omega)).trans ((hs_n (by omega)).trans ((hs_n (by omega)).trans h142))))) hgM (by omega) (by omega) (by omega) (by omega) (by omega) (fun b115 em115 X115 fi115 hb115 => ?_))
                show G _ _ _ _ _ _ _ 118 _ _ _
                refine r_if_eq 133 dX11_makeProduct_118 (by decide) (by rcases hb115 with ⟨y, _⟩ | ⟨y, _⟩ <;> exact ⟨by omega, by omega⟩) (fun c_118 => ?_) (fun c_118 => ?_)
                · refine r_iconst (z := 0) dX11_makeProduct_133 ?_
                  refine r_zreturn hq dX11_makeProduct_134 rfl (by decide) rfl rfl ?_
                  refine hQ _ _ ⟨fun a9 h9 => ((hs_n (by omega)).trans ((hs_n (by omega)).trans ((hs_n (by omega)).trans ((hs_n (by omega)).trans ((hs_n (by omega)).trans ((hs_n (by omega)).trans ((hs_n (by omega)).trans ((hs_n (by omega)).trans rfl)))))))), _, _, _, _, _, _, _, _, _, _, ((hs_n (by omega)).trans ((hs_n (by omega)).trans hs_e)), ((hs_n (by omega)).trans ((hs_n (by omega)).trans ((hs_n (by omega)).trans ((hs_n (by omega)).trans hs_e)))), ((hs_n (by omega)).trans ((hs_n (by omega)).trans ((hs_n (by omega)).trans hs_e))), ((hs_n (by omega)).trans ((hs_n (by omega)).trans ((hs_n (by omega)).trans ((hs_n (by omega)).trans ((hs_n (by omega)).trans ((hs_n (by omega)).trans ((hs_n (by omega)).trans ((hs_n (by omega)).trans hms)))))))), ((hs_n (by omega)).trans hs_e), ((hs_n (by omega)).trans ((hs_n (by omega)).trans ((hs_n (by omega)).trans ((hs_n (by omega)).trans ((hs_n (by omega)).trans ((hs_n (by omega)).trans ((hs_n (by omega)).trans ((hs_n (by omega)).trans h138)))))))), ((hs_n (by omega)).trans ((hs_n (by omega)).trans ((hs_n (by omega)).trans ((hs_n (by omega)).trans ((hs_n (by omega)).trans ((hs_n (by omega)).trans ((hs_n (by omega)).trans hs_e))))))), ((hs_n (by omega)).trans ((hs_n (by omega)).trans ((hs_n (by omega)).trans ((hs_n (by omega)).trans ((hs_n (by omega)).trans ((hs_n (by omega)).trans hs_e)))))), ((hs_n (by omega)).trans ((hs_n (by omega)).trans ((hs_n (by omega)).trans ((hs_n (by omega)).trans ((hs_n (by omega)).trans hs_e))))), hs_e, hM.1, hM.2.1, (fun _ _ => rfl), ?_⟩
                  refine Or.inl ⟨rfl, fun w9 => ?_⟩
                  rcases hb115 with ⟨_, y⟩ | ⟨y, _⟩
                  · exact y (fun j hj => w9.2.1 j (by rw [hlast]; omega))
                  · omega
                · obtain ⟨hb1150, hxin, hxf⟩ := hb115.resolve_left (fun w => c_118 w.1)
                  refine r_aload_n dX11_makeProduct_121 rfl rfl ?_
                  refine r_iload_n dX11_makeProduct_122 rfl rfl ?_
                  refine r_iload_n dX11_makeProduct_123 rfl rfl ?_
                  refine r_iconst (z := 1) dX11_makeProduct_124 ?_
                  refine r_isub dX11_makeProduct_125 ?_
                  refine r_callV (av := [.int (iZ (yi)), .int (iZ ((K : Int) - 1))]) dX11_makeProduct_126 lkX11_layExact ml_X11_150 imX11_layExact seX11_layExact (by omega) (rfl : vwCl[11]? = _) ⟨_, ((hs_n (by omega)).trans ((hs_n (by omega)).trans hs_e))⟩ ⟨Nat.le_of_ble_eq_true rfl, Nat.le_of_ble_eq_true rfl⟩ rfl rfl (nle rfl) ⟨Nat.le_of_ble_eq_true rfl, Nat.le_of_ble_eq_true rfl⟩ (c_X11_layExact (r := r2) (k := l) (c := d) (s := t) (last := (K - 1)) (om := om106) (ml := ml106) (ms := ms) (ex0 := X115) (ln := ln) (pr := pr) (nm := nm) (at_ := at_) (wr := wr) (va := va) (em := em115) (ta := ta) (ro := ro) (dg := dg) ((hs_n (by omega)).trans ((hs_n (by omega)).trans hs_e)) hN ((hs_n (by omega)).trans ((hs_n (by omega)).trans ((hs_n (by omega)).trans ((hs_n (by omega)).trans hs_e)))) ((hs_n (by omega)).trans ((hs_n (by omega)).trans ((hs_n (by omega)).trans hs_e))) ((hs_n (by omega)).trans ((hs_n (by omega)).trans ((hs_n (by omega)).trans ((hs_n (by omega)).trans ((hs_n (by omega)).trans ((hs_n (by omega)).trans ((hs_n (by omega)).trans ((hs_n (by omega)).trans hms)))))))) ((hs_n (by omega)).trans hs_e) hgM2 (by omega) (by omega) (by omega) (by omega) (fun t126 X126 hT126 hX126 => ?_))
                  refine g_heap (h2 := (hs (hs (hs (hs (hs (hs (hs (hs h (139) (aL 37 (f27))) (140) (aL 37 (f40))) (141) (aL 7 (x1))) (125) (aI 7 (om106))) (126) (aL 42 (ml106))) (124) (MOo (ln) (pr) (nm) (at_) (wr) (va) ((t126 : Int)) (ta) (ro) (dg))) (130) (aL 2001 (X126))) (142) (aL 100 (fi115)))) ((congrArg (fun x9 => hs x9 (130) (aL 2001 (X126))) (hs_put (by omega) (hs_put (by omega) hs_hs))).trans (hs_put (by omega) hs_hs)) ?_
                  show G _ _ _ _ _ _ _ 129 _ _ _
                  have tl126 : t126 ≤ K := by have := hT126.1; omega
                  refine r_iload_n dX11_makeProduct_129 rfl rfl ?_
                  refine r_icmp_ge 135 dX11_makeProduct_130 (by decide) ⟨by omega, by omega⟩ ⟨by omega, by omega⟩ (fun c_130 => ?_) (fun c_130 => ?_)
                  · have te : t126 = K := by omega
                    have hyin : ∀ j, j < K → inM (ex l d t j) := fun j hj => hT126.2.1 j (by omega)
                    refine r_iconst (z := 1) dX11_makeProduct_135 ?_
                    refine r_istore (L2 := [_, _, _, _, _, none]) dX11_makeProduct_136 (nlt rfl) rfl ?_
                    refine r_iconst (z := 0) dX11_makeProduct_138 ?_
                    refine r_istore (L2 := [_, _, _, _, _, _]) dX11_makeProduct_139 (nlt rfl) rfl ?_
                    have lp141 : ∀ (fu141 : Nat) (ms1 : Nat → Int) (fit : Int) (nn : Int) (u : Nat), (8 - nn) < (fu141 : Int) → (nn = (u : Int)) → (u ≤ K) → (STL (mNum 2 (ex k c s) (ex l d t) ddi) ms ms1 fit u) → G X RX11 cX11_makeProduct mX11_makeProduct.rm N 0 0 141 [some (.ref (124)), some (.int (iZ (xi))), some (.int (iZ (yi))), some (.int (iZ ((K : Int)))), some (.int (iZ (fit))), some (.int (iZ (nn)))] [] (hs (hs (hs (hs (hs (hs (hs (hs (hs h (139) (aL 37 (f27))) (140) (aL 37 (f40))) (141) (aL 7 (x1))) (125) (aI 7 (om106))) (126) (aL 42 (ml106))) (124) (MOo (ln) (pr) (nm) (at_) (wr) (va) ((t126 : Int)) (ta) (ro) (dg))) (130) (aL 2001 (X126))) (142) (aL 100 (fi115))) (127) (aL 42 (ms1))) := by
                      intro fu141
                      induction fu141 with
                      | zero => intro ms1 fit nn u hm en uK hS; exfalso; omega
                      | succ fu141 ih141 =>
                        intro ms1 fit nn u hms141 en uK hS
                        have f01 := hS.1
                        refine r_iload dX11_makeProduct_141 rfl ?_
                        refine r_iload_n dX11_makeProduct_143 rfl rfl ?_
                        refine r_icmp_ge 209 dX11_makeProduct_144 (by decide) ⟨by omega, by omega⟩ ⟨by omega, by omega⟩ (fun c_144 => ?_) (fun c_144 => ?_)
                        · refine r_iload dX11_makeProduct_209 rfl ?_
                          refine r_zreturn hq dX11_makeProduct_211 rfl (by omega) rfl rfl ?_
                          rw [show u = K by omega] at hS
                          refine hQ _ _ ⟨fun a9 h9 => ((hs_n (by omega)).trans ((hs_n (by omega)).trans ((hs_n (by omega)).trans ((hs_n (by omega)).trans ((hs_n (by omega)).trans ((hs_n (by omega)).trans ((hs_n (by omega)).trans ((hs_n (by omega)).trans ((hs_n (by omega)).trans rfl))))))))), _, _, _, _, _, _, _, _, _, _, ((hs_n (by omega)).trans ((hs_n (by omega)).trans ((hs_n (by omega)).trans hs_e))), ((hs_n (by omega)).trans ((hs_n (by omega)).trans ((hs_n (by omega)).trans ((hs_n (by omega)).trans ((hs_n (by omega)).trans hs_e))))), ((hs_n (by omega)).trans ((hs_n (by omega)).trans ((hs_n (by omega)).trans ((hs_n (by omega)).trans hs_e)))), hs_e, ((hs_n (by omega)).trans ((hs_n (by omega)).trans hs_e)), ((hs_n (by omega)).trans ((hs_n (by omega)).trans ((hs_n (by omega)).trans ((hs_n (by omega)).trans ((hs_n (by omega)).trans ((hs_n (by omega)).trans ((hs_n (by omega)).trans ((hs_n (by omega)).trans ((hs_n (by omega)).trans h138))))))))), ((hs_n (by omega)).trans ((hs_n (by omega)).trans ((hs_n (by omega)).trans ((hs_n (by omega)).trans ((hs_n (by omega)).trans ((hs_n (by omega)).trans ((hs_n (by omega)).trans ((hs_n (by omega)).trans hs_e)))))))), ((hs_n (by omega)).trans ((hs_n (by omega)).trans ((hs_n (by omega)).trans ((hs_n (by omega)).trans ((hs_n (by omega)).trans ((hs_n (by omega)).trans ((hs_n (by omega)).trans hs_e))))))), ((hs_n (by omega)).trans ((hs_n (by omega)).trans ((hs_n (by omega)).trans ((hs_n (by omega)).trans ((hs_n (by omega)).trans ((hs_n (by omega)).trans hs_e)))))), ((hs_n (by omega)).trans hs_e), hM.1, hM.2.1, hS.2.1, ?_⟩
                          rcases hS.fin with ⟨y, z⟩ | ⟨y1, y2, y3⟩
                          · exact Or.inl ⟨y, fun w9 => z w9.2.2.2.2⟩
                          · exact Or.inr ⟨y1, ⟨⟨by omega, by rw [← hK]; exact hf27.1, by rw [← hK]; exact hf40.1, by rw [← hK]; exact hP8, by rw [← hK]; exact lawB_cong hlc hlaw⟩, fun j hj => hxin j (by rw [hlast] at hj; omega), fun _ j hj => hyin j hj, fun w3 => by omega, y2⟩, eo6, fun t a b => by rw [hlw t a b]; exact hlc t a b, y3⟩
                        · have exf : fi115 nn.toNat = ex k c s u := by rw [show nn.toNat = u by omega]; exact hxf u (by omega) (by omega)
                          have eyf : X126 nn.toNat = ex l d t u := by rw [show nn.toNat = u by omega]; exact hX126 u (by omega)
                          have i1 := hxin u (by omega)
                          have i2 := hyin u (by omega)
                          rw [← exf] at i1
                          rw [← eyf] at i2
                          have eg : fi115 nn.toNat * X126 nn.toNat = mNum 2 (ex k c s) (ex l d t) ddi u := by rw [exf, eyf]; rfl
                          refine r_iload dX11_makeProduct_147 rfl ?_
                          refine r_if_eq 200 dX11_makeProduct_149 (by decide) ⟨by omega, by omega⟩ (fun c_149 => ?_) (fun c_149 => ?_)
                          · refine r_iconst (z := 0) dX11_makeProduct_200 ?_
                            refine r_istore (L2 := [_, _, _, _, _, _]) dX11_makeProduct_201 (nlt rfl) rfl ?_
                            refine r_iinc (L2 := [_, _, _, _, _, _]) dX11_makeProduct_203 (nlt rfl) rfl rfl ?_
                            refine r_goto 141 dX11_makeProduct_206 (by decide) ?_
                            exact ih141 (ms1) (0) (nn + 1) ((u + 1)) (by omega) (by omega) (by omega) (hS.old c_149 (fun _ _ => rfl))
                          · refine r_aload_n dX11_makeProduct_152 rfl rfl ?_
                            refine gf_X11_66 dX11_makeProduct_153 (by omega) ((hs_n (by omega)).trans ((hs_n (by omega)).trans ((hs_n (by omega)).trans hs_e))) rfl ?_
                            refine r_iload dX11_makeProduct_156 rfl ?_
                            refine r_laload dX11_makeProduct_158 (by omega) ((hs_n (by omega)).trans hs_e) (by omega) (by omega) (by decide) ?_
                            refine r_aload_n dX11_makeProduct_159 rfl rfl ?_
                            refine gf_X11_30 dX11_makeProduct_160 (by omega) ((hs_n (by omega)).trans ((hs_n (by omega)).trans ((hs_n (by omega)).trans hs_e))) rfl ?_
                            refine r_iload dX11_makeProduct_163 rfl ?_
                            refine r_laload dX11_makeProduct_165 (by omega) ((hs_n (by omega)).trans ((hs_n (by omega)).trans hs_e)) (by omega) (by omega) (by decide) ?_
                            refine r_callS (av := [.long (lZ (fi115 (nn).toNat)), .long (lZ (X126 (nn).toNat))]) dX11_makeProduct_166 lkX11_isGreat ml_X11_251 stX11_isGreat ⟨Nat.le_of_ble_eq_true rfl, Nat.le_of_ble_eq_true rfl⟩ rfl rfl (nle rfl) ⟨Nat.le_of_ble_eq_true rfl, Nat.le_of_ble_eq_true rfl⟩ (c_X11_isGreat (x := fi115 (nn).toNat) (y := X126 (nn).toNat) i1 i2 (fun b166 hb166 => ?_))
                            show G _ _ _ _ _ _ _ 169 _ _ _
                            refine r_if_ne 200 dX11_makeProduct_169 (by decide) ⟨by omega, by omega⟩ (fun c_169 => ?_) (fun c_169 => ?_)
                            · refine r_iconst (z := 0) dX11_makeProduct_200 ?_
                              refine r_istore (L2 := [_, _, _, _, _, _]) dX11_makeProduct_201 (nlt rfl) rfl ?_
                              refine r_iinc (L2 := [_, _, _, _, _, _]) dX11_makeProduct_203 (nlt rfl) rfl rfl ?_
                              refine r_goto 141 dX11_makeProduct_206 (by decide) ?_
                              exact ih141 (ms1) (0) (nn + 1) ((u + 1)) (by omega) (by omega) (by omega) (hS.no (fun w => by rcases hb166 with ⟨_, y⟩ | ⟨y, _⟩; exact y (by have e := eg; rw [e]; exact sB_gt w); exact c_169 y) (fun _ _ => rfl))
                            · have gr9 : -1000000000000000000 ≤ fi115 nn.toNat * X126 nn.toNat ∧ fi115 nn.toNat * X126 nn.toNat ≤ 1000000000000000000 := by
                                rcases hb166 with ⟨y, _⟩ | ⟨_, y⟩
                                · exfalso; omega
                                · exact y
                              refine r_aload_n dX11_makeProduct_172 rfl rfl ?_
                              refine r_iload dX11_makeProduct_173 rfl ?_
                              refine r_aload_n dX11_makeProduct_175 rfl rfl ?_
                              refine gf_X11_66 dX11_makeProduct_176 (by omega) ((hs_n (by omega)).trans ((hs_n (by omega)).trans ((hs_n (by omega)).trans hs_e))) rfl ?_
                              refine r_iload dX11_makeProduct_179 rfl ?_
                              refine r_laload dX11_makeProduct_181 (by omega) ((hs_n (by omega)).trans hs_e) (by omega) (by omega) (by decide) ?_
                              refine r_aload_n dX11_makeProduct_182 rfl rfl ?_
                              refine gf_X11_30 dX11_makeProduct_183 (by omega) ((hs_n (by omega)).trans ((hs_n (by omega)).trans ((hs_n (by omega)).trans hs_e))) rfl ?_
                              refine r_iload dX11_makeProduct_186 rfl ?_
                              refine r_laload dX11_makeProduct_188 (by omega) ((hs_n (by omega)).trans ((hs_n (by omega)).trans hs_e)) (by omega) (by omega) (by decide) ?_
                              refine r_lmul dX11_makeProduct_189 ?_
                              refine r_callV (av := [.int (iZ (nn)), .long (lZ ((fi115 (nn).toNat) * (X126 (nn).toNat)))]) dX11_makeProduct_190 lkX11_start ml_X11_240 imX11_start seX11_start (by omega) (rfl : vwCl[11]? = _) ⟨_, ((hs_n (by omega)).trans ((hs_n (by omega)).trans ((hs_n (by omega)).trans hs_e)))⟩ ⟨Nat.le_of_ble_eq_true rfl, Nat.le_of_ble_eq_true rfl⟩ rfl rfl (nle rfl) ⟨Nat.le_of_ble_eq_true rfl, Nat.le_of_ble_eq_true rfl⟩ (c_X11_start (n := u) (v := (fi115 (nn).toNat) * (X126 (nn).toNat)) (ms := ms1) (ln := ln) (pr := pr) (nm := nm) (at_ := at_) (wr := wr) (va := va) (em := (t126 : Int)) (ta := ta) (ro := ro) (dg := dg) ((hs_n (by omega)).trans ((hs_n (by omega)).trans ((hs_n (by omega)).trans hs_e))) hN hs_e (by omega) (by omega) ⟨by omega, by omega⟩ (fun b190 hb190 => ?_))
                              refine g_heap (h2 := (hs (hs (hs (hs (hs (hs (hs (hs (hs h (139) (aL 37 (f27))) (140) (aL 37 (f40))) (141) (aL 7 (x1))) (125) (aI 7 (om106))) (126) (aL 42 (ml106))) (124) (MOo (ln) (pr) (nm) (at_) (wr) (va) ((t126 : Int)) (ta) (ro) (dg))) (130) (aL 2001 (X126))) (142) (aL 100 (fi115))) (127) (aL 42 (uA ms1 (36 + u) ((fi115 (nn).toNat) * (X126 (nn).toNat)))))) hs_hs ?_
                              show G _ _ _ _ _ _ _ 193 _ _ _
                              refine r_if_eq 200 dX11_makeProduct_193 (by decide) ⟨by omega, by omega⟩ (fun c_193 => ?_) (fun c_193 => ?_)
                              · refine r_iconst (z := 0) dX11_makeProduct_200 ?_
                                refine r_istore (L2 := [_, _, _, _, _, _]) dX11_makeProduct_201 (nlt rfl) rfl ?_
                                refine r_iinc (L2 := [_, _, _, _, _, _]) dX11_makeProduct_203 (nlt rfl) rfl rfl ?_
                                refine r_goto 141 dX11_makeProduct_206 (by decide) ?_
                                exact ih141 (uA ms1 (36 + u) ((fi115 (nn).toNat) * (X126 (nn).toNat))) (0) (nn + 1) ((u + 1)) (by omega) (by omega) (by omega) (hS.no (fun w => by rcases hb190 with ⟨y, _⟩ | ⟨_, y⟩; omega; exact y (by have e := eg; rw [e]; exact w)) (fun t9 h9 => uA_n (by omega)))
                              · refine r_iconst (z := 1) dX11_makeProduct_196 ?_
                                refine r_goto 201 dX11_makeProduct_197 (by decide) ?_
                                refine r_istore (L2 := [_, _, _, _, _, _]) dX11_makeProduct_201 (nlt rfl) rfl ?_
                                refine r_iinc (L2 := [_, _, _, _, _, _]) dX11_makeProduct_203 (nlt rfl) rfl rfl ?_
                                refine r_goto 141 dX11_makeProduct_206 (by decide) ?_
                                exact ih141 (uA ms1 (36 + u) ((fi115 (nn).toNat) * (X126 (nn).toNat))) (1) (nn + 1) ((u + 1)) (by omega) (by omega) (by omega) (hS.yes c_149 eg (by rcases hb190 with ⟨_, y⟩ | ⟨y, _⟩; exact y; omega))
                    refine g_heap (hs_id (c := aL 42 (ms)) ((hs_n (by omega)).trans ((hs_n (by omega)).trans ((hs_n (by omega)).trans ((hs_n (by omega)).trans ((hs_n (by omega)).trans ((hs_n (by omega)).trans ((hs_n (by omega)).trans ((hs_n (by omega)).trans hms))))))))).symm ?_
                    exact lp141 ((8 : Int) + 1).toNat (ms) (1) (0) (0) (by omega) rfl (Nat.zero_le _) (STL.nil _ _)
                  · refine r_iconst (z := 0) dX11_makeProduct_133 ?_
                    refine r_zreturn hq dX11_makeProduct_134 rfl (by decide) rfl rfl ?_
                    refine hQ _ _ ⟨fun a9 h9 => ((hs_n (by omega)).trans ((hs_n (by omega)).trans ((hs_n (by omega)).trans ((hs_n (by omega)).trans ((hs_n (by omega)).trans ((hs_n (by omega)).trans ((hs_n (by omega)).trans ((hs_n (by omega)).trans rfl)))))))), _, _, _, _, _, _, _, _, _, _, ((hs_n (by omega)).trans ((hs_n (by omega)).trans hs_e)), ((hs_n (by omega)).trans ((hs_n (by omega)).trans ((hs_n (by omega)).trans ((hs_n (by omega)).trans hs_e)))), ((hs_n (by omega)).trans ((hs_n (by omega)).trans ((hs_n (by omega)).trans hs_e))), ((hs_n (by omega)).trans ((hs_n (by omega)).trans ((hs_n (by omega)).trans ((hs_n (by omega)).trans ((hs_n (by omega)).trans ((hs_n (by omega)).trans ((hs_n (by omega)).trans ((hs_n (by omega)).trans hms)))))))), ((hs_n (by omega)).trans hs_e), ((hs_n (by omega)).trans ((hs_n (by omega)).trans ((hs_n (by omega)).trans ((hs_n (by omega)).trans ((hs_n (by omega)).trans ((hs_n (by omega)).trans ((hs_n (by omega)).trans ((hs_n (by omega)).trans h138)))))))), ((hs_n (by omega)).trans ((hs_n (by omega)).trans ((hs_n (by omega)).trans ((hs_n (by omega)).trans ((hs_n (by omega)).trans ((hs_n (by omega)).trans ((hs_n (by omega)).trans hs_e))))))), ((hs_n (by omega)).trans ((hs_n (by omega)).trans ((hs_n (by omega)).trans ((hs_n (by omega)).trans ((hs_n (by omega)).trans ((hs_n (by omega)).trans hs_e)))))), ((hs_n (by omega)).trans ((hs_n (by omega)).trans ((hs_n (by omega)).trans ((hs_n (by omega)).trans ((hs_n (by omega)).trans hs_e))))), hs_e, hM.1, hM.2.1, (fun _ _ => rfl), ?_⟩
                    refine Or.inl ⟨rfl, fun w9 => ?_⟩
                    exact hT126.2.2 (by omega) (w9.2.2.1 (by omega) t126 (by omega))
            · have ein : i.toNat = j := by omega
              have hxj : f27 i.toNat = pw c k j := by rw [ein]; exact hf27.2 j j0 (by omega)
              have xb := hf27.1 j j0 (by omega)
              rw [← hxj] at xb
              have hyj : f40 i.toNat = pw d l j := by rw [ein]; exact hf40.2 j j0 (by omega)
              have yb := hf40.1 j j0 (by omega)
              rw [← hyj] at yb
              have m66 := mulb (A := 1000000000) (B := 1000000000) (a := f27 i.toNat) (b := f40 i.toNat) (C := 1000000000000000000) (by omega) (by omega) (by omega) (by omega) (by decide)
              have hpx : f27 i.toNat * f40 i.toNat = pw c k j * pw d l j := by rw [hxj, hyj]
              refine r_aload_n dX11_makeProduct_57 rfl rfl ?_
              refine gf_X11_63 dX11_makeProduct_58 (by omega) ((hs_n (by omega)).trans ((hs_n (by omega)).trans ((hs_n (by omega)).trans hm0))) rfl ?_
              refine r_iload dX11_makeProduct_61 rfl ?_
              refine r_aload_n dX11_makeProduct_63 rfl rfl ?_
              refine gf_X11_57 dX11_makeProduct_64 (by omega) ((hs_n (by omega)).trans ((hs_n (by omega)).trans ((hs_n (by omega)).trans hm0))) rfl ?_
              refine r_iload dX11_makeProduct_67 rfl ?_
              refine r_laload dX11_makeProduct_69 (by omega) ((hs_n (by omega)).trans ((hs_n (by omega)).trans hs_e)) (by omega) (by omega) (by decide) ?_
              refine r_aload_n dX11_makeProduct_70 rfl rfl ?_
              refine gf_X11_60 dX11_makeProduct_71 (by omega) ((hs_n (by omega)).trans ((hs_n (by omega)).trans ((hs_n (by omega)).trans hm0))) rfl ?_
              refine r_iload dX11_makeProduct_74 rfl ?_
              refine r_laload dX11_makeProduct_76 (by omega) ((hs_n (by omega)).trans hs_e) (by omega) (by omega) (by decide) ?_
              refine r_lmul dX11_makeProduct_77 ?_
              refine r_lastore dX11_makeProduct_78 (by omega) hs_e (by omega) (by omega) (by decide) ?_
              refine g_heap (h2 := (hs (hs (hs h (139) (aL 37 (f27))) (140) (aL 37 (f40))) (141) (aL 7 (uA (x1) (i).toNat ((f27 (i).toNat) * (f40 (i).toNat)))))) hs_hs ?_
              refine r_aload_n dX11_makeProduct_79 rfl rfl ?_
              refine gf_X11_63 dX11_makeProduct_80 (by omega) ((hs_n (by omega)).trans ((hs_n (by omega)).trans ((hs_n (by omega)).trans hm0))) rfl ?_
              refine r_iload dX11_makeProduct_83 rfl ?_
              refine r_laload dX11_makeProduct_85 (by omega) hs_e (by omega) (by omega) (by decide) ?_
              refine r_callS (av := [.long (lZ ((uA (x1) (i).toNat ((f27 (i).toNat) * (f40 (i).toNat))) (i).toNat))]) dX11_makeProduct_86 lkX11_size ml_X11_84 stX11_size ⟨Nat.le_of_ble_eq_true rfl, Nat.le_of_ble_eq_true rfl⟩ rfl rfl (nle rfl) ⟨Nat.le_of_ble_eq_true rfl, Nat.le_of_ble_eq_true rfl⟩ (c_X11_size (x := (uA (x1) (i).toNat ((f27 (i).toNat) * (f40 (i).toNat))) (i).toNat) (by rw [uA_e]; omega) ?_)
              show G _ _ _ _ _ _ _ 89 _ _ _
              refine r_ldc2 (z := 1000000000) dX11_makeProduct_89 kc_X11_140 ?_
              refine r_lcmp_le 98 dX11_makeProduct_92 dX11_makeProduct_93 (by decide) (by rw [uA_e]; exact ⟨by omega, by omega⟩) ⟨by decide, by decide⟩ (fun c_92 => ?_) (fun c_92 => ?_)
              · refine r_iinc (L2 := [_, _, _, _, _, none]) dX11_makeProduct_98 (nlt rfl) rfl rfl ?_
                refine r_goto 51 dX11_makeProduct_101 (by decide) ?_
                exact ih51 (uA (x1) (i).toNat ((f27 (i).toNat) * (f40 (i).toNat))) (i + 1) ((j + 1)) (by omega) (by omega) (by omega) (by omega) (fun t a b => by rw [ein]; by_cases z : t = j; (rw [z, uA_e, ← hpx, ein]); rw [uA_n z]; exact hx t a (by omega)) (fun t a b => by by_cases z : t = j; (rw [z, ← hpx]; rw [uA_e] at c_92; omega); exact hB t a (by omega))
              · refine r_iconst (z := 0) dX11_makeProduct_96 ?_
                refine r_zreturn hq dX11_makeProduct_97 rfl (by decide) rfl rfl ?_
                refine hQ _ _ ⟨fun a9 h9 => ((hs_n (by omega)).trans ((hs_n (by omega)).trans ((hs_n (by omega)).trans rfl))), _, _, _, _, _, _, _, _, _, _, ((hs_n (by omega)).trans ((hs_n (by omega)).trans ((hs_n (by omega)).trans hm0))), ((hs_n (by omega)).trans ((hs_n (by omega)).trans ((hs_n (by omega)).trans hom))), ((hs_n (by omega)).trans ((hs_n (by omega)).trans ((hs_n (by omega)).trans hml))), ((hs_n (by omega)).trans ((hs_n (by omega)).trans ((hs_n (by omega)).trans hms))), ((hs_n (by omega)).trans ((hs_n (by omega)).trans ((hs_n (by omega)).trans hex))), ((hs_n (by omega)).trans ((hs_n (by omega)).trans ((hs_n (by omega)).trans h138))), ((hs_n (by omega)).trans ((hs_n (by omega)).trans hs_e)), ((hs_n (by omega)).trans hs_e), hs_e, ((hs_n (by omega)).trans ((hs_n (by omega)).trans ((hs_n (by omega)).trans h142))), (fun _ _ => rfl), (fun _ _ => rfl), (fun _ _ => rfl), ?_⟩
                refine Or.inl ⟨rfl, fun w9 => ?_⟩
                have h9 : -1000000000 ≤ pw c k j * pw d l j ∧ pw c k j * pw d l j ≤ 1000000000 := w9.1.2.2.2.1 j j0 (by omega)
                rw [uA_e, hpx] at c_92
                omega
        refine g_heap (hs_id (c := aL 7 (x141)) ((hs_n (by omega)).trans ((hs_n (by omega)).trans h141))).symm ?_
        exact lp51 ((8 : Int) + 1).toNat (x141) (1) (1) (by omega) rfl (Nat.le_refl _) (by omega) (fun t a b => by omega) (fun t a b => by omega)
      · refine r_iconst (z := 0) dX11_makeProduct_46 ?_
        refine r_zreturn hq dX11_makeProduct_47 rfl (by decide) rfl rfl ?_
        refine hQ _ _ ⟨fun a9 h9 => ((hs_n (by omega)).trans ((hs_n (by omega)).trans rfl)), _, _, _, _, _, _, _, _, _, _, ((hs_n (by omega)).trans ((hs_n (by omega)).trans hm0)), ((hs_n (by omega)).trans ((hs_n (by omega)).trans hom)), ((hs_n (by omega)).trans ((hs_n (by omega)).trans hml)), ((hs_n (by omega)).trans ((hs_n (by omega)).trans hms)), ((hs_n (by omega)).trans ((hs_n (by omega)).trans hex)), ((hs_n (by omega)).trans ((hs_n (by omega)).trans h138)), ((hs_n (by omega)).trans hs_e), hs_e, ((hs_n (by omega)).trans ((hs_n (by omega)).trans h141)), ((hs_n (by omega)).trans ((hs_n (by omega)).trans h142)), (fun _ _ => rfl), (fun _ _ => rfl), (fun _ _ => rfl), ?_⟩
        refine Or.inl ⟨rfl, fun w9 => ?_⟩
        rcases hb40 with ⟨y, _⟩ | ⟨_, y⟩
        · omega
        · exact y (by rw [hK]; exact w9.1.2.2.1)
