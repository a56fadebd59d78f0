set_option maxHeartbeats 8000000 in
set_option maxRecDepth 20000 in
theorem c_X11_layRound {N : Nat} {h : Hp} {Q : QP} {ln pr nm at_ wr va em ta ro dg : Int} {om ml ms : Nat → Int} {c s fs ff : Nat → Int} {r k : Nat} {ri m : Int} (hm0 : h 124 = MOo ln pr nm at_ wr va em ta ro dg) (hN : 146 ≤ N) (hom : h 125 = aI 7 om) (hml : h 126 = aL 42 ml) (hms : h 127 = aL 42 ms) (hg : RG om ml ms r k c s) (hri : ri = (r : Int)) (hr6 : r < 7) (hfs : h 134 = aL 6 fs) (hff : h 135 = aL 6 ff) (hm2 : 2 ≤ m) (hm : m ≤ 1000000) (hQ : ∀ (ok ta2 ro2 : Int) (f2 g2 : Nat → Int), (ok = 0 ∨ ok = 1) → RdR k (rs k c s m) ok ta2 ro2 → Q (some (.int (iZ ok))) N (hs (hs (hs h 134 (aL 6 f2)) 135 (aL 6 g2)) 124 (MOo ln pr nm at_ wr va em ta2 ro2 dg))) : Runs mX11_layRound [.ref (124), .int (iZ (ri)), .int (iZ (m))] N h Q := by
  obtain ⟨hg1, hg2, hg3, hg4, hg5⟩ := id hg
  have ern : ri.toNat = r := by omega
  have eom : om ri.toNat = (k : Int) := by rw [ern]; exact hg1
  have hrl : ∀ n, rL (rs k c s m n) := fun n => by have := rs_in (k := k) (c := c) (s := s) (m := m) (by omega) n; exact ⟨by omega, by omega⟩
  refine run_start (own := RX11) rfl (by decide) (nle rfl) rfl (fun X hq hini => ?_)
  show G X RX11 cX11_layRound mX11_layRound.rm N 0 0 0 [some (.ref (124)), some (.int (iZ (ri))), some (.int (iZ (m))), none, none] [] h
  refine r_aload_n dX11_layRound_0 rfl rfl ?_
  refine r_aload_n dX11_layRound_1 rfl rfl ?_
  refine gf_X11_42 dX11_layRound_2 (by omega) hm0 rfl ?_
  refine r_iload_n dX11_layRound_5 rfl rfl ?_
  refine r_iload_n dX11_layRound_6 rfl rfl ?_
  refine r_callV (av := [.ref (134), .int (iZ (ri)), .int (iZ (m))]) dX11_layRound_7 lkX11_begin ml_X11_168 imX11_begin seX11_begin (by omega) (rfl : vwCl[11]? = _) ⟨_, hm0⟩ ⟨Nat.le_of_ble_eq_true rfl, Nat.le_of_ble_eq_true rfl⟩ rfl rfl (nle rfl) ⟨Nat.le_of_ble_eq_true rfl, Nat.le_of_ble_eq_true rfl⟩ (c_X11_begin (r := r) (k := k) (c := c) (s := s) (u := 134) (om := om) (ml := ml) (ms := ms) (f := fs) (m := m) (ln := ln) (pr := pr) (nm := nm) (at_ := at_) (wr := wr) (va := va) (em := em) (ta := ta) (ro := ro) (dg := dg) hm0 hN hom hml hms hg (by omega) (by omega) (by omega) hfs (by omega) (by omega) (fun f7 hf7 => ?_))
  show G _ _ _ _ _ _ _ 10 _ _ _
  refine r_aload_n dX11_layRound_10 rfl rfl ?_
  refine r_aload_n dX11_layRound_11 rfl rfl ?_
  refine gf_X11_45 dX11_layRound_12 (by omega) ((hs_n (by omega)).trans hm0) rfl ?_
  refine r_iload_n dX11_layRound_15 rfl rfl ?_
  refine r_iload_n dX11_layRound_16 rfl rfl ?_
  refine r_callV (av := [.ref (135), .int (iZ (ri)), .int (iZ (m))]) dX11_layRound_17 lkX11_begin ml_X11_168 imX11_begin seX11_begin (by omega) (rfl : vwCl[11]? = _) ⟨_, ((hs_n (by omega)).trans hm0)⟩ ⟨Nat.le_of_ble_eq_true rfl, Nat.le_of_ble_eq_true rfl⟩ rfl rfl (nle rfl) ⟨Nat.le_of_ble_eq_true rfl, Nat.le_of_ble_eq_true rfl⟩ (c_X11_begin (r := r) (k := k) (c := c) (s := s) (u := 135) (om := om) (ml := ml) (ms := ms) (f := ff) (m := m) (ln := ln) (pr := pr) (nm := nm) (at_ := at_) (wr := wr) (va := va) (em := em) (ta := ta) (ro := ro) (dg := dg) ((hs_n (by omega)).trans hm0) hN ((hs_n (by omega)).trans hom) ((hs_n (by omega)).trans hml) ((hs_n (by omega)).trans hms) hg (by omega) (by omega) (by omega) ((hs_n (by omega)).trans hff) (by omega) (by omega) (fun f17 hf17 => ?_))
  show G _ _ _ _ _ _ _ 20 _ _ _
  refine r_aload_n dX11_layRound_20 rfl rfl ?_
  refine r_aload_n dX11_layRound_21 rfl rfl ?_
  refine gf_X11_45 dX11_layRound_22 (by omega) ((hs_n (by omega)).trans ((hs_n (by omega)).trans hm0)) rfl ?_
  refine r_iload_n dX11_layRound_25 rfl rfl ?_
  refine r_iload_n dX11_layRound_26 rfl rfl ?_
  refine r_callV (av := [.ref (135), .int (iZ (ri)), .int (iZ (m))]) dX11_layRound_27 lkX11_go ml_X11_172 imX11_go seX11_go (by omega) (rfl : vwCl[11]? = _) ⟨_, ((hs_n (by omega)).trans ((hs_n (by omega)).trans hm0))⟩ ⟨Nat.le_of_ble_eq_true rfl, Nat.le_of_ble_eq_true rfl⟩ rfl rfl (nle rfl) ⟨Nat.le_of_ble_eq_true rfl, Nat.le_of_ble_eq_true rfl⟩ (c_X11_go (r := r) (k := k) (c := c) (s := s) (u := 135) (om := om) (ml := ml) (ms := ms) (f := f17) (m := m) (n := 0) (ln := ln) (pr := pr) (nm := nm) (at_ := at_) (wr := wr) (va := va) (em := em) (ta := ta) (ro := ro) (dg := dg) ((hs_n (by omega)).trans ((hs_n (by omega)).trans hm0)) hN ((hs_n (by omega)).trans ((hs_n (by omega)).trans hom)) ((hs_n (by omega)).trans ((hs_n (by omega)).trans hml)) ((hs_n (by omega)).trans ((hs_n (by omega)).trans hms)) hg (by omega) (by omega) (by omega) hs_e (by omega) (by omega) (fun i9 h9 => by rw [hf17 i9 h9, Nat.zero_add]) (fun f27 hf27 => ?_))
  refine g_heap (h2 := (hs (hs h (134) (aL 6 (f7))) (135) (aL 6 (f27)))) hs_hs ?_
  show G _ _ _ _ _ _ _ 30 _ _ _
  refine r_iconst (z := 1) dX11_layRound_30 ?_
  refine r_istore_n (L2 := [_, _, _, _, none]) dX11_layRound_31 rfl (nlt rfl) rfl ?_
  refine r_aload_n dX11_layRound_32 rfl rfl ?_
  refine r_iconst (z := 1) dX11_layRound_33 ?_
  refine pf_X11_175 (fs2 := [_, _, _, _, _, _, _, _, _, _, _, _, _, _, _, _, _, _, _, _, _, _, _, _, _, _, _, _, _, _, _]) dX11_layRound_34 (fun _ _ => rfl) (fun _ _ => rfl) (nlt rfl) (by omega) ((hs_n (by omega)).trans ((hs_n (by omega)).trans hm0)) rfl ?_
  have lp37 : ∀ (fu37 : Nat) (sl : Nat → Int) (fa : Nat → Int) (ro1 : Int) (reach : Int) (P : Nat) (t : Nat), (2000000 - ((P : Int) + (t : Int))) < (fu37 : Int) → (reach = (P : Int) + 1) → (ro1 = (t : Int)) → (1 ≤ t) → (t ≤ P + 1) → (P ≤ 400001) → (∀ i, i < k → sl i = rs k c s m (P + i)) → (∀ i, i < k → fa i = rs k c s m (P + t + i)) → (∀ l2, 0 < l2 → l2 < t → ¬ eqS k (rs k c s m) (P) (P + l2)) → G X RX11 cX11_layRound mX11_layRound.rm N 0 0 37 [some (.ref (124)), some (.int (iZ (ri))), some (.int (iZ (m))), some (.int (iZ (reach))), none] [] (hs (hs (hs h (134) (aL 6 (sl))) (135) (aL 6 (fa))) (124) (MOo (ln) (pr) (nm) (at_) (wr) (va) (em) (ta) (ro1) (dg))) := by
    intro fu37
    induction fu37 with
    | zero => intro sl fa ro1 reach P t hm er ero t1 tP P4 hsl hfa hno; exfalso; omega
    | succ fu37 ih37 =>
      intro sl fa ro1 reach P t hms37 er ero t1 tP P4 hsl hfa hno
      refine r_aload_n dX11_layRound_37 rfl rfl ?_
      refine r_aload_n dX11_layRound_38 rfl rfl ?_
      refine gf_X11_7 dX11_layRound_39 (by omega) hs_e rfl ?_
      refine r_iload_n dX11_layRound_42 rfl rfl ?_
      refine r_iaload dX11_layRound_43 (by omega) ((hs_n (by omega)).trans ((hs_n (by omega)).trans ((hs_n (by omega)).trans hom))) (by omega) (by omega) (by decide) ?_
      refine r_callV (av := [.int (iZ (om (ri).toNat))]) dX11_layRound_44 lkX11_areAlike ml_X11_178 imX11_areAlike seX11_areAlike (by omega) (rfl : vwCl[11]? = _) ⟨_, hs_e⟩ ⟨Nat.le_of_ble_eq_true rfl, Nat.le_of_ble_eq_true rfl⟩ rfl rfl (nle rfl) ⟨Nat.le_of_ble_eq_true rfl, Nat.le_of_ble_eq_true rfl⟩ (c_X11_areAlike (f := sl) (g := fa) (k := k) (ki := om (ri).toNat) (ln := ln) (pr := pr) (nm := nm) (at_ := at_) (wr := wr) (va := va) (em := em) (ta := ta) (ro := ro1) (dg := dg) hs_e hN ((hs_n (by omega)).trans ((hs_n (by omega)).trans hs_e)) ((hs_n (by omega)).trans hs_e) (by omega) (by omega) (fun i9 h9 => by rw [hsl i9 h9]; exact hrl _) (fun i9 h9 => by rw [hfa i9 h9]; exact hrl _) (fun b44 hb44 => ?_))
      show G _ _ _ _ _ _ _ 47 _ _ _
      refine r_if_ne 128 dX11_layRound_47 (by decide) (by rcases hb44 with ⟨y, _⟩ | ⟨y, _⟩ <;> exact ⟨by omega, by omega⟩) (fun c_47 => ?_) (fun c_47 => ?_)
      · have hal : eqS k (rs k c s m) (P) (P + t) := fun i9 h9 => by
          rcases hb44 with ⟨_, y⟩ | ⟨y, _⟩
          · rw [← hsl i9 h9, ← hfa i9 h9]; exact y i9 h9
          · exact absurd y c_47
        refine r_aload_n dX11_layRound_128 rfl rfl ?_
        refine r_aload_n dX11_layRound_129 rfl rfl ?_
        refine gf_X11_42 dX11_layRound_130 (by omega) hs_e rfl ?_
        refine r_iload_n dX11_layRound_133 rfl rfl ?_
        refine r_iload_n dX11_layRound_134 rfl rfl ?_
        refine r_callV (av := [.ref (134), .int (iZ (ri)), .int (iZ (m))]) dX11_layRound_135 lkX11_begin ml_X11_168 imX11_begin seX11_begin (by omega) (rfl : vwCl[11]? = _) ⟨_, hs_e⟩ ⟨Nat.le_of_ble_eq_true rfl, Nat.le_of_ble_eq_true rfl⟩ rfl rfl (nle rfl) ⟨Nat.le_of_ble_eq_true rfl, Nat.le_of_ble_eq_true rfl⟩ (c_X11_begin (r := r) (k := k) (c := c) (s := s) (u := 134) (om := om) (ml := ml) (ms := ms) (f := sl) (m := m) (ln := ln) (pr := pr) (nm := nm) (at_ := at_) (wr := wr) (va := va) (em := em) (ta := ta) (ro := ro1) (dg := dg) hs_e hN ((hs_n (by omega)).trans ((hs_n (by omega)).trans ((hs_n (by omega)).trans hom))) ((hs_n (by omega)).trans ((hs_n (by omega)).trans ((hs_n (by omega)).trans hml))) ((hs_n (by omega)).trans ((hs_n (by omega)).trans ((hs_n (by omega)).trans hms))) hg (by omega) (by omega) (by omega) ((hs_n (by omega)).trans ((hs_n (by omega)).trans hs_e)) (by omega) (by omega) (fun f135 hf135 => ?_))
        refine g_heap (h2 := (hs (hs (hs h (134) (aL 6 (f135))) (135) (aL 6 (fa))) (124) (MOo (ln) (pr) (nm) (at_) (wr) (va) (em) (ta) (ro1) (dg)))) (hs_put (by omega) (hs_put (by omega) hs_hs)) ?_
        show G _ _ _ _ _ _ _ 138 _ _ _
        refine r_aload_n dX11_layRound_138 rfl rfl ?_
        refine r_aload_n dX11_layRound_139 rfl rfl ?_
        refine gf_X11_45 dX11_layRound_140 (by omega) hs_e rfl ?_
        refine r_iload_n dX11_layRound_143 rfl rfl ?_
        refine r_iload_n dX11_layRound_144 rfl rfl ?_
        refine r_callV (av := [.ref (135), .int (iZ (ri)), .int (iZ (m))]) dX11_layRound_145 lkX11_begin ml_X11_168 imX11_begin seX11_begin (by omega) (rfl : vwCl[11]? = _) ⟨_, hs_e⟩ ⟨Nat.le_of_ble_eq_true rfl, Nat.le_of_ble_eq_true rfl⟩ rfl rfl (nle rfl) ⟨Nat.le_of_ble_eq_true rfl, Nat.le_of_ble_eq_true rfl⟩ (c_X11_begin (r := r) (k := k) (c := c) (s := s) (u := 135) (om := om) (ml := ml) (ms := ms) (f := fa) (m := m) (ln := ln) (pr := pr) (nm := nm) (at_ := at_) (wr := wr) (va := va) (em := em) (ta := ta) (ro := ro1) (dg := dg) hs_e hN ((hs_n (by omega)).trans ((hs_n (by omega)).trans ((hs_n (by omega)).trans hom))) ((hs_n (by omega)).trans ((hs_n (by omega)).trans ((hs_n (by omega)).trans hml))) ((hs_n (by omega)).trans ((hs_n (by omega)).trans ((hs_n (by omega)).trans hms))) hg (by omega) (by omega) (by omega) ((hs_n (by omega)).trans hs_e) (by omega) (by omega) (fun f145 hf145 => ?_))
        refine g_heap (h2 := (hs (hs (hs h (134) (aL 6 (f135))) (135) (aL 6 (f145))) (124) (MOo (ln) (pr) (nm) (at_) (wr) (va) (em) (ta) (ro1) (dg)))) (hs_put (by omega) hs_hs) ?_
        show G _ _ _ _ _ _ _ 148 _ _ _
        refine r_iconst (z := 0) dX11_layRound_148 ?_
        refine r_istore (L2 := [_, _, _, _, _]) dX11_layRound_149 (nlt rfl) rfl ?_
        have lp151 : ∀ (fu151 : Nat) (fa3 : Nat → Int) (i3 : Int) (j3 : Nat), (1000000 - i3) < (fu151 : Int) → (i3 = (j3 : Int)) → (j3 ≤ t) → (∀ i, i < k → fa3 i = rs k c s m (j3 + i)) → G X RX11 cX11_layRound mX11_layRound.rm N 0 0 151 [some (.ref (124)), some (.int (iZ (ri))), some (.int (iZ (m))), none, some (.int (iZ (i3)))] [] (hs (hs (hs h (134) (aL 6 (f135))) (135) (aL 6 (fa3))) (124) (MOo (ln) (pr) (nm) (at_) (wr) (va) (em) (ta) (ro1) (dg))) := by
          intro fu151
          induction fu151 with
          | zero => intro fa3 i3 j3 hm ei3 j3t hfa3; exfalso; omega
          | succ fu151 ih151 =>
            intro fa3 i3 j3 hms151 ei3 j3t hfa3
            refine r_iload dX11_layRound_151 rfl ?_
            refine r_aload_n dX11_layRound_153 rfl rfl ?_
            refine gf_X11_175 dX11_layRound_154 (by omega) hs_e rfl ?_
            refine r_icmp_ge 176 dX11_layRound_157 (by decide) ⟨by omega, by omega⟩ ⟨by omega, by omega⟩ (fun c_157 => ?_) (fun c_157 => ?_)
            · have j3e : j3 = t := by omega
              refine r_aload_n dX11_layRound_176 rfl rfl ?_
              refine r_iconst (z := 0) dX11_layRound_177 ?_
              refine pf_X11_182 (fs2 := [_, _, _, _, _, _, _, _, _, _, _, _, _, _, _, _, _, _, _, _, _, _, _, _, _, _, _, _, _, _, _]) dX11_layRound_178 (fun _ _ => rfl) (fun _ _ => rfl) (nlt rfl) (by omega) hs_e rfl ?_
              refine g_heap (h2 := (hs (hs (hs h (134) (aL 6 (f135))) (135) (aL 6 (fa3))) (124) (MOo (ln) (pr) (nm) (at_) (wr) (va) (em) (0) (ro1) (dg)))) hs_hs ?_
              have lp181 : ∀ (fu181 : Nat) (sl4 : Nat → Int) (fa4 : Nat → Int) (ta1 : Int) (tl : Nat), ((P : Int) + 1 - ta1) < (fu181 : Int) → (ta1 = (tl : Int)) → (tl ≤ P) → (∀ i, i < k → sl4 i = rs k c s m (tl + i)) → (∀ i, i < k → fa4 i = rs k c s m (tl + t + i)) → (∀ t2, t2 < tl → ¬ eqS k (rs k c s m) (t2) (t2 + t)) → G X RX11 cX11_layRound mX11_layRound.rm N 0 0 181 [some (.ref (124)), some (.int (iZ (ri))), some (.int (iZ (m))), none, none] [] (hs (hs (hs h (134) (aL 6 (sl4))) (135) (aL 6 (fa4))) (124) (MOo (ln) (pr) (nm) (at_) (wr) (va) (em) (ta1) (ro1) (dg))) := by
                intro fu181
                induction fu181 with
                | zero => intro sl4 fa4 ta1 tl hm eta tlP hsl4 hfa4 hnt; exfalso; omega
                | succ fu181 ih181 =>
                  intro sl4 fa4 ta1 tl hms181 eta tlP hsl4 hfa4 hnt
                  refine r_aload_n dX11_layRound_181 rfl rfl ?_
                  refine r_aload_n dX11_layRound_182 rfl rfl ?_
                  refine gf_X11_7 dX11_layRound_183 (by omega) hs_e rfl ?_
                  refine r_iload_n dX11_layRound_186 rfl rfl ?_
                  refine r_iaload dX11_layRound_187 (by omega) ((hs_n (by omega)).trans ((hs_n (by omega)).trans ((hs_n (by omega)).trans hom))) (by omega) (by omega) (by decide) ?_
                  refine r_callV (av := [.int (iZ (om (ri).toNat))]) dX11_layRound_188 lkX11_areAlike ml_X11_178 imX11_areAlike seX11_areAlike (by omega) (rfl : vwCl[11]? = _) ⟨_, hs_e⟩ ⟨Nat.le_of_ble_eq_true rfl, Nat.le_of_ble_eq_true rfl⟩ rfl rfl (nle rfl) ⟨Nat.le_of_ble_eq_true rfl, Nat.le_of_ble_eq_true rfl⟩ (c_X11_areAlike (f := sl4) (g := fa4) (k := k) (ki := om (ri).toNat) (ln := ln) (pr := pr) (nm := nm) (at_ := at_) (wr := wr) (va := va) (em := em) (ta := ta1) (ro := ro1) (dg := dg) hs_e hN ((hs_n (by omega)).trans ((hs_n (by omega)).trans hs_e)) ((hs_n (by omega)).trans hs_e) (by omega) (by omega) (fun i9 h9 => by rw [hsl4 i9 h9]; exact hrl _) (fun i9 h9 => by rw [hfa4 i9 h9]; exact hrl _) (fun b188 hb188 => ?_))
                  show G _ _ _ _ _ _ _ 191 _ _ _
                  refine r_if_ne 227 dX11_layRound_191 (by decide) (by rcases hb188 with ⟨y, _⟩ | ⟨y, _⟩ <;> exact ⟨by omega, by omega⟩) (fun c_191 => ?_) (fun c_191 => ?_)
                  · have hal4 : eqS k (rs k c s m) (tl) (tl + t) := fun i9 h9 => by
                      rcases hb188 with ⟨_, y⟩ | ⟨y, _⟩
                      · rw [← hsl4 i9 h9, ← hfa4 i9 h9]; exact y i9 h9
                      · exact absurd y c_191
                    have hrnd := RND.of hg2 (by omega) hal4 hnt tlP hno
                    refine r_aload_n dX11_layRound_227 rfl rfl ?_
                    refine gf_X11_182 dX11_layRound_228 (by omega) hs_e rfl ?_
                    refine r_aload_n dX11_layRound_231 rfl rfl ?_
                    refine gf_X11_175 dX11_layRound_232 (by omega) hs_e rfl ?_
                    refine r_iadd dX11_layRound_235 ?_
                    refine r_ldc (z := 100000) dX11_layRound_236 kc_X11_185 ?_
                    refine r_icmp_gt 245 dX11_layRound_238 (by decide) ⟨by omega, by omega⟩ ⟨by decide, by decide⟩ (fun c_238 => ?_) (fun c_238 => ?_)
                    · refine r_iconst (z := 0) dX11_layRound_245 ?_
                      refine r_zreturn hq dX11_layRound_246 rfl (by decide) rfl rfl ?_
                      exact hQ 0 ta1 ro1 _ _ (Or.inl rfl) (Or.inr ⟨rfl, fun un ln9 hr => by have := hr.one hrnd; omega⟩)
                    · refine r_iconst (z := 1) dX11_layRound_241 ?_
                      refine r_goto 246 dX11_layRound_242 (by decide) ?_
                      refine r_zreturn hq dX11_layRound_246 rfl (by decide) rfl rfl ?_
                      exact hQ 1 ta1 ro1 _ _ (Or.inr rfl) (Or.inl ⟨rfl, tl, t, hrnd, by omega, eta, ero⟩)
                  · have hnal4 : ¬ eqS k (rs k c s m) (tl) (tl + t) := fun z => by
                      rcases hb188 with ⟨y, _⟩ | ⟨_, y⟩
                      · omega
                      · exact y (fun i9 h9 => by rw [hsl4 i9 h9, hfa4 i9 h9]; exact z i9 h9)
                    have hne4 : tl ≠ P := fun z => hnal4 (by rw [z]; exact hal)
                    refine r_aload_n dX11_layRound_194 rfl rfl ?_
                    refine r_aload_n dX11_layRound_195 rfl rfl ?_
                    refine gf_X11_42 dX11_layRound_196 (by omega) hs_e rfl ?_
                    refine r_iload_n dX11_layRound_199 rfl rfl ?_
                    refine r_iload_n dX11_layRound_200 rfl rfl ?_
                    refine r_callV (av := [.ref (134), .int (iZ (ri)), .int (iZ (m))]) dX11_layRound_201 lkX11_go ml_X11_172 imX11_go seX11_go (by omega) (rfl : vwCl[11]? = _) ⟨_, hs_e⟩ ⟨Nat.le_of_ble_eq_true rfl, Nat.le_of_ble_eq_true rfl⟩ rfl rfl (nle rfl) ⟨Nat.le_of_ble_eq_true rfl, Nat.le_of_ble_eq_true rfl⟩ (c_X11_go (r := r) (k := k) (c := c) (s := s) (u := 134) (om := om) (ml := ml) (ms := ms) (f := sl4) (m := m) (n := tl) (ln := ln) (pr := pr) (nm := nm) (at_ := at_) (wr := wr) (va := va) (em := em) (ta := ta1) (ro := ro1) (dg := dg) hs_e hN ((hs_n (by omega)).trans ((hs_n (by omega)).trans ((hs_n (by omega)).trans hom))) ((hs_n (by omega)).trans ((hs_n (by omega)).trans ((hs_n (by omega)).trans hml))) ((hs_n (by omega)).trans ((hs_n (by omega)).trans ((hs_n (by omega)).trans hms))) hg (by omega) (by omega) (by omega) ((hs_n (by omega)).trans ((hs_n (by omega)).trans hs_e)) (by omega) (by omega) hsl4 (fun f201 hf201 => ?_))
                    refine g_heap (h2 := (hs (hs (hs h (134) (aL 6 (f201))) (135) (aL 6 (fa4))) (124) (MOo (ln) (pr) (nm) (at_) (wr) (va) (em) (ta1) (ro1) (dg)))) (hs_put (by omega) (hs_put (by omega) hs_hs)) ?_
                    show G _ _ _ _ _ _ _ 204 _ _ _
                    refine r_aload_n dX11_layRound_204 rfl rfl ?_
                    refine r_aload_n dX11_layRound_205 rfl rfl ?_
                    refine gf_X11_45 dX11_layRound_206 (by omega) hs_e rfl ?_
                    refine r_iload_n dX11_layRound_209 rfl rfl ?_
                    refine r_iload_n dX11_layRound_210 rfl rfl ?_
                    refine r_callV (av := [.ref (135), .int (iZ (ri)), .int (iZ (m))]) dX11_layRound_211 lkX11_go ml_X11_172 imX11_go seX11_go (by omega) (rfl : vwCl[11]? = _) ⟨_, hs_e⟩ ⟨Nat.le_of_ble_eq_true rfl, Nat.le_of_ble_eq_true rfl⟩ rfl rfl (nle rfl) ⟨Nat.le_of_ble_eq_true rfl, Nat.le_of_ble_eq_true rfl⟩ (c_X11_go (r := r) (k := k) (c := c) (s := s) (u := 135) (om := om) (ml := ml) (ms := ms) (f := fa4) (m := m) (n := (tl + t)) (ln := ln) (pr := pr) (nm := nm) (at_ := at_) (wr := wr) (va := va) (em := em) (ta := ta1) (ro := ro1) (dg := dg) hs_e hN ((hs_n (by omega)).trans ((hs_n (by omega)).trans ((hs_n (by omega)).trans hom))) ((hs_n (by omega)).trans ((hs_n (by omega)).trans ((hs_n (by omega)).trans hml))) ((hs_n (by omega)).trans ((hs_n (by omega)).trans ((hs_n (by omega)).trans hms))) hg (by omega) (by omega) (by omega) ((hs_n (by omega)).trans hs_e) (by omega) (by omega) hfa4 (fun f211 hf211 => ?_))
                    refine g_heap (h2 := (hs (hs (hs h (134) (aL 6 (f201))) (135) (aL 6 (f211))) (124) (MOo (ln) (pr) (nm) (at_) (wr) (va) (em) (ta1) (ro1) (dg)))) (hs_put (by omega) hs_hs) ?_
                    show G _ _ _ _ _ _ _ 214 _ _ _
                    refine r_aload_n dX11_layRound_214 rfl rfl ?_
                    refine r_dup dX11_layRound_215 rfl ?_
                    refine gf_X11_182 dX11_layRound_216 (by omega) hs_e rfl ?_
                    refine r_iconst (z := 1) dX11_layRound_219 ?_
                    refine r_iadd dX11_layRound_220 ?_
                    refine pf_X11_182 (fs2 := [_, _, _, _, _, _, _, _, _, _, _, _, _, _, _, _, _, _, _, _, _, _, _, _, _, _, _, _, _, _, _]) dX11_layRound_221 (fun _ _ => rfl) (fun _ _ => rfl) (nlt rfl) (by omega) hs_e rfl ?_
                    refine g_heap (h2 := (hs (hs (hs h (134) (aL 6 (f201))) (135) (aL 6 (f211))) (124) (MOo (ln) (pr) (nm) (at_) (wr) (va) (em) (ta1 + 1) (ro1) (dg)))) hs_hs ?_
                    refine r_goto 181 dX11_layRound_224 (by decide) ?_
                    exact ih181 (f201) (f211) (ta1 + 1) ((tl + 1)) (by omega) (by omega) (by omega) hf201 (fun i9 h9 => by rw [hf211 i9 h9, show tl + 1 + t + i9 = tl + t + 1 + i9 by omega]) (fun t2 ht => by by_cases z : t2 = tl; (rw [z]; exact hnal4); exact hnt t2 (by omega))
              refine r_mask [true, true, true, false, false] (L2 := [_, _, _, none, none]) rfl ?_
              exact lp181 (((P : Int) + 1 : Int) + 1).toNat (f135) (fa3) (0) (0) (by omega) rfl (Nat.zero_le _) (fun i9 h9 => by rw [hf135 i9 h9, Nat.zero_add]) (fun i9 h9 => by rw [hfa3 i9 h9, j3e, Nat.zero_add]) (fun t2 ht => absurd ht (Nat.not_lt_zero t2))
            · refine r_aload_n dX11_layRound_160 rfl rfl ?_
              refine r_aload_n dX11_layRound_161 rfl rfl ?_
              refine gf_X11_45 dX11_layRound_162 (by omega) hs_e rfl ?_
              refine r_iload_n dX11_layRound_165 rfl rfl ?_
              refine r_iload_n dX11_layRound_166 rfl rfl ?_
              refine r_callV (av := [.ref (135), .int (iZ (ri)), .int (iZ (m))]) dX11_layRound_167 lkX11_go ml_X11_172 imX11_go seX11_go (by omega) (rfl : vwCl[11]? = _) ⟨_, hs_e⟩ ⟨Nat.le_of_ble_eq_true rfl, Nat.le_of_ble_eq_true rfl⟩ rfl rfl (nle rfl) ⟨Nat.le_of_ble_eq_true rfl, Nat.le_of_ble_eq_true rfl⟩ (c_X11_go (r := r) (k := k) (c := c) (s := s) (u := 135) (om := om) (ml := ml) (ms := ms) (f := fa3) (m := m) (n := j3) (ln := ln) (pr := pr) (nm := nm) (at_ := at_) (wr := wr) (va := va) (em := em) (ta := ta) (ro := ro1) (dg := dg) hs_e hN ((hs_n (by omega)).trans ((hs_n (by omega)).trans ((hs_n (by omega)).trans hom))) ((hs_n (by omega)).trans ((hs_n (by omega)).trans ((hs_n (by omega)).trans hml))) ((hs_n (by omega)).trans ((hs_n (by omega)).trans ((hs_n (by omega)).trans hms))) hg (by omega) (by omega) (by omega) ((hs_n (by omega)).trans hs_e) (by omega) (by omega) hfa3 (fun f167 hf167 => ?_))
              refine g_heap (h2 := (hs (hs (hs h (134) (aL 6 (f135))) (135) (aL 6 (f167))) (124) (MOo (ln) (pr) (nm) (at_) (wr) (va) (em) (ta) (ro1) (dg)))) (hs_put (by omega) hs_hs) ?_
              show G _ _ _ _ _ _ _ 170 _ _ _
              refine r_iinc (L2 := [_, _, _, none, _]) dX11_layRound_170 (nlt rfl) rfl rfl ?_
              refine r_goto 151 dX11_layRound_173 (by decide) ?_
              exact ih151 (f167) (i3 + 1) ((j3 + 1)) (by omega) (by omega) (by omega) hf167
        refine r_mask [true, true, true, false, true] (L2 := [_, _, _, none, _]) rfl ?_
        exact lp151 ((1000000 : Int) + 1).toNat (f145) (0) (0) (by omega) rfl (Nat.zero_le _) (fun i9 h9 => by rw [hf145 i9 h9, Nat.zero_add])
      · have hnal : ¬ eqS k (rs k c s m) (P) (P + t) := fun z => by
          rcases hb44 with ⟨y, _⟩ | ⟨_, y⟩
          · omega
          · exact y (fun i9 h9 => by rw [hsl i9 h9, hfa i9 h9]; exact z i9 h9)
        refine r_iload_n dX11_layRound_50 rfl rfl ?_
        refine r_aload_n dX11_layRound_51 rfl rfl ?_
        refine gf_X11_175 dX11_layRound_52 (by omega) hs_e rfl ?_
        refine r_icmp_ne 105 dX11_layRound_55 (by decide) ⟨by omega, by omega⟩ ⟨by omega, by omega⟩ (fun c_55 => ?_) (fun c_55 => ?_)
        · refine r_aload_n dX11_layRound_105 rfl rfl ?_
          refine r_aload_n dX11_layRound_106 rfl rfl ?_
          refine gf_X11_45 dX11_layRound_107 (by omega) hs_e rfl ?_
          refine r_iload_n dX11_layRound_110 rfl rfl ?_
          refine r_iload_n dX11_layRound_111 rfl rfl ?_
          refine r_callV (av := [.ref (135), .int (iZ (ri)), .int (iZ (m))]) dX11_layRound_112 lkX11_go ml_X11_172 imX11_go seX11_go (by omega) (rfl : vwCl[11]? = _) ⟨_, hs_e⟩ ⟨Nat.le_of_ble_eq_true rfl, Nat.le_of_ble_eq_true rfl⟩ rfl rfl (nle rfl) ⟨Nat.le_of_ble_eq_true rfl, Nat.le_of_ble_eq_true rfl⟩ (c_X11_go (r := r) (k := k) (c := c) (s := s) (u := 135) (om := om) (ml := ml) (ms := ms) (f := fa) (m := m) (n := (P + t)) (ln := ln) (pr := pr) (nm := nm) (at_ := at_) (wr := wr) (va := va) (em := em) (ta := ta) (ro := ro1) (dg := dg) hs_e hN ((hs_n (by omega)).trans ((hs_n (by omega)).trans ((hs_n (by omega)).trans hom))) ((hs_n (by omega)).trans ((hs_n (by omega)).trans ((hs_n (by omega)).trans hml))) ((hs_n (by omega)).trans ((hs_n (by omega)).trans ((hs_n (by omega)).trans hms))) hg (by omega) (by omega) (by omega) ((hs_n (by omega)).trans hs_e) (by omega) (by omega) (fun i9 h9 => hfa i9 h9) (fun f112 hf112 => ?_))
          refine g_heap (h2 := (hs (hs (hs h (134) (aL 6 (sl))) (135) (aL 6 (f112))) (124) (MOo (ln) (pr) (nm) (at_) (wr) (va) (em) (ta) (ro1) (dg)))) (hs_put (by omega) hs_hs) ?_
          show G _ _ _ _ _ _ _ 115 _ _ _
          refine r_aload_n dX11_layRound_115 rfl rfl ?_
          refine r_dup dX11_layRound_116 rfl ?_
          refine gf_X11_175 dX11_layRound_117 (by omega) hs_e rfl ?_
          refine r_iconst (z := 1) dX11_layRound_120 ?_
          refine r_iadd dX11_layRound_121 ?_
          refine pf_X11_175 (fs2 := [_, _, _, _, _, _, _, _, _, _, _, _, _, _, _, _, _, _, _, _, _, _, _, _, _, _, _, _, _, _, _]) dX11_layRound_122 (fun _ _ => rfl) (fun _ _ => rfl) (nlt rfl) (by omega) hs_e rfl ?_
          refine g_heap (h2 := (hs (hs (hs h (134) (aL 6 (sl))) (135) (aL 6 (f112))) (124) (MOo (ln) (pr) (nm) (at_) (wr) (va) (em) (ta) (ro1 + 1) (dg)))) hs_hs ?_
          refine r_goto 37 dX11_layRound_125 (by decide) ?_
          exact ih37 (sl) (f112) (ro1 + 1) (reach) (P) ((t + 1)) (by omega) (by omega) (by omega) (by omega) (by omega) (by omega) hsl (fun i9 h9 => by rw [hf112 i9 h9, show P + (t + 1) + i9 = P + t + 1 + i9 by omega]) (fun l2 a b => by by_cases z : l2 = t; (rw [z]; exact hnal); exact hno l2 a (by omega))
        · refine r_iload_n dX11_layRound_58 rfl rfl ?_
          refine r_ldc (z := 200000) dX11_layRound_59 kc_X11_181 ?_
          refine r_icmp_le 66 dX11_layRound_61 (by decide) ⟨by omega, by omega⟩ ⟨by decide, by decide⟩ (fun c_61 => ?_) (fun c_61 => ?_)
          · refine r_iconst (z := 0) dX11_layRound_66 ?_
            refine r_istore (L2 := [_, _, _, _, _]) dX11_layRound_67 (nlt rfl) rfl ?_
            have lp69 : ∀ (fu69 : Nat) (sl2 : Nat → Int) (i : Int) (j : Nat), (7 - i) < (fu69 : Int) → (i = (j : Int)) → (j ≤ 6) → (∀ u, u < j → sl2 u = fa u) → G X RX11 cX11_layRound mX11_layRound.rm N 0 0 69 [some (.ref (124)), some (.int (iZ (ri))), some (.int (iZ (m))), some (.int (iZ (reach))), some (.int (iZ (i)))] [] (hs (hs (hs h (134) (aL 6 (sl2))) (135) (aL 6 (fa))) (124) (MOo (ln) (pr) (nm) (at_) (wr) (va) (em) (ta) (ro1) (dg))) := by
              intro fu69
              induction fu69 with
              | zero => intro sl2 i j hm ei j6 hcp; exfalso; omega
              | succ fu69 ih69 =>
                intro sl2 i j hms69 ei j6 hcp
                refine r_iload dX11_layRound_69 rfl ?_
                refine r_bipush (z := 6) dX11_layRound_71 (by decide) ?_
                refine r_icmp_ge 96 dX11_layRound_73 (by decide) ⟨by omega, by omega⟩ ⟨by decide, by decide⟩ (fun c_73 => ?_) (fun c_73 => ?_)
                · refine r_iload_n dX11_layRound_96 rfl rfl ?_
                  refine r_iconst (z := 2) dX11_layRound_97 ?_
                  refine r_imul dX11_layRound_98 ?_
                  refine r_istore_n (L2 := [_, _, _, _, _]) dX11_layRound_99 rfl (nlt rfl) rfl ?_
                  refine r_aload_n dX11_layRound_100 rfl rfl ?_
                  refine r_iconst (z := 0) dX11_layRound_101 ?_
                  refine pf_X11_175 (fs2 := [_, _, _, _, _, _, _, _, _, _, _, _, _, _, _, _, _, _, _, _, _, _, _, _, _, _, _, _, _, _, _]) dX11_layRound_102 (fun _ _ => rfl) (fun _ _ => rfl) (nlt rfl) (by omega) hs_e rfl ?_
                  refine g_heap (h2 := (hs (hs (hs h (134) (aL 6 (sl2))) (135) (aL 6 (fa))) (124) (MOo (ln) (pr) (nm) (at_) (wr) (va) (em) (ta) (0) (dg)))) hs_hs ?_
                  refine r_aload_n dX11_layRound_105 rfl rfl ?_
                  refine r_aload_n dX11_layRound_106 rfl rfl ?_
                  refine gf_X11_45 dX11_layRound_107 (by omega) hs_e rfl ?_
                  refine r_iload_n dX11_layRound_110 rfl rfl ?_
                  refine r_iload_n dX11_layRound_111 rfl rfl ?_
                  refine r_callV (av := [.ref (135), .int (iZ (ri)), .int (iZ (m))]) dX11_layRound_112 lkX11_go ml_X11_172 imX11_go seX11_go (by omega) (rfl : vwCl[11]? = _) ⟨_, hs_e⟩ ⟨Nat.le_of_ble_eq_true rfl, Nat.le_of_ble_eq_true rfl⟩ rfl rfl (nle rfl) ⟨Nat.le_of_ble_eq_true rfl, Nat.le_of_ble_eq_true rfl⟩ (c_X11_go (r := r) (k := k) (c := c) (s := s) (u := 135) (om := om) (ml := ml) (ms := ms) (f := fa) (m := m) (n := (P + t)) (ln := ln) (pr := pr) (nm := nm) (at_ := at_) (wr := wr) (va := va) (em := em) (ta := ta) (ro := 0) (dg := dg) hs_e hN ((hs_n (by omega)).trans ((hs_n (by omega)).trans ((hs_n (by omega)).trans hom))) ((hs_n (by omega)).trans ((hs_n (by omega)).trans ((hs_n (by omega)).trans hml))) ((hs_n (by omega)).trans ((hs_n (by omega)).trans ((hs_n (by omega)).trans hms))) hg (by omega) (by omega) (by omega) ((hs_n (by omega)).trans hs_e) (by omega) (by omega) (fun i9 h9 => hfa i9 h9) (fun f112v2 hf112v2 => ?_))
                  refine g_heap (h2 := (hs (hs (hs h (134) (aL 6 (sl2))) (135) (aL 6 (f112v2))) (124) (MOo (ln) (pr) (nm) (at_) (wr) (va) (em) (ta) (0) (dg)))) (hs_put (by omega) hs_hs) ?_
                  show G _ _ _ _ _ _ _ 115 _ _ _
                  refine r_aload_n dX11_layRound_115 rfl rfl ?_
                  refine r_dup dX11_layRound_116 rfl ?_
                  refine gf_X11_175 dX11_layRound_117 (by omega) hs_e rfl ?_
                  refine r_iconst (z := 1) dX11_layRound_120 ?_
                  refine r_iadd dX11_layRound_121 ?_
                  refine pf_X11_175 (fs2 := [_, _, _, _, _, _, _, _, _, _, _, _, _, _, _, _, _, _, _, _, _, _, _, _, _, _, _, _, _, _, _]) dX11_layRound_122 (fun _ _ => rfl) (fun _ _ => rfl) (nlt rfl) (by omega) hs_e rfl ?_
                  refine g_heap (h2 := (hs (hs (hs h (134) (aL 6 (sl2))) (135) (aL 6 (f112v2))) (124) (MOo (ln) (pr) (nm) (at_) (wr) (va) (em) (ta) (0 + 1) (dg)))) hs_hs ?_
                  refine r_goto 37 dX11_layRound_125 (by decide) ?_
                  refine r_mask [true, true, true, true, false] (L2 := [_, _, _, _, none]) rfl ?_
                  exact ih37 (sl2) (f112v2) (0 + 1) (reach * 2) ((P + t)) (1) (by omega) (by omega) (by omega) (by omega) (by omega) (by omega) (fun i9 h9 => by rw [hcp i9 (by omega), hfa i9 h9]) (fun i9 h9 => hf112v2 i9 h9) (fun l2 a b => by omega)
                · have ein : i.toNat = j := by omega
                  refine r_aload_n dX11_layRound_76 rfl rfl ?_
                  refine gf_X11_42 dX11_layRound_77 (by omega) hs_e rfl ?_
                  refine r_iload dX11_layRound_80 rfl ?_
                  refine r_aload_n dX11_layRound_82 rfl rfl ?_
                  refine gf_X11_45 dX11_layRound_83 (by omega) hs_e rfl ?_
                  refine r_iload dX11_layRound_86 rfl ?_
                  refine r_laload dX11_layRound_88 (by omega) ((hs_n (by omega)).trans hs_e) (by omega) (by omega) (by decide) ?_
                  refine r_lastore dX11_layRound_89 (by omega) ((hs_n (by omega)).trans ((hs_n (by omega)).trans hs_e)) (by omega) (by omega) (by decide) ?_
                  refine g_heap (h2 := (hs (hs (hs h (134) (aL 6 (uA (sl2) (i).toNat (fa (i).toNat)))) (135) (aL 6 (fa))) (124) (MOo (ln) (pr) (nm) (at_) (wr) (va) (em) (ta) (ro1) (dg)))) (hs_put (by omega) (hs_put (by omega) hs_hs)) ?_
                  refine r_iinc (L2 := [_, _, _, _, _]) dX11_layRound_90 (nlt rfl) rfl rfl ?_
                  refine r_goto 69 dX11_layRound_93 (by decide) ?_
                  exact ih69 (uA (sl2) (i).toNat (fa (i).toNat)) (i + 1) ((j + 1)) (by omega) (by omega) (by omega) (fun u hu => by rw [ein]; by_cases z : u = j; (rw [z, uA_e]); rw [uA_n z]; exact hcp u (by omega))
            exact lp69 ((7 : Int) + 1).toNat (sl) (0) (0) (by omega) rfl (by decide) (fun u hu => absurd hu (Nat.not_lt_zero u))
          · refine r_iconst (z := 0) dX11_layRound_64 ?_
            refine r_zreturn hq dX11_layRound_65 rfl (by decide) rfl rfl ?_
            exact hQ 0 ta ro1 _ _ (Or.inl rfl) (Or.inr ⟨rfl, fun un ln9 hr => by
              by_cases z : un ≤ P
              · have := RND.far hg2 (R := t) (fun l2 a b => by
                  by_cases w : l2 = t
                  · rw [w]; exact hnal
                  · exact hno l2 a (by omega)) hr z
                omega
              · omega⟩)
  exact lp37 ((2000000 : Int) + 1).toNat (f7) (f27) (1) (1) (0) (1) (by omega) rfl rfl (by decide) (by decide) (by decide) (fun i9 h9 => by rw [hf7 i9 h9, Nat.zero_add]) (fun i9 h9 => hf27 i9 h9) (fun l2 a b => by omega)
set_option maxHeartbeats 4000000 in
set_option maxRecDepth 20000 in
theorem c_X11_lookFor0 {N : Nat} {h : Hp} {Q : QP} {ln pr nm at_ wr va em ta ro dg : Int} {om ml ms : Nat → Int} {c s fs : Nat → Int} {r k un ln9 : Nat} {ri m v : Int} (hm0 : h 124 = MOo ln pr nm at_ wr va em (un : Int) (ln9 : Int) dg) (hN : 146 ≤ N) (hom : h 125 = aI 7 om) (hml : h 126 = aL 42 ml) (hms : h 127 = aL 42 ms) (hg : RG om ml ms r k c s) (hri : ri = (r : Int)) (hr6 : r < 7) (hfs : h 134 = aL 6 fs) (hm2 : 2 ≤ m) (hm : m ≤ 1000000) (hul : un + ln9 ≤ 100000) (hv : rI v) (hQ : ∀ (z : Int) (f2 : Nat → Int), z = cntR (rs k c s m) v (un + ln9) → Q (some (.int (iZ z))) N (hs h 134 (aL 6 f2))) : Runs mX11_lookFor [.ref (124), .int (iZ (ri)), .int (iZ (m)), .int (iZ (v)), .int (iZ (0))] N h Q := by
  obtain ⟨hg1, hg2, hg3, hg4, hg5⟩ := id hg
  have ern : ri.toNat = r := by omega
  have eom : om ri.toNat = (k : Int) := by rw [ern]; exact hg1
  have hrl : ∀ n, rL (rs k c s m n) := fun n => by have := rs_in (k := k) (c := c) (s := s) (m := m) (by omega) n; exact ⟨by omega, by omega⟩
  have hv1 := hv.1
  have hv2 := hv.2
  refine run_start (own := RX11) rfl (by decide) (nle rfl) rfl (fun X hq hini => ?_)
  show G X RX11 cX11_lookFor mX11_lookFor.rm N 0 0 0 [some (.ref (124)), some (.int (iZ (ri))), some (.int (iZ (m))), some (.int (iZ (v))), some (.int (iZ (0))), none, none] [] h
  refine r_aload_n dX11_lookFor_0 rfl rfl ?_
  refine r_aload_n dX11_lookFor_1 rfl rfl ?_
  refine gf_X11_42 dX11_lookFor_2 (by omega) hm0 rfl ?_
  refine r_iload_n dX11_lookFor_5 rfl rfl ?_
  refine r_iload_n dX11_lookFor_6 rfl rfl ?_
  refine r_callV (av := [.ref (134), .int (iZ (ri)), .int (iZ (m))]) dX11_lookFor_7 lkX11_begin ml_X11_168 imX11_begin seX11_begin (by omega) (rfl : vwCl[11]? = _) ⟨_, hm0⟩ ⟨Nat.le_of_ble_eq_true rfl, Nat.le_of_ble_eq_true rfl⟩ rfl rfl (nle rfl) ⟨Nat.le_of_ble_eq_true rfl, Nat.le_of_ble_eq_true rfl⟩ (c_X11_begin (r := r) (k := k) (c := c) (s := s) (u := 134) (om := om) (ml := ml) (ms := ms) (f := fs) (m := m) (ln := ln) (pr := pr) (nm := nm) (at_ := at_) (wr := wr) (va := va) (em := em) (ta := (un : Int)) (ro := (ln9 : Int)) (dg := dg) hm0 hN hom hml hms hg (by omega) (by omega) (by omega) hfs (by omega) (by omega) (fun f7 hf7 => ?_))
  show G _ _ _ _ _ _ _ 10 _ _ _
  refine r_iconst (z := 0) dX11_lookFor_10 ?_
  refine r_istore (L2 := [_, _, _, _, _, _, none]) dX11_lookFor_11 (nlt rfl) rfl ?_
  refine r_iconst (z := 0) dX11_lookFor_13 ?_
  refine r_istore (L2 := [_, _, _, _, _, _, _]) dX11_lookFor_14 (nlt rfl) rfl ?_
  have lp16 : ∀ (fu16 : Nat) (sl : Nat → Int) (many : Int) (i : Int) (n : Nat), (100001 - i) < (fu16 : Int) → (i = (n : Int)) → (n ≤ un + ln9) → (∀ i, i < k → sl i = rs k c s m (n + i)) → (many = cntR (rs k c s m) v n) → G X RX11 cX11_lookFor mX11_lookFor.rm N 0 0 16 [some (.ref (124)), some (.int (iZ (ri))), some (.int (iZ (m))), some (.int (iZ (v))), some (.int (iZ (0))), some (.int (iZ (many))), some (.int (iZ (i)))] [] (hs h (134) (aL 6 (sl))) := by
    intro fu16
    induction fu16 with
    | zero => intro sl many i n hm ei nl hsl hc9; exfalso; omega
    | succ fu16 ih16 =>
      intro sl many i n hms16 ei nl hsl hc9
      refine r_iload dX11_lookFor_16 rfl ?_
      refine r_aload_n dX11_lookFor_18 rfl rfl ?_
      refine gf_X11_182 dX11_lookFor_19 (by omega) ((hs_n (by omega)).trans hm0) rfl ?_
      refine r_aload_n dX11_lookFor_22 rfl rfl ?_
      refine gf_X11_175 dX11_lookFor_23 (by omega) ((hs_n (by omega)).trans hm0) rfl ?_
      refine r_iadd dX11_lookFor_26 ?_
      refine r_icmp_ge 69 dX11_lookFor_27 (by decide) ⟨by omega, by omega⟩ ⟨by omega, by omega⟩ (fun c_27 => ?_) (fun c_27 => ?_)
      · refine r_iload dX11_lookFor_69 rfl ?_
        refine r_if_eq 79 dX11_lookFor_71 (by decide) ⟨by decide, by decide⟩ (fun c_71 => ?_) (fun c_71 => by exfalso; omega)
        refine r_iload dX11_lookFor_79 rfl ?_
        refine r_ireturn hq dX11_lookFor_81 rfl rfl rfl ?_
        have n9 : n = un + ln9 := by omega
        rw [n9] at hc9
        exact hQ _ _ hc9
      · have e0 : sl (0 : Int).toNat = rs k c s m n := hsl 0 (by omega)
        refine r_aload_n dX11_lookFor_30 rfl rfl ?_
        refine gf_X11_42 dX11_lookFor_31 (by omega) ((hs_n (by omega)).trans hm0) rfl ?_
        refine r_iconst (z := 0) dX11_lookFor_34 ?_
        refine r_laload dX11_lookFor_35 (by omega) hs_e (by omega) (by omega) (by decide) ?_
        refine r_iload_n dX11_lookFor_36 rfl rfl ?_
        refine r_i2l dX11_lookFor_37 ⟨by omega, by omega⟩ ?_
        refine r_lcmp_ne 53 dX11_lookFor_38 dX11_lookFor_39 (by decide) (by rw [e0]; exact hrl n) ⟨by omega, by omega⟩ (fun c_38 => ?_) (fun c_38 => ?_)
        · refine r_aload_n dX11_lookFor_53 rfl rfl ?_
          refine r_aload_n dX11_lookFor_54 rfl rfl ?_
          refine gf_X11_42 dX11_lookFor_55 (by omega) ((hs_n (by omega)).trans hm0) rfl ?_
          refine r_iload_n dX11_lookFor_58 rfl rfl ?_
          refine r_iload_n dX11_lookFor_59 rfl rfl ?_
          refine r_callV (av := [.ref (134), .int (iZ (ri)), .int (iZ (m))]) dX11_lookFor_60 lkX11_go ml_X11_172 imX11_go seX11_go (by omega) (rfl : vwCl[11]? = _) ⟨_, ((hs_n (by omega)).trans hm0)⟩ ⟨Nat.le_of_ble_eq_true rfl, Nat.le_of_ble_eq_true rfl⟩ rfl rfl (nle rfl) ⟨Nat.le_of_ble_eq_true rfl, Nat.le_of_ble_eq_true rfl⟩ (c_X11_go (r := r) (k := k) (c := c) (s := s) (u := 134) (om := om) (ml := ml) (ms := ms) (f := sl) (m := m) (n := n) (ln := ln) (pr := pr) (nm := nm) (at_ := at_) (wr := wr) (va := va) (em := em) (ta := (un : Int)) (ro := (ln9 : Int)) (dg := dg) ((hs_n (by omega)).trans hm0) hN ((hs_n (by omega)).trans hom) ((hs_n (by omega)).trans hml) ((hs_n (by omega)).trans hms) hg (by omega) (by omega) (by omega) hs_e (by omega) (by omega) hsl (fun f60 hf60 => ?_))
          refine g_heap (h2 := (hs h (134) (aL 6 (f60)))) hs_hs ?_
          show G _ _ _ _ _ _ _ 63 _ _ _
          refine r_iinc (L2 := [_, _, _, _, _, _, _]) dX11_lookFor_63 (nlt rfl) rfl rfl ?_
          refine r_goto 16 dX11_lookFor_66 (by decide) ?_
          exact ih16 (f60) (many) (i + 1) ((n + 1)) (by omega) (by omega) (by omega) hf60 (by show _ = cntR (rs k c s m) v n + (if rs k c s m n = v then 1 else 0); rw [if_neg (by rw [← e0]; exact c_38)]; omega)
        · refine r_iload dX11_lookFor_42 rfl ?_
          refine r_if_eq 50 dX11_lookFor_44 (by decide) ⟨by decide, by decide⟩ (fun c_44 => ?_) (fun c_44 => by exfalso; omega)
          refine r_iinc (L2 := [_, _, _, _, _, _, _]) dX11_lookFor_50 (nlt rfl) rfl rfl ?_
          refine r_aload_n dX11_lookFor_53 rfl rfl ?_
          refine r_aload_n dX11_lookFor_54 rfl rfl ?_
          refine gf_X11_42 dX11_lookFor_55 (by omega) ((hs_n (by omega)).trans hm0) rfl ?_
          refine r_iload_n dX11_lookFor_58 rfl rfl ?_
          refine r_iload_n dX11_lookFor_59 rfl rfl ?_
          refine r_callV (av := [.ref (134), .int (iZ (ri)), .int (iZ (m))]) dX11_lookFor_60 lkX11_go ml_X11_172 imX11_go seX11_go (by omega) (rfl : vwCl[11]? = _) ⟨_, ((hs_n (by omega)).trans hm0)⟩ ⟨Nat.le_of_ble_eq_true rfl, Nat.le_of_ble_eq_true rfl⟩ rfl rfl (nle rfl) ⟨Nat.le_of_ble_eq_true rfl, Nat.le_of_ble_eq_true rfl⟩ (c_X11_go (r := r) (k := k) (c := c) (s := s) (u := 134) (om := om) (ml := ml) (ms := ms) (f := sl) (m := m) (n := n) (ln := ln) (pr := pr) (nm := nm) (at_ := at_) (wr := wr) (va := va) (em := em) (ta := (un : Int)) (ro := (ln9 : Int)) (dg := dg) ((hs_n (by omega)).trans hm0) hN ((hs_n (by omega)).trans hom) ((hs_n (by omega)).trans hml) ((hs_n (by omega)).trans hms) hg (by omega) (by omega) (by omega) hs_e (by omega) (by omega) hsl (fun f60v2 hf60v2 => ?_))
          refine g_heap (h2 := (hs h (134) (aL 6 (f60v2)))) hs_hs ?_
          show G _ _ _ _ _ _ _ 63 _ _ _
          refine r_iinc (L2 := [_, _, _, _, _, _, _]) dX11_lookFor_63 (nlt rfl) rfl rfl ?_
          refine r_goto 16 dX11_lookFor_66 (by decide) ?_
          exact ih16 (f60v2) (many + 1) (i + 1) ((n + 1)) (by omega) (by omega) (by omega) hf60v2 (by show _ = cntR (rs k c s m) v n + (if rs k c s m n = v then 1 else 0); rw [if_pos (by rw [← e0]; exact c_38)]; omega)
  exact lp16 ((100001 : Int) + 1).toNat (f7) (0) (0) (0) (by omega) rfl (Nat.zero_le _) (fun i9 h9 => by rw [hf7 i9 h9, Nat.zero_add]) rfl
set_option maxHeartbeats 4000000 in
set_option maxRecDepth 20000 in
theorem c_X11_lookFor1 {N : Nat} {h : Hp} {Q : QP} {ln pr nm at_ wr va em ta ro dg : Int} {om ml ms : Nat → Int} {c s fs : Nat → Int} {r k un ln9 : Nat} {ri m v : Int} (hm0 : h 124 = MOo ln pr nm at_ wr va em (un : Int) (ln9 : Int) dg) (hN : 146 ≤ N) (hom : h 125 = aI 7 om) (hml : h 126 = aL 42 ml) (hms : h 127 = aL 42 ms) (hg : RG om ml ms r k c s) (hri : ri = (r : Int)) (hr6 : r < 7) (hfs : h 134 = aL 6 fs) (hm2 : 2 ≤ m) (hm : m ≤ 1000000) (hul : un + ln9 ≤ 100000) (hv : rI v) (hQ : ∀ (z : Int) (f2 : Nat → Int), FirstR (rs k c s m) v (un + ln9) z → Q (some (.int (iZ z))) N (hs h 134 (aL 6 f2))) : Runs mX11_lookFor [.ref (124), .int (iZ (ri)), .int (iZ (m)), .int (iZ (v)), .int (iZ (1))] N h Q := by
  obtain ⟨hg1, hg2, hg3, hg4, hg5⟩ := id hg
  have ern : ri.toNat = r := by omega
  have eom : om ri.toNat = (k : Int) := by rw [ern]; exact hg1
  have hrl : ∀ n, rL (rs k c s m n) := fun n => by have := rs_in (k := k) (c := c) (s := s) (m := m) (by omega) n; exact ⟨by omega, by omega⟩
  have hv1 := hv.1
  have hv2 := hv.2
  refine run_start (own := RX11) rfl (by decide) (nle rfl) rfl (fun X hq hini => ?_)
  show G X RX11 cX11_lookFor mX11_lookFor.rm N 0 0 0 [some (.ref (124)), some (.int (iZ (ri))), some (.int (iZ (m))), some (.int (iZ (v))), some (.int (iZ (1))), none, none] [] h
  refine r_aload_n dX11_lookFor_0 rfl rfl ?_
  refine r_aload_n dX11_lookFor_1 rfl rfl ?_
  refine gf_X11_42 dX11_lookFor_2 (by omega) hm0 rfl ?_
  refine r_iload_n dX11_lookFor_5 rfl rfl ?_
  refine r_iload_n dX11_lookFor_6 rfl rfl ?_
  refine r_callV (av := [.ref (134), .int (iZ (ri)), .int (iZ (m))]) dX11_lookFor_7 lkX11_begin ml_X11_168 imX11_begin seX11_begin (by omega) (rfl : vwCl[11]? = _) ⟨_, hm0⟩ ⟨Nat.le_of_ble_eq_true rfl, Nat.le_of_ble_eq_true rfl⟩ rfl rfl (nle rfl) ⟨Nat.le_of_ble_eq_true rfl, Nat.le_of_ble_eq_true rfl⟩ (c_X11_begin (r := r) (k := k) (c := c) (s := s) (u := 134) (om := om) (ml := ml) (ms := ms) (f := fs) (m := m) (ln := ln) (pr := pr) (nm := nm) (at_ := at_) (wr := wr) (va := va) (em := em) (ta := (un : Int)) (ro := (ln9 : Int)) (dg := dg) hm0 hN hom hml hms hg (by omega) (by omega) (by omega) hfs (by omega) (by omega) (fun f7 hf7 => ?_))
  show G _ _ _ _ _ _ _ 10 _ _ _
  refine r_iconst (z := 0) dX11_lookFor_10 ?_
  refine r_istore (L2 := [_, _, _, _, _, _, none]) dX11_lookFor_11 (nlt rfl) rfl ?_
  refine r_iconst (z := 0) dX11_lookFor_13 ?_
  refine r_istore (L2 := [_, _, _, _, _, _, _]) dX11_lookFor_14 (nlt rfl) rfl ?_
  have lp16 : ∀ (fu16 : Nat) (sl : Nat → Int) (many : Int) (i : Int) (n : Nat), (100001 - i) < (fu16 : Int) → (i = (n : Int)) → (n ≤ un + ln9) → (∀ i, i < k → sl i = rs k c s m (n + i)) → (∀ n2, n2 < n → rs k c s m n2 ≠ v) → G X RX11 cX11_lookFor mX11_lookFor.rm N 0 0 16 [some (.ref (124)), some (.int (iZ (ri))), some (.int (iZ (m))), some (.int (iZ (v))), some (.int (iZ (1))), some (.int (iZ (many))), some (.int (iZ (i)))] [] (hs h (134) (aL 6 (sl))) := by
    intro fu16
    induction fu16 with
    | zero => intro sl many i n hm ei nl hsl hc9; exfalso; omega
    | succ fu16 ih16 =>
      intro sl many i n hms16 ei nl hsl hc9
      refine r_iload dX11_lookFor_16 rfl ?_
      refine r_aload_n dX11_lookFor_18 rfl rfl ?_
      refine gf_X11_182 dX11_lookFor_19 (by omega) ((hs_n (by omega)).trans hm0) rfl ?_
      refine r_aload_n dX11_lookFor_22 rfl rfl ?_
      refine gf_X11_175 dX11_lookFor_23 (by omega) ((hs_n (by omega)).trans hm0) rfl ?_
      refine r_iadd dX11_lookFor_26 ?_
      refine r_icmp_ge 69 dX11_lookFor_27 (by decide) ⟨by omega, by omega⟩ ⟨by omega, by omega⟩ (fun c_27 => ?_) (fun c_27 => ?_)
      · refine r_iload dX11_lookFor_69 rfl ?_
        refine r_if_eq 79 dX11_lookFor_71 (by decide) ⟨by decide, by decide⟩ (fun c_71 => by exfalso; omega) (fun c_71 => ?_)
        refine r_bipush (z := -4) dX11_lookFor_74 (by decide) ?_
        refine r_goto 81 dX11_lookFor_76 (by decide) ?_
        refine r_ireturn hq dX11_lookFor_81 rfl rfl rfl ?_
        have n9 : n = un + ln9 := by omega
        rw [n9] at hc9
        exact hQ _ _ (Or.inr ⟨hc9, rfl⟩)
      · have e0 : sl (0 : Int).toNat = rs k c s m n := hsl 0 (by omega)
        refine r_aload_n dX11_lookFor_30 rfl rfl ?_
        refine gf_X11_42 dX11_lookFor_31 (by omega) ((hs_n (by omega)).trans hm0) rfl ?_
        refine r_iconst (z := 0) dX11_lookFor_34 ?_
        refine r_laload dX11_lookFor_35 (by omega) hs_e (by omega) (by omega) (by decide) ?_
        refine r_iload_n dX11_lookFor_36 rfl rfl ?_
        refine r_i2l dX11_lookFor_37 ⟨by omega, by omega⟩ ?_
        refine r_lcmp_ne 53 dX11_lookFor_38 dX11_lookFor_39 (by decide) (by rw [e0]; exact hrl n) ⟨by omega, by omega⟩ (fun c_38 => ?_) (fun c_38 => ?_)
        · refine r_aload_n dX11_lookFor_53 rfl rfl ?_
          refine r_aload_n dX11_lookFor_54 rfl rfl ?_
          refine gf_X11_42 dX11_lookFor_55 (by omega) ((hs_n (by omega)).trans hm0) rfl ?_
          refine r_iload_n dX11_lookFor_58 rfl rfl ?_
          refine r_iload_n dX11_lookFor_59 rfl rfl ?_
          refine r_callV (av := [.ref (134), .int (iZ (ri)), .int (iZ (m))]) dX11_lookFor_60 lkX11_go ml_X11_172 imX11_go seX11_go (by omega) (rfl : vwCl[11]? = _) ⟨_, ((hs_n (by omega)).trans hm0)⟩ ⟨Nat.le_of_ble_eq_true rfl, Nat.le_of_ble_eq_true rfl⟩ rfl rfl (nle rfl) ⟨Nat.le_of_ble_eq_true rfl, Nat.le_of_ble_eq_true rfl⟩ (c_X11_go (r := r) (k := k) (c := c) (s := s) (u := 134) (om := om) (ml := ml) (ms := ms) (f := sl) (m := m) (n := n) (ln := ln) (pr := pr) (nm := nm) (at_ := at_) (wr := wr) (va := va) (em := em) (ta := (un : Int)) (ro := (ln9 : Int)) (dg := dg) ((hs_n (by omega)).trans hm0) hN ((hs_n (by omega)).trans hom) ((hs_n (by omega)).trans hml) ((hs_n (by omega)).trans hms) hg (by omega) (by omega) (by omega) hs_e (by omega) (by omega) hsl (fun f60 hf60 => ?_))
          refine g_heap (h2 := (hs h (134) (aL 6 (f60)))) hs_hs ?_
          show G _ _ _ _ _ _ _ 63 _ _ _
          refine r_iinc (L2 := [_, _, _, _, _, _, _]) dX11_lookFor_63 (nlt rfl) rfl rfl ?_
          refine r_goto 16 dX11_lookFor_66 (by decide) ?_
          exact ih16 (f60) (many) (i + 1) ((n + 1)) (by omega) (by omega) (by omega) hf60 (fun n2 hn => by by_cases z : n2 = n; (rw [z, ← e0]; exact c_38); exact hc9 n2 (by omega))
        · refine r_iload dX11_lookFor_42 rfl ?_
          refine r_if_eq 50 dX11_lookFor_44 (by decide) ⟨by decide, by decide⟩ (fun c_44 => by exfalso; omega) (fun c_44 => ?_)
          refine r_iload dX11_lookFor_47 rfl ?_
          refine r_ireturn hq dX11_lookFor_49 rfl rfl rfl ?_
          exact hQ _ _ (Or.inl ⟨n, by omega, by rw [← e0]; exact c_38, hc9, by omega⟩)
  exact lp16 ((100001 : Int) + 1).toNat (f7) (0) (0) (0) (by omega) rfl (Nat.zero_le _) (fun i9 h9 => by rw [hf7 i9 h9, Nat.zero_add]) (fun n2 hn => absurd hn (Nat.not_lt_zero n2))
set_option maxHeartbeats 2000000 in
set_option maxRecDepth 20000 in
theorem c_X11_round {N : Nat} {h : Hp} {Q : QP} {tb : Nat → Int} {ln : Nat} {K : Nat → Nat} {C S : Nat → Nat → Int} {p : Int} {vs : Nat → Int} {sz : Nat} {i m w : Int} (hI : MDI h tb ln K C S p vs sz) (hN : 146 ≤ N) (hi : rI i) (hm : rI m) (hw : rI w) (hQ : ∀ (r : Int) (h2 : Hp), SPround i m w K C S r → MDI h2 tb ln K C S p vs sz → OUTM h h2 → Q (some (.int (iZ r))) N h2) : Runs mX11_round [.ref (124), .int (iZ (i)), .int (iZ (m)), .int (iZ (w))] N h Q := by
  obtain ⟨at_, wr, va, em, ta, ro, dg, om, ml, ms, a130, a131, a132, a133, a134, a135, a136, a137, a138, a139, a140, a141, a142, a143, a144, a145, hm0, hom, hml, hms, hbt, hnv, h130, h131, h132, h133, h134, h135, h136, h137, h138, h139, h140, h141, h142, h143, h144, h145, hMR, hlN, hbb, hPr, hs40, hvb⟩ := id hI
  have hl0 : 0 ≤ (ln : Int) := by omega
  have hl : (ln : Int) ≤ 100 := by omega
  have hm1 := hm.1
  have hm2 := hm.2
  have hw1 := hw.1
  have hw2 := hw.2
  refine run_start (own := RX11) rfl (by decide) (nle rfl) rfl (fun X hq hini => ?_)
  show G X RX11 cX11_round mX11_round.rm N 0 0 0 [some (.ref (124)), some (.int (iZ (i))), some (.int (iZ (m))), some (.int (iZ (w)))] [] h
  refine r_iload_n dX11_round_0 rfl rfl ?_
  refine r_callS (av := [.int (iZ (i))]) dX11_round_1 lkX11_isReg ml_X11_127 stX11_isReg ⟨Nat.le_of_ble_eq_true rfl, Nat.le_of_ble_eq_true rfl⟩ rfl rfl (nle rfl) ⟨Nat.le_of_ble_eq_true rfl, Nat.le_of_ble_eq_true rfl⟩ (c_X11_isReg (x := i) hi (fun b1 hb1 => ?_))
  show G _ _ _ _ _ _ _ 4 _ _ _
  refine r_if_eq 33 dX11_round_4 (by decide) (by rcases hb1 with ⟨y, _⟩ | ⟨y, _⟩ <;> exact ⟨by omega, by omega⟩) (fun c_4 => ?_) (fun c_4 => ?_)
  · refine r_iconst (z := -1) dX11_round_33 ?_
    refine r_ireturn hq dX11_round_34 rfl rfl rfl ?_
    exact hQ _ h (Or.inl ⟨by omega, rfl⟩) hI (fun _ _ => rfl)
  · refine r_iload_n dX11_round_7 rfl rfl ?_
    refine r_i2l dX11_round_8 ⟨by omega, by omega⟩ ?_
    refine r_ldc2 (z := 2) dX11_round_9 kc_X11_134 ?_
    refine r_ldc2 (z := 1000) dX11_round_12 kc_X11_186 ?_
    refine r_callS (av := [.long (lZ (m)), .long (lZ (2)), .long (lZ (1000))]) dX11_round_15 lkX11_in ml_X11_80 stX11_in ⟨Nat.le_of_ble_eq_true rfl, Nat.le_of_ble_eq_true rfl⟩ rfl rfl (nle rfl) ⟨Nat.le_of_ble_eq_true rfl, Nat.le_of_ble_eq_true rfl⟩ (c_X11_in (x := m) (l := 2) (m := 1000) ⟨by omega, by omega⟩ ⟨by decide, by decide⟩ ⟨by decide, by decide⟩ (fun b15 hb15 => ?_))
    show G _ _ _ _ _ _ _ 18 _ _ _
    refine r_if_eq 33 dX11_round_18 (by decide) (by rcases hb15 with ⟨y, _⟩ | ⟨y, _⟩ <;> exact ⟨by omega, by omega⟩) (fun c_18 => ?_) (fun c_18 => ?_)
    · refine r_iconst (z := -1) dX11_round_33 ?_
      refine r_ireturn hq dX11_round_34 rfl rfl rfl ?_
      exact hQ _ h (Or.inl ⟨by omega, rfl⟩) hI (fun _ _ => rfl)
    · refine r_iload_n dX11_round_21 rfl rfl ?_
      refine r_i2l dX11_round_22 ⟨by omega, by omega⟩ ?_
      refine r_lconst (z := 0) dX11_round_23 (by decide) ?_
      refine r_ldc2 (z := 2) dX11_round_24 kc_X11_134 ?_
      refine r_callS (av := [.long (lZ (w)), .long (lZ (0)), .long (lZ (2))]) dX11_round_27 lkX11_in ml_X11_80 stX11_in ⟨Nat.le_of_ble_eq_true rfl, Nat.le_of_ble_eq_true rfl⟩ rfl rfl (nle rfl) ⟨Nat.le_of_ble_eq_true rfl, Nat.le_of_ble_eq_true rfl⟩ (c_X11_in (x := w) (l := 0) (m := 2) ⟨by omega, by omega⟩ ⟨by decide, by decide⟩ ⟨by decide, by decide⟩ (fun b27 hb27 => ?_))
      show G _ _ _ _ _ _ _ 30 _ _ _
      refine r_if_ne 35 dX11_round_30 (by decide) (by rcases hb27 with ⟨y, _⟩ | ⟨y, _⟩ <;> exact ⟨by omega, by omega⟩) (fun c_30 => ?_) (fun c_30 => ?_)
      · refine r_aload_n dX11_round_35 rfl rfl ?_
        refine r_iload_n dX11_round_36 rfl rfl ?_
        refine r_iload_n dX11_round_37 rfl rfl ?_
        refine r_callV (av := [.int (iZ (i)), .int (iZ (m))]) dX11_round_38 lkX11_layRound ml_X11_188 imX11_layRound seX11_layRound (by omega) (rfl : vwCl[11]? = _) ⟨_, hm0⟩ ⟨Nat.le_of_ble_eq_true rfl, Nat.le_of_ble_eq_true rfl⟩ rfl rfl (nle rfl) ⟨Nat.le_of_ble_eq_true rfl, Nat.le_of_ble_eq_true rfl⟩ (c_X11_layRound (r := i.toNat) (k := (K i.toNat)) (c := (C i.toNat)) (s := (S i.toNat)) (om := om) (ml := ml) (ms := ms) (fs := a134) (ff := a135) (m := m) (ln := (ln : Int)) (pr := p) (nm := (sz : Int)) (at_ := at_) (wr := wr) (va := va) (em := em) (ta := ta) (ro := ro) (dg := dg) hm0 hN hom hml hms (hMR i.toNat (by omega)).1 (by omega) (by omega) h134 h135 (by omega) (by omega) (fun ok38 ta38 ro38 fs38 ff38 hok38 hR38 => ?_))
        show G _ _ _ _ _ _ _ 41 _ _ _
        refine r_if_ne 47 dX11_round_41 (by decide) (by rcases hok38 with y | y <;> exact ⟨by omega, by omega⟩) (fun c_41 => ?_) (fun c_41 => ?_)
        · obtain ⟨un, ln9, hrn, hul, eu9, el9⟩ : ∃ un ln9 : Nat, RND (K i.toNat) (rs (K i.toNat) (C i.toNat) (S i.toNat) m) un ln9 ∧ un + ln9 ≤ 100000 ∧ ta38 = (un : Int) ∧ ro38 = (ln9 : Int) := by
            rcases hR38 with ⟨_, y⟩ | ⟨y, _⟩
            · exact y
            · exact absurd y c_41
          subst eu9
          subst el9
          refine r_iload_n dX11_round_47 rfl rfl ?_
          refine r_if_ne 58 dX11_round_48 (by decide) hw (fun c_48 => ?_) (fun c_48 => ?_)
          · refine r_iload_n dX11_round_58 rfl rfl ?_
            refine r_iconst (z := 1) dX11_round_59 ?_
            refine r_icmp_ne 70 dX11_round_60 (by decide) hw ⟨by decide, by decide⟩ (fun c_60 => ?_) (fun c_60 => ?_)
            · refine r_aload_n dX11_round_70 rfl rfl ?_
              refine r_iload_n dX11_round_71 rfl rfl ?_
              refine r_iload_n dX11_round_72 rfl rfl ?_
              refine r_iconst (z := 0) dX11_round_73 ?_
              refine r_iconst (z := 0) dX11_round_74 ?_
              refine r_callV (av := [.int (iZ (i)), .int (iZ (m)), .int (iZ (0)), .int (iZ (0))]) dX11_round_75 lkX11_lookFor ml_X11_192 imX11_lookFor seX11_lookFor (by omega) (rfl : vwCl[11]? = _) ⟨_, hs_e⟩ ⟨Nat.le_of_ble_eq_true rfl, Nat.le_of_ble_eq_true rfl⟩ rfl rfl (nle rfl) ⟨Nat.le_of_ble_eq_true rfl, Nat.le_of_ble_eq_true rfl⟩ (c_X11_lookFor0 (r := i.toNat) (k := (K i.toNat)) (c := (C i.toNat)) (s := (S i.toNat)) (un := un) (ln9 := ln9) (om := om) (ml := ml) (ms := ms) (fs := fs38) (m := m) (v := 0) (ta := 0) (ro := 0) (ln := (ln : Int)) (pr := p) (nm := (sz : Int)) (at_ := at_) (wr := wr) (va := va) (em := em) (dg := dg) hs_e hN ((hs_n (by omega)).trans ((hs_n (by omega)).trans ((hs_n (by omega)).trans hom))) ((hs_n (by omega)).trans ((hs_n (by omega)).trans ((hs_n (by omega)).trans hml))) ((hs_n (by omega)).trans ((hs_n (by omega)).trans ((hs_n (by omega)).trans hms))) (hMR i.toNat (by omega)).1 (by omega) (by omega) ((hs_n (by omega)).trans ((hs_n (by omega)).trans hs_e)) (by omega) (by omega) hul ⟨by omega, by omega⟩ (fun z75 fl75 hz75 => ?_))
              refine g_heap (h2 := (hs (hs (hs h (134) (aL 6 (fl75))) (135) (aL 6 (ff38))) (124) (MOo ((ln : Int)) (p) ((sz : Int)) (at_) (wr) (va) (em) ((un : Int)) ((ln9 : Int)) (dg)))) (hs_put (by omega) (hs_put (by omega) hs_hs)) ?_
              show G _ _ _ _ _ _ _ 78 _ _ _
              refine r_ireturn hq dX11_round_78 rfl rfl rfl ?_
              refine hQ _ _ (Or.inr ⟨by omega, by omega, by omega, by omega, by omega, by omega, Or.inl ⟨un, ln9, hrn, hul, by rw [if_neg (by omega), if_neg (by omega)]; exact hz75⟩⟩) ⟨_, _, _, _, _, _, _, _, _, _, _, _, _, _, _, _, _, _, _, _, _, _, _, _, _, _, hs_e, ((hs_n (by omega)).trans ((hs_n (by omega)).trans ((hs_n (by omega)).trans hom))), ((hs_n (by omega)).trans ((hs_n (by omega)).trans ((hs_n (by omega)).trans hml))), ((hs_n (by omega)).trans ((hs_n (by omega)).trans ((hs_n (by omega)).trans hms))), ((hs_n (by omega)).trans ((hs_n (by omega)).trans ((hs_n (by omega)).trans hbt))), ((hs_n (by omega)).trans ((hs_n (by omega)).trans ((hs_n (by omega)).trans hnv))), ((hs_n (by omega)).trans ((hs_n (by omega)).trans ((hs_n (by omega)).trans h130))), ((hs_n (by omega)).trans ((hs_n (by omega)).trans ((hs_n (by omega)).trans h131))), ((hs_n (by omega)).trans ((hs_n (by omega)).trans ((hs_n (by omega)).trans h132))), ((hs_n (by omega)).trans ((hs_n (by omega)).trans ((hs_n (by omega)).trans h133))), ((hs_n (by omega)).trans ((hs_n (by omega)).trans hs_e)), ((hs_n (by omega)).trans hs_e), ((hs_n (by omega)).trans ((hs_n (by omega)).trans ((hs_n (by omega)).trans h136))), ((hs_n (by omega)).trans ((hs_n (by omega)).trans ((hs_n (by omega)).trans h137))), ((hs_n (by omega)).trans ((hs_n (by omega)).trans ((hs_n (by omega)).trans h138))), ((hs_n (by omega)).trans ((hs_n (by omega)).trans ((hs_n (by omega)).trans h139))), ((hs_n (by omega)).trans ((hs_n (by omega)).trans ((hs_n (by omega)).trans h140))), ((hs_n (by omega)).trans ((hs_n (by omega)).trans ((hs_n (by omega)).trans h141))), ((hs_n (by omega)).trans ((hs_n (by omega)).trans ((hs_n (by omega)).trans h142))), ((hs_n (by omega)).trans ((hs_n (by omega)).trans ((hs_n (by omega)).trans h143))), ((hs_n (by omega)).trans ((hs_n (by omega)).trans ((hs_n (by omega)).trans h144))), ((hs_n (by omega)).trans ((hs_n (by omega)).trans ((hs_n (by omega)).trans h145))), hMR, hlN, hbb, hPr, hs40, hvb⟩ (fun a9 h9 => ((hs_n (by omega)).trans ((hs_n (by omega)).trans ((hs_n (by omega)).trans rfl))))
            · refine r_aload_n dX11_round_63 rfl rfl ?_
              refine gf_X11_175 dX11_round_64 (by omega) hs_e rfl ?_
              refine r_goto 78 dX11_round_67 (by decide) ?_
              refine r_ireturn hq dX11_round_78 rfl rfl rfl ?_
              refine hQ _ _ (Or.inr ⟨by omega, by omega, by omega, by omega, by omega, by omega, Or.inl ⟨un, ln9, hrn, hul, by rw [if_neg (by omega), if_pos (by omega)]⟩⟩) ⟨_, _, _, _, _, _, _, _, _, _, _, _, _, _, _, _, _, _, _, _, _, _, _, _, _, _, hs_e, ((hs_n (by omega)).trans ((hs_n (by omega)).trans ((hs_n (by omega)).trans hom))), ((hs_n (by omega)).trans ((hs_n (by omega)).trans ((hs_n (by omega)).trans hml))), ((hs_n (by omega)).trans ((hs_n (by omega)).trans ((hs_n (by omega)).trans hms))), ((hs_n (by omega)).trans ((hs_n (by omega)).trans ((hs_n (by omega)).trans hbt))), ((hs_n (by omega)).trans ((hs_n (by omega)).trans ((hs_n (by omega)).trans hnv))), ((hs_n (by omega)).trans ((hs_n (by omega)).trans ((hs_n (by omega)).trans h130))), ((hs_n (by omega)).trans ((hs_n (by omega)).trans ((hs_n (by omega)).trans h131))), ((hs_n (by omega)).trans ((hs_n (by omega)).trans ((hs_n (by omega)).trans h132))), ((hs_n (by omega)).trans ((hs_n (by omega)).trans ((hs_n (by omega)).trans h133))), ((hs_n (by omega)).trans ((hs_n (by omega)).trans hs_e)), ((hs_n (by omega)).trans hs_e), ((hs_n (by omega)).trans ((hs_n (by omega)).trans ((hs_n (by omega)).trans h136))), ((hs_n (by omega)).trans ((hs_n (by omega)).trans ((hs_n (by omega)).trans h137))), ((hs_n (by omega)).trans ((hs_n (by omega)).trans ((hs_n (by omega)).trans h138))), ((hs_n (by omega)).trans ((hs_n (by omega)).trans ((hs_n (by omega)).trans h139))), ((hs_n (by omega)).trans ((hs_n (by omega)).trans ((hs_n (by omega)).trans h140))), ((hs_n (by omega)).trans ((hs_n (by omega)).trans ((hs_n (by omega)).trans h141))), ((hs_n (by omega)).trans ((hs_n (by omega)).trans ((hs_n (by omega)).trans h142))), ((hs_n (by omega)).trans ((hs_n (by omega)).trans ((hs_n (by omega)).trans h143))), ((hs_n (by omega)).trans ((hs_n (by omega)).trans ((hs_n (by omega)).trans h144))), ((hs_n (by omega)).trans ((hs_n (by omega)).trans ((hs_n (by omega)).trans h145))), hMR, hlN, hbb, hPr, hs40, hvb⟩ (fun a9 h9 => ((hs_n (by omega)).trans ((hs_n (by omega)).trans ((hs_n (by omega)).trans rfl))))
          · refine r_aload_n dX11_round_51 rfl rfl ?_
            refine gf_X11_182 dX11_round_52 (by omega) hs_e rfl ?_
            refine r_goto 78 dX11_round_55 (by decide) ?_
            refine r_ireturn hq dX11_round_78 rfl rfl rfl ?_
            refine hQ _ _ (Or.inr ⟨by omega, by omega, by omega, by omega, by omega, by omega, Or.inl ⟨un, ln9, hrn, hul, by rw [if_pos (by omega)]⟩⟩) ⟨_, _, _, _, _, _, _, _, _, _, _, _, _, _, _, _, _, _, _, _, _, _, _, _, _, _, hs_e, ((hs_n (by omega)).trans ((hs_n (by omega)).trans ((hs_n (by omega)).trans hom))), ((hs_n (by omega)).trans ((hs_n (by omega)).trans ((hs_n (by omega)).trans hml))), ((hs_n (by omega)).trans ((hs_n (by omega)).trans ((hs_n (by omega)).trans hms))), ((hs_n (by omega)).trans ((hs_n (by omega)).trans ((hs_n (by omega)).trans hbt))), ((hs_n (by omega)).trans ((hs_n (by omega)).trans ((hs_n (by omega)).trans hnv))), ((hs_n (by omega)).trans ((hs_n (by omega)).trans ((hs_n (by omega)).trans h130))), ((hs_n (by omega)).trans ((hs_n (by omega)).trans ((hs_n (by omega)).trans h131))), ((hs_n (by omega)).trans ((hs_n (by omega)).trans ((hs_n (by omega)).trans h132))), ((hs_n (by omega)).trans ((hs_n (by omega)).trans ((hs_n (by omega)).trans h133))), ((hs_n (by omega)).trans ((hs_n (by omega)).trans hs_e)), ((hs_n (by omega)).trans hs_e), ((hs_n (by omega)).trans ((hs_n (by omega)).trans ((hs_n (by omega)).trans h136))), ((hs_n (by omega)).trans ((hs_n (by omega)).trans ((hs_n (by omega)).trans h137))), ((hs_n (by omega)).trans ((hs_n (by omega)).trans ((hs_n (by omega)).trans h138))), ((hs_n (by omega)).trans ((hs_n (by omega)).trans ((hs_n (by omega)).trans h139))), ((hs_n (by omega)).trans ((hs_n (by omega)).trans ((hs_n (by omega)).trans h140))), ((hs_n (by omega)).trans ((hs_n (by omega)).trans ((hs_n (by omega)).trans h141))), ((hs_n (by omega)).trans ((hs_n (by omega)).trans ((hs_n (by omega)).trans h142))), ((hs_n (by omega)).trans ((hs_n (by omega)).trans ((hs_n (by omega)).trans h143))), ((hs_n (by omega)).trans ((hs_n (by omega)).trans ((hs_n (by omega)).trans h144))), ((hs_n (by omega)).trans ((hs_n (by omega)).trans ((hs_n (by omega)).trans h145))), hMR, hlN, hbb, hPr, hs40, hvb⟩ (fun a9 h9 => ((hs_n (by omega)).trans ((hs_n (by omega)).trans ((hs_n (by omega)).trans rfl))))
        · refine r_bipush (z := -5) dX11_round_44 (by decide) ?_
          refine r_ireturn hq dX11_round_46 rfl rfl rfl ?_
          refine hQ _ _ (Or.inr ⟨by omega, by omega, by omega, by omega, by omega, by omega, Or.inr ⟨by rcases hR38 with ⟨y, _⟩ | ⟨_, y⟩; omega; exact y, rfl⟩⟩) ⟨_, _, _, _, _, _, _, _, _, _, _, _, _, _, _, _, _, _, _, _, _, _, _, _, _, _, hs_e, ((hs_n (by omega)).trans ((hs_n (by omega)).trans ((hs_n (by omega)).trans hom))), ((hs_n (by omega)).trans ((hs_n (by omega)).trans ((hs_n (by omega)).trans hml))), ((hs_n (by omega)).trans ((hs_n (by omega)).trans ((hs_n (by omega)).trans hms))), ((hs_n (by omega)).trans ((hs_n (by omega)).trans ((hs_n (by omega)).trans hbt))), ((hs_n (by omega)).trans ((hs_n (by omega)).trans ((hs_n (by omega)).trans hnv))), ((hs_n (by omega)).trans ((hs_n (by omega)).trans ((hs_n (by omega)).trans h130))), ((hs_n (by omega)).trans ((hs_n (by omega)).trans ((hs_n (by omega)).trans h131))), ((hs_n (by omega)).trans ((hs_n (by omega)).trans ((hs_n (by omega)).trans h132))), ((hs_n (by omega)).trans ((hs_n (by omega)).trans ((hs_n (by omega)).trans h133))), ((hs_n (by omega)).trans ((hs_n (by omega)).trans hs_e)), ((hs_n (by omega)).trans hs_e), ((hs_n (by omega)).trans ((hs_n (by omega)).trans ((hs_n (by omega)).trans h136))), ((hs_n (by omega)).trans ((hs_n (by omega)).trans ((hs_n (by omega)).trans h137))), ((hs_n (by omega)).trans ((hs_n (by omega)).trans ((hs_n (by omega)).trans h138))), ((hs_n (by omega)).trans ((hs_n (by omega)).trans ((hs_n (by omega)).trans h139))), ((hs_n (by omega)).trans ((hs_n (by omega)).trans ((hs_n (by omega)).trans h140))), ((hs_n (by omega)).trans ((hs_n (by omega)).trans ((hs_n (by omega)).trans h141))), ((hs_n (by omega)).trans ((hs_n (by omega)).trans ((hs_n (by omega)).trans h142))), ((hs_n (by omega)).trans ((hs_n (by omega)).trans ((hs_n (by omega)).trans h143))), ((hs_n (by omega)).trans ((hs_n (by omega)).trans ((hs_n (by omega)).trans h144))), ((hs_n (by omega)).trans ((hs_n (by omega)).trans ((hs_n (by omega)).trans h145))), hMR, hlN, hbb, hPr, hs40, hvb⟩ (fun a9 h9 => ((hs_n (by omega)).trans ((hs_n (by omega)).trans ((hs_n (by omega)).trans rfl))))
      · refine r_iconst (z := -1) dX11_round_33 ?_
        refine r_ireturn hq dX11_round_34 rfl rfl rfl ?_
        exact hQ _ h (Or.inl ⟨by omega, rfl⟩) hI (fun _ _ => rfl)
set_option maxHeartbeats 2000000 in
set_option maxRecDepth 20000 in
theorem c_X11_first {N : Nat} {h : Hp} {Q : QP} {tb : Nat → Int} {ln : Nat} {K : Nat → Nat} {C S : Nat → Nat → Int} {p : Int} {vs : Nat → Int} {sz : Nat} {i m w : Int} (hI : MDI h tb ln K C S p vs sz) (hN : 146 ≤ N) (hi : rI i) (hm : rI m) (hw : rI w) (hQ : ∀ (r : Int) (h2 : Hp), SPfirst i m w K C S r → MDI h2 tb ln K C S p vs sz → OUTM h h2 → Q (some (.int (iZ r))) N h2) : Runs mX11_first [.ref (124), .int (iZ (i)), .int (iZ (m)), .int (iZ (w))] N h Q := by
  obtain ⟨at_, wr, va, em, ta, ro, dg, om, ml, ms, a130, a131, a132, a133, a134, a135, a136, a137, a138, a139, a140, a141, a142, a143, a144, a145, hm0, hom, hml, hms, hbt, hnv, h130, h131, h132, h133, h134, h135, h136, h137, h138, h139, h140, h141, h142, h143, h144, h145, hMR, hlN, hbb, hPr, hs40, hvb⟩ := id hI
  have hl0 : 0 ≤ (ln : Int) := by omega
  have hl : (ln : Int) ≤ 100 := by omega
  have hm1 := hm.1
  have hm2 := hm.2
  have hw1 := hw.1
  have hw2 := hw.2
  refine run_start (own := RX11) rfl (by decide) (nle rfl) rfl (fun X hq hini => ?_)
  show G X RX11 cX11_first mX11_first.rm N 0 0 0 [some (.ref (124)), some (.int (iZ (i))), some (.int (iZ (m))), some (.int (iZ (w)))] [] h
  refine r_iload_n dX11_first_0 rfl rfl ?_
  refine r_callS (av := [.int (iZ (i))]) dX11_first_1 lkX11_isReg ml_X11_127 stX11_isReg ⟨Nat.le_of_ble_eq_true rfl, Nat.le_of_ble_eq_true rfl⟩ rfl rfl (nle rfl) ⟨Nat.le_of_ble_eq_true rfl, Nat.le_of_ble_eq_true rfl⟩ (c_X11_isReg (x := i) hi (fun b1 hb1 => ?_))
  show G _ _ _ _ _ _ _ 4 _ _ _
  refine r_if_eq 34 dX11_first_4 (by decide) (by rcases hb1 with ⟨y, _⟩ | ⟨y, _⟩ <;> exact ⟨by omega, by omega⟩) (fun c_4 => ?_) (fun c_4 => ?_)
  · refine r_iconst (z := -1) dX11_first_34 ?_
    refine r_ireturn hq dX11_first_35 rfl rfl rfl ?_
    exact hQ _ h (Or.inl ⟨by omega, rfl⟩) hI (fun _ _ => rfl)
  · refine r_iload_n dX11_first_7 rfl rfl ?_
    refine r_i2l dX11_first_8 ⟨by omega, by omega⟩ ?_
    refine r_ldc2 (z := 2) dX11_first_9 kc_X11_134 ?_
    refine r_ldc2 (z := 1000) dX11_first_12 kc_X11_186 ?_
    refine r_callS (av := [.long (lZ (m)), .long (lZ (2)), .long (lZ (1000))]) dX11_first_15 lkX11_in ml_X11_80 stX11_in ⟨Nat.le_of_ble_eq_true rfl, Nat.le_of_ble_eq_true rfl⟩ rfl rfl (nle rfl) ⟨Nat.le_of_ble_eq_true rfl, Nat.le_of_ble_eq_true rfl⟩ (c_X11_in (x := m) (l := 2) (m := 1000) ⟨by omega, by omega⟩ ⟨by decide, by decide⟩ ⟨by decide, by decide⟩ (fun b15 hb15 => ?_))
    show G _ _ _ _ _ _ _ 18 _ _ _
    refine r_if_eq 34 dX11_first_18 (by decide) (by rcases hb15 with ⟨y, _⟩ | ⟨y, _⟩ <;> exact ⟨by omega, by omega⟩) (fun c_18 => ?_) (fun c_18 => ?_)
    · refine r_iconst (z := -1) dX11_first_34 ?_
      refine r_ireturn hq dX11_first_35 rfl rfl rfl ?_
      exact hQ _ h (Or.inl ⟨by omega, rfl⟩) hI (fun _ _ => rfl)
    · refine r_iload_n dX11_first_21 rfl rfl ?_
      refine r_i2l dX11_first_22 ⟨by omega, by omega⟩ ?_
      refine r_lconst (z := 0) dX11_first_23 (by decide) ?_
      refine r_iload_n dX11_first_24 rfl rfl ?_
      refine r_iconst (z := 1) dX11_first_25 ?_
      refine r_isub dX11_first_26 ?_
      refine r_i2l dX11_first_27 ⟨by omega, by omega⟩ ?_
      refine r_callS (av := [.long (lZ (w)), .long (lZ (0)), .long (lZ (m - 1))]) dX11_first_28 lkX11_in ml_X11_80 stX11_in ⟨Nat.le_of_ble_eq_true rfl, Nat.le_of_ble_eq_true rfl⟩ rfl rfl (nle rfl) ⟨Nat.le_of_ble_eq_true rfl, Nat.le_of_ble_eq_true rfl⟩ (c_X11_in (x := w) (l := 0) (m := m - 1) ⟨by omega, by omega⟩ ⟨by decide, by decide⟩ ⟨by omega, by omega⟩ (fun b28 hb28 => ?_))
      show G _ _ _ _ _ _ _ 31 _ _ _
      refine r_if_ne 36 dX11_first_31 (by decide) (by rcases hb28 with ⟨y, _⟩ | ⟨y, _⟩ <;> exact ⟨by omega, by omega⟩) (fun c_31 => ?_) (fun c_31 => ?_)
      · refine r_aload_n dX11_first_36 rfl rfl ?_
        refine r_iload_n dX11_first_37 rfl rfl ?_
        refine r_iload_n dX11_first_38 rfl rfl ?_
        refine r_callV (av := [.int (iZ (i)), .int (iZ (m))]) dX11_first_39 lkX11_layRound ml_X11_188 imX11_layRound seX11_layRound (by omega) (rfl : vwCl[11]? = _) ⟨_, hm0⟩ ⟨Nat.le_of_ble_eq_true rfl, Nat.le_of_ble_eq_true rfl⟩ rfl rfl (nle rfl) ⟨Nat.le_of_ble_eq_true rfl, Nat.le_of_ble_eq_true rfl⟩ (c_X11_layRound (r := i.toNat) (k := (K i.toNat)) (c := (C i.toNat)) (s := (S i.toNat)) (om := om) (ml := ml) (ms := ms) (fs := a134) (ff := a135) (m := m) (ln := (ln : Int)) (pr := p) (nm := (sz : Int)) (at_ := at_) (wr := wr) (va := va) (em := em) (ta := ta) (ro := ro) (dg := dg) hm0 hN hom hml hms (hMR i.toNat (by omega)).1 (by omega) (by omega) h134 h135 (by omega) (by omega) (fun ok39 ta39 ro39 fs39 ff39 hok39 hR39 => ?_))
        show G _ _ _ _ _ _ _ 42 _ _ _
        refine r_if_eq 56 dX11_first_42 (by decide) (by rcases hok39 with y | y <;> exact ⟨by omega, by omega⟩) (fun c_42 => ?_) (fun c_42 => ?_)
        · refine r_bipush (z := -5) dX11_first_56 (by decide) ?_
          refine r_ireturn hq dX11_first_58 rfl rfl rfl ?_
          refine hQ _ _ (Or.inr ⟨by omega, by omega, by omega, by omega, by omega, by omega, Or.inr ⟨by rcases hR39 with ⟨y, _⟩ | ⟨_, y⟩; omega; exact y, rfl⟩⟩) ⟨_, _, _, _, _, _, _, _, _, _, _, _, _, _, _, _, _, _, _, _, _, _, _, _, _, _, hs_e, ((hs_n (by omega)).trans ((hs_n (by omega)).trans ((hs_n (by omega)).trans hom))), ((hs_n (by omega)).trans ((hs_n (by omega)).trans ((hs_n (by omega)).trans hml))), ((hs_n (by omega)).trans ((hs_n (by omega)).trans ((hs_n (by omega)).trans hms))), ((hs_n (by omega)).trans ((hs_n (by omega)).trans ((hs_n (by omega)).trans hbt))), ((hs_n (by omega)).trans ((hs_n (by omega)).trans ((hs_n (by omega)).trans hnv))), ((hs_n (by omega)).trans ((hs_n (by omega)).trans ((hs_n (by omega)).trans h130))), ((hs_n (by omega)).trans ((hs_n (by omega)).trans ((hs_n (by omega)).trans h131))), ((hs_n (by omega)).trans ((hs_n (by omega)).trans ((hs_n (by omega)).trans h132))), ((hs_n (by omega)).trans ((hs_n (by omega)).trans ((hs_n (by omega)).trans h133))), ((hs_n (by omega)).trans ((hs_n (by omega)).trans hs_e)), ((hs_n (by omega)).trans hs_e), ((hs_n (by omega)).trans ((hs_n (by omega)).trans ((hs_n (by omega)).trans h136))), ((hs_n (by omega)).trans ((hs_n (by omega)).trans ((hs_n (by omega)).trans h137))), ((hs_n (by omega)).trans ((hs_n (by omega)).trans ((hs_n (by omega)).trans h138))), ((hs_n (by omega)).trans ((hs_n (by omega)).trans ((hs_n (by omega)).trans h139))), ((hs_n (by omega)).trans ((hs_n (by omega)).trans ((hs_n (by omega)).trans h140))), ((hs_n (by omega)).trans ((hs_n (by omega)).trans ((hs_n (by omega)).trans h141))), ((hs_n (by omega)).trans ((hs_n (by omega)).trans ((hs_n (by omega)).trans h142))), ((hs_n (by omega)).trans ((hs_n (by omega)).trans ((hs_n (by omega)).trans h143))), ((hs_n (by omega)).trans ((hs_n (by omega)).trans ((hs_n (by omega)).trans h144))), ((hs_n (by omega)).trans ((hs_n (by omega)).trans ((hs_n (by omega)).trans h145))), hMR, hlN, hbb, hPr, hs40, hvb⟩ (fun a9 h9 => ((hs_n (by omega)).trans ((hs_n (by omega)).trans ((hs_n (by omega)).trans rfl))))
        · obtain ⟨un, ln9, hrn, hul, eu9, el9⟩ : ∃ un ln9 : Nat, RND (K i.toNat) (rs (K i.toNat) (C i.toNat) (S i.toNat) m) un ln9 ∧ un + ln9 ≤ 100000 ∧ ta39 = (un : Int) ∧ ro39 = (ln9 : Int) := by
            rcases hR39 with ⟨_, y⟩ | ⟨y, _⟩
            · exact y
            · exact absurd y c_42
          subst eu9
          subst el9
          refine r_aload_n dX11_first_45 rfl rfl ?_
          refine r_iload_n dX11_first_46 rfl rfl ?_
          refine r_iload_n dX11_first_47 rfl rfl ?_
          refine r_iload_n dX11_first_48 rfl rfl ?_
          refine r_iconst (z := 1) dX11_first_49 ?_
          refine r_callV (av := [.int (iZ (i)), .int (iZ (m)), .int (iZ (w)), .int (iZ (1))]) dX11_first_50 lkX11_lookFor ml_X11_192 imX11_lookFor seX11_lookFor (by omega) (rfl : vwCl[11]? = _) ⟨_, hs_e⟩ ⟨Nat.le_of_ble_eq_true rfl, Nat.le_of_ble_eq_true rfl⟩ rfl rfl (nle rfl) ⟨Nat.le_of_ble_eq_true rfl, Nat.le_of_ble_eq_true rfl⟩ (c_X11_lookFor1 (r := i.toNat) (k := (K i.toNat)) (c := (C i.toNat)) (s := (S i.toNat)) (un := un) (ln9 := ln9) (om := om) (ml := ml) (ms := ms) (fs := fs39) (m := m) (v := w) (ta := 0) (ro := 0) (ln := (ln : Int)) (pr := p) (nm := (sz : Int)) (at_ := at_) (wr := wr) (va := va) (em := em) (dg := dg) hs_e hN ((hs_n (by omega)).trans ((hs_n (by omega)).trans ((hs_n (by omega)).trans hom))) ((hs_n (by omega)).trans ((hs_n (by omega)).trans ((hs_n (by omega)).trans hml))) ((hs_n (by omega)).trans ((hs_n (by omega)).trans ((hs_n (by omega)).trans hms))) (hMR i.toNat (by omega)).1 (by omega) (by omega) ((hs_n (by omega)).trans ((hs_n (by omega)).trans hs_e)) (by omega) (by omega) hul ⟨by omega, by omega⟩ (fun z50 fl50 hz50 => ?_))
          refine g_heap (h2 := (hs (hs (hs h (134) (aL 6 (fl50))) (135) (aL 6 (ff39))) (124) (MOo ((ln : Int)) (p) ((sz : Int)) (at_) (wr) (va) (em) ((un : Int)) ((ln9 : Int)) (dg)))) (hs_put (by omega) (hs_put (by omega) hs_hs)) ?_
          show G _ _ _ _ _ _ _ 53 _ _ _
          refine r_goto 58 dX11_first_53 (by decide) ?_
          refine r_ireturn hq dX11_first_58 rfl rfl rfl ?_
          refine hQ _ _ (Or.inr ⟨by omega, by omega, by omega, by omega, by omega, by omega, Or.inl ⟨un, ln9, hrn, hul, hz50⟩⟩) ⟨_, _, _, _, _, _, _, _, _, _, _, _, _, _, _, _, _, _, _, _, _, _, _, _, _, _, hs_e, ((hs_n (by omega)).trans ((hs_n (by omega)).trans ((hs_n (by omega)).trans hom))), ((hs_n (by omega)).trans ((hs_n (by omega)).trans ((hs_n (by omega)).trans hml))), ((hs_n (by omega)).trans ((hs_n (by omega)).trans ((hs_n (by omega)).trans hms))), ((hs_n (by omega)).trans ((hs_n (by omega)).trans ((hs_n (by omega)).trans hbt))), ((hs_n (by omega)).trans ((hs_n (by omega)).trans ((hs_n (by omega)).trans hnv))), ((hs_n (by omega)).trans ((hs_n (by omega)).trans ((hs_n (by omega)).trans h130))), ((hs_n (by omega)).trans ((hs_n (by omega)).trans ((hs_n (by omega)).trans h131))), ((hs_n (by omega)).trans ((hs_n (by omega)).trans ((hs_n (by omega)).trans h132))), ((hs_n (by omega)).trans ((hs_n (by omega)).trans ((hs_n (by omega)).trans h133))), ((hs_n (by omega)).trans ((hs_n (by omega)).trans hs_e)), ((hs_n (by omega)).trans hs_e), ((hs_n (by omega)).trans ((hs_n (by omega)).trans ((hs_n (by omega)).trans h136))), ((hs_n (by omega)).trans ((hs_n (by omega)).trans ((hs_n (by omega)).trans h137))), ((hs_n (by omega)).trans ((hs_n (by omega)).trans ((hs_n (by omega)).trans h138))), ((hs_n (by omega)).trans ((hs_n (by omega)).trans ((hs_n (by omega)).trans h139))), ((hs_n (by omega)).trans ((hs_n (by omega)).trans ((hs_n (by omega)).trans h140))), ((hs_n (by omega)).trans ((hs_n (by omega)).trans ((hs_n (by omega)).trans h141))), ((hs_n (by omega)).trans ((hs_n (by omega)).trans ((hs_n (by omega)).trans h142))), ((hs_n (by omega)).trans ((hs_n (by omega)).trans ((hs_n (by omega)).trans h143))), ((hs_n (by omega)).trans ((hs_n (by omega)).trans ((hs_n (by omega)).trans h144))), ((hs_n (by omega)).trans ((hs_n (by omega)).trans ((hs_n (by omega)).trans h145))), hMR, hlN, hbb, hPr, hs40, hvb⟩ (fun a9 h9 => ((hs_n (by omega)).trans ((hs_n (by omega)).trans ((hs_n (by omega)).trans rfl))))
      · refine r_iconst (z := -1) dX11_first_34 ?_
        refine r_ireturn hq dX11_first_35 rfl rfl rfl ?_
        exact hQ _ h (Or.inl ⟨by omega, rfl⟩) hI (fun _ _ => rfl)
