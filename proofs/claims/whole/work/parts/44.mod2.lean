set_option maxHeartbeats 2000000 in
set_option maxRecDepth 20000 in
theorem c_X11_wipe {N : Nat} {h : Hp} {Q : QP} {ln pr nm at_ wr va em ta ro dg : Int} (hm0 : h 124 = MOo ln pr nm at_ wr va em ta ro dg) (hN : 146 ≤ N) (hQ : Q (some (.int (iZ ln))) N (hs h 124 (MOo 0 pr nm at_ wr va em ta ro dg))) : Runs mX11_wipe [.ref (124)] N h Q := by
  refine run_start (own := RX11) rfl (by decide) (nle rfl) rfl (fun X hq hini => ?_)
  show G X RX11 cX11_wipe mX11_wipe.rm N 0 0 0 [some (.ref (124)), none] [] h
  refine r_aload_n dX11_wipe_0 rfl rfl ?_
  refine gf_X11_90 dX11_wipe_1 (by omega) hm0 rfl ?_
  refine r_istore_n (L2 := [_, _]) dX11_wipe_4 rfl (nlt rfl) rfl ?_
  refine r_aload_n dX11_wipe_5 rfl rfl ?_
  refine r_iconst (z := 0) dX11_wipe_6 ?_
  refine pf_X11_90 (fs2 := [_, _, _, _, _, _, _, _, _, _, _, _, _, _, _, _, _, _, _, _, _, _, _, _, _, _, _, _, _, _, _]) dX11_wipe_7 (fun _ _ => rfl) (fun _ _ => rfl) (nlt rfl) (by omega) hm0 rfl ?_
  refine r_iload_n dX11_wipe_10 rfl rfl ?_
  refine r_ireturn hq dX11_wipe_11 rfl rfl rfl ?_
  exact hQ
set_option maxHeartbeats 2000000 in
set_option maxRecDepth 20000 in
theorem c_X11_isFigure {N : Nat} {h : Hp} {Q : QP} {ln pr nm at_ wr va em ta ro dg : Int} {x : Int} {b : Nat → Int} (hm0 : h 124 = MOo ln pr nm at_ wr va em ta ro dg) (hN : 146 ≤ N) (hbt : h 128 = aI 100 b) (hbb : ∀ j, j < 100 → 0 ≤ b j ∧ b j ≤ 255) (hl0 : 0 ≤ ln) (hl : ln ≤ 100) (hx0 : 0 ≤ x) (hx : x ≤ 1000) (hQ : ∀ z : Int, (z = 1 ∧ Fig ln b x ∨ z = 0 ∧ ¬ Fig ln b x) → Q (some (.int (iZ z))) N h) : Runs mX11_isFigure [.ref (124), .int (iZ (x))] N h Q := by
  refine run_start (own := RX11) rfl (by decide) (nle rfl) rfl (fun X hq hini => ?_)
  show G X RX11 cX11_isFigure mX11_isFigure.rm N 0 0 0 [some (.ref (124)), some (.int (iZ (x)))] [] h
  refine r_iload_n dX11_isFigure_0 rfl rfl ?_
  refine r_aload_n dX11_isFigure_1 rfl rfl ?_
  refine gf_X11_90 dX11_isFigure_2 (by omega) hm0 rfl ?_
  refine r_icmp_ge 31 dX11_isFigure_5 (by decide) ⟨by omega, by omega⟩ ⟨by omega, by omega⟩ (fun c_5 => ?_) (fun c_5 => ?_)
  · refine r_iconst (z := 0) dX11_isFigure_31 ?_
    refine r_zreturn hq dX11_isFigure_32 rfl (by decide) rfl rfl ?_
    exact hQ _ (Or.inr ⟨rfl, fun q => by have := q.1; have := q.2.1; have := q.2.2; omega⟩)
  · refine r_aload_n dX11_isFigure_8 rfl rfl ?_
    refine gf_X11_20 dX11_isFigure_9 (by omega) hm0 rfl ?_
    refine r_iload_n dX11_isFigure_12 rfl rfl ?_
    refine r_iaload dX11_isFigure_13 (by omega) hbt (by omega) (by omega) (by decide) ?_
    have b_13 := hbb (x).toNat (by omega)
    refine r_i2l dX11_isFigure_14 ⟨by omega, by omega⟩ ?_
    refine r_ldc2 (z := 48) dX11_isFigure_15 kc_X11_95 ?_
    refine r_ldc2 (z := 57) dX11_isFigure_18 kc_X11_97 ?_
    refine r_callS (av := [.long (lZ (b (x).toNat)), .long (lZ (48)), .long (lZ (57))]) dX11_isFigure_21 lkX11_in ml_X11_80 stX11_in ⟨Nat.le_of_ble_eq_true rfl, Nat.le_of_ble_eq_true rfl⟩ rfl rfl (nle rfl) ⟨Nat.le_of_ble_eq_true rfl, Nat.le_of_ble_eq_true rfl⟩ (c_X11_in (x := b (x).toNat) (l := 48) (m := 57) ⟨by omega, by omega⟩ ⟨by decide, by decide⟩ ⟨by decide, by decide⟩ (fun b21 hb21 => ?_))
    show G _ _ _ _ _ _ _ 24 _ _ _
    refine r_if_eq 31 dX11_isFigure_24 (by decide) (by rcases hb21 with ⟨y, _⟩ | ⟨y, _⟩ <;> exact ⟨by omega, by omega⟩) (fun c_24 => ?_) (fun c_24 => ?_)
    · refine r_iconst (z := 0) dX11_isFigure_31 ?_
      refine r_zreturn hq dX11_isFigure_32 rfl (by decide) rfl rfl ?_
      exact hQ _ (Or.inr ⟨rfl, fun q => by have := q.1; have := q.2.1; have := q.2.2; omega⟩)
    · refine r_iconst (z := 1) dX11_isFigure_27 ?_
      refine r_goto 32 dX11_isFigure_28 (by decide) ?_
      refine r_zreturn hq dX11_isFigure_32 rfl (by decide) rfl rfl ?_
      exact hQ _ (Or.inl ⟨rfl, by omega, by omega, by omega⟩)
set_option maxHeartbeats 4000000 in
set_option maxRecDepth 20000 in
theorem c_X11_number {N : Nat} {h : Hp} {Q : QP} {ln pr nm at_ wr va em ta ro dg : Int} {most : Int} {b : Nat → Int} (hm0 : h 124 = MOo ln pr nm at_ wr va em ta ro dg) (hN : 146 ≤ N) (hbt : h 128 = aI 100 b) (hbb : ∀ j, j < 100 → 0 ≤ b j ∧ b j ≤ 255) (hl0 : 0 ≤ ln) (hl : ln ≤ 100) (ha0 : 0 ≤ at_) (ha : at_ ≤ ln) (hm1 : 0 ≤ most) (hm2 : most ≤ 1000000) (hQ : ∀ (z w v e at2 wr2 va2 : Int), NumR ln b at_ most w v e → (z = 0 ∧ w ≠ -4 ∧ wr2 = w ∨ z = 1 ∧ w = -4 ∧ va2 = v ∧ at2 = e) → Q (some (.int (iZ z))) N (hs h 124 (MOo ln pr nm at2 wr2 va2 em ta ro dg))) : Runs mX11_number [.ref (124), .long (lZ (most))] N h Q := by
  refine run_start (own := RX11) rfl (by decide) (nle rfl) rfl (fun X hq hini => ?_)
  show G X RX11 cX11_number mX11_number.rm N 0 0 0 [some (.ref (124)), some (.long (lZ (most))), none, none, none, none] [] h
  refine r_aload_n dX11_number_0 rfl rfl ?_
  refine gf_X11_99 dX11_number_1 (by omega) hm0 rfl ?_
  refine r_istore_n (L2 := [_, _, none, _, none, none]) dX11_number_4 rfl (nlt rfl) rfl ?_
  refine r_aload_n dX11_number_5 rfl rfl ?_
  refine gf_X11_99 dX11_number_6 (by omega) hm0 rfl ?_
  refine r_aload_n dX11_number_9 rfl rfl ?_
  refine gf_X11_90 dX11_number_10 (by omega) hm0 rfl ?_
  refine r_icmp_ge 34 dX11_number_13 (by decide) ⟨by omega, by omega⟩ ⟨by omega, by omega⟩ (fun c_13 => ?_) (fun c_13 => ?_)
  · refine r_iconst (z := 0) dX11_number_34 ?_
    refine r_istore (L2 := [_, _, none, _, _, none]) dX11_number_35 (nlt rfl) rfl ?_
    refine r_aload_n dX11_number_37 rfl rfl ?_
    refine r_dup dX11_number_38 rfl ?_
    refine gf_X11_99 dX11_number_39 (by omega) hm0 rfl ?_
    refine r_iload dX11_number_42 rfl ?_
    refine r_if_eq 51 dX11_number_44 (by decide) ⟨by decide, by decide⟩ (fun c_44 => ?_) (fun c_44 => by exfalso; omega)
    refine r_iconst (z := 0) dX11_number_51 ?_
    refine r_iadd dX11_number_52 ?_
    refine pf_X11_99 (fs2 := [_, _, _, _, _, _, _, _, _, _, _, _, _, _, _, _, _, _, _, _, _, _, _, _, _, _, _, _, _, _, _]) dX11_number_53 (fun _ _ => rfl) (fun _ _ => rfl) (nlt rfl) (by omega) hm0 rfl ?_
    refine r_aload_n dX11_number_56 rfl rfl ?_
    refine r_aload_n dX11_number_57 rfl rfl ?_
    refine gf_X11_99 dX11_number_58 (by omega) hs_e rfl ?_
    refine r_callV (av := [.int (iZ (at_ + 0))]) dX11_number_61 lkX11_isFigure ml_X11_102 imX11_isFigure seX11_isFigure (by omega) (rfl : vwCl[11]? = _) ⟨_, hs_e⟩ ⟨Nat.le_of_ble_eq_true rfl, Nat.le_of_ble_eq_true rfl⟩ rfl rfl (nle rfl) ⟨Nat.le_of_ble_eq_true rfl, Nat.le_of_ble_eq_true rfl⟩ (c_X11_isFigure (x := at_ + 0) (b := b) (ln := ln) (pr := pr) (nm := nm) (at_ := at_ + 0) (wr := wr) (va := va) (em := em) (ta := ta) (ro := ro) (dg := dg) hs_e hN ((hs_n (by omega)).trans hbt) hbb hl0 hl (by omega) (by omega) (fun b61 hb61 => ?_))
    show G _ _ _ _ _ _ _ 64 _ _ _
    refine r_if_eq 86 dX11_number_64 (by decide) (by rcases hb61 with ⟨y, _⟩ | ⟨y, _⟩ <;> exact ⟨by omega, by omega⟩) (fun c_64 => ?_) (fun c_64 => ?_)
    · refine r_aload_n dX11_number_86 rfl rfl ?_
      refine r_aload_n dX11_number_87 rfl rfl ?_
      refine gf_X11_99 dX11_number_88 (by omega) hs_e rfl ?_
      refine pf_X11_106 (fs2 := [_, _, _, _, _, _, _, _, _, _, _, _, _, _, _, _, _, _, _, _, _, _, _, _, _, _, _, _, _, _, _]) dX11_number_91 (fun _ _ => rfl) (fun _ _ => rfl) (nlt rfl) (by omega) hs_e rfl ?_
      refine g_heap (h2 := (hs h (124) (MOo (ln) (pr) (nm) (at_ + 0) (at_ + 0) (va) (em) (ta) (ro) (dg)))) hs_hs ?_
      refine r_iconst (z := 0) dX11_number_94 ?_
      refine r_zreturn hq dX11_number_95 rfl (by decide) rfl rfl ?_
      exact hQ 0 (at_ + 0) 0 0 _ _ _ ⟨_, (Or.inr ⟨fun q => by have := q.1; have := q.2; omega, by omega⟩), Or.inr (Or.inl ⟨Or.inl (by rcases hb61 with ⟨y, _⟩ | ⟨_, y⟩; omega; exact y), rfl⟩)⟩ (Or.inl ⟨rfl, by omega, rfl⟩)
    · have hfg0 : Fig ln b (at_ + 0) := by
        rcases hb61 with ⟨_, y⟩ | ⟨y, _⟩
        · exact y
        · omega
      have hfa := hfg0.1
      have hfb := hfg0.2.1
      have hfc := hfg0.2.2
      refine r_iload dX11_number_67 rfl ?_
      refine r_if_eq 96 dX11_number_69 (by decide) ⟨by decide, by decide⟩ (fun c_69 => ?_) (fun c_69 => by exfalso; omega)
      refine r_aload_n dX11_number_96 rfl rfl ?_
      refine r_lconst (z := 0) dX11_number_97 (by decide) ?_
      refine pf_X11_109 (fs2 := [_, _, _, _, _, _, _, _, _, _, _, _, _, _, _, _, _, _, _, _, _, _, _, _, _, _, _, _, _, _, _]) dX11_number_98 (fun _ _ => rfl) (fun _ _ => rfl) (nlt rfl) (by omega) hs_e rfl ?_
      refine g_heap (h2 := (hs h (124) (MOo (ln) (pr) (nm) (at_ + 0) (wr) (0) (em) (ta) (ro) (dg)))) hs_hs ?_
      refine r_aload_n dX11_number_101 rfl rfl ?_
      refine gf_X11_20 dX11_number_102 (by omega) hs_e rfl ?_
      refine r_aload_n dX11_number_105 rfl rfl ?_
      refine gf_X11_99 dX11_number_106 (by omega) hs_e rfl ?_
      refine r_iaload dX11_number_109 (by omega) ((hs_n (by omega)).trans hbt) (by omega) (by omega) (by decide) ?_
      have b_109 := hbb (at_ + 0).toNat (by omega)
      refine r_bipush (z := 48) dX11_number_110 (by decide) ?_
      refine r_icmp_ne 119 dX11_number_112 (by decide) ⟨by omega, by omega⟩ ⟨by decide, by decide⟩ (fun c_112 => ?_) (fun c_112 => ?_)
      · refine r_iconst (z := 0) dX11_number_119 ?_
        refine r_istore (L2 := [_, _, none, _, _, _]) dX11_number_120 (nlt rfl) rfl ?_
        have lp122 : ∀ (fu122 : Nat) (at1 : Int) (va1 : Int) (n : Nat), (102 - at1) < (fu122 : Int) → (at1 = (at_ + 0) + (n : Int)) → (∀ j : Nat, j < n → Fig ln b ((at_ + 0) + j)) → ((va1 ≤ most ∧ va1 = dv b (at_ + 0) n) ∨ (most < va1 ∧ most < dv b (at_ + 0) n)) → (0 ≤ va1) → (va1 ≤ 10000009) → (at1 ≤ 101) → (n ≤ 200) → G X RX11 cX11_number mX11_number.rm N 0 0 122 [some (.ref (124)), some (.long (lZ (most))), none, some (.int (iZ (at_))), some (.int (iZ (0))), some (.int (iZ (0)))] [] (hs h (124) (MOo (ln) (pr) (nm) (at1) (wr) (va1) (em) (ta) (ro) (dg))) := by
          intro fu122
          induction fu122 with
          | zero => intro at1 va1 n hm ea hfig hva va0 va9 at9 nn1; exfalso; omega
          | succ fu122 ih122 =>
            intro at1 va1 n hms122 ea hfig hva va0 va9 at9 nn1
            refine r_aload_n dX11_number_122 rfl rfl ?_
            refine r_aload_n dX11_number_123 rfl rfl ?_
            refine gf_X11_99 dX11_number_124 (by omega) hs_e rfl ?_
            refine r_callV (av := [.int (iZ (at1))]) dX11_number_127 lkX11_isFigure ml_X11_102 imX11_isFigure seX11_isFigure (by omega) (rfl : vwCl[11]? = _) ⟨_, hs_e⟩ ⟨Nat.le_of_ble_eq_true rfl, Nat.le_of_ble_eq_true rfl⟩ rfl rfl (nle rfl) ⟨Nat.le_of_ble_eq_true rfl, Nat.le_of_ble_eq_true rfl⟩ (c_X11_isFigure (x := at1) (b := b) (ln := ln) (pr := pr) (nm := nm) (at_ := at1) (wr := wr) (va := va1) (em := em) (ta := ta) (ro := ro) (dg := dg) hs_e hN ((hs_n (by omega)).trans hbt) hbb hl0 hl (by omega) (by omega) (fun b127 hb127 => ?_))
            show G _ _ _ _ _ _ _ 130 _ _ _
            refine r_if_eq 202 dX11_number_130 (by decide) (by rcases hb127 with ⟨y, _⟩ | ⟨y, _⟩ <;> exact ⟨by omega, by omega⟩) (fun c_130 => ?_) (fun c_130 => ?_)
            · refine r_aload_n dX11_number_202 rfl rfl ?_
              refine gf_X11_109 dX11_number_203 (by omega) hs_e rfl ?_
              refine r_lload_n dX11_number_206 rfl rfl ?_
              refine r_lcmp_le 218 dX11_number_207 dX11_number_208 (by decide) ⟨by omega, by omega⟩ ⟨by omega, by omega⟩ (fun c_207 => ?_) (fun c_207 => ?_)
              · refine r_aload_n dX11_number_218 rfl rfl ?_
                refine r_iload dX11_number_219 rfl ?_
                refine r_if_eq 232 dX11_number_221 (by decide) ⟨by decide, by decide⟩ (fun c_221 => ?_) (fun c_221 => by exfalso; omega)
                refine r_aload_n dX11_number_232 rfl rfl ?_
                refine gf_X11_109 dX11_number_233 (by omega) hs_e rfl ?_
                refine pf_X11_109 (fs2 := [_, _, _, _, _, _, _, _, _, _, _, _, _, _, _, _, _, _, _, _, _, _, _, _, _, _, _, _, _, _, _]) dX11_number_236 (fun _ _ => rfl) (fun _ _ => rfl) (nlt rfl) (by omega) hs_e rfl ?_
                refine g_heap (h2 := (hs h (124) (MOo (ln) (pr) (nm) (at1) (wr) (va1) (em) (ta) (ro) (dg)))) hs_hs ?_
                refine r_iconst (z := 1) dX11_number_239 ?_
                refine r_zreturn hq dX11_number_240 rfl (by decide) rfl rfl ?_
                have hnF : ¬ Fig ln b at1 := by
                  rcases hb127 with ⟨y, _⟩ | ⟨_, y⟩
                  · omega
                  · exact y
                have hn1 : 1 ≤ n := by
                  cases n with
                  | zero => exact absurd hfg0 (by rw [show (at_ + 0) = at1 by omega]; exact hnF)
                  | succ n => omega
                have hrun : Run ln b (at_ + 0) n := ⟨hn1, hfig, by rw [← ea]; exact hnF⟩
                exact hQ 1 (-4) (dv b (at_ + 0) n) ((at_ + 0) + n) _ _ _ ⟨_, (Or.inr ⟨fun q => by have := q.1; have := q.2; omega, by omega⟩), Or.inr (Or.inr ⟨hfg0, (fun q => by have := q.2; omega), n, hrun, Or.inl ⟨by omega, rfl, fun z => by rfl, fun z => by omega, rfl⟩⟩)⟩ (Or.inr ⟨rfl, rfl, by omega, by omega⟩)
              · refine r_aload_n dX11_number_211 rfl rfl ?_
                refine r_iload_n dX11_number_212 rfl rfl ?_
                refine pf_X11_106 (fs2 := [_, _, _, _, _, _, _, _, _, _, _, _, _, _, _, _, _, _, _, _, _, _, _, _, _, _, _, _, _, _, _]) dX11_number_213 (fun _ _ => rfl) (fun _ _ => rfl) (nlt rfl) (by omega) hs_e rfl ?_
                refine g_heap (h2 := (hs h (124) (MOo (ln) (pr) (nm) (at1) (at_) (va1) (em) (ta) (ro) (dg)))) hs_hs ?_
                refine r_iconst (z := 0) dX11_number_216 ?_
                refine r_zreturn hq dX11_number_217 rfl (by decide) rfl rfl ?_
                have hnF : ¬ Fig ln b at1 := by
                  rcases hb127 with ⟨y, _⟩ | ⟨_, y⟩
                  · omega
                  · exact y
                have hn1 : 1 ≤ n := by
                  cases n with
                  | zero => exact absurd hfg0 (by rw [show (at_ + 0) = at1 by omega]; exact hnF)
                  | succ n => omega
                have hrun : Run ln b (at_ + 0) n := ⟨hn1, hfig, by rw [← ea]; exact hnF⟩
                exact hQ 0 at_ 0 0 _ _ _ ⟨_, (Or.inr ⟨fun q => by have := q.1; have := q.2; omega, by omega⟩), Or.inr (Or.inr ⟨hfg0, (fun q => by have := q.2; omega), n, hrun, Or.inr ⟨by omega, rfl⟩⟩)⟩ (Or.inl ⟨rfl, by omega, rfl⟩)
            · refine r_iload dX11_number_133 rfl ?_
              refine r_if_eq 146 dX11_number_135 (by decide) ⟨by decide, by decide⟩ (fun c_135 => ?_) (fun c_135 => by exfalso; omega)
              have hfg : Fig ln b at1 := by
                rcases hb127 with ⟨_, y⟩ | ⟨y, _⟩
                · exact y
                · omega
              have hga := hfg.1
              have hgb := hfg.2.1
              have hgc := hfg.2.2
              have hfig2 : ∀ j : Nat, j < n + 1 → Fig ln b ((at_ + 0) + j) := fun j hj => by
                by_cases z : j = n
                · rw [z, ← ea]; exact hfg
                · exact hfig j (by omega)
              have hdm := dv_mono (b := b) (Nat.le_succ n) hfig2
              have hdn : dv b (at_ + 0) (n + 1) = 10 * dv b (at_ + 0) n + b at1.toNat - 48 := by
                show 10 * dv b (at_ + 0) n + b ((at_ + 0) + (n : Int)).toNat - 48 = _
                rw [← ea]
              refine r_aload_n dX11_number_146 rfl rfl ?_
              refine r_aload_n dX11_number_147 rfl rfl ?_
              refine gf_X11_109 dX11_number_148 (by omega) hs_e rfl ?_
              refine r_lload_n dX11_number_151 rfl rfl ?_
              refine r_lcmp_le 163 dX11_number_152 dX11_number_153 (by decide) ⟨by omega, by omega⟩ ⟨by omega, by omega⟩ (fun c_152 => ?_) (fun c_152 => ?_)
              · refine r_ldc2 (z := 10) dX11_number_163 kc_X11_113 ?_
                refine r_aload_n dX11_number_166 rfl rfl ?_
                refine gf_X11_109 dX11_number_167 (by omega) hs_e rfl ?_
                refine r_lmul dX11_number_170 ?_
                refine r_aload_n dX11_number_171 rfl rfl ?_
                refine gf_X11_20 dX11_number_172 (by omega) hs_e rfl ?_
                refine r_aload_n dX11_number_175 rfl rfl ?_
                refine gf_X11_99 dX11_number_176 (by omega) hs_e rfl ?_
                refine r_iaload dX11_number_179 (by omega) ((hs_n (by omega)).trans hbt) (by omega) (by omega) (by decide) ?_
                have b_179 := hbb (at1).toNat (by omega)
                refine r_i2l dX11_number_180 ⟨by omega, by omega⟩ ?_
                refine r_ladd dX11_number_181 ?_
                refine r_ldc2 (z := 48) dX11_number_182 kc_X11_95 ?_
                refine r_lsub dX11_number_185 ?_
                refine pf_X11_109 (fs2 := [_, _, _, _, _, _, _, _, _, _, _, _, _, _, _, _, _, _, _, _, _, _, _, _, _, _, _, _, _, _, _]) dX11_number_186 (fun _ _ => rfl) (fun _ _ => rfl) (nlt rfl) (by omega) hs_e rfl ?_
                refine g_heap (h2 := (hs h (124) (MOo (ln) (pr) (nm) (at1) (wr) (((10 * va1) + (b (at1).toNat)) - 48) (em) (ta) (ro) (dg)))) hs_hs ?_
                refine r_aload_n dX11_number_189 rfl rfl ?_
                refine r_dup dX11_number_190 rfl ?_
                refine gf_X11_99 dX11_number_191 (by omega) hs_e rfl ?_
                refine r_iconst (z := 1) dX11_number_194 ?_
                refine r_iadd dX11_number_195 ?_
                refine pf_X11_99 (fs2 := [_, _, _, _, _, _, _, _, _, _, _, _, _, _, _, _, _, _, _, _, _, _, _, _, _, _, _, _, _, _, _]) dX11_number_196 (fun _ _ => rfl) (fun _ _ => rfl) (nlt rfl) (by omega) hs_e rfl ?_
                refine g_heap (h2 := (hs h (124) (MOo (ln) (pr) (nm) (at1 + 1) (wr) (((10 * va1) + (b (at1).toNat)) - 48) (em) (ta) (ro) (dg)))) hs_hs ?_
                refine r_goto 122 dX11_number_199 (by decide) ?_
                exact ih122 (at1 + 1) (((10 * va1) + (b (at1).toNat)) - 48) ((n + 1)) (by omega) (by omega) hfig2 (by rw [hdn]; by_cases w : 10 * va1 + b at1.toNat - 48 ≤ most; (left; omega); (right; omega)) (by omega) (by omega) (by omega) (by omega)
              · refine r_aload_n dX11_number_156 rfl rfl ?_
                refine gf_X11_109 dX11_number_157 (by omega) hs_e rfl ?_
                refine r_goto 186 dX11_number_160 (by decide) ?_
                refine pf_X11_109 (fs2 := [_, _, _, _, _, _, _, _, _, _, _, _, _, _, _, _, _, _, _, _, _, _, _, _, _, _, _, _, _, _, _]) dX11_number_186 (fun _ _ => rfl) (fun _ _ => rfl) (nlt rfl) (by omega) hs_e rfl ?_
                refine g_heap (h2 := (hs h (124) (MOo (ln) (pr) (nm) (at1) (wr) (va1) (em) (ta) (ro) (dg)))) hs_hs ?_
                refine r_aload_n dX11_number_189 rfl rfl ?_
                refine r_dup dX11_number_190 rfl ?_
                refine gf_X11_99 dX11_number_191 (by omega) hs_e rfl ?_
                refine r_iconst (z := 1) dX11_number_194 ?_
                refine r_iadd dX11_number_195 ?_
                refine pf_X11_99 (fs2 := [_, _, _, _, _, _, _, _, _, _, _, _, _, _, _, _, _, _, _, _, _, _, _, _, _, _, _, _, _, _, _]) dX11_number_196 (fun _ _ => rfl) (fun _ _ => rfl) (nlt rfl) (by omega) hs_e rfl ?_
                refine g_heap (h2 := (hs h (124) (MOo (ln) (pr) (nm) (at1 + 1) (wr) (va1) (em) (ta) (ro) (dg)))) hs_hs ?_
                refine r_goto 122 dX11_number_199 (by decide) ?_
                exact ih122 (at1 + 1) (va1) ((n + 1)) (by omega) (by omega) hfig2 (Or.inr ⟨by omega, by omega⟩) (by omega) (by omega) (by omega) (by omega)
        exact lp122 ((102 : Int) + 1).toNat (at_ + 0) (0) (0) (by omega) (by omega) (fun j hj => absurd hj (Nat.not_lt_zero j)) (Or.inl ⟨hm1, rfl⟩) (by decide) (by decide) (by omega) (by decide)
      · refine r_iconst (z := 1) dX11_number_115 ?_
        refine r_goto 120 dX11_number_116 (by decide) ?_
        refine r_istore (L2 := [_, _, none, _, _, _]) dX11_number_120 (nlt rfl) rfl ?_
        have lp122 : ∀ (fu122 : Nat) (at1 : Int) (va1 : Int) (n : Nat), (102 - at1) < (fu122 : Int) → (at1 = (at_ + 0) + (n : Int)) → (∀ j : Nat, j < n → Fig ln b ((at_ + 0) + j)) → ((va1 ≤ most ∧ va1 = dv b (at_ + 0) n) ∨ (most < va1 ∧ most < dv b (at_ + 0) n)) → (0 ≤ va1) → (va1 ≤ 10000009) → (at1 ≤ 101) → (n ≤ 1) → G X RX11 cX11_number mX11_number.rm N 0 0 122 [some (.ref (124)), some (.long (lZ (most))), none, some (.int (iZ (at_))), some (.int (iZ (0))), some (.int (iZ (1)))] [] (hs h (124) (MOo (ln) (pr) (nm) (at1) (wr) (va1) (em) (ta) (ro) (dg))) := by
          intro fu122
          induction fu122 with
          | zero => intro at1 va1 n hm ea hfig hva va0 va9 at9 nn1; exfalso; omega
          | succ fu122 ih122 =>
            intro at1 va1 n hms122 ea hfig hva va0 va9 at9 nn1
            refine r_aload_n dX11_number_122 rfl rfl ?_
            refine r_aload_n dX11_number_123 rfl rfl ?_
            refine gf_X11_99 dX11_number_124 (by omega) hs_e rfl ?_
            refine r_callV (av := [.int (iZ (at1))]) dX11_number_127 lkX11_isFigure ml_X11_102 imX11_isFigure seX11_isFigure (by omega) (rfl : vwCl[11]? = _) ⟨_, hs_e⟩ ⟨Nat.le_of_ble_eq_true rfl, Nat.le_of_ble_eq_true rfl⟩ rfl rfl (nle rfl) ⟨Nat.le_of_ble_eq_true rfl, Nat.le_of_ble_eq_true rfl⟩ (c_X11_isFigure (x := at1) (b := b) (ln := ln) (pr := pr) (nm := nm) (at_ := at1) (wr := wr) (va := va1) (em := em) (ta := ta) (ro := ro) (dg := dg) hs_e hN ((hs_n (by omega)).trans hbt) hbb hl0 hl (by omega) (by omega) (fun b127 hb127 => ?_))
            show G _ _ _ _ _ _ _ 130 _ _ _
            refine r_if_eq 202 dX11_number_130 (by decide) (by rcases hb127 with ⟨y, _⟩ | ⟨y, _⟩ <;> exact ⟨by omega, by omega⟩) (fun c_130 => ?_) (fun c_130 => ?_)
            · refine r_aload_n dX11_number_202 rfl rfl ?_
              refine gf_X11_109 dX11_number_203 (by omega) hs_e rfl ?_
              refine r_lload_n dX11_number_206 rfl rfl ?_
              refine r_lcmp_le 218 dX11_number_207 dX11_number_208 (by decide) ⟨by omega, by omega⟩ ⟨by omega, by omega⟩ (fun c_207 => ?_) (fun c_207 => ?_)
              · refine r_aload_n dX11_number_218 rfl rfl ?_
                refine r_iload dX11_number_219 rfl ?_
                refine r_if_eq 232 dX11_number_221 (by decide) ⟨by decide, by decide⟩ (fun c_221 => ?_) (fun c_221 => by exfalso; omega)
                refine r_aload_n dX11_number_232 rfl rfl ?_
                refine gf_X11_109 dX11_number_233 (by omega) hs_e rfl ?_
                refine pf_X11_109 (fs2 := [_, _, _, _, _, _, _, _, _, _, _, _, _, _, _, _, _, _, _, _, _, _, _, _, _, _, _, _, _, _, _]) dX11_number_236 (fun _ _ => rfl) (fun _ _ => rfl) (nlt rfl) (by omega) hs_e rfl ?_
                refine g_heap (h2 := (hs h (124) (MOo (ln) (pr) (nm) (at1) (wr) (va1) (em) (ta) (ro) (dg)))) hs_hs ?_
                refine r_iconst (z := 1) dX11_number_239 ?_
                refine r_zreturn hq dX11_number_240 rfl (by decide) rfl rfl ?_
                have hnF : ¬ Fig ln b at1 := by
                  rcases hb127 with ⟨y, _⟩ | ⟨_, y⟩
                  · omega
                  · exact y
                have hn1 : 1 ≤ n := by
                  cases n with
                  | zero => exact absurd hfg0 (by rw [show (at_ + 0) = at1 by omega]; exact hnF)
                  | succ n => omega
                have hrun : Run ln b (at_ + 0) n := ⟨hn1, hfig, by rw [← ea]; exact hnF⟩
                have hn9 : n = 1 := by omega
                have hdv1 : dv b (at_ + 0) 1 = 0 := by
                  show 10 * 0 + b ((at_ + 0) + ((0 : Nat) : Int)).toNat - 48 = 0
                  rw [show ((at_ + 0) + ((0 : Nat) : Int)).toNat = (at_ + 0).toNat by omega]
                  omega
                rw [hn9, hdv1] at hva
                exact hQ 1 (-4) 0 ((at_ + 0) + 1) _ _ _ ⟨_, (Or.inr ⟨fun q => by have := q.1; have := q.2; omega, by omega⟩), Or.inl ⟨by omega, ⟨by omega, by omega⟩, rfl, rfl, rfl⟩⟩ (Or.inr ⟨rfl, rfl, by omega, by omega⟩)
              · refine r_aload_n dX11_number_211 rfl rfl ?_
                refine r_iload_n dX11_number_212 rfl rfl ?_
                refine pf_X11_106 (fs2 := [_, _, _, _, _, _, _, _, _, _, _, _, _, _, _, _, _, _, _, _, _, _, _, _, _, _, _, _, _, _, _]) dX11_number_213 (fun _ _ => rfl) (fun _ _ => rfl) (nlt rfl) (by omega) hs_e rfl ?_
                refine g_heap (h2 := (hs h (124) (MOo (ln) (pr) (nm) (at1) (at_) (va1) (em) (ta) (ro) (dg)))) hs_hs ?_
                refine r_iconst (z := 0) dX11_number_216 ?_
                refine r_zreturn hq dX11_number_217 rfl (by decide) rfl rfl ?_
                have hnF : ¬ Fig ln b at1 := by
                  rcases hb127 with ⟨y, _⟩ | ⟨_, y⟩
                  · omega
                  · exact y
                have hn1 : 1 ≤ n := by
                  cases n with
                  | zero => exact absurd hfg0 (by rw [show (at_ + 0) = at1 by omega]; exact hnF)
                  | succ n => omega
                have hrun : Run ln b (at_ + 0) n := ⟨hn1, hfig, by rw [← ea]; exact hnF⟩
                have hn9 : n = 1 := by omega
                have hdv1 : dv b (at_ + 0) 1 = 0 := by
                  show 10 * 0 + b ((at_ + 0) + ((0 : Nat) : Int)).toNat - 48 = 0
                  rw [show ((at_ + 0) + ((0 : Nat) : Int)).toNat = (at_ + 0).toNat by omega]
                  omega
                rw [hn9, hdv1] at hva
                exfalso; omega
            · refine r_iload dX11_number_133 rfl ?_
              refine r_if_eq 146 dX11_number_135 (by decide) ⟨by decide, by decide⟩ (fun c_135 => by exfalso; omega) (fun c_135 => ?_)
              refine r_aload_n dX11_number_138 rfl rfl ?_
              refine gf_X11_99 dX11_number_139 (by omega) hs_e rfl ?_
              refine r_iload_n dX11_number_142 rfl rfl ?_
              refine r_icmp_ne 202 dX11_number_143 (by decide) ⟨by omega, by omega⟩ ⟨by omega, by omega⟩ (fun c_143 => ?_) (fun c_143 => ?_)
              · refine r_aload_n dX11_number_202 rfl rfl ?_
                refine gf_X11_109 dX11_number_203 (by omega) hs_e rfl ?_
                refine r_lload_n dX11_number_206 rfl rfl ?_
                refine r_lcmp_le 218 dX11_number_207 dX11_number_208 (by decide) ⟨by omega, by omega⟩ ⟨by omega, by omega⟩ (fun c_207 => ?_) (fun c_207 => ?_)
                · refine r_aload_n dX11_number_218 rfl rfl ?_
                  refine r_iload dX11_number_219 rfl ?_
                  refine r_if_eq 232 dX11_number_221 (by decide) ⟨by decide, by decide⟩ (fun c_221 => ?_) (fun c_221 => by exfalso; omega)
                  refine r_aload_n dX11_number_232 rfl rfl ?_
                  refine gf_X11_109 dX11_number_233 (by omega) hs_e rfl ?_
                  refine pf_X11_109 (fs2 := [_, _, _, _, _, _, _, _, _, _, _, _, _, _, _, _, _, _, _, _, _, _, _, _, _, _, _, _, _, _, _]) dX11_number_236 (fun _ _ => rfl) (fun _ _ => rfl) (nlt rfl) (by omega) hs_e rfl ?_
                  refine g_heap (h2 := (hs h (124) (MOo (ln) (pr) (nm) (at1) (wr) (va1) (em) (ta) (ro) (dg)))) hs_hs ?_
                  refine r_iconst (z := 1) dX11_number_239 ?_
                  refine r_zreturn hq dX11_number_240 rfl (by decide) rfl rfl ?_
                  have hn9 : n = 1 := by omega
                  have hdv1 : dv b (at_ + 0) 1 = 0 := by
                    show 10 * 0 + b ((at_ + 0) + ((0 : Nat) : Int)).toNat - 48 = 0
                    rw [show ((at_ + 0) + ((0 : Nat) : Int)).toNat = (at_ + 0).toNat by omega]
                    omega
                  rw [hn9, hdv1] at hva
                  exact hQ 1 (-4) 0 ((at_ + 0) + 1) _ _ _ ⟨_, (Or.inr ⟨fun q => by have := q.1; have := q.2; omega, by omega⟩), Or.inl ⟨by omega, ⟨by omega, by omega⟩, rfl, rfl, rfl⟩⟩ (Or.inr ⟨rfl, rfl, by omega, by omega⟩)
                · refine r_aload_n dX11_number_211 rfl rfl ?_
                  refine r_iload_n dX11_number_212 rfl rfl ?_
                  refine pf_X11_106 (fs2 := [_, _, _, _, _, _, _, _, _, _, _, _, _, _, _, _, _, _, _, _, _, _, _, _, _, _, _, _, _, _, _]) dX11_number_213 (fun _ _ => rfl) (fun _ _ => rfl) (nlt rfl) (by omega) hs_e rfl ?_
                  refine g_heap (h2 := (hs h (124) (MOo (ln) (pr) (nm) (at1) (at_) (va1) (em) (ta) (ro) (dg)))) hs_hs ?_
                  refine r_iconst (z := 0) dX11_number_216 ?_
                  refine r_zreturn hq dX11_number_217 rfl (by decide) rfl rfl ?_
                  have hn9 : n = 1 := by omega
                  have hdv1 : dv b (at_ + 0) 1 = 0 := by
                    show 10 * 0 + b ((at_ + 0) + ((0 : Nat) : Int)).toNat - 48 = 0
                    rw [show ((at_ + 0) + ((0 : Nat) : Int)).toNat = (at_ + 0).toNat by omega]
                    omega
                  rw [hn9, hdv1] at hva
                  exfalso; omega
              · have hfg : Fig ln b at1 := by
                  rcases hb127 with ⟨_, y⟩ | ⟨y, _⟩
                  · exact y
                  · omega
                have hga := hfg.1
                have hgb := hfg.2.1
                have hgc := hfg.2.2
                have hfig2 : ∀ j : Nat, j < n + 1 → Fig ln b ((at_ + 0) + j) := fun j hj => by
                  by_cases z : j = n
                  · rw [z, ← ea]; exact hfg
                  · exact hfig j (by omega)
                have hdm := dv_mono (b := b) (Nat.le_succ n) hfig2
                have hdn : dv b (at_ + 0) (n + 1) = 10 * dv b (at_ + 0) n + b at1.toNat - 48 := by
                  show 10 * dv b (at_ + 0) n + b ((at_ + 0) + (n : Int)).toNat - 48 = _
                  rw [← ea]
                refine r_aload_n dX11_number_146 rfl rfl ?_
                refine r_aload_n dX11_number_147 rfl rfl ?_
                refine gf_X11_109 dX11_number_148 (by omega) hs_e rfl ?_
                refine r_lload_n dX11_number_151 rfl rfl ?_
                refine r_lcmp_le 163 dX11_number_152 dX11_number_153 (by decide) ⟨by omega, by omega⟩ ⟨by omega, by omega⟩ (fun c_152 => ?_) (fun c_152 => ?_)
                · refine r_ldc2 (z := 10) dX11_number_163 kc_X11_113 ?_
                  refine r_aload_n dX11_number_166 rfl rfl ?_
                  refine gf_X11_109 dX11_number_167 (by omega) hs_e rfl ?_
                  refine r_lmul dX11_number_170 ?_
                  refine r_aload_n dX11_number_171 rfl rfl ?_
                  refine gf_X11_20 dX11_number_172 (by omega) hs_e rfl ?_
                  refine r_aload_n dX11_number_175 rfl rfl ?_
                  refine gf_X11_99 dX11_number_176 (by omega) hs_e rfl ?_
                  refine r_iaload dX11_number_179 (by omega) ((hs_n (by omega)).trans hbt) (by omega) (by omega) (by decide) ?_
                  have b_179 := hbb (at1).toNat (by omega)
                  refine r_i2l dX11_number_180 ⟨by omega, by omega⟩ ?_
                  refine r_ladd dX11_number_181 ?_
                  refine r_ldc2 (z := 48) dX11_number_182 kc_X11_95 ?_
                  refine r_lsub dX11_number_185 ?_
                  refine pf_X11_109 (fs2 := [_, _, _, _, _, _, _, _, _, _, _, _, _, _, _, _, _, _, _, _, _, _, _, _, _, _, _, _, _, _, _]) dX11_number_186 (fun _ _ => rfl) (fun _ _ => rfl) (nlt rfl) (by omega) hs_e rfl ?_
                  refine g_heap (h2 := (hs h (124) (MOo (ln) (pr) (nm) (at1) (wr) (((10 * va1) + (b (at1).toNat)) - 48) (em) (ta) (ro) (dg)))) hs_hs ?_
                  refine r_aload_n dX11_number_189 rfl rfl ?_
                  refine r_dup dX11_number_190 rfl ?_
                  refine gf_X11_99 dX11_number_191 (by omega) hs_e rfl ?_
                  refine r_iconst (z := 1) dX11_number_194 ?_
                  refine r_iadd dX11_number_195 ?_
                  refine pf_X11_99 (fs2 := [_, _, _, _, _, _, _, _, _, _, _, _, _, _, _, _, _, _, _, _, _, _, _, _, _, _, _, _, _, _, _]) dX11_number_196 (fun _ _ => rfl) (fun _ _ => rfl) (nlt rfl) (by omega) hs_e rfl ?_
                  refine g_heap (h2 := (hs h (124) (MOo (ln) (pr) (nm) (at1 + 1) (wr) (((10 * va1) + (b (at1).toNat)) - 48) (em) (ta) (ro) (dg)))) hs_hs ?_
                  refine r_goto 122 dX11_number_199 (by decide) ?_
                  exact ih122 (at1 + 1) (((10 * va1) + (b (at1).toNat)) - 48) ((n + 1)) (by omega) (by omega) hfig2 (by rw [hdn]; by_cases w : 10 * va1 + b at1.toNat - 48 ≤ most; (left; omega); (right; omega)) (by omega) (by omega) (by omega) (by omega)
                · refine r_aload_n dX11_number_156 rfl rfl ?_
                  refine gf_X11_109 dX11_number_157 (by omega) hs_e rfl ?_
                  refine r_goto 186 dX11_number_160 (by decide) ?_
                  refine pf_X11_109 (fs2 := [_, _, _, _, _, _, _, _, _, _, _, _, _, _, _, _, _, _, _, _, _, _, _, _, _, _, _, _, _, _, _]) dX11_number_186 (fun _ _ => rfl) (fun _ _ => rfl) (nlt rfl) (by omega) hs_e rfl ?_
                  refine g_heap (h2 := (hs h (124) (MOo (ln) (pr) (nm) (at1) (wr) (va1) (em) (ta) (ro) (dg)))) hs_hs ?_
                  refine r_aload_n dX11_number_189 rfl rfl ?_
                  refine r_dup dX11_number_190 rfl ?_
                  refine gf_X11_99 dX11_number_191 (by omega) hs_e rfl ?_
                  refine r_iconst (z := 1) dX11_number_194 ?_
                  refine r_iadd dX11_number_195 ?_
                  refine pf_X11_99 (fs2 := [_, _, _, _, _, _, _, _, _, _, _, _, _, _, _, _, _, _, _, _, _, _, _, _, _, _, _, _, _, _, _]) dX11_number_196 (fun _ _ => rfl) (fun _ _ => rfl) (nlt rfl) (by omega) hs_e rfl ?_
                  refine g_heap (h2 := (hs h (124) (MOo (ln) (pr) (nm) (at1 + 1) (wr) (va1) (em) (ta) (ro) (dg)))) hs_hs ?_
                  refine r_goto 122 dX11_number_199 (by decide) ?_
                  exact ih122 (at1 + 1) (va1) ((n + 1)) (by omega) (by omega) hfig2 (Or.inr ⟨by omega, by omega⟩) (by omega) (by omega) (by omega) (by omega)
        exact lp122 ((102 : Int) + 1).toNat (at_ + 0) (0) (0) (by omega) (by omega) (fun j hj => absurd hj (Nat.not_lt_zero j)) (Or.inl ⟨hm1, rfl⟩) (by decide) (by decide) (by omega) (by decide)
  · refine r_aload_n dX11_number_16 rfl rfl ?_
    refine gf_X11_20 dX11_number_17 (by omega) hm0 rfl ?_
    refine r_aload_n dX11_number_20 rfl rfl ?_
    refine gf_X11_99 dX11_number_21 (by omega) hm0 rfl ?_
    refine r_iaload dX11_number_24 (by omega) hbt (by omega) (by omega) (by decide) ?_
    have b_24 := hbb (at_).toNat (by omega)
    refine r_bipush (z := 45) dX11_number_25 (by decide) ?_
    refine r_icmp_ne 34 dX11_number_27 (by decide) ⟨by omega, by omega⟩ ⟨by decide, by decide⟩ (fun c_27 => ?_) (fun c_27 => ?_)
    · refine r_iconst (z := 0) dX11_number_34 ?_
      refine r_istore (L2 := [_, _, none, _, _, none]) dX11_number_35 (nlt rfl) rfl ?_
      refine r_aload_n dX11_number_37 rfl rfl ?_
      refine r_dup dX11_number_38 rfl ?_
      refine gf_X11_99 dX11_number_39 (by omega) hm0 rfl ?_
      refine r_iload dX11_number_42 rfl ?_
      refine r_if_eq 51 dX11_number_44 (by decide) ⟨by decide, by decide⟩ (fun c_44 => ?_) (fun c_44 => by exfalso; omega)
      refine r_iconst (z := 0) dX11_number_51 ?_
      refine r_iadd dX11_number_52 ?_
      refine pf_X11_99 (fs2 := [_, _, _, _, _, _, _, _, _, _, _, _, _, _, _, _, _, _, _, _, _, _, _, _, _, _, _, _, _, _, _]) dX11_number_53 (fun _ _ => rfl) (fun _ _ => rfl) (nlt rfl) (by omega) hm0 rfl ?_
      refine r_aload_n dX11_number_56 rfl rfl ?_
      refine r_aload_n dX11_number_57 rfl rfl ?_
      refine gf_X11_99 dX11_number_58 (by omega) hs_e rfl ?_
      refine r_callV (av := [.int (iZ (at_ + 0))]) dX11_number_61 lkX11_isFigure ml_X11_102 imX11_isFigure seX11_isFigure (by omega) (rfl : vwCl[11]? = _) ⟨_, hs_e⟩ ⟨Nat.le_of_ble_eq_true rfl, Nat.le_of_ble_eq_true rfl⟩ rfl rfl (nle rfl) ⟨Nat.le_of_ble_eq_true rfl, Nat.le_of_ble_eq_true rfl⟩ (c_X11_isFigure (x := at_ + 0) (b := b) (ln := ln) (pr := pr) (nm := nm) (at_ := at_ + 0) (wr := wr) (va := va) (em := em) (ta := ta) (ro := ro) (dg := dg) hs_e hN ((hs_n (by omega)).trans hbt) hbb hl0 hl (by omega) (by omega) (fun b61 hb61 => ?_))
      show G _ _ _ _ _ _ _ 64 _ _ _
      refine r_if_eq 86 dX11_number_64 (by decide) (by rcases hb61 with ⟨y, _⟩ | ⟨y, _⟩ <;> exact ⟨by omega, by omega⟩) (fun c_64 => ?_) (fun c_64 => ?_)
      · refine r_aload_n dX11_number_86 rfl rfl ?_
        refine r_aload_n dX11_number_87 rfl rfl ?_
        refine gf_X11_99 dX11_number_88 (by omega) hs_e rfl ?_
        refine pf_X11_106 (fs2 := [_, _, _, _, _, _, _, _, _, _, _, _, _, _, _, _, _, _, _, _, _, _, _, _, _, _, _, _, _, _, _]) dX11_number_91 (fun _ _ => rfl) (fun _ _ => rfl) (nlt rfl) (by omega) hs_e rfl ?_
        refine g_heap (h2 := (hs h (124) (MOo (ln) (pr) (nm) (at_ + 0) (at_ + 0) (va) (em) (ta) (ro) (dg)))) hs_hs ?_
        refine r_iconst (z := 0) dX11_number_94 ?_
        refine r_zreturn hq dX11_number_95 rfl (by decide) rfl rfl ?_
        exact hQ 0 (at_ + 0) 0 0 _ _ _ ⟨_, (Or.inr ⟨fun q => by have := q.1; have := q.2; omega, by omega⟩), Or.inr (Or.inl ⟨Or.inl (by rcases hb61 with ⟨y, _⟩ | ⟨_, y⟩; omega; exact y), rfl⟩)⟩ (Or.inl ⟨rfl, by omega, rfl⟩)
      · have hfg0 : Fig ln b (at_ + 0) := by
          rcases hb61 with ⟨_, y⟩ | ⟨y, _⟩
          · exact y
          · omega
        have hfa := hfg0.1
        have hfb := hfg0.2.1
        have hfc := hfg0.2.2
        refine r_iload dX11_number_67 rfl ?_
        refine r_if_eq 96 dX11_number_69 (by decide) ⟨by decide, by decide⟩ (fun c_69 => ?_) (fun c_69 => by exfalso; omega)
        refine r_aload_n dX11_number_96 rfl rfl ?_
        refine r_lconst (z := 0) dX11_number_97 (by decide) ?_
        refine pf_X11_109 (fs2 := [_, _, _, _, _, _, _, _, _, _, _, _, _, _, _, _, _, _, _, _, _, _, _, _, _, _, _, _, _, _, _]) dX11_number_98 (fun _ _ => rfl) (fun _ _ => rfl) (nlt rfl) (by omega) hs_e rfl ?_
        refine g_heap (h2 := (hs h (124) (MOo (ln) (pr) (nm) (at_ + 0) (wr) (0) (em) (ta) (ro) (dg)))) hs_hs ?_
        refine r_aload_n dX11_number_101 rfl rfl ?_
        refine gf_X11_20 dX11_number_102 (by omega) hs_e rfl ?_
        refine r_aload_n dX11_number_105 rfl rfl ?_
        refine gf_X11_99 dX11_number_106 (by omega) hs_e rfl ?_
        refine r_iaload dX11_number_109 (by omega) ((hs_n (by omega)).trans hbt) (by omega) (by omega) (by decide) ?_
        have b_109 := hbb (at_ + 0).toNat (by omega)
        refine r_bipush (z := 48) dX11_number_110 (by decide) ?_
        refine r_icmp_ne 119 dX11_number_112 (by decide) ⟨by omega, by omega⟩ ⟨by decide, by decide⟩ (fun c_112 => ?_) (fun c_112 => ?_)
        · refine r_iconst (z := 0) dX11_number_119 ?_
          refine r_istore (L2 := [_, _, none, _, _, _]) dX11_number_120 (nlt rfl) rfl ?_
          have lp122 : ∀ (fu122 : Nat) (at1 : Int) (va1 : Int) (n : Nat), (102 - at1) < (fu122 : Int) → (at1 = (at_ + 0) + (n : Int)) → (∀ j : Nat, j < n → Fig ln b ((at_ + 0) + j)) → ((va1 ≤ most ∧ va1 = dv b (at_ + 0) n) ∨ (most < va1 ∧ most < dv b (at_ + 0) n)) → (0 ≤ va1) → (va1 ≤ 10000009) → (at1 ≤ 101) → (n ≤ 200) → G X RX11 cX11_number mX11_number.rm N 0 0 122 [some (.ref (124)), some (.long (lZ (most))), none, some (.int (iZ (at_))), some (.int (iZ (0))), some (.int (iZ (0)))] [] (hs h (124) (MOo (ln) (pr) (nm) (at1) (wr) (va1) (em) (ta) (ro) (dg))) := by
            intro fu122
            induction fu122 with
            | zero => intro at1 va1 n hm ea hfig hva va0 va9 at9 nn1; exfalso; omega
            | succ fu122 ih122 =>
              intro at1 va1 n hms122 ea hfig hva va0 va9 at9 nn1
              refine r_aload_n dX11_number_122 rfl rfl ?_
              refine r_aload_n dX11_number_123 rfl rfl ?_
              refine gf_X11_99 dX11_number_124 (by omega) hs_e rfl ?_
              refine r_callV (av := [.int (iZ (at1))]) dX11_number_127 lkX11_isFigure ml_X11_102 imX11_isFigure seX11_isFigure (by omega) (rfl : vwCl[11]? = _) ⟨_, hs_e⟩ ⟨Nat.le_of_ble_eq_true rfl, Nat.le_of_ble_eq_true rfl⟩ rfl rfl (nle rfl) ⟨Nat.le_of_ble_eq_true rfl, Nat.le_of_ble_eq_true rfl⟩ (c_X11_isFigure (x := at1) (b := b) (ln := ln) (pr := pr) (nm := nm) (at_ := at1) (wr := wr) (va := va1) (em := em) (ta := ta) (ro := ro) (dg := dg) hs_e hN ((hs_n (by omega)).trans hbt) hbb hl0 hl (by omega) (by omega) (fun b127 hb127 => ?_))
              show G _ _ _ _ _ _ _ 130 _ _ _
              refine r_if_eq 202 dX11_number_130 (by decide) (by rcases hb127 with ⟨y, _⟩ | ⟨y, _⟩ <;> exact ⟨by omega, by omega⟩) (fun c_130 => ?_) (fun c_130 => ?_)
              · refine r_aload_n dX11_number_202 rfl rfl ?_
                refine gf_X11_109 dX11_number_203 (by omega) hs_e rfl ?_
                refine r_lload_n dX11_number_206 rfl rfl ?_
                refine r_lcmp_le 218 dX11_number_207 dX11_number_208 (by decide) ⟨by omega, by omega⟩ ⟨by omega, by omega⟩ (fun c_207 => ?_) (fun c_207 => ?_)
                · refine r_aload_n dX11_number_218 rfl rfl ?_
                  refine r_iload dX11_number_219 rfl ?_
                  refine r_if_eq 232 dX11_number_221 (by decide) ⟨by decide, by decide⟩ (fun c_221 => ?_) (fun c_221 => by exfalso; omega)
                  refine r_aload_n dX11_number_232 rfl rfl ?_
                  refine gf_X11_109 dX11_number_233 (by omega) hs_e rfl ?_
                  refine pf_X11_109 (fs2 := [_, _, _, _, _, _, _, _, _, _, _, _, _, _, _, _, _, _, _, _, _, _, _, _, _, _, _, _, _, _, _]) dX11_number_236 (fun _ _ => rfl) (fun _ _ => rfl) (nlt rfl) (by omega) hs_e rfl ?_
                  refine g_heap (h2 := (hs h (124) (MOo (ln) (pr) (nm) (at1) (wr) (va1) (em) (ta) (ro) (dg)))) hs_hs ?_
                  refine r_iconst (z := 1) dX11_number_239 ?_
                  refine r_zreturn hq dX11_number_240 rfl (by decide) rfl rfl ?_
                  have hnF : ¬ Fig ln b at1 := by
                    rcases hb127 with ⟨y, _⟩ | ⟨_, y⟩
                    · omega
                    · exact y
                  have hn1 : 1 ≤ n := by
                    cases n with
                    | zero => exact absurd hfg0 (by rw [show (at_ + 0) = at1 by omega]; exact hnF)
                    | succ n => omega
                  have hrun : Run ln b (at_ + 0) n := ⟨hn1, hfig, by rw [← ea]; exact hnF⟩
                  exact hQ 1 (-4) (dv b (at_ + 0) n) ((at_ + 0) + n) _ _ _ ⟨_, (Or.inr ⟨fun q => by have := q.1; have := q.2; omega, by omega⟩), Or.inr (Or.inr ⟨hfg0, (fun q => by have := q.2; omega), n, hrun, Or.inl ⟨by omega, rfl, fun z => by rfl, fun z => by omega, rfl⟩⟩)⟩ (Or.inr ⟨rfl, rfl, by omega, by omega⟩)
                · refine r_aload_n dX11_number_211 rfl rfl ?_
                  refine r_iload_n dX11_number_212 rfl rfl ?_
                  refine pf_X11_106 (fs2 := [_, _, _, _, _, _, _, _, _, _, _, _, _, _, _, _, _, _, _, _, _, _, _, _, _, _, _, _, _, _, _]) dX11_number_213 (fun _ _ => rfl) (fun _ _ => rfl) (nlt rfl) (by omega) hs_e rfl ?_
                  refine g_heap (h2 := (hs h (124) (MOo (ln) (pr) (nm) (at1) (at_) (va1) (em) (ta) (ro) (dg)))) hs_hs ?_
                  refine r_iconst (z := 0) dX11_number_216 ?_
                  refine r_zreturn hq dX11_number_217 rfl (by decide) rfl rfl ?_
                  have hnF : ¬ Fig ln b at1 := by
                    rcases hb127 with ⟨y, _⟩ | ⟨_, y⟩
                    · omega
                    · exact y
                  have hn1 : 1 ≤ n := by
                    cases n with
                    | zero => exact absurd hfg0 (by rw [show (at_ + 0) = at1 by omega]; exact hnF)
                    | succ n => omega
                  have hrun : Run ln b (at_ + 0) n := ⟨hn1, hfig, by rw [← ea]; exact hnF⟩
                  exact hQ 0 at_ 0 0 _ _ _ ⟨_, (Or.inr ⟨fun q => by have := q.1; have := q.2; omega, by omega⟩), Or.inr (Or.inr ⟨hfg0, (fun q => by have := q.2; omega), n, hrun, Or.inr ⟨by omega, rfl⟩⟩)⟩ (Or.inl ⟨rfl, by omega, rfl⟩)
              · refine r_iload dX11_number_133 rfl ?_
                refine r_if_eq 146 dX11_number_135 (by decide) ⟨by decide, by decide⟩ (fun c_135 => ?_) (fun c_135 => by exfalso; omega)
                have hfg : Fig ln b at1 := by
                  rcases hb127 with ⟨_, y⟩ | ⟨y, _⟩
                  · exact y
                  · omega
                have hga := hfg.1
                have hgb := hfg.2.1
                have hgc := hfg.2.2
                have hfig2 : ∀ j : Nat, j < n + 1 → Fig ln b ((at_ + 0) + j) := fun j hj => by
                  by_cases z : j = n
                  · rw [z, ← ea]; exact hfg
                  · exact hfig j (by omega)
                have hdm := dv_mono (b := b) (Nat.le_succ n) hfig2
                have hdn : dv b (at_ + 0) (n + 1) = 10 * dv b (at_ + 0) n + b at1.toNat - 48 := by
                  show 10 * dv b (at_ + 0) n + b ((at_ + 0) + (n : Int)).toNat - 48 = _
                  rw [← ea]
                refine r_aload_n dX11_number_146 rfl rfl ?_
                refine r_aload_n dX11_number_147 rfl rfl ?_
                refine gf_X11_109 dX11_number_148 (by omega) hs_e rfl ?_
                refine r_lload_n dX11_number_151 rfl rfl ?_
                refine r_lcmp_le 163 dX11_number_152 dX11_number_153 (by decide) ⟨by omega, by omega⟩ ⟨by omega, by omega⟩ (fun c_152 => ?_) (fun c_152 => ?_)
                · refine r_ldc2 (z := 10) dX11_number_163 kc_X11_113 ?_
                  refine r_aload_n dX11_number_166 rfl rfl ?_
                  refine gf_X11_109 dX11_number_167 (by omega) hs_e rfl ?_
                  refine r_lmul dX11_number_170 ?_
                  refine r_aload_n dX11_number_171 rfl rfl ?_
                  refine gf_X11_20 dX11_number_172 (by omega) hs_e rfl ?_
                  refine r_aload_n dX11_number_175 rfl rfl ?_
                  refine gf_X11_99 dX11_number_176 (by omega) hs_e rfl ?_
                  refine r_iaload dX11_number_179 (by omega) ((hs_n (by omega)).trans hbt) (by omega) (by omega) (by decide) ?_
                  have b_179 := hbb (at1).toNat (by omega)
                  refine r_i2l dX11_number_180 ⟨by omega, by omega⟩ ?_
                  refine r_ladd dX11_number_181 ?_
                  refine r_ldc2 (z := 48) dX11_number_182 kc_X11_95 ?_
                  refine r_lsub dX11_number_185 ?_
                  refine pf_X11_109 (fs2 := [_, _, _, _, _, _, _, _, _, _, _, _, _, _, _, _, _, _, _, _, _, _, _, _, _, _, _, _, _, _, _]) dX11_number_186 (fun _ _ => rfl) (fun _ _ => rfl) (nlt rfl) (by omega) hs_e rfl ?_
                  refine g_heap (h2 := (hs h (124) (MOo (ln) (pr) (nm) (at1) (wr) (((10 * va1) + (b (at1).toNat)) - 48) (em) (ta) (ro) (dg)))) hs_hs ?_
                  refine r_aload_n dX11_number_189 rfl rfl ?_
                  refine r_dup dX11_number_190 rfl ?_
                  refine gf_X11_99 dX11_number_191 (by omega) hs_e rfl ?_
                  refine r_iconst (z := 1) dX11_number_194 ?_
                  refine r_iadd dX11_number_195 ?_
                  refine pf_X11_99 (fs2 := [_, _, _, _, _, _, _, _, _, _, _, _, _, _, _, _, _, _, _, _, _, _, _, _, _, _, _, _, _, _, _]) dX11_number_196 (fun _ _ => rfl) (fun _ _ => rfl) (nlt rfl) (by omega) hs_e rfl ?_
                  refine g_heap (h2 := (hs h (124) (MOo (ln) (pr) (nm) (at1 + 1) (wr) (((10 * va1) + (b (at1).toNat)) - 48) (em) (ta) (ro) (dg)))) hs_hs ?_
                  refine r_goto 122 dX11_number_199 (by decide) ?_
                  exact ih122 (at1 + 1) (((10 * va1) + (b (at1).toNat)) - 48) ((n + 1)) (by omega) (by omega) hfig2 (by rw [hdn]; by_cases w : 10 * va1 + b at1.toNat - 48 ≤ most; (left; omega); (right; omega)) (by omega) (by omega) (by omega) (by omega)
                · refine r_aload_n dX11_number_156 rfl rfl ?_
                  refine gf_X11_109 dX11_number_157 (by omega) hs_e rfl ?_
                  refine r_goto 186 dX11_number_160 (by decide) ?_
                  refine pf_X11_109 (fs2 := [_, _, _, _, _, _, _, _, _, _, _, _, _, _, _, _, _, _, _, _, _, _, _, _, _, _, _, _, _, _, _]) dX11_number_186 (fun _ _ => rfl) (fun _ _ => rfl) (nlt rfl) (by omega) hs_e rfl ?_
                  refine g_heap (h2 := (hs h (124) (MOo (ln) (pr) (nm) (at1) (wr) (va1) (em) (ta) (ro) (dg)))) hs_hs ?_
                  refine r_aload_n dX11_number_189 rfl rfl ?_
                  refine r_dup dX11_number_190 rfl ?_
                  refine gf_X11_99 dX11_number_191 (by omega) hs_e rfl ?_
                  refine r_iconst (z := 1) dX11_number_194 ?_
                  refine r_iadd dX11_number_195 ?_
                  refine pf_X11_99 (fs2 := [_, _, _, _, _, _, _, _, _, _, _, _, _, _, _, _, _, _, _, _, _, _, _, _, _, _, _, _, _, _, _]) dX11_number_196 (fun _ _ => rfl) (fun _ _ => rfl) (nlt rfl) (by omega) hs_e rfl ?_
                  refine g_heap (h2 := (hs h (124) (MOo (ln) (pr) (nm) (at1 + 1) (wr) (va1) (em) (ta) (ro) (dg)))) hs_hs ?_
                  refine r_goto 122 dX11_number_199 (by decide) ?_
                  exact ih122 (at1 + 1) (va1) ((n + 1)) (by omega) (by omega) hfig2 (Or.inr ⟨by omega, by omega⟩) (by omega) (by omega) (by omega) (by omega)
          exact lp122 ((102 : Int) + 1).toNat (at_ + 0) (0) (0) (by omega) (by omega) (fun j hj => absurd hj (Nat.not_lt_zero j)) (Or.inl ⟨hm1, rfl⟩) (by decide) (by decide) (by omega) (by decide)
        · refine r_iconst (z := 1) dX11_number_115 ?_
          refine r_goto 120 dX11_number_116 (by decide) ?_
          refine r_istore (L2 := [_, _, none, _, _, _]) dX11_number_120 (nlt rfl) rfl ?_
          have lp122 : ∀ (fu122 : Nat) (at1 : Int) (va1 : Int) (n : Nat), (102 - at1) < (fu122 : Int) → (at1 = (at_ + 0) + (n : Int)) → (∀ j : Nat, j < n → Fig ln b ((at_ + 0) + j)) → ((va1 ≤ most ∧ va1 = dv b (at_ + 0) n) ∨ (most < va1 ∧ most < dv b (at_ + 0) n)) → (0 ≤ va1) → (va1 ≤ 10000009) → (at1 ≤ 101) → (n ≤ 1) → G X RX11 cX11_number mX11_number.rm N 0 0 122 [some (.ref (124)), some (.long (lZ (most))), none, some (.int (iZ (at_))), some (.int (iZ (0))), some (.int (iZ (1)))] [] (hs h (124) (MOo (ln) (pr) (nm) (at1) (wr) (va1) (em) (ta) (ro) (dg))) := by
            intro fu122
            induction fu122 with
            | zero => intro at1 va1 n hm ea hfig hva va0 va9 at9 nn1; exfalso; omega
            | succ fu122 ih122 =>
              intro at1 va1 n hms122 ea hfig hva va0 va9 at9 nn1
              refine r_aload_n dX11_number_122 rfl rfl ?_
              refine r_aload_n dX11_number_123 rfl rfl ?_
              refine gf_X11_99 dX11_number_124 (by omega) hs_e rfl ?_
              refine r_callV (av := [.int (iZ (at1))]) dX11_number_127 lkX11_isFigure ml_X11_102 imX11_isFigure seX11_isFigure (by omega) (rfl : vwCl[11]? = _) ⟨_, hs_e⟩ ⟨Nat.le_of_ble_eq_true rfl, Nat.le_of_ble_eq_true rfl⟩ rfl rfl (nle rfl) ⟨Nat.le_of_ble_eq_true rfl, Nat.le_of_ble_eq_true rfl⟩ (c_X11_isFigure (x := at1) (b := b) (ln := ln) (pr := pr) (nm := nm) (at_ := at1) (wr := wr) (va := va1) (em := em) (ta := ta) (ro := ro) (dg := dg) hs_e hN ((hs_n (by omega)).trans hbt) hbb hl0 hl (by omega) (by omega) (fun b127 hb127 => ?_))
              show G _ _ _ _ _ _ _ 130 _ _ _
              refine r_if_eq 202 dX11_number_130 (by decide) (by rcases hb127 with ⟨y, _⟩ | ⟨y, _⟩ <;> exact ⟨by omega, by omega⟩) (fun c_130 => ?_) (fun c_130 => ?_)
              · refine r_aload_n dX11_number_202 rfl rfl ?_
                refine gf_X11_109 dX11_number_203 (by omega) hs_e rfl ?_
                refine r_lload_n dX11_number_206 rfl rfl ?_
                refine r_lcmp_le 218 dX11_number_207 dX11_number_208 (by decide) ⟨by omega, by omega⟩ ⟨by omega, by omega⟩ (fun c_207 => ?_) (fun c_207 => ?_)
                · refine r_aload_n dX11_number_218 rfl rfl ?_
                  refine r_iload dX11_number_219 rfl ?_
                  refine r_if_eq 232 dX11_number_221 (by decide) ⟨by decide, by decide⟩ (fun c_221 => ?_) (fun c_221 => by exfalso; omega)
                  refine r_aload_n dX11_number_232 rfl rfl ?_
                  refine gf_X11_109 dX11_number_233 (by omega) hs_e rfl ?_
                  refine pf_X11_109 (fs2 := [_, _, _, _, _, _, _, _, _, _, _, _, _, _, _, _, _, _, _, _, _, _, _, _, _, _, _, _, _, _, _]) dX11_number_236 (fun _ _ => rfl) (fun _ _ => rfl) (nlt rfl) (by omega) hs_e rfl ?_
                  refine g_heap (h2 := (hs h (124) (MOo (ln) (pr) (nm) (at1) (wr) (va1) (em) (ta) (ro) (dg)))) hs_hs ?_
                  refine r_iconst (z := 1) dX11_number_239 ?_
                  refine r_zreturn hq dX11_number_240 rfl (by decide) rfl rfl ?_
                  have hnF : ¬ Fig ln b at1 := by
                    rcases hb127 with ⟨y, _⟩ | ⟨_, y⟩
                    · omega
                    · exact y
                  have hn1 : 1 ≤ n := by
                    cases n with
                    | zero => exact absurd hfg0 (by rw [show (at_ + 0) = at1 by omega]; exact hnF)
                    | succ n => omega
                  have hrun : Run ln b (at_ + 0) n := ⟨hn1, hfig, by rw [← ea]; exact hnF⟩
                  have hn9 : n = 1 := by omega
                  have hdv1 : dv b (at_ + 0) 1 = 0 := by
                    show 10 * 0 + b ((at_ + 0) + ((0 : Nat) : Int)).toNat - 48 = 0
                    rw [show ((at_ + 0) + ((0 : Nat) : Int)).toNat = (at_ + 0).toNat by omega]
                    omega
                  rw [hn9, hdv1] at hva
                  exact hQ 1 (-4) 0 ((at_ + 0) + 1) _ _ _ ⟨_, (Or.inr ⟨fun q => by have := q.1; have := q.2; omega, by omega⟩), Or.inl ⟨by omega, ⟨by omega, by omega⟩, rfl, rfl, rfl⟩⟩ (Or.inr ⟨rfl, rfl, by omega, by omega⟩)
                · refine r_aload_n dX11_number_211 rfl rfl ?_
                  refine r_iload_n dX11_number_212 rfl rfl ?_
                  refine pf_X11_106 (fs2 := [_, _, _, _, _, _, _, _, _, _, _, _, _, _, _, _, _, _, _, _, _, _, _, _, _, _, _, _, _, _, _]) dX11_number_213 (fun _ _ => rfl) (fun _ _ => rfl) (nlt rfl) (by omega) hs_e rfl ?_
                  refine g_heap (h2 := (hs h (124) (MOo (ln) (pr) (nm) (at1) (at_) (va1) (em) (ta) (ro) (dg)))) hs_hs ?_
                  refine r_iconst (z := 0) dX11_number_216 ?_
                  refine r_zreturn hq dX11_number_217 rfl (by decide) rfl rfl ?_
                  have hnF : ¬ Fig ln b at1 := by
                    rcases hb127 with ⟨y, _⟩ | ⟨_, y⟩
                    · omega
                    · exact y
                  have hn1 : 1 ≤ n := by
                    cases n with
                    | zero => exact absurd hfg0 (by rw [show (at_ + 0) = at1 by omega]; exact hnF)
                    | succ n => omega
                  have hrun : Run ln b (at_ + 0) n := ⟨hn1, hfig, by rw [← ea]; exact hnF⟩
                  have hn9 : n = 1 := by omega
                  have hdv1 : dv b (at_ + 0) 1 = 0 := by
                    show 10 * 0 + b ((at_ + 0) + ((0 : Nat) : Int)).toNat - 48 = 0
                    rw [show ((at_ + 0) + ((0 : Nat) : Int)).toNat = (at_ + 0).toNat by omega]
                    omega
                  rw [hn9, hdv1] at hva
                  exfalso; omega
              · refine r_iload dX11_number_133 rfl ?_
                refine r_if_eq 146 dX11_number_135 (by decide) ⟨by decide, by decide⟩ (fun c_135 => by exfalso; omega) (fun c_135 => ?_)
                refine r_aload_n dX11_number_138 rfl rfl ?_
                refine gf_X11_99 dX11_number_139 (by omega) hs_e rfl ?_
                refine r_iload_n dX11_number_142 rfl rfl ?_
                refine r_icmp_ne 202 dX11_number_143 (by decide) ⟨by omega, by omega⟩ ⟨by omega, by omega⟩ (fun c_143 => ?_) (fun c_143 => ?_)
                · refine r_aload_n dX11_number_202 rfl rfl ?_
                  refine gf_X11_109 dX11_number_203 (by omega) hs_e rfl ?_
                  refine r_lload_n dX11_number_206 rfl rfl ?_
                  refine r_lcmp_le 218 dX11_number_207 dX11_number_208 (by decide) ⟨by omega, by omega⟩ ⟨by omega, by omega⟩ (fun c_207 => ?_) (fun c_207 => ?_)
                  · refine r_aload_n dX11_number_218 rfl rfl ?_
                    refine r_iload dX11_number_219 rfl ?_
                    refine r_if_eq 232 dX11_number_221 (by decide) ⟨by decide, by decide⟩ (fun c_221 => ?_) (fun c_221 => by exfalso; omega)
                    refine r_aload_n dX11_number_232 rfl rfl ?_
                    refine gf_X11_109 dX11_number_233 (by omega) hs_e rfl ?_
                    refine pf_X11_109 (fs2 := [_, _, _, _, _, _, _, _, _, _, _, _, _, _, _, _, _, _, _, _, _, _, _, _, _, _, _, _, _, _, _]) dX11_number_236 (fun _ _ => rfl) (fun _ _ => rfl) (nlt rfl) (by omega) hs_e rfl ?_
                    refine g_heap (h2 := (hs h (124) (MOo (ln) (pr) (nm) (at1) (wr) (va1) (em) (ta) (ro) (dg)))) hs_hs ?_
                    refine r_iconst (z := 1) dX11_number_239 ?_
                    refine r_zreturn hq dX11_number_240 rfl (by decide) rfl rfl ?_
                    have hn9 : n = 1 := by omega
                    have hdv1 : dv b (at_ + 0) 1 = 0 := by
                      show 10 * 0 + b ((at_ + 0) + ((0 : Nat) : Int)).toNat - 48 = 0
                      rw [show ((at_ + 0) + ((0 : Nat) : Int)).toNat = (at_ + 0).toNat by omega]
                      omega
                    rw [hn9, hdv1] at hva
                    exact hQ 1 (-4) 0 ((at_ + 0) + 1) _ _ _ ⟨_, (Or.inr ⟨fun q => by have := q.1; have := q.2; omega, by omega⟩), Or.inl ⟨by omega, ⟨by omega, by omega⟩, rfl, rfl, rfl⟩⟩ (Or.inr ⟨rfl, rfl, by omega, by omega⟩)
                  · refine r_aload_n dX11_number_211 rfl rfl ?_
                    refine r_iload_n dX11_number_212 rfl rfl ?_
                    refine pf_X11_106 (fs2 := [_, _, _, _, _, _, _, _, _, _, _, _, _, _, _, _, _, _, _, _, _, _, _, _, _, _, _, _, _, _, _]) dX11_number_213 (fun _ _ => rfl) (fun _ _ => rfl) (nlt rfl) (by omega) hs_e rfl ?_
                    refine g_heap (h2 := (hs h (124) (MOo (ln) (pr) (nm) (at1) (at_) (va1) (em) (ta) (ro) (dg)))) hs_hs ?_
                    refine r_iconst (z := 0) dX11_number_216 ?_
                    refine r_zreturn hq dX11_number_217 rfl (by decide) rfl rfl ?_
                    have hn9 : n = 1 := by omega
                    have hdv1 : dv b (at_ + 0) 1 = 0 := by
                      show 10 * 0 + b ((at_ + 0) + ((0 : Nat) : Int)).toNat - 48 = 0
                      rw [show ((at_ + 0) + ((0 : Nat) : Int)).toNat = (at_ + 0).toNat by omega]
                      omega
                    rw [hn9, hdv1] at hva
                    exfalso; omega
                · have hfg : Fig ln b at1 := by
                    rcases hb127 with ⟨_, y⟩ | ⟨y, _⟩
                    · exact y
                    · omega
                  have hga := hfg.1
                  have hgb := hfg.2.1
                  have hgc := hfg.2.2
                  have hfig2 : ∀ j : Nat, j < n + 1 → Fig ln b ((at_ + 0) + j) := fun j hj => by
                    by_cases z : j = n
                    · rw [z, ← ea]; exact hfg
                    · exact hfig j (by omega)
                  have hdm := dv_mono (b := b) (Nat.le_succ n) hfig2
                  have hdn : dv b (at_ + 0) (n + 1) = 10 * dv b (at_ + 0) n + b at1.toNat - 48 := by
                    show 10 * dv b (at_ + 0) n + b ((at_ + 0) + (n : Int)).toNat - 48 = _
                    rw [← ea]
                  refine r_aload_n dX11_number_146 rfl rfl ?_
                  refine r_aload_n dX11_number_147 rfl rfl ?_
                  refine gf_X11_109 dX11_number_148 (by omega) hs_e rfl ?_
                  refine r_lload_n dX11_number_151 rfl rfl ?_
                  refine r_lcmp_le 163 dX11_number_152 dX11_number_153 (by decide) ⟨by omega, by omega⟩ ⟨by omega, by omega⟩ (fun c_152 => ?_) (fun c_152 => ?_)
                  · refine r_ldc2 (z := 10) dX11_number_163 kc_X11_113 ?_
                    refine r_aload_n dX11_number_166 rfl rfl ?_
                    refine gf_X11_109 dX11_number_167 (by omega) hs_e rfl ?_
                    refine r_lmul dX11_number_170 ?_
                    refine r_aload_n dX11_number_171 rfl rfl ?_
                    refine gf_X11_20 dX11_number_172 (by omega) hs_e rfl ?_
                    refine r_aload_n dX11_number_175 rfl rfl ?_
                    refine gf_X11_99 dX11_number_176 (by omega) hs_e rfl ?_
                    refine r_iaload dX11_number_179 (by omega) ((hs_n (by omega)).trans hbt) (by omega) (by omega) (by decide) ?_
                    have b_179 := hbb (at1).toNat (by omega)
                    refine r_i2l dX11_number_180 ⟨by omega, by omega⟩ ?_
                    refine r_ladd dX11_number_181 ?_
                    refine r_ldc2 (z := 48) dX11_number_182 kc_X11_95 ?_
                    refine r_lsub dX11_number_185 ?_
                    refine pf_X11_109 (fs2 := [_, _, _, _, _, _, _, _, _, _, _, _, _, _, _, _, _, _, _, _, _, _, _, _, _, _, _, _, _, _, _]) dX11_number_186 (fun _ _ => rfl) (fun _ _ => rfl) (nlt rfl) (by omega) hs_e rfl ?_
                    refine g_heap (h2 := (hs h (124) (MOo (ln) (pr) (nm) (at1) (wr) (((10 * va1) + (b (at1).toNat)) - 48) (em) (ta) (ro) (dg)))) hs_hs ?_
                    refine r_aload_n dX11_number_189 rfl rfl ?_
                    refine r_dup dX11_number_190 rfl ?_
                    refine gf_X11_99 dX11_number_191 (by omega) hs_e rfl ?_
                    refine r_iconst (z := 1) dX11_number_194 ?_
                    refine r_iadd dX11_number_195 ?_
                    refine pf_X11_99 (fs2 := [_, _, _, _, _, _, _, _, _, _, _, _, _, _, _, _, _, _, _, _, _, _, _, _, _, _, _, _, _, _, _]) dX11_number_196 (fun _ _ => rfl) (fun _ _ => rfl) (nlt rfl) (by omega) hs_e rfl ?_
                    refine g_heap (h2 := (hs h (124) (MOo (ln) (pr) (nm) (at1 + 1) (wr) (((10 * va1) + (b (at1).toNat)) - 48) (em) (ta) (ro) (dg)))) hs_hs ?_
                    refine r_goto 122 dX11_number_199 (by decide) ?_
                    exact ih122 (at1 + 1) (((10 * va1) + (b (at1).toNat)) - 48) ((n + 1)) (by omega) (by omega) hfig2 (by rw [hdn]; by_cases w : 10 * va1 + b at1.toNat - 48 ≤ most; (left; omega); (right; omega)) (by omega) (by omega) (by omega) (by omega)
                  · refine r_aload_n dX11_number_156 rfl rfl ?_
                    refine gf_X11_109 dX11_number_157 (by omega) hs_e rfl ?_
                    refine r_goto 186 dX11_number_160 (by decide) ?_
                    refine pf_X11_109 (fs2 := [_, _, _, _, _, _, _, _, _, _, _, _, _, _, _, _, _, _, _, _, _, _, _, _, _, _, _, _, _, _, _]) dX11_number_186 (fun _ _ => rfl) (fun _ _ => rfl) (nlt rfl) (by omega) hs_e rfl ?_
                    refine g_heap (h2 := (hs h (124) (MOo (ln) (pr) (nm) (at1) (wr) (va1) (em) (ta) (ro) (dg)))) hs_hs ?_
                    refine r_aload_n dX11_number_189 rfl rfl ?_
                    refine r_dup dX11_number_190 rfl ?_
                    refine gf_X11_99 dX11_number_191 (by omega) hs_e rfl ?_
                    refine r_iconst (z := 1) dX11_number_194 ?_
                    refine r_iadd dX11_number_195 ?_
                    refine pf_X11_99 (fs2 := [_, _, _, _, _, _, _, _, _, _, _, _, _, _, _, _, _, _, _, _, _, _, _, _, _, _, _, _, _, _, _]) dX11_number_196 (fun _ _ => rfl) (fun _ _ => rfl) (nlt rfl) (by omega) hs_e rfl ?_
                    refine g_heap (h2 := (hs h (124) (MOo (ln) (pr) (nm) (at1 + 1) (wr) (va1) (em) (ta) (ro) (dg)))) hs_hs ?_
                    refine r_goto 122 dX11_number_199 (by decide) ?_
                    exact ih122 (at1 + 1) (va1) ((n + 1)) (by omega) (by omega) hfig2 (Or.inr ⟨by omega, by omega⟩) (by omega) (by omega) (by omega) (by omega)
          exact lp122 ((102 : Int) + 1).toNat (at_ + 0) (0) (0) (by omega) (by omega) (fun j hj => absurd hj (Nat.not_lt_zero j)) (Or.inl ⟨hm1, rfl⟩) (by decide) (by decide) (by omega) (by decide)
    · refine r_iconst (z := 1) dX11_number_30 ?_
      refine r_goto 35 dX11_number_31 (by decide) ?_
      refine r_istore (L2 := [_, _, none, _, _, none]) dX11_number_35 (nlt rfl) rfl ?_
      refine r_aload_n dX11_number_37 rfl rfl ?_
      refine r_dup dX11_number_38 rfl ?_
      refine gf_X11_99 dX11_number_39 (by omega) hm0 rfl ?_
      refine r_iload dX11_number_42 rfl ?_
      refine r_if_eq 51 dX11_number_44 (by decide) ⟨by decide, by decide⟩ (fun c_44 => by exfalso; omega) (fun c_44 => ?_)
      refine r_iconst (z := 1) dX11_number_47 ?_
      refine r_goto 52 dX11_number_48 (by decide) ?_
      refine r_iadd dX11_number_52 ?_
      refine pf_X11_99 (fs2 := [_, _, _, _, _, _, _, _, _, _, _, _, _, _, _, _, _, _, _, _, _, _, _, _, _, _, _, _, _, _, _]) dX11_number_53 (fun _ _ => rfl) (fun _ _ => rfl) (nlt rfl) (by omega) hm0 rfl ?_
      refine r_aload_n dX11_number_56 rfl rfl ?_
      refine r_aload_n dX11_number_57 rfl rfl ?_
      refine gf_X11_99 dX11_number_58 (by omega) hs_e rfl ?_
      refine r_callV (av := [.int (iZ (at_ + 1))]) dX11_number_61 lkX11_isFigure ml_X11_102 imX11_isFigure seX11_isFigure (by omega) (rfl : vwCl[11]? = _) ⟨_, hs_e⟩ ⟨Nat.le_of_ble_eq_true rfl, Nat.le_of_ble_eq_true rfl⟩ rfl rfl (nle rfl) ⟨Nat.le_of_ble_eq_true rfl, Nat.le_of_ble_eq_true rfl⟩ (c_X11_isFigure (x := at_ + 1) (b := b) (ln := ln) (pr := pr) (nm := nm) (at_ := at_ + 1) (wr := wr) (va := va) (em := em) (ta := ta) (ro := ro) (dg := dg) hs_e hN ((hs_n (by omega)).trans hbt) hbb hl0 hl (by omega) (by omega) (fun b61 hb61 => ?_))
      show G _ _ _ _ _ _ _ 64 _ _ _
      refine r_if_eq 86 dX11_number_64 (by decide) (by rcases hb61 with ⟨y, _⟩ | ⟨y, _⟩ <;> exact ⟨by omega, by omega⟩) (fun c_64 => ?_) (fun c_64 => ?_)
      · refine r_aload_n dX11_number_86 rfl rfl ?_
        refine r_aload_n dX11_number_87 rfl rfl ?_
        refine gf_X11_99 dX11_number_88 (by omega) hs_e rfl ?_
        refine pf_X11_106 (fs2 := [_, _, _, _, _, _, _, _, _, _, _, _, _, _, _, _, _, _, _, _, _, _, _, _, _, _, _, _, _, _, _]) dX11_number_91 (fun _ _ => rfl) (fun _ _ => rfl) (nlt rfl) (by omega) hs_e rfl ?_
        refine g_heap (h2 := (hs h (124) (MOo (ln) (pr) (nm) (at_ + 1) (at_ + 1) (va) (em) (ta) (ro) (dg)))) hs_hs ?_
        refine r_iconst (z := 0) dX11_number_94 ?_
        refine r_zreturn hq dX11_number_95 rfl (by decide) rfl rfl ?_
        exact hQ 0 (at_ + 1) 0 0 _ _ _ ⟨_, (Or.inl ⟨⟨by omega, by omega⟩, by omega⟩), Or.inr (Or.inl ⟨Or.inl (by rcases hb61 with ⟨y, _⟩ | ⟨_, y⟩; omega; exact y), rfl⟩)⟩ (Or.inl ⟨rfl, by omega, rfl⟩)
      · have hfg0 : Fig ln b (at_ + 1) := by
          rcases hb61 with ⟨_, y⟩ | ⟨y, _⟩
          · exact y
          · omega
        have hfa := hfg0.1
        have hfb := hfg0.2.1
        have hfc := hfg0.2.2
        refine r_iload dX11_number_67 rfl ?_
        refine r_if_eq 96 dX11_number_69 (by decide) ⟨by decide, by decide⟩ (fun c_69 => by exfalso; omega) (fun c_69 => ?_)
        refine r_aload_n dX11_number_72 rfl rfl ?_
        refine gf_X11_20 dX11_number_73 (by omega) hs_e rfl ?_
        refine r_aload_n dX11_number_76 rfl rfl ?_
        refine gf_X11_99 dX11_number_77 (by omega) hs_e rfl ?_
        refine r_iaload dX11_number_80 (by omega) ((hs_n (by omega)).trans hbt) (by omega) (by omega) (by decide) ?_
        have b_80 := hbb (at_ + 1).toNat (by omega)
        refine r_bipush (z := 48) dX11_number_81 (by decide) ?_
        refine r_icmp_ne 96 dX11_number_83 (by decide) ⟨by omega, by omega⟩ ⟨by decide, by decide⟩ (fun c_83 => ?_) (fun c_83 => ?_)
        · refine r_aload_n dX11_number_96 rfl rfl ?_
          refine r_lconst (z := 0) dX11_number_97 (by decide) ?_
          refine pf_X11_109 (fs2 := [_, _, _, _, _, _, _, _, _, _, _, _, _, _, _, _, _, _, _, _, _, _, _, _, _, _, _, _, _, _, _]) dX11_number_98 (fun _ _ => rfl) (fun _ _ => rfl) (nlt rfl) (by omega) hs_e rfl ?_
          refine g_heap (h2 := (hs h (124) (MOo (ln) (pr) (nm) (at_ + 1) (wr) (0) (em) (ta) (ro) (dg)))) hs_hs ?_
          refine r_aload_n dX11_number_101 rfl rfl ?_
          refine gf_X11_20 dX11_number_102 (by omega) hs_e rfl ?_
          refine r_aload_n dX11_number_105 rfl rfl ?_
          refine gf_X11_99 dX11_number_106 (by omega) hs_e rfl ?_
          refine r_iaload dX11_number_109 (by omega) ((hs_n (by omega)).trans hbt) (by omega) (by omega) (by decide) ?_
          have b_109 := hbb (at_ + 1).toNat (by omega)
          refine r_bipush (z := 48) dX11_number_110 (by decide) ?_
          refine r_icmp_ne 119 dX11_number_112 (by decide) ⟨by omega, by omega⟩ ⟨by decide, by decide⟩ (fun c_112 => ?_) (fun c_112 => ?_)
          · refine r_iconst (z := 0) dX11_number_119 ?_
            refine r_istore (L2 := [_, _, none, _, _, _]) dX11_number_120 (nlt rfl) rfl ?_
            have lp122 : ∀ (fu122 : Nat) (at1 : Int) (va1 : Int) (n : Nat), (102 - at1) < (fu122 : Int) → (at1 = (at_ + 1) + (n : Int)) → (∀ j : Nat, j < n → Fig ln b ((at_ + 1) + j)) → ((va1 ≤ most ∧ va1 = dv b (at_ + 1) n) ∨ (most < va1 ∧ most < dv b (at_ + 1) n)) → (0 ≤ va1) → (va1 ≤ 10000009) → (at1 ≤ 101) → (n ≤ 200) → G X RX11 cX11_number mX11_number.rm N 0 0 122 [some (.ref (124)), some (.long (lZ (most))), none, some (.int (iZ (at_))), some (.int (iZ (1))), some (.int (iZ (0)))] [] (hs h (124) (MOo (ln) (pr) (nm) (at1) (wr) (va1) (em) (ta) (ro) (dg))) := by
              intro fu122
              induction fu122 with
              | zero => intro at1 va1 n hm ea hfig hva va0 va9 at9 nn1; exfalso; omega
              | succ fu122 ih122 =>
                intro at1 va1 n hms122 ea hfig hva va0 va9 at9 nn1
                refine r_aload_n dX11_number_122 rfl rfl ?_
                refine r_aload_n dX11_number_123 rfl rfl ?_
                refine gf_X11_99 dX11_number_124 (by omega) hs_e rfl ?_
                refine r_callV (av := [.int (iZ (at1))]) dX11_number_127 lkX11_isFigure ml_X11_102 imX11_isFigure seX11_isFigure (by omega) (rfl : vwCl[11]? = _) ⟨_, hs_e⟩ ⟨Nat.le_of_ble_eq_true rfl, Nat.le_of_ble_eq_true rfl⟩ rfl rfl (nle rfl) ⟨Nat.le_of_ble_eq_true rfl, Nat.le_of_ble_eq_true rfl⟩ (c_X11_isFigure (x := at1) (b := b) (ln := ln) (pr := pr) (nm := nm) (at_ := at1) (wr := wr) (va := va1) (em := em) (ta := ta) (ro := ro) (dg := dg) hs_e hN ((hs_n (by omega)).trans hbt) hbb hl0 hl (by omega) (by omega) (fun b127 hb127 => ?_))
                show G _ _ _ _ _ _ _ 130 _ _ _
                refine r_if_eq 202 dX11_number_130 (by decide) (by rcases hb127 with ⟨y, _⟩ | ⟨y, _⟩ <;> exact ⟨by omega, by omega⟩) (fun c_130 => ?_) (fun c_130 => ?_)
                · refine r_aload_n dX11_number_202 rfl rfl ?_
                  refine gf_X11_109 dX11_number_203 (by omega) hs_e rfl ?_
                  refine r_lload_n dX11_number_206 rfl rfl ?_
                  refine r_lcmp_le 218 dX11_number_207 dX11_number_208 (by decide) ⟨by omega, by omega⟩ ⟨by omega, by omega⟩ (fun c_207 => ?_) (fun c_207 => ?_)
                  · refine r_aload_n dX11_number_218 rfl rfl ?_
                    refine r_iload dX11_number_219 rfl ?_
                    refine r_if_eq 232 dX11_number_221 (by decide) ⟨by decide, by decide⟩ (fun c_221 => by exfalso; omega) (fun c_221 => ?_)
                    refine r_aload_n dX11_number_224 rfl rfl ?_
                    refine gf_X11_109 dX11_number_225 (by omega) hs_e rfl ?_
                    refine r_lneg dX11_number_228 ?_
                    refine r_goto 236 dX11_number_229 (by decide) ?_
                    refine pf_X11_109 (fs2 := [_, _, _, _, _, _, _, _, _, _, _, _, _, _, _, _, _, _, _, _, _, _, _, _, _, _, _, _, _, _, _]) dX11_number_236 (fun _ _ => rfl) (fun _ _ => rfl) (nlt rfl) (by omega) hs_e rfl ?_
                    refine g_heap (h2 := (hs h (124) (MOo (ln) (pr) (nm) (at1) (wr) (-va1) (em) (ta) (ro) (dg)))) hs_hs ?_
                    refine r_iconst (z := 1) dX11_number_239 ?_
                    refine r_zreturn hq dX11_number_240 rfl (by decide) rfl rfl ?_
                    have hnF : ¬ Fig ln b at1 := by
                      rcases hb127 with ⟨y, _⟩ | ⟨_, y⟩
                      · omega
                      · exact y
                    have hn1 : 1 ≤ n := by
                      cases n with
                      | zero => exact absurd hfg0 (by rw [show (at_ + 1) = at1 by omega]; exact hnF)
                      | succ n => omega
                    have hrun : Run ln b (at_ + 1) n := ⟨hn1, hfig, by rw [← ea]; exact hnF⟩
                    exact hQ 1 (-4) (-dv b (at_ + 1) n) ((at_ + 1) + n) _ _ _ ⟨_, (Or.inl ⟨⟨by omega, by omega⟩, by omega⟩), Or.inr (Or.inr ⟨hfg0, (fun q => by have := q.2; omega), n, hrun, Or.inl ⟨by omega, rfl, fun z => by omega, fun z => by rfl, rfl⟩⟩)⟩ (Or.inr ⟨rfl, rfl, by omega, by omega⟩)
                  · refine r_aload_n dX11_number_211 rfl rfl ?_
                    refine r_iload_n dX11_number_212 rfl rfl ?_
                    refine pf_X11_106 (fs2 := [_, _, _, _, _, _, _, _, _, _, _, _, _, _, _, _, _, _, _, _, _, _, _, _, _, _, _, _, _, _, _]) dX11_number_213 (fun _ _ => rfl) (fun _ _ => rfl) (nlt rfl) (by omega) hs_e rfl ?_
                    refine g_heap (h2 := (hs h (124) (MOo (ln) (pr) (nm) (at1) (at_) (va1) (em) (ta) (ro) (dg)))) hs_hs ?_
                    refine r_iconst (z := 0) dX11_number_216 ?_
                    refine r_zreturn hq dX11_number_217 rfl (by decide) rfl rfl ?_
                    have hnF : ¬ Fig ln b at1 := by
                      rcases hb127 with ⟨y, _⟩ | ⟨_, y⟩
                      · omega
                      · exact y
                    have hn1 : 1 ≤ n := by
                      cases n with
                      | zero => exact absurd hfg0 (by rw [show (at_ + 1) = at1 by omega]; exact hnF)
                      | succ n => omega
                    have hrun : Run ln b (at_ + 1) n := ⟨hn1, hfig, by rw [← ea]; exact hnF⟩
                    exact hQ 0 at_ 0 0 _ _ _ ⟨_, (Or.inl ⟨⟨by omega, by omega⟩, by omega⟩), Or.inr (Or.inr ⟨hfg0, (fun q => by have := q.2; omega), n, hrun, Or.inr ⟨by omega, rfl⟩⟩)⟩ (Or.inl ⟨rfl, by omega, rfl⟩)
                · refine r_iload dX11_number_133 rfl ?_
                  refine r_if_eq 146 dX11_number_135 (by decide) ⟨by decide, by decide⟩ (fun c_135 => ?_) (fun c_135 => by exfalso; omega)
                  have hfg : Fig ln b at1 := by
                    rcases hb127 with ⟨_, y⟩ | ⟨y, _⟩
                    · exact y
                    · omega
                  have hga := hfg.1
                  have hgb := hfg.2.1
                  have hgc := hfg.2.2
                  have hfig2 : ∀ j : Nat, j < n + 1 → Fig ln b ((at_ + 1) + j) := fun j hj => by
                    by_cases z : j = n
                    · rw [z, ← ea]; exact hfg
                    · exact hfig j (by omega)
                  have hdm := dv_mono (b := b) (Nat.le_succ n) hfig2
                  have hdn : dv b (at_ + 1) (n + 1) = 10 * dv b (at_ + 1) n + b at1.toNat - 48 := by
                    show 10 * dv b (at_ + 1) n + b ((at_ + 1) + (n : Int)).toNat - 48 = _
                    rw [← ea]
                  refine r_aload_n dX11_number_146 rfl rfl ?_
                  refine r_aload_n dX11_number_147 rfl rfl ?_
                  refine gf_X11_109 dX11_number_148 (by omega) hs_e rfl ?_
                  refine r_lload_n dX11_number_151 rfl rfl ?_
                  refine r_lcmp_le 163 dX11_number_152 dX11_number_153 (by decide) ⟨by omega, by omega⟩ ⟨by omega, by omega⟩ (fun c_152 => ?_) (fun c_152 => ?_)
                  · refine r_ldc2 (z := 10) dX11_number_163 kc_X11_113 ?_
                    refine r_aload_n dX11_number_166 rfl rfl ?_
                    refine gf_X11_109 dX11_number_167 (by omega) hs_e rfl ?_
                    refine r_lmul dX11_number_170 ?_
                    refine r_aload_n dX11_number_171 rfl rfl ?_
                    refine gf_X11_20 dX11_number_172 (by omega) hs_e rfl ?_
                    refine r_aload_n dX11_number_175 rfl rfl ?_
                    refine gf_X11_99 dX11_number_176 (by omega) hs_e rfl ?_
                    refine r_iaload dX11_number_179 (by omega) ((hs_n (by omega)).trans hbt) (by omega) (by omega) (by decide) ?_
                    have b_179 := hbb (at1).toNat (by omega)
                    refine r_i2l dX11_number_180 ⟨by omega, by omega⟩ ?_
                    refine r_ladd dX11_number_181 ?_
                    refine r_ldc2 (z := 48) dX11_number_182 kc_X11_95 ?_
                    refine r_lsub dX11_number_185 ?_
                    refine pf_X11_109 (fs2 := [_, _, _, _, _, _, _, _, _, _, _, _, _, _, _, _, _, _, _, _, _, _, _, _, _, _, _, _, _, _, _]) dX11_number_186 (fun _ _ => rfl) (fun _ _ => rfl) (nlt rfl) (by omega) hs_e rfl ?_
                    refine g_heap (h2 := (hs h (124) (MOo (ln) (pr) (nm) (at1) (wr) (((10 * va1) + (b (at1).toNat)) - 48) (em) (ta) (ro) (dg)))) hs_hs ?_
                    refine r_aload_n dX11_number_189 rfl rfl ?_
                    refine r_dup dX11_number_190 rfl ?_
                    refine gf_X11_99 dX11_number_191 (by omega) hs_e rfl ?_
                    refine r_iconst (z := 1) dX11_number_194 ?_
                    refine r_iadd dX11_number_195 ?_
                    refine pf_X11_99 (fs2 := [_, _, _, _, _, _, _, _, _, _, _, _, _, _, _, _, _, _, _, _, _, _, _, _, _, _, _, _, _, _, _]) dX11_number_196 (fun _ _ => rfl) (fun _ _ => rfl) (nlt rfl) (by omega) hs_e rfl ?_
                    refine g_heap (h2 := (hs h (124) (MOo (ln) (pr) (nm) (at1 + 1) (wr) (((10 * va1) + (b (at1).toNat)) - 48) (em) (ta) (ro) (dg)))) hs_hs ?_
                    refine r_goto 122 dX11_number_199 (by decide) ?_
                    exact ih122 (at1 + 1) (((10 * va1) + (b (at1).toNat)) - 48) ((n + 1)) (by omega) (by omega) hfig2 (by rw [hdn]; by_cases w : 10 * va1 + b at1.toNat - 48 ≤ most; (left; omega); (right; omega)) (by omega) (by omega) (by omega) (by omega)
                  · refine r_aload_n dX11_number_156 rfl rfl ?_
                    refine gf_X11_109 dX11_number_157 (by omega) hs_e rfl ?_
                    refine r_goto 186 dX11_number_160 (by decide) ?_
                    refine pf_X11_109 (fs2 := [_, _, _, _, _, _, _, _, _, _, _, _, _, _, _, _, _, _, _, _, _, _, _, _, _, _, _, _, _, _, _]) dX11_number_186 (fun _ _ => rfl) (fun _ _ => rfl) (nlt rfl) (by omega) hs_e rfl ?_
                    refine g_heap (h2 := (hs h (124) (MOo (ln) (pr) (nm) (at1) (wr) (va1) (em) (ta) (ro) (dg)))) hs_hs ?_
                    refine r_aload_n dX11_number_189 rfl rfl ?_
                    refine r_dup dX11_number_190 rfl ?_
                    refine gf_X11_99 dX11_number_191 (by omega) hs_e rfl ?_
                    refine r_iconst (z := 1) dX11_number_194 ?_
                    refine r_iadd dX11_number_195 ?_
                    refine pf_X11_99 (fs2 := [_, _, _, _, _, _, _, _, _, _, _, _, _, _, _, _, _, _, _, _, _, _, _, _, _, _, _, _, _, _, _]) dX11_number_196 (fun _ _ => rfl) (fun _ _ => rfl) (nlt rfl) (by omega) hs_e rfl ?_
                    refine g_heap (h2 := (hs h (124) (MOo (ln) (pr) (nm) (at1 + 1) (wr) (va1) (em) (ta) (ro) (dg)))) hs_hs ?_
                    refine r_goto 122 dX11_number_199 (by decide) ?_
                    exact ih122 (at1 + 1) (va1) ((n + 1)) (by omega) (by omega) hfig2 (Or.inr ⟨by omega, by omega⟩) (by omega) (by omega) (by omega) (by omega)
            exact lp122 ((102 : Int) + 1).toNat (at_ + 1) (0) (0) (by omega) (by omega) (fun j hj => absurd hj (Nat.not_lt_zero j)) (Or.inl ⟨hm1, rfl⟩) (by decide) (by decide) (by omega) (by decide)
          · refine r_iconst (z := 1) dX11_number_115 ?_
            refine r_goto 120 dX11_number_116 (by decide) ?_
            refine r_istore (L2 := [_, _, none, _, _, _]) dX11_number_120 (nlt rfl) rfl ?_
            have lp122 : ∀ (fu122 : Nat) (at1 : Int) (va1 : Int) (n : Nat), (102 - at1) < (fu122 : Int) → (at1 = (at_ + 1) + (n : Int)) → (∀ j : Nat, j < n → Fig ln b ((at_ + 1) + j)) → ((va1 ≤ most ∧ va1 = dv b (at_ + 1) n) ∨ (most < va1 ∧ most < dv b (at_ + 1) n)) → (0 ≤ va1) → (va1 ≤ 10000009) → (at1 ≤ 101) → (n ≤ 1) → G X RX11 cX11_number mX11_number.rm N 0 0 122 [some (.ref (124)), some (.long (lZ (most))), none, some (.int (iZ (at_))), some (.int (iZ (1))), some (.int (iZ (1)))] [] (hs h (124) (MOo (ln) (pr) (nm) (at1) (wr) (va1) (em) (ta) (ro) (dg))) := by
              intro fu122
              induction fu122 with
              | zero => intro at1 va1 n hm ea hfig hva va0 va9 at9 nn1; exfalso; omega
              | succ fu122 ih122 =>
                intro at1 va1 n hms122 ea hfig hva va0 va9 at9 nn1
                refine r_aload_n dX11_number_122 rfl rfl ?_
                refine r_aload_n dX11_number_123 rfl rfl ?_
                refine gf_X11_99 dX11_number_124 (by omega) hs_e rfl ?_
                refine r_callV (av := [.int (iZ (at1))]) dX11_number_127 lkX11_isFigure ml_X11_102 imX11_isFigure seX11_isFigure (by omega) (rfl : vwCl[11]? = _) ⟨_, hs_e⟩ ⟨Nat.le_of_ble_eq_true rfl, Nat.le_of_ble_eq_true rfl⟩ rfl rfl (nle rfl) ⟨Nat.le_of_ble_eq_true rfl, Nat.le_of_ble_eq_true rfl⟩ (c_X11_isFigure (x := at1) (b := b) (ln := ln) (pr := pr) (nm := nm) (at_ := at1) (wr := wr) (va := va1) (em := em) (ta := ta) (ro := ro) (dg := dg) hs_e hN ((hs_n (by omega)).trans hbt) hbb hl0 hl (by omega) (by omega) (fun b127 hb127 => ?_))
                show G _ _ _ _ _ _ _ 130 _ _ _
                refine r_if_eq 202 dX11_number_130 (by decide) (by rcases hb127 with ⟨y, _⟩ | ⟨y, _⟩ <;> exact ⟨by omega, by omega⟩) (fun c_130 => ?_) (fun c_130 => ?_)
                · refine r_aload_n dX11_number_202 rfl rfl ?_
                  refine gf_X11_109 dX11_number_203 (by omega) hs_e rfl ?_
                  refine r_lload_n dX11_number_206 rfl rfl ?_
                  refine r_lcmp_le 218 dX11_number_207 dX11_number_208 (by decide) ⟨by omega, by omega⟩ ⟨by omega, by omega⟩ (fun c_207 => ?_) (fun c_207 => ?_)
                  · refine r_aload_n dX11_number_218 rfl rfl ?_
                    refine r_iload dX11_number_219 rfl ?_
                    refine r_if_eq 232 dX11_number_221 (by decide) ⟨by decide, by decide⟩ (fun c_221 => by exfalso; omega) (fun c_221 => ?_)
                    refine r_aload_n dX11_number_224 rfl rfl ?_
                    refine gf_X11_109 dX11_number_225 (by omega) hs_e rfl ?_
                    refine r_lneg dX11_number_228 ?_
                    refine r_goto 236 dX11_number_229 (by decide) ?_
                    refine pf_X11_109 (fs2 := [_, _, _, _, _, _, _, _, _, _, _, _, _, _, _, _, _, _, _, _, _, _, _, _, _, _, _, _, _, _, _]) dX11_number_236 (fun _ _ => rfl) (fun _ _ => rfl) (nlt rfl) (by omega) hs_e rfl ?_
                    refine g_heap (h2 := (hs h (124) (MOo (ln) (pr) (nm) (at1) (wr) (-va1) (em) (ta) (ro) (dg)))) hs_hs ?_
                    refine r_iconst (z := 1) dX11_number_239 ?_
                    refine r_zreturn hq dX11_number_240 rfl (by decide) rfl rfl ?_
                    have hnF : ¬ Fig ln b at1 := by
                      rcases hb127 with ⟨y, _⟩ | ⟨_, y⟩
                      · omega
                      · exact y
                    have hn1 : 1 ≤ n := by
                      cases n with
                      | zero => exact absurd hfg0 (by rw [show (at_ + 1) = at1 by omega]; exact hnF)
                      | succ n => omega
                    have hrun : Run ln b (at_ + 1) n := ⟨hn1, hfig, by rw [← ea]; exact hnF⟩
                    have hn9 : n = 1 := by omega
                    have hdv1 : dv b (at_ + 1) 1 = 0 := by
                      show 10 * 0 + b ((at_ + 1) + ((0 : Nat) : Int)).toNat - 48 = 0
                      rw [show ((at_ + 1) + ((0 : Nat) : Int)).toNat = (at_ + 1).toNat by omega]
                      omega
                    rw [hn9, hdv1] at hva
                    exact hQ 1 (-4) 0 ((at_ + 1) + 1) _ _ _ ⟨_, (Or.inl ⟨⟨by omega, by omega⟩, by omega⟩), Or.inl ⟨by omega, ⟨by omega, by omega⟩, rfl, rfl, rfl⟩⟩ (Or.inr ⟨rfl, rfl, by omega, by omega⟩)
                  · refine r_aload_n dX11_number_211 rfl rfl ?_
                    refine r_iload_n dX11_number_212 rfl rfl ?_
                    refine pf_X11_106 (fs2 := [_, _, _, _, _, _, _, _, _, _, _, _, _, _, _, _, _, _, _, _, _, _, _, _, _, _, _, _, _, _, _]) dX11_number_213 (fun _ _ => rfl) (fun _ _ => rfl) (nlt rfl) (by omega) hs_e rfl ?_
                    refine g_heap (h2 := (hs h (124) (MOo (ln) (pr) (nm) (at1) (at_) (va1) (em) (ta) (ro) (dg)))) hs_hs ?_
                    refine r_iconst (z := 0) dX11_number_216 ?_
                    refine r_zreturn hq dX11_number_217 rfl (by decide) rfl rfl ?_
                    have hnF : ¬ Fig ln b at1 := by
                      rcases hb127 with ⟨y, _⟩ | ⟨_, y⟩
                      · omega
                      · exact y
                    have hn1 : 1 ≤ n := by
                      cases n with
                      | zero => exact absurd hfg0 (by rw [show (at_ + 1) = at1 by omega]; exact hnF)
                      | succ n => omega
                    have hrun : Run ln b (at_ + 1) n := ⟨hn1, hfig, by rw [← ea]; exact hnF⟩
                    have hn9 : n = 1 := by omega
                    have hdv1 : dv b (at_ + 1) 1 = 0 := by
                      show 10 * 0 + b ((at_ + 1) + ((0 : Nat) : Int)).toNat - 48 = 0
                      rw [show ((at_ + 1) + ((0 : Nat) : Int)).toNat = (at_ + 1).toNat by omega]
                      omega
                    rw [hn9, hdv1] at hva
                    exfalso; omega
                · refine r_iload dX11_number_133 rfl ?_
                  refine r_if_eq 146 dX11_number_135 (by decide) ⟨by decide, by decide⟩ (fun c_135 => by exfalso; omega) (fun c_135 => ?_)
                  refine r_aload_n dX11_number_138 rfl rfl ?_
                  refine gf_X11_99 dX11_number_139 (by omega) hs_e rfl ?_
                  refine r_iload_n dX11_number_142 rfl rfl ?_
                  refine r_icmp_ne 202 dX11_number_143 (by decide) ⟨by omega, by omega⟩ ⟨by omega, by omega⟩ (fun c_143 => ?_) (fun c_143 => ?_)
                  · refine r_aload_n dX11_number_202 rfl rfl ?_
                    refine gf_X11_109 dX11_number_203 (by omega) hs_e rfl ?_
                    refine r_lload_n dX11_number_206 rfl rfl ?_
                    refine r_lcmp_le 218 dX11_number_207 dX11_number_208 (by decide) ⟨by omega, by omega⟩ ⟨by omega, by omega⟩ (fun c_207 => ?_) (fun c_207 => ?_)
                    · refine r_aload_n dX11_number_218 rfl rfl ?_
                      refine r_iload dX11_number_219 rfl ?_
                      refine r_if_eq 232 dX11_number_221 (by decide) ⟨by decide, by decide⟩ (fun c_221 => by exfalso; omega) (fun c_221 => ?_)
                      refine r_aload_n dX11_number_224 rfl rfl ?_
                      refine gf_X11_109 dX11_number_225 (by omega) hs_e rfl ?_
                      refine r_lneg dX11_number_228 ?_
                      refine r_goto 236 dX11_number_229 (by decide) ?_
                      refine pf_X11_109 (fs2 := [_, _, _, _, _, _, _, _, _, _, _, _, _, _, _, _, _, _, _, _, _, _, _, _, _, _, _, _, _, _, _]) dX11_number_236 (fun _ _ => rfl) (fun _ _ => rfl) (nlt rfl) (by omega) hs_e rfl ?_
                      refine g_heap (h2 := (hs h (124) (MOo (ln) (pr) (nm) (at1) (wr) (-va1) (em) (ta) (ro) (dg)))) hs_hs ?_
                      refine r_iconst (z := 1) dX11_number_239 ?_
                      refine r_zreturn hq dX11_number_240 rfl (by decide) rfl rfl ?_
                      have hn9 : n = 1 := by omega
                      have hdv1 : dv b (at_ + 1) 1 = 0 := by
                        show 10 * 0 + b ((at_ + 1) + ((0 : Nat) : Int)).toNat - 48 = 0
                        rw [show ((at_ + 1) + ((0 : Nat) : Int)).toNat = (at_ + 1).toNat by omega]
                        omega
                      rw [hn9, hdv1] at hva
                      exact hQ 1 (-4) 0 ((at_ + 1) + 1) _ _ _ ⟨_, (Or.inl ⟨⟨by omega, by omega⟩, by omega⟩), Or.inl ⟨by omega, ⟨by omega, by omega⟩, rfl, rfl, rfl⟩⟩ (Or.inr ⟨rfl, rfl, by omega, by omega⟩)
                    · refine r_aload_n dX11_number_211 rfl rfl ?_
                      refine r_iload_n dX11_number_212 rfl rfl ?_
                      refine pf_X11_106 (fs2 := [_, _, _, _, _, _, _, _, _, _, _, _, _, _, _, _, _, _, _, _, _, _, _, _, _, _, _, _, _, _, _]) dX11_number_213 (fun _ _ => rfl) (fun _ _ => rfl) (nlt rfl) (by omega) hs_e rfl ?_
                      refine g_heap (h2 := (hs h (124) (MOo (ln) (pr) (nm) (at1) (at_) (va1) (em) (ta) (ro) (dg)))) hs_hs ?_
                      refine r_iconst (z := 0) dX11_number_216 ?_
                      refine r_zreturn hq dX11_number_217 rfl (by decide) rfl rfl ?_
                      have hn9 : n = 1 := by omega
                      have hdv1 : dv b (at_ + 1) 1 = 0 := by
                        show 10 * 0 + b ((at_ + 1) + ((0 : Nat) : Int)).toNat - 48 = 0
                        rw [show ((at_ + 1) + ((0 : Nat) : Int)).toNat = (at_ + 1).toNat by omega]
                        omega
                      rw [hn9, hdv1] at hva
                      exfalso; omega
                  · have hfg : Fig ln b at1 := by
                      rcases hb127 with ⟨_, y⟩ | ⟨y, _⟩
                      · exact y
                      · omega
                    have hga := hfg.1
                    have hgb := hfg.2.1
                    have hgc := hfg.2.2
                    have hfig2 : ∀ j : Nat, j < n + 1 → Fig ln b ((at_ + 1) + j) := fun j hj => by
                      by_cases z : j = n
                      · rw [z, ← ea]; exact hfg
                      · exact hfig j (by omega)
                    have hdm := dv_mono (b := b) (Nat.le_succ n) hfig2
                    have hdn : dv b (at_ + 1) (n + 1) = 10 * dv b (at_ + 1) n + b at1.toNat - 48 := by
                      show 10 * dv b (at_ + 1) n + b ((at_ + 1) + (n : Int)).toNat - 48 = _
                      rw [← ea]
                    refine r_aload_n dX11_number_146 rfl rfl ?_
                    refine r_aload_n dX11_number_147 rfl rfl ?_
                    refine gf_X11_109 dX11_number_148 (by omega) hs_e rfl ?_
                    refine r_lload_n dX11_number_151 rfl rfl ?_
                    refine r_lcmp_le 163 dX11_number_152 dX11_number_153 (by decide) ⟨by omega, by omega⟩ ⟨by omega, by omega⟩ (fun c_152 => ?_) (fun c_152 => ?_)
                    · refine r_ldc2 (z := 10) dX11_number_163 kc_X11_113 ?_
                      refine r_aload_n dX11_number_166 rfl rfl ?_
                      refine gf_X11_109 dX11_number_167 (by omega) hs_e rfl ?_
                      refine r_lmul dX11_number_170 ?_
                      refine r_aload_n dX11_number_171 rfl rfl ?_
                      refine gf_X11_20 dX11_number_172 (by omega) hs_e rfl ?_
                      refine r_aload_n dX11_number_175 rfl rfl ?_
                      refine gf_X11_99 dX11_number_176 (by omega) hs_e rfl ?_
                      refine r_iaload dX11_number_179 (by omega) ((hs_n (by omega)).trans hbt) (by omega) (by omega) (by decide) ?_
                      have b_179 := hbb (at1).toNat (by omega)
                      refine r_i2l dX11_number_180 ⟨by omega, by omega⟩ ?_
                      refine r_ladd dX11_number_181 ?_
                      refine r_ldc2 (z := 48) dX11_number_182 kc_X11_95 ?_
                      refine r_lsub dX11_number_185 ?_
                      refine pf_X11_109 (fs2 := [_, _, _, _, _, _, _, _, _, _, _, _, _, _, _, _, _, _, _, _, _, _, _, _, _, _, _, _, _, _, _]) dX11_number_186 (fun _ _ => rfl) (fun _ _ => rfl) (nlt rfl) (by omega) hs_e rfl ?_
                      refine g_heap (h2 := (hs h (124) (MOo (ln) (pr) (nm) (at1) (wr) (((10 * va1) + (b (at1).toNat)) - 48) (em) (ta) (ro) (dg)))) hs_hs ?_
                      refine r_aload_n dX11_number_189 rfl rfl ?_
                      refine r_dup dX11_number_190 rfl ?_
                      refine gf_X11_99 dX11_number_191 (by omega) hs_e rfl ?_
                      refine r_iconst (z := 1) dX11_number_194 ?_
                      refine r_iadd dX11_number_195 ?_
                      refine pf_X11_99 (fs2 := [_, _, _, _, _, _, _, _, _, _, _, _, _, _, _, _, _, _, _, _, _, _, _, _, _, _, _, _, _, _, _]) dX11_number_196 (fun _ _ => rfl) (fun _ _ => rfl) (nlt rfl) (by omega) hs_e rfl ?_
                      refine g_heap (h2 := (hs h (124) (MOo (ln) (pr) (nm) (at1 + 1) (wr) (((10 * va1) + (b (at1).toNat)) - 48) (em) (ta) (ro) (dg)))) hs_hs ?_
                      refine r_goto 122 dX11_number_199 (by decide) ?_
                      exact ih122 (at1 + 1) (((10 * va1) + (b (at1).toNat)) - 48) ((n + 1)) (by omega) (by omega) hfig2 (by rw [hdn]; by_cases w : 10 * va1 + b at1.toNat - 48 ≤ most; (left; omega); (right; omega)) (by omega) (by omega) (by omega) (by omega)
                    · refine r_aload_n dX11_number_156 rfl rfl ?_
                      refine gf_X11_109 dX11_number_157 (by omega) hs_e rfl ?_
                      refine r_goto 186 dX11_number_160 (by decide) ?_
                      refine pf_X11_109 (fs2 := [_, _, _, _, _, _, _, _, _, _, _, _, _, _, _, _, _, _, _, _, _, _, _, _, _, _, _, _, _, _, _]) dX11_number_186 (fun _ _ => rfl) (fun _ _ => rfl) (nlt rfl) (by omega) hs_e rfl ?_
                      refine g_heap (h2 := (hs h (124) (MOo (ln) (pr) (nm) (at1) (wr) (va1) (em) (ta) (ro) (dg)))) hs_hs ?_
                      refine r_aload_n dX11_number_189 rfl rfl ?_
                      refine r_dup dX11_number_190 rfl ?_
                      refine gf_X11_99 dX11_number_191 (by omega) hs_e rfl ?_
                      refine r_iconst (z := 1) dX11_number_194 ?_
                      refine r_iadd dX11_number_195 ?_
                      refine pf_X11_99 (fs2 := [_, _, _, _, _, _, _, _, _, _, _, _, _, _, _, _, _, _, _, _, _, _, _, _, _, _, _, _, _, _, _]) dX11_number_196 (fun _ _ => rfl) (fun _ _ => rfl) (nlt rfl) (by omega) hs_e rfl ?_
                      refine g_heap (h2 := (hs h (124) (MOo (ln) (pr) (nm) (at1 + 1) (wr) (va1) (em) (ta) (ro) (dg)))) hs_hs ?_
                      refine r_goto 122 dX11_number_199 (by decide) ?_
                      exact ih122 (at1 + 1) (va1) ((n + 1)) (by omega) (by omega) hfig2 (Or.inr ⟨by omega, by omega⟩) (by omega) (by omega) (by omega) (by omega)
            exact lp122 ((102 : Int) + 1).toNat (at_ + 1) (0) (0) (by omega) (by omega) (fun j hj => absurd hj (Nat.not_lt_zero j)) (Or.inl ⟨hm1, rfl⟩) (by decide) (by decide) (by omega) (by decide)
        · refine r_aload_n dX11_number_86 rfl rfl ?_
          refine r_aload_n dX11_number_87 rfl rfl ?_
          refine gf_X11_99 dX11_number_88 (by omega) hs_e rfl ?_
          refine pf_X11_106 (fs2 := [_, _, _, _, _, _, _, _, _, _, _, _, _, _, _, _, _, _, _, _, _, _, _, _, _, _, _, _, _, _, _]) dX11_number_91 (fun _ _ => rfl) (fun _ _ => rfl) (nlt rfl) (by omega) hs_e rfl ?_
          refine g_heap (h2 := (hs h (124) (MOo (ln) (pr) (nm) (at_ + 1) (at_ + 1) (va) (em) (ta) (ro) (dg)))) hs_hs ?_
          refine r_iconst (z := 0) dX11_number_94 ?_
          refine r_zreturn hq dX11_number_95 rfl (by decide) rfl rfl ?_
          exact hQ 0 (at_ + 1) 0 0 _ _ _ ⟨_, (Or.inl ⟨⟨by omega, by omega⟩, by omega⟩), Or.inr (Or.inl ⟨Or.inr ⟨by omega, by omega, by omega⟩, rfl⟩)⟩ (Or.inl ⟨rfl, by omega, rfl⟩)
