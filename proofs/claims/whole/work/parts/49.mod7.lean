theorem RND.of {k : Nat} {c s : Nat → Int} {m : Int} (h0 : 0 < k) {t l P : Nat} (hl : 0 < l) (h : eqS k (rs k c s m) t (t + l)) (hmin : ∀ t2, t2 < t → ¬ eqS k (rs k c s m) t2 (t2 + l)) (hP : t ≤ P) (hno : ∀ l2, 0 < l2 → l2 < l → ¬ eqS k (rs k c s m) P (P + l2)) : RND k (rs k c s m) t l := by
  refine ⟨hl, h, fun l2 a b z => ?_, fun u2 a l2 b z => ?_⟩
  · have z2 := eqS_shift h0 z (P - t)
    rw [show t + (P - t) = P by omega, show t + l2 + (P - t) = P + l2 by omega] at z2
    exact hno l2 a b z2
  · have it : ∀ n : Nat, eqS k (rs k c s m) u2 (u2 + n * l2) := fun n => by
      induction n with
      | zero => rw [Nat.zero_mul, Nat.add_zero]; exact eqS.rf
      | succ n ih =>
        have z2 := eqS_shift h0 z (n * l2)
        rw [Nat.succ_mul]
        refine ih.tr ?_
        rw [show u2 + (n * l2 + l2) = u2 + l2 + n * l2 by omega]
        exact z2
    have h1 := it t
    have h2 : t ≤ t * l2 := Nat.le_mul_of_pos_right t b
    have h3 := eqS_shift h0 h (u2 + t * l2 - t)
    rw [show t + (u2 + t * l2 - t) = u2 + t * l2 by omega, show t + l + (u2 + t * l2 - t) = u2 + t * l2 + l by omega] at h3
    have h4 := eqS_shift h0 h1 l
    exact hmin u2 a (h1.tr (h3.tr h4.sy))
theorem RND.far {k : Nat} {c s : Nat → Int} {m : Int} (h0 : 0 < k) {P R u l : Nat} (hno : ∀ l2, 0 < l2 → l2 ≤ R → ¬ eqS k (rs k c s m) P (P + l2)) (h : RND k (rs k c s m) u l) (hu : u ≤ P) : R < l := by
  refine Nat.not_le.mp fun w => ?_
  have z2 := eqS_shift h0 h.2.1 (P - u)
  rw [show u + (P - u) = P by omega, show u + l + (P - u) = P + l by omega] at z2
  exact hno l h.1 w z2
theorem rs_go {k : Nat} {c s : Nat → Int} {m : Int} (h0 : 0 < k) {n : Nat} {f : Nat → Int} {v : Int} (hf : ∀ i, i < k → f i = rs k c s m (n + i)) (hv : v = sm (fun j => c (j + 1) % m * f (k - (j + 1))) k) : v % m = rs k c s m (n + k) := by
  rw [rs_rec h0, hv]
  refine (cg.sm (fun j hj => ?_)).emod
  refine cg.md.mul (cg.of ?_)
  rw [hf _ (by omega), show n + (k - (j + 1)) = n + k - 1 - j by omega]
set_option maxHeartbeats 2000000 in
set_option maxRecDepth 20000 in
theorem c_X11_begin {N : Nat} {h : Hp} {Q : QP} {ln pr nm at_ wr va em ta ro dg : Int} {om ml ms : Nat → Int} {c s f : Nat → Int} {r k u : Nat} {ri m : Int} (hm0 : h 124 = MOo ln pr nm at_ wr va em ta ro dg) (hN : 146 ≤ N) (hom : h 125 = aI 7 om) (hml : h 126 = aL 42 ml) (hms : h 127 = aL 42 ms) (hg : RG om ml ms r k c s) (hri : ri = (r : Int)) (hr6 : r < 7) (hu : u = 134 ∨ u = 135) (hf : h u = aL 6 f) (hm2 : 2 ≤ m) (hm : m ≤ 1000000) (hQ : ∀ f2 : Nat → Int, (∀ i, i < k → f2 i = rs k c s m i) → Q none N (hs h u (aL 6 f2))) : Runs mX11_begin [.ref (124), .ref (u), .int (iZ (ri)), .int (iZ (m))] N h Q := by
  obtain ⟨hg1, hg2, hg3, hg4, hg5⟩ := id hg
  have ern : ri.toNat = r := by omega
  have eom : om ri.toNat = (k : Int) := by rw [ern]; exact hg1
  refine run_start (own := RX11) rfl (by decide) (nle rfl) rfl (fun X hq hini => ?_)
  show G X RX11 cX11_begin mX11_begin.rm N 0 0 0 [some (.ref (124)), some (.ref (u)), some (.int (iZ (ri))), some (.int (iZ (m))), none] [] h
  refine r_iconst (z := 0) dX11_begin_0 ?_
  refine r_istore (L2 := [_, _, _, _, _]) dX11_begin_1 (nlt rfl) rfl ?_
  have lp3 : ∀ (fu3 : Nat) (f1 : Nat → Int) (i : Int) (j : Nat), (7 - i) < (fu3 : Int) → (i = (j : Int)) → (j ≤ k) → (∀ t, t < j → f1 t = rs k c s m t) → G X RX11 cX11_begin mX11_begin.rm N 0 0 3 [some (.ref (124)), some (.ref (u)), some (.int (iZ (ri))), some (.int (iZ (m))), some (.int (iZ (i)))] [] (hs h (u) (aL 6 (f1))) := by
    intro fu3
    induction fu3 with
    | zero => intro f1 i j hm ei jk hf1; exfalso; omega
    | succ fu3 ih3 =>
      intro f1 i j hms3 ei jk hf1
      refine r_iload dX11_begin_3 rfl ?_
      refine r_aload_n dX11_begin_5 rfl rfl ?_
      refine gf_X11_7 dX11_begin_6 (by omega) ((hs_n (by omega)).trans hm0) rfl ?_
      refine r_iload_n dX11_begin_9 rfl rfl ?_
      refine r_iaload dX11_begin_10 (by omega) ((hs_n (by omega)).trans hom) (by omega) (by omega) (by decide) ?_
      refine r_icmp_ge 41 dX11_begin_11 (by decide) ⟨by omega, by omega⟩ ⟨by omega, by omega⟩ (fun c_11 => ?_) (fun c_11 => ?_)
      · refine r_return hq dX11_begin_41 rfl rfl rfl ?_
        have jk2 : j = k := by omega
        exact hQ f1 (fun i hi => hf1 i (by omega))
      · have ein : i.toNat = j := by omega
        have e28 : ms ((6 * ri) + i).toNat = s j := by rw [show ((6 * ri) + i).toNat = 6 * r + j by omega]; exact (hg5 j (by omega)).1
        have sb := (hg5 j (by omega)).2
        rw [← e28] at sb
        refine r_aload_n dX11_begin_14 rfl rfl ?_
        refine r_iload dX11_begin_15 rfl ?_
        refine r_aload_n dX11_begin_17 rfl rfl ?_
        refine gf_X11_17 dX11_begin_18 (by omega) ((hs_n (by omega)).trans hm0) rfl ?_
        refine r_bipush (z := 6) dX11_begin_21 (by decide) ?_
        refine r_iload_n dX11_begin_23 rfl rfl ?_
        refine r_imul dX11_begin_24 ?_
        refine r_iload dX11_begin_25 rfl ?_
        refine r_iadd dX11_begin_27 ?_
        refine r_laload dX11_begin_28 (by omega) ((hs_n (by omega)).trans hms) (by omega) (by omega) (by decide) ?_
        refine r_iload_n dX11_begin_29 rfl rfl ?_
        refine r_i2l dX11_begin_30 ⟨by omega, by omega⟩ ?_
        refine r_callS (av := [.long (lZ (ms ((6 * ri) + i).toNat)), .long (lZ (m))]) dX11_begin_31 lkX11_modulo ml_X11_156 stX11_modulo ⟨Nat.le_of_ble_eq_true rfl, Nat.le_of_ble_eq_true rfl⟩ rfl rfl (nle rfl) ⟨Nat.le_of_ble_eq_true rfl, Nat.le_of_ble_eq_true rfl⟩ (c_X11_modulo (x := ms ((6 * ri) + i).toNat) (m := m) (by omega) (by omega) ?_)
        have em_31 := emod_bd (ms ((6 * ri) + i).toNat) (show 0 < m by omega)
        show G _ _ _ _ _ _ _ 34 _ _ _
        refine r_lastore dX11_begin_34 (by omega) hs_e (by omega) (by omega) (by decide) ?_
        refine g_heap (h2 := (hs h (u) (aL 6 (uA (f1) (i).toNat ((ms ((6 * ri) + i).toNat) % m))))) hs_hs ?_
        refine r_iinc (L2 := [_, _, _, _, _]) dX11_begin_35 (nlt rfl) rfl rfl ?_
        refine r_goto 3 dX11_begin_38 (by decide) ?_
        exact ih3 (uA (f1) (i).toNat ((ms ((6 * ri) + i).toNat) % m)) (i + 1) ((j + 1)) (by omega) (by omega) (by omega) (fun t ht => by rw [ein]; by_cases z : t = j; (rw [z, uA_e, e28]; unfold rs; rw [ex_lt (by omega)]); rw [uA_n z]; exact hf1 t (by omega))
  refine g_heap (hs_id (c := aL 6 (f)) hf).symm ?_
  exact lp3 ((7 : Int) + 1).toNat (f) (0) (0) (by omega) rfl (by omega) (fun t ht => absurd ht (Nat.not_lt_zero t))
set_option maxHeartbeats 2000000 in
set_option maxRecDepth 20000 in
theorem c_X11_go {N : Nat} {h : Hp} {Q : QP} {ln pr nm at_ wr va em ta ro dg : Int} {om ml ms : Nat → Int} {c s f : Nat → Int} {r k u n : Nat} {ri m : Int} (hm0 : h 124 = MOo ln pr nm at_ wr va em ta ro dg) (hN : 146 ≤ N) (hom : h 125 = aI 7 om) (hml : h 126 = aL 42 ml) (hms : h 127 = aL 42 ms) (hg : RG om ml ms r k c s) (hri : ri = (r : Int)) (hr6 : r < 7) (hu : u = 134 ∨ u = 135) (hf : h u = aL 6 f) (hm2 : 2 ≤ m) (hm : m ≤ 1000000) (hfn : ∀ i, i < k → f i = rs k c s m (n + i)) (hQ : ∀ f2 : Nat → Int, (∀ i, i < k → f2 i = rs k c s m (n + 1 + i)) → Q none N (hs h u (aL 6 f2))) : Runs mX11_go [.ref (124), .ref (u), .int (iZ (ri)), .int (iZ (m))] N h Q := by
  obtain ⟨hg1, hg2, hg3, hg4, hg5⟩ := id hg
  have ern : ri.toNat = r := by omega
  have eom : om ri.toNat = (k : Int) := by rw [ern]; exact hg1
  have hfb : ∀ i, i < k → 0 ≤ f i ∧ f i < m := fun i hi => by rw [hfn i hi]; exact rs_in (by omega) _
  refine run_start (own := RX11) rfl (by decide) (nle rfl) rfl (fun X hq hini => ?_)
  show G X RX11 cX11_go mX11_go.rm N 0 0 0 [some (.ref (124)), some (.ref (u)), some (.int (iZ (ri))), some (.int (iZ (m))), none, none, none, none] [] h
  refine r_aload_n dX11_go_0 rfl rfl ?_
  refine gf_X11_7 dX11_go_1 (by omega) hm0 rfl ?_
  refine r_iload_n dX11_go_4 rfl rfl ?_
  refine r_iaload dX11_go_5 (by omega) hom (by omega) (by omega) (by decide) ?_
  refine r_istore (L2 := [_, _, _, _, _, none, none, none]) dX11_go_6 (nlt rfl) rfl ?_
  refine r_lconst (z := 0) dX11_go_8 (by decide) ?_
  refine r_lstore (L2 := [_, _, _, _, _, _, none, none]) dX11_go_9 (nlt rfl) rfl ?_
  refine r_iconst (z := 1) dX11_go_11 ?_
  refine r_istore (L2 := [_, _, _, _, _, _, none, _]) dX11_go_12 (nlt rfl) rfl ?_
  have lp14 : ∀ (fu14 : Nat) (v : Int) (i : Int) (j : Nat), (8 - i) < (fu14 : Int) → (i = (j : Int) + 1) → (j ≤ k) → (v = sm (fun t => c (t + 1) % m * f (k - (t + 1))) j) → (0 ≤ v) → (v ≤ (j : Int) * 1000000000000) → G X RX11 cX11_go mX11_go.rm N 0 0 14 [some (.ref (124)), some (.ref (u)), some (.int (iZ (ri))), some (.int (iZ (m))), some (.int (iZ (om (ri).toNat))), some (.long (lZ (v))), none, some (.int (iZ (i)))] [] h := by
    intro fu14
    induction fu14 with
    | zero => intro v i j hm ei jk ev v0 v1; exfalso; omega
    | succ fu14 ih14 =>
      intro v i j hms14 ei jk ev v0 v1
      refine r_iload dX11_go_14 rfl ?_
      refine r_iload dX11_go_16 rfl ?_
      refine r_icmp_gt 59 dX11_go_18 (by decide) ⟨by omega, by omega⟩ ⟨by omega, by omega⟩ (fun c_18 => ?_) (fun c_18 => ?_)
      · have jk2 : j = k := by omega
        rw [jk2] at ev
        have hgo := rs_go hg2 hfn ev
        refine r_iconst (z := 1) dX11_go_59 ?_
        refine r_istore (L2 := [_, _, _, _, _, _, none, _]) dX11_go_60 (nlt rfl) rfl ?_
        have lp62 : ∀ (fu62 : Nat) (f1 : Nat → Int) (i2 : Int) (j2 : Nat), (8 - i2) < (fu62 : Int) → (i2 = (j2 : Int)) → (1 ≤ j2) → (j2 ≤ k) → (∀ t, t + 1 < j2 → f1 t = f (t + 1)) → (∀ t, j2 ≤ t + 1 → f1 t = f t) → G X RX11 cX11_go mX11_go.rm N 0 0 62 [some (.ref (124)), some (.ref (u)), some (.int (iZ (ri))), some (.int (iZ (m))), some (.int (iZ (om (ri).toNat))), some (.long (lZ (v))), none, some (.int (iZ (i2)))] [] (hs h (u) (aL 6 (f1))) := by
          intro fu62
          induction fu62 with
          | zero => intro f1 i2 j2 hm ei2 j20 j2k hs1 hs2; exfalso; omega
          | succ fu62 ih62 =>
            intro f1 i2 j2 hms62 ei2 j20 j2k hs1 hs2
            refine r_iload dX11_go_62 rfl ?_
            refine r_iload dX11_go_64 rfl ?_
            refine r_icmp_ge 85 dX11_go_66 (by decide) ⟨by omega, by omega⟩ ⟨by omega, by omega⟩ (fun c_66 => ?_) (fun c_66 => ?_)
            · refine r_aload_n dX11_go_85 rfl rfl ?_
              refine r_iload dX11_go_86 rfl ?_
              refine r_iconst (z := 1) dX11_go_88 ?_
              refine r_isub dX11_go_89 ?_
              refine r_lload dX11_go_90 rfl ?_
              refine r_iload_n dX11_go_92 rfl rfl ?_
              refine r_i2l dX11_go_93 ⟨by omega, by omega⟩ ?_
              refine r_lremp dX11_go_94 ⟨by omega, by omega⟩ ⟨by omega, by omega⟩ (by omega) (by omega) ?_
              have eb_94 := emod_bd (v) (show 0 < m by omega)
              refine r_lastore dX11_go_95 (by omega) hs_e (by omega) (by omega) (by decide) ?_
              refine g_heap (h2 := (hs h (u) (aL 6 (uA (f1) ((om (ri).toNat) - 1).toNat (v % m))))) hs_hs ?_
              refine r_return hq dX11_go_96 rfl rfl rfl ?_
              have jk3 : j2 = k := by omega
              have e95 : (om ri.toNat - 1).toNat = k - 1 := by omega
              refine hQ _ (fun i hi => ?_)
              rw [e95]
              by_cases z : i = k - 1
              · rw [z, uA_e, hgo, show n + 1 + (k - 1) = n + k by omega]
              · rw [uA_n z, hs1 i (by omega), hfn _ (by omega), show n + 1 + i = n + (i + 1) by omega]
            · have e73 : (i2 - 1).toNat = j2 - 1 := by omega
              have e77 : i2.toNat = j2 := by omega
              refine r_aload_n dX11_go_69 rfl rfl ?_
              refine r_iload dX11_go_70 rfl ?_
              refine r_iconst (z := 1) dX11_go_72 ?_
              refine r_isub dX11_go_73 ?_
              refine r_aload_n dX11_go_74 rfl rfl ?_
              refine r_iload dX11_go_75 rfl ?_
              refine r_laload dX11_go_77 (by omega) hs_e (by omega) (by omega) (by decide) ?_
              refine r_lastore dX11_go_78 (by omega) hs_e (by omega) (by omega) (by decide) ?_
              refine g_heap (h2 := (hs h (u) (aL 6 (uA (f1) (i2 - 1).toNat (f1 (i2).toNat))))) hs_hs ?_
              refine r_iinc (L2 := [_, _, _, _, _, _, none, _]) dX11_go_79 (nlt rfl) rfl rfl ?_
              refine r_goto 62 dX11_go_82 (by decide) ?_
              exact ih62 (uA (f1) (i2 - 1).toNat (f1 (i2).toNat)) (i2 + 1) ((j2 + 1)) (by omega) (by omega) (by omega) (by omega) (fun t ht => by rw [e73]; by_cases z : t = j2 - 1; (rw [z, uA_e, e77, hs2 _ (by omega)]; congr 1; omega); rw [uA_n z]; exact hs1 t (by omega)) (fun t ht => by rw [e73, uA_n (by omega)]; exact hs2 t (by omega))
        refine g_heap (hs_id (c := aL 6 (f)) hf).symm ?_
        exact lp62 ((8 : Int) + 1).toNat (f) (1) (1) (by omega) rfl (by decide) (by omega) (fun t ht => by omega) (fun t _ => rfl)
      · have e36 : ml (((6 * ri) + i) - 1).toNat = c (j + 1) := by rw [show (((6 * ri) + i) - 1).toNat = 6 * r + (j + 1) - 1 by omega]; exact (hg4 (j + 1) (by omega) (by omega)).1
        have cb := (hg4 (j + 1) (by omega) (by omega)).2
        rw [← e36] at cb
        have e48 : f (om ri.toNat - i).toNat = f (k - (j + 1)) := by congr 1; omega
        have fb := hfb (k - (j + 1)) (by omega)
        rw [← e48] at fb
        refine r_lload dX11_go_21 rfl ?_
        refine r_aload_n dX11_go_23 rfl rfl ?_
        refine gf_X11_13 dX11_go_24 (by omega) hm0 rfl ?_
        refine r_bipush (z := 6) dX11_go_27 (by decide) ?_
        refine r_iload_n dX11_go_29 rfl rfl ?_
        refine r_imul dX11_go_30 ?_
        refine r_iload dX11_go_31 rfl ?_
        refine r_iadd dX11_go_33 ?_
        refine r_iconst (z := 1) dX11_go_34 ?_
        refine r_isub dX11_go_35 ?_
        refine r_laload dX11_go_36 (by omega) hml (by omega) (by omega) (by decide) ?_
        refine r_iload_n dX11_go_37 rfl rfl ?_
        refine r_i2l dX11_go_38 ⟨by omega, by omega⟩ ?_
        refine r_callS (av := [.long (lZ (ml (((6 * ri) + i) - 1).toNat)), .long (lZ (m))]) dX11_go_39 lkX11_modulo ml_X11_156 stX11_modulo ⟨Nat.le_of_ble_eq_true rfl, Nat.le_of_ble_eq_true rfl⟩ rfl rfl (nle rfl) ⟨Nat.le_of_ble_eq_true rfl, Nat.le_of_ble_eq_true rfl⟩ (c_X11_modulo (x := ml (((6 * ri) + i) - 1).toNat) (m := m) (by omega) (by omega) ?_)
        have em_39 := emod_bd (ml (((6 * ri) + i) - 1).toNat) (show 0 < m by omega)
        show G _ _ _ _ _ _ _ 42 _ _ _
        refine r_aload_n dX11_go_42 rfl rfl ?_
        refine r_iload dX11_go_43 rfl ?_
        refine r_iload dX11_go_45 rfl ?_
        refine r_isub dX11_go_47 ?_
        refine r_laload dX11_go_48 (by omega) hf (by omega) (by omega) (by decide) ?_
        have m49 := acc_b em_39.1 em_39.2 fb.1 fb.2 hm
        refine r_lmul dX11_go_49 ?_
        refine r_ladd dX11_go_50 ?_
        refine r_lstore (L2 := [_, _, _, _, _, _, none, _]) dX11_go_51 (nlt rfl) rfl ?_
        refine r_iinc (L2 := [_, _, _, _, _, _, none, _]) dX11_go_53 (nlt rfl) rfl rfl ?_
        refine r_goto 14 dX11_go_56 (by decide) ?_
        exact ih14 (v + (((ml (((6 * ri) + i) - 1).toNat) % m) * (f ((om (ri).toNat) - i).toNat))) (i + 1) ((j + 1)) (by omega) (by omega) (by omega) (by rw [sm_s, ev, e36, e48]) (by omega) (by omega)
  exact lp14 ((8 : Int) + 1).toNat (0) (1) (0) (by omega) rfl (by omega) rfl (by decide) (by decide)
set_option maxHeartbeats 2000000 in
set_option maxRecDepth 20000 in
theorem c_X11_areAlike {N : Nat} {h : Hp} {Q : QP} {ln pr nm at_ wr va em ta ro dg : Int} {f g : Nat → Int} {k : Nat} {ki : Int} (hm0 : h 124 = MOo ln pr nm at_ wr va em ta ro dg) (hN : 146 ≤ N) (hf : h 134 = aL 6 f) (hg : h 135 = aL 6 g) (hki : ki = (k : Int)) (hk : k ≤ 6) (hfb : ∀ i, i < k → rL (f i)) (hgb : ∀ i, i < k → rL (g i)) (hQ : ∀ b : Int, (b = 1 ∧ (∀ i, i < k → f i = g i) ∨ b = 0 ∧ ¬ ∀ i, i < k → f i = g i) → Q (some (.int (iZ b))) N h) : Runs mX11_areAlike [.ref (124), .int (iZ (ki))] N h Q := by
  refine run_start (own := RX11) rfl (by decide) (nle rfl) rfl (fun X hq hini => ?_)
  show G X RX11 cX11_areAlike mX11_areAlike.rm N 0 0 0 [some (.ref (124)), some (.int (iZ (ki))), none, none] [] h
  refine r_iconst (z := 1) dX11_areAlike_0 ?_
  refine r_istore_n (L2 := [_, _, _, none]) dX11_areAlike_1 rfl (nlt rfl) rfl ?_
  refine r_iconst (z := 0) dX11_areAlike_2 ?_
  refine r_istore_n (L2 := [_, _, _, _]) dX11_areAlike_3 rfl (nlt rfl) rfl ?_
  have lp4 : ∀ (fu4 : Nat) (is : Int) (i : Int) (j : Nat), (7 - i) < (fu4 : Int) → (i = (j : Int)) → (j ≤ k) → (is = 1 ∧ (∀ t, t < j → f t = g t) ∨ is = 0 ∧ ¬ ∀ t, t < k → f t = g t) → G X RX11 cX11_areAlike mX11_areAlike.rm N 0 0 4 [some (.ref (124)), some (.int (iZ (ki))), some (.int (iZ (is))), some (.int (iZ (i)))] [] h := by
    intro fu4
    induction fu4 with
    | zero => intro is i j hm ei jk his; exfalso; omega
    | succ fu4 ih4 =>
      intro is i j hms4 ei jk his
      refine r_iload_n dX11_areAlike_4 rfl rfl ?_
      refine r_iload_n dX11_areAlike_5 rfl rfl ?_
      refine r_icmp_ge 41 dX11_areAlike_6 (by decide) ⟨by omega, by omega⟩ ⟨by omega, by omega⟩ (fun c_6 => ?_) (fun c_6 => ?_)
      · refine r_iload_n dX11_areAlike_41 rfl rfl ?_
        refine r_zreturn hq dX11_areAlike_42 rfl (by omega) rfl rfl ?_
        have jk2 : j = k := by omega
        rw [jk2] at his
        exact hQ _ his
      · refine r_iload_n dX11_areAlike_9 rfl rfl ?_
        refine r_if_eq 33 dX11_areAlike_10 (by decide) (by rcases his with ⟨y, _⟩ | ⟨y, _⟩ <;> exact ⟨by omega, by omega⟩) (fun c_10 => ?_) (fun c_10 => ?_)
        · refine r_iconst (z := 0) dX11_areAlike_33 ?_
          refine r_istore_n (L2 := [_, _, _, _]) dX11_areAlike_34 rfl (nlt rfl) rfl ?_
          refine r_iinc (L2 := [_, _, _, _]) dX11_areAlike_35 (nlt rfl) rfl rfl ?_
          refine r_goto 4 dX11_areAlike_38 (by decide) ?_
          exact ih4 (0) (i + 1) ((j + 1)) (by omega) (by omega) (by omega) (Or.inr ⟨rfl, by rcases his with ⟨y, _⟩ | ⟨_, y⟩; omega; exact y⟩)
        · have ein : i.toNat = j := by omega
          have his1 : ∀ t, t < j → f t = g t := by
            rcases his with ⟨_, y⟩ | ⟨y, _⟩
            · exact y
            · omega
          refine r_aload_n dX11_areAlike_13 rfl rfl ?_
          refine gf_X11_42 dX11_areAlike_14 (by omega) hm0 rfl ?_
          refine r_iload_n dX11_areAlike_17 rfl rfl ?_
          refine r_laload dX11_areAlike_18 (by omega) hf (by omega) (by omega) (by decide) ?_
          refine r_aload_n dX11_areAlike_19 rfl rfl ?_
          refine gf_X11_45 dX11_areAlike_20 (by omega) hm0 rfl ?_
          refine r_iload_n dX11_areAlike_23 rfl rfl ?_
          refine r_laload dX11_areAlike_24 (by omega) hg (by omega) (by omega) (by decide) ?_
          refine r_lcmp_ne 33 dX11_areAlike_25 dX11_areAlike_26 (by decide) (by rw [ein]; exact hfb j (by omega)) (by rw [ein]; exact hgb j (by omega)) (fun c_25 => ?_) (fun c_25 => ?_)
          · refine r_iconst (z := 0) dX11_areAlike_33 ?_
            refine r_istore_n (L2 := [_, _, _, _]) dX11_areAlike_34 rfl (nlt rfl) rfl ?_
            refine r_iinc (L2 := [_, _, _, _]) dX11_areAlike_35 (nlt rfl) rfl rfl ?_
            refine r_goto 4 dX11_areAlike_38 (by decide) ?_
            exact ih4 (0) (i + 1) ((j + 1)) (by omega) (by omega) (by omega) (Or.inr ⟨rfl, fun w => c_25 (by rw [ein]; exact w j (by omega))⟩)
          · refine r_iconst (z := 1) dX11_areAlike_29 ?_
            refine r_goto 34 dX11_areAlike_30 (by decide) ?_
            refine r_istore_n (L2 := [_, _, _, _]) dX11_areAlike_34 rfl (nlt rfl) rfl ?_
            refine r_iinc (L2 := [_, _, _, _]) dX11_areAlike_35 (nlt rfl) rfl rfl ?_
            refine r_goto 4 dX11_areAlike_38 (by decide) ?_
            exact ih4 (1) (i + 1) ((j + 1)) (by omega) (by omega) (by omega) (Or.inl ⟨rfl, fun t ht => by by_cases z : t = j; (rw [z, ← ein]; exact c_25); exact his1 t (by omega)⟩)
  exact lp4 ((7 : Int) + 1).toNat (1) (0) (0) (by omega) rfl (by omega) (Or.inl ⟨rfl, fun t ht => absurd ht (Nat.not_lt_zero t)⟩)
