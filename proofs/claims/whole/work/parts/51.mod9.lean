theorem Rp.mulc {m : Int} {a P R Q : Nat → Int} {k n1 n2 W : Nat} (h1 : Rp m a k P n1) (h2 : Rp m a k R n2) (hQ : ∀ b : Nat → Int, cg m (sm (fun u => Q u * b u) W) (sm (fun i => sm (fun j => P i * R j * b (i + j)) k) k)) : Rp m a W Q (n1 + n2) := fun t => by
  have e1 := h1 (n2 + t)
  have e2 : cg m (sm (fun i => P i * a (i + (n2 + t))) k) (sm (fun i => sm (fun j => P i * R j * a (i + j + t)) k) k) := cg.sm (fun i hi => by
    have e3 := h2 (i + t)
    have e4 : cg m (P i * a (i + (n2 + t))) (P i * sm (fun j => R j * a (j + (i + t))) k) := cg.rf.mul (by rw [show i + (n2 + t) = n2 + (i + t) by omega]; exact e3)
    refine e4.tr (cg.of ?_)
    rw [← sm_mul]
    exact sm_cong (fun j hj => by rw [show j + (i + t) = i + j + t by omega, Int.mul_assoc]))
  have e5 := hQ (fun u => a (u + t))
  rw [show n1 + n2 + t = n1 + (n2 + t) by omega]
  exact e1.tr (e2.tr e5.sy)
theorem cg_up {m : Int} {f b : Nat → Int} {i n : Nat} {x S T : Int} (hi : i < n) (h : cg m (sm (fun u => f u * b u) n) S) (hT : S + x * b i = T) : cg m (sm (fun u => uA f i ((f i + x) % m) u * b u) n) T := by
  rw [sm_uA hi, ← hT]
  refine h.add ?_
  refine cg.mul ?_ cg.rf
  have h1 : cg m ((f i + x) % m - f i) (f i + x - f i) := cg.md.sub cg.rf
  exact h1.tr (cg.of (by omega))
set_option maxHeartbeats 8000000 in
set_option maxRecDepth 20000 in
theorem c_X11_timesP {N : Nat} {h : Hp} {Q : QP} {ln pr nm at_ wr va em ta ro dg : Int} {om ml ms : Nat → Int} {c s P Y bo a : Nat → Int} {r k n1 n2 : Nat} {ri m : Int} (hm0 : h 124 = MOo ln pr nm at_ wr va em ta ro dg) (hN : 146 ≤ N) (hom : h 125 = aI 7 om) (hml : h 126 = aL 42 ml) (hms : h 127 = aL 42 ms) (hg : RG om ml ms r k c s) (hri : ri = (r : Int)) (hr6 : r < 7) (hP0 : h 131 = aL 6 P) (hY0 : h 132 = aL 6 Y) (hbo : h 133 = aL 12 bo) (hm2 : 2 ≤ m) (hm : m ≤ 1000000) (hP : ∀ j, j < k → 0 ≤ P j ∧ P j < m) (hY : ∀ j, j < k → 0 ≤ Y j ∧ Y j < m) (hrec : Rec m a c k) (hrp : Rp m a k P n1) (hry : Rp m a k Y n2) (hQ : ∀ P2 bo2 : Nat → Int, (∀ j, j < k → 0 ≤ P2 j ∧ P2 j < m) → Rp m a k P2 (n1 + n2) → Q none N (hs (hs h 133 (aL 12 bo2)) 131 (aL 6 P2))) : Runs mX11_times [.ref (124), .ref (131), .ref (132), .int (iZ (ri)), .long (lZ (m))] N h Q := by
  obtain ⟨hg1, hg2, hg3, hg4, hg5⟩ := id hg
  have ern : ri.toNat = r := by omega
  have eom : om ri.toNat = (k : Int) := by rw [ern]; exact hg1
  refine run_start (own := RX11) rfl (by decide) (nle rfl) rfl (fun X hq hini => ?_)
  show G X RX11 cX11_times mX11_times.rm N 0 0 0 [some (.ref (124)), some (.ref (131)), some (.ref (132)), some (.int (iZ (ri))), some (.long (lZ (m))), none, none, none, none] [] h
  refine r_aload_n dX11_times_0 rfl rfl ?_
  refine gf_X11_7 dX11_times_1 (by omega) hm0 rfl ?_
  refine r_iload_n dX11_times_4 rfl rfl ?_
  refine r_iaload dX11_times_5 (by omega) hom (by omega) (by omega) (by decide) ?_
  refine r_istore (L2 := [_, _, _, _, _, none, _, none, none]) dX11_times_6 (nlt rfl) rfl ?_
  refine r_iconst (z := 0) dX11_times_8 ?_
  refine r_istore (L2 := [_, _, _, _, _, none, _, _, none]) dX11_times_9 (nlt rfl) rfl ?_
  have lp11 : ∀ (fu11 : Nat) (F0 : Nat → Int) (i : Int) (j0 : Nat), (13 - i) < (fu11 : Int) → (i = (j0 : Int)) → (j0 ≤ 12) → (∀ u, u < j0 → F0 u = 0) → G X RX11 cX11_times mX11_times.rm N 0 0 11 [some (.ref (124)), some (.ref (131)), some (.ref (132)), some (.int (iZ (ri))), some (.long (lZ (m))), none, some (.int (iZ (om (ri).toNat))), some (.int (iZ (i))), none] [] (hs h (133) (aL 12 (F0))) := by
    intro fu11
    induction fu11 with
    | zero => intro F0 i j0 hm ei j012 hF0; exfalso; omega
    | succ fu11 ih11 =>
      intro F0 i j0 hms11 ei j012 hF0
      refine r_iload dX11_times_11 rfl ?_
      refine r_bipush (z := 12) dX11_times_13 (by decide) ?_
      refine r_icmp_ge 32 dX11_times_15 (by decide) ⟨by omega, by omega⟩ ⟨by decide, by decide⟩ (fun c_15 => ?_) (fun c_15 => ?_)
      · refine r_iconst (z := 0) dX11_times_32 ?_
        refine r_istore (L2 := [_, _, _, _, _, none, _, _, none]) dX11_times_33 (nlt rfl) rfl ?_
        have lp35 : ∀ (fu35 : Nat) (F1 : Nat → Int) (x : Int) (rn : Nat), (7 - x) < (fu35 : Int) → (x = (rn : Int)) → (rn ≤ k) → (∀ u, u < 12 → 0 ≤ F1 u ∧ F1 u < m) → (∀ b : Nat → Int, cg m (sm (fun u => F1 u * b u) (2 * k - 1)) (sm (fun i => sm (fun j => P i * Y j * b (i + j)) k) rn)) → G X RX11 cX11_times mX11_times.rm N 0 0 35 [some (.ref (124)), some (.ref (131)), some (.ref (132)), some (.int (iZ (ri))), some (.long (lZ (m))), none, some (.int (iZ (om (ri).toNat))), some (.int (iZ (x))), none] [] (hs h (133) (aL 12 (F1))) := by
          intro fu35
          induction fu35 with
          | zero => intro F1 x rn hm ex1 rnk hB1 hS1; exfalso; omega
          | succ fu35 ih35 =>
            intro F1 x rn hms35 ex1 rnk hB1 hS1
            refine r_iload dX11_times_35 rfl ?_
            refine r_iload dX11_times_37 rfl ?_
            refine r_icmp_ge 97 dX11_times_39 (by decide) ⟨by omega, by omega⟩ ⟨by omega, by omega⟩ (fun c_39 => ?_) (fun c_39 => ?_)
            · refine r_iconst (z := 2) dX11_times_97 ?_
              refine r_iload dX11_times_98 rfl ?_
              refine r_imul dX11_times_100 ?_
              refine r_iconst (z := 2) dX11_times_101 ?_
              refine r_isub dX11_times_102 ?_
              refine r_istore (L2 := [_, _, _, _, _, none, _, _, none]) dX11_times_103 (nlt rfl) rfl ?_
              have lp105 : ∀ (fu105 : Nat) (F3 : Nat → Int) (w : Int) (wn : Nat), (w + 2) < (fu105 : Int) → (w + 1 = (wn : Int)) → (k ≤ wn) → (wn ≤ 2 * k - 1) → (∀ u, u < 12 → 0 ≤ F3 u ∧ F3 u < m) → (Rp m a wn F3 (n1 + n2)) → G X RX11 cX11_times mX11_times.rm N 0 0 105 [some (.ref (124)), some (.ref (131)), some (.ref (132)), some (.int (iZ (ri))), some (.long (lZ (m))), none, some (.int (iZ (om (ri).toNat))), some (.int (iZ (w))), none] [] (hs h (133) (aL 12 (F3))) := by
                intro fu105
                induction fu105 with
                | zero => intro F3 w wn hm ew wk w2 hB3 hR3; exfalso; omega
                | succ fu105 ih105 =>
                  intro F3 w wn hms105 ew wk w2 hB3 hR3
                  refine r_iload dX11_times_105 rfl ?_
                  refine r_iload dX11_times_107 rfl ?_
                  refine r_icmp_lt 185 dX11_times_109 (by decide) ⟨by omega, by omega⟩ ⟨by omega, by omega⟩ (fun c_109 => ?_) (fun c_109 => ?_)
                  · refine r_iconst (z := 0) dX11_times_185 ?_
                    refine r_istore (L2 := [_, _, _, _, _, none, _, _, none]) dX11_times_186 (nlt rfl) rfl ?_
                    have lp188 : ∀ (fu188 : Nat) (F5 : Nat → Int) (v : Int) (vn : Nat), (7 - v) < (fu188 : Int) → (v = (vn : Int)) → (vn ≤ k) → (∀ u, u < vn → F5 u = F3 u) → G X RX11 cX11_times mX11_times.rm N 0 0 188 [some (.ref (124)), some (.ref (131)), some (.ref (132)), some (.int (iZ (ri))), some (.long (lZ (m))), none, some (.int (iZ (om (ri).toNat))), some (.int (iZ (v))), none] [] (hs (hs h (133) (aL 12 (F3))) (131) (aL 6 (F5))) := by
                      intro fu188
                      induction fu188 with
                      | zero => intro F5 v vn hm ev vk hF5; exfalso; omega
                      | succ fu188 ih188 =>
                        intro F5 v vn hms188 ev vk hF5
                        refine r_iload dX11_times_188 rfl ?_
                        refine r_iload dX11_times_190 rfl ?_
                        refine r_icmp_ge 212 dX11_times_192 (by decide) ⟨by omega, by omega⟩ ⟨by omega, by omega⟩ (fun c_192 => ?_) (fun c_192 => ?_)
                        · refine r_return hq dX11_times_212 rfl rfl rfl ?_
                          have vk2 : vn = k := by omega
                          rw [show wn = k by omega] at hR3
                          exact hQ F5 F3 (fun j hj => by rw [hF5 j (by omega)]; exact hB3 j (by omega)) (hR3.cong (fun j hj => cg.of (hF5 j (by omega))))
                        · refine r_aload_n dX11_times_195 rfl rfl ?_
                          refine r_iload dX11_times_196 rfl ?_
                          refine r_aload_n dX11_times_198 rfl rfl ?_
                          refine gf_X11_39 dX11_times_199 (by omega) ((hs_n (by omega)).trans ((hs_n (by omega)).trans hm0)) rfl ?_
                          refine r_iload dX11_times_202 rfl ?_
                          refine r_laload dX11_times_204 (by omega) ((hs_n (by omega)).trans hs_e) (by omega) (by omega) (by decide) ?_
                          refine r_lastore dX11_times_205 (by omega) hs_e (by omega) (by omega) (by decide) ?_
                          refine g_heap (h2 := (hs (hs h (133) (aL 12 (F3))) (131) (aL 6 (uA (F5) (v).toNat (F3 (v).toNat))))) hs_hs ?_
                          refine r_iinc (L2 := [_, _, _, _, _, none, _, _, none]) dX11_times_206 (nlt rfl) rfl rfl ?_
                          refine r_goto 188 dX11_times_209 (by decide) ?_
                          exact ih188 (uA (F5) (v).toNat (F3 (v).toNat)) (v + 1) ((vn + 1)) (by omega) (by omega) (by omega) (fun u hu => by rw [show v.toNat = vn by omega]; by_cases z : u = vn; (rw [z, uA_e]); rw [uA_n z]; exact hF5 u (by omega))
                    refine g_heap (hs_id (c := aL 6 (P)) ((hs_n (by omega)).trans hP0)).symm ?_
                    exact lp188 ((7 : Int) + 1).toNat (P) (0) (0) (by omega) rfl (by omega) (fun u hu => absurd hu (Nat.not_lt_zero u))
                  · refine r_iconst (z := 1) dX11_times_112 ?_
                    refine r_istore (L2 := [_, _, _, _, _, none, _, _, _]) dX11_times_113 (nlt rfl) rfl ?_
                    have lp115 : ∀ (fu115 : Nat) (F4 : Nat → Int) (d : Int) (dj : Nat), (8 - d) < (fu115 : Int) → (d = (dj : Int) + 1) → (dj ≤ k) → (∀ u, u < 12 → 0 ≤ F4 u ∧ F4 u < m) → (F4 (wn - 1) = F3 (wn - 1)) → (∀ b : Nat → Int, cg m (sm (fun u => F4 u * b u) (wn - 1)) (sm (fun u => F3 u * b u) (wn - 1) + sm (fun j => F3 (wn - 1) * c (j + 1) * b (wn - 1 - 1 - j)) dj)) → G X RX11 cX11_times mX11_times.rm N 0 0 115 [some (.ref (124)), some (.ref (131)), some (.ref (132)), some (.int (iZ (ri))), some (.long (lZ (m))), none, some (.int (iZ (om (ri).toNat))), some (.int (iZ (w))), some (.int (iZ (d)))] [] (hs h (133) (aL 12 (F4))) := by
                      intro fu115
                      induction fu115 with
                      | zero => intro F4 d dj hm ed djk hB4 htop hS4; exfalso; omega
                      | succ fu115 ih115 =>
                        intro F4 d dj hms115 ed djk hB4 htop hS4
                        refine r_iload dX11_times_115 rfl ?_
                        refine r_iload dX11_times_117 rfl ?_
                        refine r_icmp_gt 179 dX11_times_119 (by decide) ⟨by omega, by omega⟩ ⟨by omega, by omega⟩ (fun c_119 => ?_) (fun c_119 => ?_)
                        · refine r_iinc (L2 := [_, _, _, _, _, none, _, _, _]) dX11_times_179 (nlt rfl) rfl rfl ?_
                          refine r_goto 105 dX11_times_182 (by decide) ?_
                          refine r_mask [true, true, true, true, true, false, true, true, false] (L2 := [_, _, _, _, _, none, _, _, none]) rfl ?_
                          exact ih105 (F4) (w + (-1)) ((wn - 1)) (by omega) (by omega) (by omega) (by omega) hB4 (by rw [show wn = wn - 1 + 1 by omega] at hR3; refine hR3.down hrec (by omega) (top := F3 (wn - 1)) cg.rf (fun b => ?_); have := hS4 b; rw [show dj = k by omega] at this; exact this)
                        · have e130 : (w - d).toNat = wn - 1 - 1 - dj := by omega
                          have e147 : w.toNat = wn - 1 := by omega
                          have e161 : ml (((6 * ri) + d) - 1).toNat = c (dj + 1) := by rw [show (((6 * ri) + d) - 1).toNat = 6 * r + (dj + 1) - 1 by omega]; exact (hg4 (dj + 1) (by omega) (by omega)).1
                          have cb := (hg4 (dj + 1) (by omega) (by omega)).2
                          rw [← e161] at cb
                          have f140 := hB4 (w - d).toNat (by omega)
                          have f147 := hB4 w.toNat (by omega)
                          refine r_aload_n dX11_times_122 rfl rfl ?_
                          refine gf_X11_39 dX11_times_123 (by omega) ((hs_n (by omega)).trans hm0) rfl ?_
                          refine r_iload dX11_times_126 rfl ?_
                          refine r_iload dX11_times_128 rfl ?_
                          refine r_isub dX11_times_130 ?_
                          refine r_aload_n dX11_times_131 rfl rfl ?_
                          refine gf_X11_39 dX11_times_132 (by omega) ((hs_n (by omega)).trans hm0) rfl ?_
                          refine r_iload dX11_times_135 rfl ?_
                          refine r_iload dX11_times_137 rfl ?_
                          refine r_isub dX11_times_139 ?_
                          refine r_laload dX11_times_140 (by omega) hs_e (by omega) (by omega) (by decide) ?_
                          refine r_aload_n dX11_times_141 rfl rfl ?_
                          refine gf_X11_39 dX11_times_142 (by omega) ((hs_n (by omega)).trans hm0) rfl ?_
                          refine r_iload dX11_times_145 rfl ?_
                          refine r_laload dX11_times_147 (by omega) hs_e (by omega) (by omega) (by decide) ?_
                          refine r_aload_n dX11_times_148 rfl rfl ?_
                          refine gf_X11_13 dX11_times_149 (by omega) ((hs_n (by omega)).trans hm0) rfl ?_
                          refine r_bipush (z := 6) dX11_times_152 (by decide) ?_
                          refine r_iload_n dX11_times_154 rfl rfl ?_
                          refine r_imul dX11_times_155 ?_
                          refine r_iload dX11_times_156 rfl ?_
                          refine r_iadd dX11_times_158 ?_
                          refine r_iconst (z := 1) dX11_times_159 ?_
                          refine r_isub dX11_times_160 ?_
                          refine r_laload dX11_times_161 (by omega) ((hs_n (by omega)).trans hml) (by omega) (by omega) (by decide) ?_
                          refine r_lload dX11_times_162 rfl ?_
                          refine r_callS (av := [.long (lZ (ml (((6 * ri) + d) - 1).toNat)), .long (lZ (m))]) dX11_times_164 lkX11_modulo ml_X11_156 stX11_modulo ⟨Nat.le_of_ble_eq_true rfl, Nat.le_of_ble_eq_true rfl⟩ rfl rfl (nle rfl) ⟨Nat.le_of_ble_eq_true rfl, Nat.le_of_ble_eq_true rfl⟩ (c_X11_modulo (x := ml (((6 * ri) + d) - 1).toNat) (m := m) (by omega) (by omega) ?_)
                          have em_164 := emod_bd (ml (((6 * ri) + d) - 1).toNat) (show 0 < m by omega)
                          show G _ _ _ _ _ _ _ 167 _ _ _
                          have m167 := acc_b f147.1 f147.2 em_164.1 em_164.2 hm
                          refine r_lmul dX11_times_167 ?_
                          refine r_ladd dX11_times_168 ?_
                          refine r_lload dX11_times_169 rfl ?_
                          refine r_lremp dX11_times_171 ⟨by omega, by omega⟩ ⟨by omega, by omega⟩ (by omega) (by omega) ?_
                          have eb_171 := emod_bd ((F4 (w - d).toNat) + ((F4 (w).toNat) * ((ml (((6 * ri) + d) - 1).toNat) % m))) (show 0 < m by omega)
                          refine r_lastore dX11_times_172 (by omega) hs_e (by omega) (by omega) (by decide) ?_
                          refine g_heap (h2 := (hs h (133) (aL 12 (uA (F4) (w - d).toNat (((F4 (w - d).toNat) + ((F4 (w).toNat) * ((ml (((6 * ri) + d) - 1).toNat) % m))) % m))))) hs_hs ?_
                          refine r_iinc (L2 := [_, _, _, _, _, none, _, _, _]) dX11_times_173 (nlt rfl) rfl rfl ?_
                          refine r_goto 115 dX11_times_176 (by decide) ?_
                          exact ih115 (uA (F4) (w - d).toNat (((F4 (w - d).toNat) + ((F4 (w).toNat) * ((ml (((6 * ri) + d) - 1).toNat) % m))) % m)) (d + 1) ((dj + 1)) (by omega) (by omega) (by omega) (fun u hu => by rw [e130]; by_cases z : u = wn - 1 - 1 - dj; (rw [z, uA_e]; rw [e130] at eb_171; exact eb_171); rw [uA_n z]; exact hB4 u hu) (by rw [e130, uA_n (by omega)]; exact htop) (fun b => by rw [e130, e147, htop]; refine (cg_up (x := F3 (wn - 1) * (ml (((6 * ri) + d) - 1).toNat % m)) (by omega) (hS4 b) rfl).tr ?_; rw [sm_s, e161, ← Int.add_assoc]; exact cg.rf.add (cg.mul (cg.mul cg.rf cg.md) cg.rf))
                    exact lp115 ((8 : Int) + 1).toNat (F3) (1) (0) (by omega) rfl (by omega) hB3 rfl (fun b => cg.of (by show _ = _ + (0 : Int); omega))
              exact lp105 ((14 : Int) + 1).toNat (F1) ((2 * (om (ri).toNat)) - 2) ((2 * k - 1)) (by omega) (by omega) (by omega) (by omega) hB1 (hrp.mulc hry (fun b => by have := hS1 b; rw [show rn = k by omega] at this; exact this))
            · refine r_iconst (z := 0) dX11_times_42 ?_
              refine r_istore (L2 := [_, _, _, _, _, none, _, _, _]) dX11_times_43 (nlt rfl) rfl ?_
              have lp45 : ∀ (fu45 : Nat) (F2 : Nat → Int) (y : Int) (cj : Nat), (7 - y) < (fu45 : Int) → (y = (cj : Int)) → (cj ≤ k) → (∀ u, u < 12 → 0 ≤ F2 u ∧ F2 u < m) → (∀ b : Nat → Int, cg m (sm (fun u => F2 u * b u) (2 * k - 1)) (sm (fun i => sm (fun j => P i * Y j * b (i + j)) k) rn + sm (fun j => P rn * Y j * b (rn + j)) cj)) → G X RX11 cX11_times mX11_times.rm N 0 0 45 [some (.ref (124)), some (.ref (131)), some (.ref (132)), some (.int (iZ (ri))), some (.long (lZ (m))), none, some (.int (iZ (om (ri).toNat))), some (.int (iZ (x))), some (.int (iZ (y)))] [] (hs h (133) (aL 12 (F2))) := by
                intro fu45
                induction fu45 with
                | zero => intro F2 y cj hm ey1 cjk hB2 hS2; exfalso; omega
                | succ fu45 ih45 =>
                  intro F2 y cj hms45 ey1 cjk hB2 hS2
                  refine r_iload dX11_times_45 rfl ?_
                  refine r_iload dX11_times_47 rfl ?_
                  refine r_icmp_ge 91 dX11_times_49 (by decide) ⟨by omega, by omega⟩ ⟨by omega, by omega⟩ (fun c_49 => ?_) (fun c_49 => ?_)
                  · refine r_iinc (L2 := [_, _, _, _, _, none, _, _, _]) dX11_times_91 (nlt rfl) rfl rfl ?_
                    refine r_goto 35 dX11_times_94 (by decide) ?_
                    refine r_mask [true, true, true, true, true, false, true, true, false] (L2 := [_, _, _, _, _, none, _, _, none]) rfl ?_
                    exact ih35 (F2) (x + 1) ((rn + 1)) (by omega) (by omega) (by omega) hB2 (fun b => (hS2 b).tr (cg.of (by rw [sm_s, show cj = k by omega])))
                  · have e60 : (x + y).toNat = rn + cj := by omega
                    have e74 : P x.toNat = P rn := by congr 1; omega
                    have e78 : Y y.toNat = Y cj := by congr 1; omega
                    have pb := hP rn (by omega)
                    have yb := hY cj (by omega)
                    rw [← e74] at pb
                    rw [← e78] at yb
                    have m79 := acc_b pb.1 pb.2 yb.1 yb.2 hm
                    have f70 := hB2 (x + y).toNat (by omega)
                    refine r_aload_n dX11_times_52 rfl rfl ?_
                    refine gf_X11_39 dX11_times_53 (by omega) ((hs_n (by omega)).trans hm0) rfl ?_
                    refine r_iload dX11_times_56 rfl ?_
                    refine r_iload dX11_times_58 rfl ?_
                    refine r_iadd dX11_times_60 ?_
                    refine r_aload_n dX11_times_61 rfl rfl ?_
                    refine gf_X11_39 dX11_times_62 (by omega) ((hs_n (by omega)).trans hm0) rfl ?_
                    refine r_iload dX11_times_65 rfl ?_
                    refine r_iload dX11_times_67 rfl ?_
                    refine r_iadd dX11_times_69 ?_
                    refine r_laload dX11_times_70 (by omega) hs_e (by omega) (by omega) (by decide) ?_
                    refine r_aload_n dX11_times_71 rfl rfl ?_
                    refine r_iload dX11_times_72 rfl ?_
                    refine r_laload dX11_times_74 (by omega) ((hs_n (by omega)).trans hP0) (by omega) (by omega) (by decide) ?_
                    refine r_aload_n dX11_times_75 rfl rfl ?_
                    refine r_iload dX11_times_76 rfl ?_
                    refine r_laload dX11_times_78 (by omega) ((hs_n (by omega)).trans hY0) (by omega) (by omega) (by decide) ?_
                    refine r_lmul dX11_times_79 ?_
                    refine r_ladd dX11_times_80 ?_
                    refine r_lload dX11_times_81 rfl ?_
                    refine r_lremp dX11_times_83 ⟨by omega, by omega⟩ ⟨by omega, by omega⟩ (by omega) (by omega) ?_
                    have eb_83 := emod_bd ((F2 (x + y).toNat) + ((P (x).toNat) * (Y (y).toNat))) (show 0 < m by omega)
                    refine r_lastore dX11_times_84 (by omega) hs_e (by omega) (by omega) (by decide) ?_
                    refine g_heap (h2 := (hs h (133) (aL 12 (uA (F2) (x + y).toNat (((F2 (x + y).toNat) + ((P (x).toNat) * (Y (y).toNat))) % m))))) hs_hs ?_
                    refine r_iinc (L2 := [_, _, _, _, _, none, _, _, _]) dX11_times_85 (nlt rfl) rfl rfl ?_
                    refine r_goto 45 dX11_times_88 (by decide) ?_
                    exact ih45 (uA (F2) (x + y).toNat (((F2 (x + y).toNat) + ((P (x).toNat) * (Y (y).toNat))) % m)) (y + 1) ((cj + 1)) (by omega) (by omega) (by omega) (fun u hu => by rw [e60]; by_cases z : u = rn + cj; (rw [z, uA_e]; rw [e60] at eb_83; exact eb_83); rw [uA_n z]; exact hB2 u hu) (fun b => by rw [e60, e74, e78]; exact cg_up (by omega) (hS2 b) (by rw [sm_s]; omega))
              exact lp45 ((7 : Int) + 1).toNat (F1) (0) (0) (by omega) rfl (by omega) hB1 (fun b => (hS1 b).tr (cg.of (by show _ = _ + (0 : Int); omega)))
        exact lp35 ((7 : Int) + 1).toNat (F0) (0) (0) (by omega) rfl (by omega) (fun u hu => by rw [hF0 u (by omega)]; omega) (fun b => cg.of (sm_zero (fun u hu => by rw [hF0 u (by omega), Int.zero_mul])))
      · refine r_aload_n dX11_times_18 rfl rfl ?_
        refine gf_X11_39 dX11_times_19 (by omega) ((hs_n (by omega)).trans hm0) rfl ?_
        refine r_iload dX11_times_22 rfl ?_
        refine r_lconst (z := 0) dX11_times_24 (by decide) ?_
        refine r_lastore dX11_times_25 (by omega) hs_e (by omega) (by omega) (by decide) ?_
        refine g_heap (h2 := (hs h (133) (aL 12 (uA (F0) (i).toNat (0))))) hs_hs ?_
        refine r_iinc (L2 := [_, _, _, _, _, none, _, _, none]) dX11_times_26 (nlt rfl) rfl rfl ?_
        refine r_goto 11 dX11_times_29 (by decide) ?_
        exact ih11 (uA (F0) (i).toNat (0)) (i + 1) ((j0 + 1)) (by omega) (by omega) (by omega) (fun u hu => by rw [show i.toNat = j0 by omega]; by_cases z : u = j0; (rw [z, uA_e]); rw [uA_n z]; exact hF0 u (by omega))
  refine g_heap (hs_id (c := aL 12 (bo)) hbo).symm ?_
  exact lp11 ((13 : Int) + 1).toNat (bo) (0) (0) (by omega) rfl (by decide) (fun u hu => absurd hu (Nat.not_lt_zero u))
set_option maxHeartbeats 8000000 in
set_option maxRecDepth 20000 in
theorem c_X11_timesS {N : Nat} {h : Hp} {Q : QP} {ln pr nm at_ wr va em ta ro dg : Int} {om ml ms : Nat → Int} {c s P Y bo a : Nat → Int} {r k n1 n2 : Nat} {ri m : Int} (hm0 : h 124 = MOo ln pr nm at_ wr va em ta ro dg) (hN : 146 ≤ N) (hom : h 125 = aI 7 om) (hml : h 126 = aL 42 ml) (hms : h 127 = aL 42 ms) (hg : RG om ml ms r k c s) (hri : ri = (r : Int)) (hr6 : r < 7) (hP0 : h 132 = aL 6 P) (hbo : h 133 = aL 12 bo) (hm2 : 2 ≤ m) (hm : m ≤ 1000000) (hP : ∀ j, j < k → 0 ≤ P j ∧ P j < m) (hrec : Rec m a c k) (hrp : Rp m a k P n1) (hQ : ∀ P2 bo2 : Nat → Int, (∀ j, j < k → 0 ≤ P2 j ∧ P2 j < m) → Rp m a k P2 (n1 + n1) → Q none N (hs (hs h 133 (aL 12 bo2)) 132 (aL 6 P2))) : Runs mX11_times [.ref (124), .ref (132), .ref (132), .int (iZ (ri)), .long (lZ (m))] N h Q := by
  obtain ⟨hg1, hg2, hg3, hg4, hg5⟩ := id hg
  have ern : ri.toNat = r := by omega
  have eom : om ri.toNat = (k : Int) := by rw [ern]; exact hg1
  have hY := hP
  have hry := hrp
  refine run_start (own := RX11) rfl (by decide) (nle rfl) rfl (fun X hq hini => ?_)
  show G X RX11 cX11_times mX11_times.rm N 0 0 0 [some (.ref (124)), some (.ref (132)), some (.ref (132)), some (.int (iZ (ri))), some (.long (lZ (m))), none, none, none, none] [] h
  refine r_aload_n dX11_times_0 rfl rfl ?_
  refine gf_X11_7 dX11_times_1 (by omega) hm0 rfl ?_
  refine r_iload_n dX11_times_4 rfl rfl ?_
  refine r_iaload dX11_times_5 (by omega) hom (by omega) (by omega) (by decide) ?_
  refine r_istore (L2 := [_, _, _, _, _, none, _, none, none]) dX11_times_6 (nlt rfl) rfl ?_
  refine r_iconst (z := 0) dX11_times_8 ?_
  refine r_istore (L2 := [_, _, _, _, _, none, _, _, none]) dX11_times_9 (nlt rfl) rfl ?_
  have lp11 : ∀ (fu11 : Nat) (F0 : Nat → Int) (i : Int) (j0 : Nat), (13 - i) < (fu11 : Int) → (i = (j0 : Int)) → (j0 ≤ 12) → (∀ u, u < j0 → F0 u = 0) → G X RX11 cX11_times mX11_times.rm N 0 0 11 [some (.ref (124)), some (.ref (132)), some (.ref (132)), some (.int (iZ (ri))), some (.long (lZ (m))), none, some (.int (iZ (om (ri).toNat))), some (.int (iZ (i))), none] [] (hs h (133) (aL 12 (F0))) := by
    intro fu11
    induction fu11 with
    | zero => intro F0 i j0 hm ei j012 hF0; exfalso; omega
    | succ fu11 ih11 =>
      intro F0 i j0 hms11 ei j012 hF0
      refine r_iload dX11_times_11 rfl ?_
      refine r_bipush (z := 12) dX11_times_13 (by decide) ?_
      refine r_icmp_ge 32 dX11_times_15 (by decide) ⟨by omega, by omega⟩ ⟨by decide, by decide⟩ (fun c_15 => ?_) (fun c_15 => ?_)
      · refine r_iconst (z := 0) dX11_times_32 ?_
        refine r_istore (L2 := [_, _, _, _, _, none, _, _, none]) dX11_times_33 (nlt rfl) rfl ?_
        have lp35 : ∀ (fu35 : Nat) (F1 : Nat → Int) (x : Int) (rn : Nat), (7 - x) < (fu35 : Int) → (x = (rn : Int)) → (rn ≤ k) → (∀ u, u < 12 → 0 ≤ F1 u ∧ F1 u < m) → (∀ b : Nat → Int, cg m (sm (fun u => F1 u * b u) (2 * k - 1)) (sm (fun i => sm (fun j => P i * P j * b (i + j)) k) rn)) → G X RX11 cX11_times mX11_times.rm N 0 0 35 [some (.ref (124)), some (.ref (132)), some (.ref (132)), some (.int (iZ (ri))), some (.long (lZ (m))), none, some (.int (iZ (om (ri).toNat))), some (.int (iZ (x))), none] [] (hs h (133) (aL 12 (F1))) := by
          intro fu35
          induction fu35 with
          | zero => intro F1 x rn hm ex1 rnk hB1 hS1; exfalso; omega
          | succ fu35 ih35 =>
            intro F1 x rn hms35 ex1 rnk hB1 hS1
            refine r_iload dX11_times_35 rfl ?_
            refine r_iload dX11_times_37 rfl ?_
            refine r_icmp_ge 97 dX11_times_39 (by decide) ⟨by omega, by omega⟩ ⟨by omega, by omega⟩ (fun c_39 => ?_) (fun c_39 => ?_)
            · refine r_iconst (z := 2) dX11_times_97 ?_
              refine r_iload dX11_times_98 rfl ?_
              refine r_imul dX11_times_100 ?_
              refine r_iconst (z := 2) dX11_times_101 ?_
              refine r_isub dX11_times_102 ?_
              refine r_istore (L2 := [_, _, _, _, _, none, _, _, none]) dX11_times_103 (nlt rfl) rfl ?_
              have lp105 : ∀ (fu105 : Nat) (F3 : Nat → Int) (w : Int) (wn : Nat), (w + 2) < (fu105 : Int) → (w + 1 = (wn : Int)) → (k ≤ wn) → (wn ≤ 2 * k - 1) → (∀ u, u < 12 → 0 ≤ F3 u ∧ F3 u < m) → (Rp m a wn F3 (n1 + n1)) → G X RX11 cX11_times mX11_times.rm N 0 0 105 [some (.ref (124)), some (.ref (132)), some (.ref (132)), some (.int (iZ (ri))), some (.long (lZ (m))), none, some (.int (iZ (om (ri).toNat))), some (.int (iZ (w))), none] [] (hs h (133) (aL 12 (F3))) := by
                intro fu105
                induction fu105 with
                | zero => intro F3 w wn hm ew wk w2 hB3 hR3; exfalso; omega
                | succ fu105 ih105 =>
                  intro F3 w wn hms105 ew wk w2 hB3 hR3
                  refine r_iload dX11_times_105 rfl ?_
                  refine r_iload dX11_times_107 rfl ?_
                  refine r_icmp_lt 185 dX11_times_109 (by decide) ⟨by omega, by omega⟩ ⟨by omega, by omega⟩ (fun c_109 => ?_) (fun c_109 => ?_)
                  · refine r_iconst (z := 0) dX11_times_185 ?_
                    refine r_istore (L2 := [_, _, _, _, _, none, _, _, none]) dX11_times_186 (nlt rfl) rfl ?_
                    have lp188 : ∀ (fu188 : Nat) (F5 : Nat → Int) (v : Int) (vn : Nat), (7 - v) < (fu188 : Int) → (v = (vn : Int)) → (vn ≤ k) → (∀ u, u < vn → F5 u = F3 u) → G X RX11 cX11_times mX11_times.rm N 0 0 188 [some (.ref (124)), some (.ref (132)), some (.ref (132)), some (.int (iZ (ri))), some (.long (lZ (m))), none, some (.int (iZ (om (ri).toNat))), some (.int (iZ (v))), none] [] (hs (hs h (133) (aL 12 (F3))) (132) (aL 6 (F5))) := by
                      intro fu188
                      induction fu188 with
                      | zero => intro F5 v vn hm ev vk hF5; exfalso; omega
                      | succ fu188 ih188 =>
                        intro F5 v vn hms188 ev vk hF5
                        refine r_iload dX11_times_188 rfl ?_
                        refine r_iload dX11_times_190 rfl ?_
                        refine r_icmp_ge 212 dX11_times_192 (by decide) ⟨by omega, by omega⟩ ⟨by omega, by omega⟩ (fun c_192 => ?_) (fun c_192 => ?_)
                        · refine r_return hq dX11_times_212 rfl rfl rfl ?_
                          have vk2 : vn = k := by omega
                          rw [show wn = k by omega] at hR3
                          exact hQ F5 F3 (fun j hj => by rw [hF5 j (by omega)]; exact hB3 j (by omega)) (hR3.cong (fun j hj => cg.of (hF5 j (by omega))))
                        · refine r_aload_n dX11_times_195 rfl rfl ?_
                          refine r_iload dX11_times_196 rfl ?_
                          refine r_aload_n dX11_times_198 rfl rfl ?_
                          refine gf_X11_39 dX11_times_199 (by omega) ((hs_n (by omega)).trans ((hs_n (by omega)).trans hm0)) rfl ?_
                          refine r_iload dX11_times_202 rfl ?_
                          refine r_laload dX11_times_204 (by omega) ((hs_n (by omega)).trans hs_e) (by omega) (by omega) (by decide) ?_
                          refine r_lastore dX11_times_205 (by omega) hs_e (by omega) (by omega) (by decide) ?_
                          refine g_heap (h2 := (hs (hs h (133) (aL 12 (F3))) (132) (aL 6 (uA (F5) (v).toNat (F3 (v).toNat))))) hs_hs ?_
                          refine r_iinc (L2 := [_, _, _, _, _, none, _, _, none]) dX11_times_206 (nlt rfl) rfl rfl ?_
                          refine r_goto 188 dX11_times_209 (by decide) ?_
                          exact ih188 (uA (F5) (v).toNat (F3 (v).toNat)) (v + 1) ((vn + 1)) (by omega) (by omega) (by omega) (fun u hu => by rw [show v.toNat = vn by omega]; by_cases z : u = vn; (rw [z, uA_e]); rw [uA_n z]; exact hF5 u (by omega))
                    refine g_heap (hs_id (c := aL 6 (P)) ((hs_n (by omega)).trans hP0)).symm ?_
                    exact lp188 ((7 : Int) + 1).toNat (P) (0) (0) (by omega) rfl (by omega) (fun u hu => absurd hu (Nat.not_lt_zero u))
                  · refine r_iconst (z := 1) dX11_times_112 ?_
                    refine r_istore (L2 := [_, _, _, _, _, none, _, _, _]) dX11_times_113 (nlt rfl) rfl ?_
                    have lp115 : ∀ (fu115 : Nat) (F4 : Nat → Int) (d : Int) (dj : Nat), (8 - d) < (fu115 : Int) → (d = (dj : Int) + 1) → (dj ≤ k) → (∀ u, u < 12 → 0 ≤ F4 u ∧ F4 u < m) → (F4 (wn - 1) = F3 (wn - 1)) → (∀ b : Nat → Int, cg m (sm (fun u => F4 u * b u) (wn - 1)) (sm (fun u => F3 u * b u) (wn - 1) + sm (fun j => F3 (wn - 1) * c (j + 1) * b (wn - 1 - 1 - j)) dj)) → G X RX11 cX11_times mX11_times.rm N 0 0 115 [some (.ref (124)), some (.ref (132)), some (.ref (132)), some (.int (iZ (ri))), some (.long (lZ (m))), none, some (.int (iZ (om (ri).toNat))), some (.int (iZ (w))), some (.int (iZ (d)))] [] (hs h (133) (aL 12 (F4))) := by
                      intro fu115
                      induction fu115 with
                      | zero => intro F4 d dj hm ed djk hB4 htop hS4; exfalso; omega
                      | succ fu115 ih115 =>
                        intro F4 d dj hms115 ed djk hB4 htop hS4
                        refine r_iload dX11_times_115 rfl ?_
                        refine r_iload dX11_times_117 rfl ?_
                        refine r_icmp_gt 179 dX11_times_119 (by decide) ⟨by omega, by omega⟩ ⟨by omega, by omega⟩ (fun c_119 => ?_) (fun c_119 => ?_)
                        · refine r_iinc (L2 := [_, _, _, _, _, none, _, _, _]) dX11_times_179 (nlt rfl) rfl rfl ?_
                          refine r_goto 105 dX11_times_182 (by decide) ?_
                          refine r_mask [true, true, true, true, true, false, true, true, false] (L2 := [_, _, _, _, _, none, _, _, none]) rfl ?_
                          exact ih105 (F4) (w + (-1)) ((wn - 1)) (by omega) (by omega) (by omega) (by omega) hB4 (by rw [show wn = wn - 1 + 1 by omega] at hR3; refine hR3.down hrec (by omega) (top := F3 (wn - 1)) cg.rf (fun b => ?_); have := hS4 b; rw [show dj = k by omega] at this; exact this)
                        · have e130 : (w - d).toNat = wn - 1 - 1 - dj := by omega
                          have e147 : w.toNat = wn - 1 := by omega
                          have e161 : ml (((6 * ri) + d) - 1).toNat = c (dj + 1) := by rw [show (((6 * ri) + d) - 1).toNat = 6 * r + (dj + 1) - 1 by omega]; exact (hg4 (dj + 1) (by omega) (by omega)).1
                          have cb := (hg4 (dj + 1) (by omega) (by omega)).2
                          rw [← e161] at cb
                          have f140 := hB4 (w - d).toNat (by omega)
                          have f147 := hB4 w.toNat (by omega)
                          refine r_aload_n dX11_times_122 rfl rfl ?_
                          refine gf_X11_39 dX11_times_123 (by omega) ((hs_n (by omega)).trans hm0) rfl ?_
                          refine r_iload dX11_times_126 rfl ?_
                          refine r_iload dX11_times_128 rfl ?_
                          refine r_isub dX11_times_130 ?_
                          refine r_aload_n dX11_times_131 rfl rfl ?_
                          refine gf_X11_39 dX11_times_132 (by omega) ((hs_n (by omega)).trans hm0) rfl ?_
                          refine r_iload dX11_times_135 rfl ?_
                          refine r_iload dX11_times_137 rfl ?_
                          refine r_isub dX11_times_139 ?_
                          refine r_laload dX11_times_140 (by omega) hs_e (by omega) (by omega) (by decide) ?_
                          refine r_aload_n dX11_times_141 rfl rfl ?_
                          refine gf_X11_39 dX11_times_142 (by omega) ((hs_n (by omega)).trans hm0) rfl ?_
                          refine r_iload dX11_times_145 rfl ?_
                          refine r_laload dX11_times_147 (by omega) hs_e (by omega) (by omega) (by decide) ?_
                          refine r_aload_n dX11_times_148 rfl rfl ?_
                          refine gf_X11_13 dX11_times_149 (by omega) ((hs_n (by omega)).trans hm0) rfl ?_
                          refine r_bipush (z := 6) dX11_times_152 (by decide) ?_
                          refine r_iload_n dX11_times_154 rfl rfl ?_
                          refine r_imul dX11_times_155 ?_
                          refine r_iload dX11_times_156 rfl ?_
                          refine r_iadd dX11_times_158 ?_
                          refine r_iconst (z := 1) dX11_times_159 ?_
                          refine r_isub dX11_times_160 ?_
                          refine r_laload dX11_times_161 (by omega) ((hs_n (by omega)).trans hml) (by omega) (by omega) (by decide) ?_
                          refine r_lload dX11_times_162 rfl ?_
                          refine r_callS (av := [.long (lZ (ml (((6 * ri) + d) - 1).toNat)), .long (lZ (m))]) dX11_times_164 lkX11_modulo ml_X11_156 stX11_modulo ⟨Nat.le_of_ble_eq_true rfl, Nat.le_of_ble_eq_true rfl⟩ rfl rfl (nle rfl) ⟨Nat.le_of_ble_eq_true rfl, Nat.le_of_ble_eq_true rfl⟩ (c_X11_modulo (x := ml (((6 * ri) + d) - 1).toNat) (m := m) (by omega) (by omega) ?_)
                          have em_164 := emod_bd (ml (((6 * ri) + d) - 1).toNat) (show 0 < m by omega)
                          show G _ _ _ _ _ _ _ 167 _ _ _
                          have m167 := acc_b f147.1 f147.2 em_164.1 em_164.2 hm
                          refine r_lmul dX11_times_167 ?_
                          refine r_ladd dX11_times_168 ?_
                          refine r_lload dX11_times_169 rfl ?_
                          refine r_lremp dX11_times_171 ⟨by omega, by omega⟩ ⟨by omega, by omega⟩ (by omega) (by omega) ?_
                          have eb_171 := emod_bd ((F4 (w - d).toNat) + ((F4 (w).toNat) * ((ml (((6 * ri) + d) - 1).toNat) % m))) (show 0 < m by omega)
                          refine r_lastore dX11_times_172 (by omega) hs_e (by omega) (by omega) (by decide) ?_
                          refine g_heap (h2 := (hs h (133) (aL 12 (uA (F4) (w - d).toNat (((F4 (w - d).toNat) + ((F4 (w).toNat) * ((ml (((6 * ri) + d) - 1).toNat) % m))) % m))))) hs_hs ?_
                          refine r_iinc (L2 := [_, _, _, _, _, none, _, _, _]) dX11_times_173 (nlt rfl) rfl rfl ?_
                          refine r_goto 115 dX11_times_176 (by decide) ?_
                          exact ih115 (uA (F4) (w - d).toNat (((F4 (w - d).toNat) + ((F4 (w).toNat) * ((ml (((6 * ri) + d) - 1).toNat) % m))) % m)) (d + 1) ((dj + 1)) (by omega) (by omega) (by omega) (fun u hu => by rw [e130]; by_cases z : u = wn - 1 - 1 - dj; (rw [z, uA_e]; rw [e130] at eb_171; exact eb_171); rw [uA_n z]; exact hB4 u hu) (by rw [e130, uA_n (by omega)]; exact htop) (fun b => by rw [e130, e147, htop]; refine (cg_up (x := F3 (wn - 1) * (ml (((6 * ri) + d) - 1).toNat % m)) (by omega) (hS4 b) rfl).tr ?_; rw [sm_s, e161, ← Int.add_assoc]; exact cg.rf.add (cg.mul (cg.mul cg.rf cg.md) cg.rf))
                    exact lp115 ((8 : Int) + 1).toNat (F3) (1) (0) (by omega) rfl (by omega) hB3 rfl (fun b => cg.of (by show _ = _ + (0 : Int); omega))
              exact lp105 ((14 : Int) + 1).toNat (F1) ((2 * (om (ri).toNat)) - 2) ((2 * k - 1)) (by omega) (by omega) (by omega) (by omega) hB1 (hrp.mulc hry (fun b => by have := hS1 b; rw [show rn = k by omega] at this; exact this))
            · refine r_iconst (z := 0) dX11_times_42 ?_
              refine r_istore (L2 := [_, _, _, _, _, none, _, _, _]) dX11_times_43 (nlt rfl) rfl ?_
              have lp45 : ∀ (fu45 : Nat) (F2 : Nat → Int) (y : Int) (cj : Nat), (7 - y) < (fu45 : Int) → (y = (cj : Int)) → (cj ≤ k) → (∀ u, u < 12 → 0 ≤ F2 u ∧ F2 u < m) → (∀ b : Nat → Int, cg m (sm (fun u => F2 u * b u) (2 * k - 1)) (sm (fun i => sm (fun j => P i * P j * b (i + j)) k) rn + sm (fun j => P rn * P j * b (rn + j)) cj)) → G X RX11 cX11_times mX11_times.rm N 0 0 45 [some (.ref (124)), some (.ref (132)), some (.ref (132)), some (.int (iZ (ri))), some (.long (lZ (m))), none, some (.int (iZ (om (ri).toNat))), some (.int (iZ (x))), some (.int (iZ (y)))] [] (hs h (133) (aL 12 (F2))) := by
                intro fu45
                induction fu45 with
                | zero => intro F2 y cj hm ey1 cjk hB2 hS2; exfalso; omega
                | succ fu45 ih45 =>
                  intro F2 y cj hms45 ey1 cjk hB2 hS2
                  refine r_iload dX11_times_45 rfl ?_
                  refine r_iload dX11_times_47 rfl ?_
                  refine r_icmp_ge 91 dX11_times_49 (by decide) ⟨by omega, by omega⟩ ⟨by omega, by omega⟩ (fun c_49 => ?_) (fun c_49 => ?_)
                  · refine r_iinc (L2 := [_, _, _, _, _, none, _, _, _]) dX11_times_91 (nlt rfl) rfl rfl ?_
                    refine r_goto 35 dX11_times_94 (by decide) ?_
                    refine r_mask [true, true, true, true, true, false, true, true, false] (L2 := [_, _, _, _, _, none, _, _, none]) rfl ?_
                    exact ih35 (F2) (x + 1) ((rn + 1)) (by omega) (by omega) (by omega) hB2 (fun b => (hS2 b).tr (cg.of (by rw [sm_s, show cj = k by omega])))
                  · have e60 : (x + y).toNat = rn + cj := by omega
                    have e74 : P x.toNat = P rn := by congr 1; omega
                    have e78 : P y.toNat = P cj := by congr 1; omega
                    have pb := hP rn (by omega)
                    have yb := hY cj (by omega)
                    rw [← e74] at pb
                    rw [← e78] at yb
                    have m79 := acc_b pb.1 pb.2 yb.1 yb.2 hm
                    have f70 := hB2 (x + y).toNat (by omega)
                    refine r_aload_n dX11_times_52 rfl rfl ?_
                    refine gf_X11_39 dX11_times_53 (by omega) ((hs_n (by omega)).trans hm0) rfl ?_
                    refine r_iload dX11_times_56 rfl ?_
                    refine r_iload dX11_times_58 rfl ?_
                    refine r_iadd dX11_times_60 ?_
                    refine r_aload_n dX11_times_61 rfl rfl ?_
                    refine gf_X11_39 dX11_times_62 (by omega) ((hs_n (by omega)).trans hm0) rfl ?_
                    refine r_iload dX11_times_65 rfl ?_
                    refine r_iload dX11_times_67 rfl ?_
                    refine r_iadd dX11_times_69 ?_
                    refine r_laload dX11_times_70 (by omega) hs_e (by omega) (by omega) (by decide) ?_
                    refine r_aload_n dX11_times_71 rfl rfl ?_
                    refine r_iload dX11_times_72 rfl ?_
                    refine r_laload dX11_times_74 (by omega) ((hs_n (by omega)).trans hP0) (by omega) (by omega) (by decide) ?_
                    refine r_aload_n dX11_times_75 rfl rfl ?_
                    refine r_iload dX11_times_76 rfl ?_
                    refine r_laload dX11_times_78 (by omega) ((hs_n (by omega)).trans hP0) (by omega) (by omega) (by decide) ?_
                    refine r_lmul dX11_times_79 ?_
                    refine r_ladd dX11_times_80 ?_
                    refine r_lload dX11_times_81 rfl ?_
                    refine r_lremp dX11_times_83 ⟨by omega, by omega⟩ ⟨by omega, by omega⟩ (by omega) (by omega) ?_
                    have eb_83 := emod_bd ((F2 (x + y).toNat) + ((P (x).toNat) * (P (y).toNat))) (show 0 < m by omega)
                    refine r_lastore dX11_times_84 (by omega) hs_e (by omega) (by omega) (by decide) ?_
                    refine g_heap (h2 := (hs h (133) (aL 12 (uA (F2) (x + y).toNat (((F2 (x + y).toNat) + ((P (x).toNat) * (P (y).toNat))) % m))))) hs_hs ?_
                    refine r_iinc (L2 := [_, _, _, _, _, none, _, _, _]) dX11_times_85 (nlt rfl) rfl rfl ?_
                    refine r_goto 45 dX11_times_88 (by decide) ?_
                    exact ih45 (uA (F2) (x + y).toNat (((F2 (x + y).toNat) + ((P (x).toNat) * (P (y).toNat))) % m)) (y + 1) ((cj + 1)) (by omega) (by omega) (by omega) (fun u hu => by rw [e60]; by_cases z : u = rn + cj; (rw [z, uA_e]; rw [e60] at eb_83; exact eb_83); rw [uA_n z]; exact hB2 u hu) (fun b => by rw [e60, e74, e78]; exact cg_up (by omega) (hS2 b) (by rw [sm_s]; omega))
              exact lp45 ((7 : Int) + 1).toNat (F1) (0) (0) (by omega) rfl (by omega) hB1 (fun b => (hS1 b).tr (cg.of (by show _ = _ + (0 : Int); omega)))
        exact lp35 ((7 : Int) + 1).toNat (F0) (0) (0) (by omega) rfl (by omega) (fun u hu => by rw [hF0 u (by omega)]; omega) (fun b => cg.of (sm_zero (fun u hu => by rw [hF0 u (by omega), Int.zero_mul])))
      · refine r_aload_n dX11_times_18 rfl rfl ?_
        refine gf_X11_39 dX11_times_19 (by omega) ((hs_n (by omega)).trans hm0) rfl ?_
        refine r_iload dX11_times_22 rfl ?_
        refine r_lconst (z := 0) dX11_times_24 (by decide) ?_
        refine r_lastore dX11_times_25 (by omega) hs_e (by omega) (by omega) (by decide) ?_
        refine g_heap (h2 := (hs h (133) (aL 12 (uA (F0) (i).toNat (0))))) hs_hs ?_
        refine r_iinc (L2 := [_, _, _, _, _, none, _, _, none]) dX11_times_26 (nlt rfl) rfl rfl ?_
        refine r_goto 11 dX11_times_29 (by decide) ?_
        exact ih11 (uA (F0) (i).toNat (0)) (i + 1) ((j0 + 1)) (by omega) (by omega) (by omega) (fun u hu => by rw [show i.toNat = j0 by omega]; by_cases z : u = j0; (rw [z, uA_e]); rw [uA_n z]; exact hF0 u (by omega))
  refine g_heap (hs_id (c := aL 12 (bo)) hbo).symm ?_
  exact lp11 ((13 : Int) + 1).toNat (bo) (0) (0) (by omega) rfl (by decide) (fun u hu => absurd hu (Nat.not_lt_zero u))
set_option maxHeartbeats 8000000 in
set_option maxRecDepth 20000 in
theorem c_X11_restOf {N : Nat} {h : Hp} {Q : QP} {ln pr nm at_ wr va em ta ro dg : Int} {om ml ms : Nat → Int} {c s p0 t0 b0 : Nat → Int} {r k nn : Nat} {ri ni m : Int} (hm0 : h 124 = MOo ln pr nm at_ wr va em ta ro dg) (hN : 146 ≤ N) (hom : h 125 = aI 7 om) (hml : h 126 = aL 42 ml) (hms : h 127 = aL 42 ms) (hg : RG om ml ms r k c s) (hri : ri = (r : Int)) (hr6 : r < 7) (h131 : h 131 = aL 6 p0) (h132 : h 132 = aL 6 t0) (h133 : h 133 = aL 12 b0) (hm2 : 2 ≤ m) (hm : m ≤ 1000000) (hn : ni = (nn : Int)) (hn1 : ni ≤ 1000000000) (hQ : ∀ p2 t2 b2 : Nat → Int, Q (some (.int (iZ (rs k c s m nn)))) N (hs (hs (hs h 131 (aL 6 p2)) 132 (aL 6 t2)) 133 (aL 12 b2))) : Runs mX11_restOf [.ref (124), .int (iZ (ri)), .int (iZ (ni)), .int (iZ (m))] N h Q := by
  obtain ⟨hg1, hg2, hg3, hg4, hg5⟩ := id hg
  have ern : ri.toNat = r := by omega
  have eom : om ri.toNat = (k : Int) := by rw [ern]; exact hg1
  obtain ⟨a, ha⟩ : ∃ a, a = ex k c s := ⟨_, rfl⟩
  have hrec : Rec m a c k := by rw [ha]; exact ex_rec hg2
  have e1m : (1 : Int) % m = 1 := Int.emod_eq_of_lt (by omega) (by omega)
  refine run_start (own := RX11) rfl (by decide) (nle rfl) rfl (fun X hq hini => ?_)
  show G X RX11 cX11_restOf mX11_restOf.rm N 0 0 0 [some (.ref (124)), some (.int (iZ (ri))), some (.int (iZ (ni))), some (.int (iZ (m))), none, none, none, none] [] h
  refine r_aload_n dX11_restOf_0 rfl rfl ?_
  refine gf_X11_7 dX11_restOf_1 (by omega) hm0 rfl ?_
  refine r_iload_n dX11_restOf_4 rfl rfl ?_
  refine r_iaload dX11_restOf_5 (by omega) hom (by omega) (by omega) (by decide) ?_
  refine r_istore (L2 := [_, _, _, _, _, none, none, none]) dX11_restOf_6 (nlt rfl) rfl ?_
  refine r_iload_n dX11_restOf_8 rfl rfl ?_
  refine r_iload dX11_restOf_9 rfl ?_
  refine r_icmp_ge 32 dX11_restOf_11 (by decide) ⟨by omega, by omega⟩ ⟨by omega, by omega⟩ (fun c_11 => ?_) (fun c_11 => ?_)
  · refine r_iconst (z := 0) dX11_restOf_32 ?_
    refine r_istore (L2 := [_, _, _, _, _, _, none, none]) dX11_restOf_33 (nlt rfl) rfl ?_
    have lp35 : ∀ (fu35 : Nat) (pw : Nat → Int) (stp : Nat → Int) (i : Int) (j : Nat), (7 - i) < (fu35 : Int) → (i = (j : Int)) → (j ≤ 6) → (∀ u, u < j → pw u = if u = 0 then 1 else 0) → (∀ u, u < j → stp u = if u = 1 ∧ 1 < k then 1 else 0) → G X RX11 cX11_restOf mX11_restOf.rm N 0 0 35 [some (.ref (124)), some (.int (iZ (ri))), some (.int (iZ (ni))), some (.int (iZ (m))), some (.int (iZ (om (ri).toNat))), some (.int (iZ (i))), none, none] [] (hs (hs h (131) (aL 6 (pw))) (132) (aL 6 (stp))) := by
      intro fu35
      induction fu35 with
      | zero => intro pw stp i j hm ei j6 hpw hst; exfalso; omega
      | succ fu35 ih35 =>
        intro pw stp i j hms35 ei j6 hpw hst
        refine r_iload dX11_restOf_35 rfl ?_
        refine r_bipush (z := 6) dX11_restOf_37 (by decide) ?_
        refine r_icmp_ge 95 dX11_restOf_39 (by decide) ⟨by omega, by omega⟩ ⟨by decide, by decide⟩ (fun c_39 => ?_) (fun c_39 => ?_)
        · refine r_iload dX11_restOf_95 rfl ?_
          refine r_iconst (z := 1) dX11_restOf_97 ?_
          refine r_icmp_ne 121 dX11_restOf_98 (by decide) ⟨by omega, by omega⟩ ⟨by decide, by decide⟩ (fun c_98 => ?_) (fun c_98 => ?_)
          · refine r_iload_n dX11_restOf_121 rfl rfl ?_
            refine r_istore (L2 := [_, _, _, _, _, _, none, none]) dX11_restOf_122 (nlt rfl) rfl ?_
            have lp124 : ∀ (fu124 : Nat) (pw1 : Nat → Int) (st1 : Nat → Int) (bo1 : Nat → Int) (lf : Int) (ln_ : Nat) (e : Nat) (d : Nat), (lf + 1) < (fu124 : Int) → (lf = (ln_ : Int)) → (lf ≤ 1000000000) → (e + ln_ * d = nn) → (∀ j, j < k → 0 ≤ pw1 j ∧ pw1 j < m) → (∀ j, j < k → 0 ≤ st1 j ∧ st1 j < m) → (Rp m a k pw1 e) → (Rp m a k st1 d) → G X RX11 cX11_restOf mX11_restOf.rm N 0 0 124 [some (.ref (124)), some (.int (iZ (ri))), some (.int (iZ (ni))), some (.int (iZ (m))), some (.int (iZ (om (ri).toNat))), some (.int (iZ (lf))), none, none] [] (hs (hs (hs h (131) (aL 6 (pw1))) (132) (aL 6 (st1))) (133) (aL 12 (bo1))) := by
              intro fu124
              induction fu124 with
              | zero => intro pw1 st1 bo1 lf ln_ e d hm elf lf9 hed hpb hsb9 hpr hsr; exfalso; omega
              | succ fu124 ih124 =>
                intro pw1 st1 bo1 lf ln_ e d hms124 elf lf9 hed hpb hsb9 hpr hsr
                refine r_iload dX11_restOf_124 rfl ?_
                refine r_if_le 176 dX11_restOf_126 (by decide) ⟨by omega, by omega⟩ (fun c_126 => ?_) (fun c_126 => ?_)
                · refine r_lconst (z := 0) dX11_restOf_176 (by decide) ?_
                  refine r_lstore (L2 := [_, _, _, _, _, _, none, none]) dX11_restOf_177 (nlt rfl) rfl ?_
                  refine r_iconst (z := 0) dX11_restOf_179 ?_
                  refine r_istore (L2 := [_, _, _, _, _, _, none, _]) dX11_restOf_180 (nlt rfl) rfl ?_
                  have lp182 : ∀ (fu182 : Nat) (v : Int) (i5 : Int) (j5 : Nat), (7 - i5) < (fu182 : Int) → (i5 = (j5 : Int)) → (j5 ≤ k) → (0 ≤ v) → (v < m) → (cg m v (sm (fun i => pw1 i * s i) j5)) → G X RX11 cX11_restOf mX11_restOf.rm N 0 0 182 [some (.ref (124)), some (.int (iZ (ri))), none, some (.int (iZ (m))), some (.int (iZ (om (ri).toNat))), some (.long (lZ (v))), none, some (.int (iZ (i5)))] [] (hs (hs (hs h (131) (aL 6 (pw1))) (132) (aL 6 (st1))) (133) (aL 12 (bo1))) := by
                    intro fu182
                    induction fu182 with
                    | zero => intro v i5 j5 hm ei5 j5k v0 vm hcv; exfalso; omega
                    | succ fu182 ih182 =>
                      intro v i5 j5 hms182 ei5 j5k v0 vm hcv
                      refine r_iload dX11_restOf_182 rfl ?_
                      refine r_iload dX11_restOf_184 rfl ?_
                      refine r_icmp_ge 228 dX11_restOf_186 (by decide) ⟨by omega, by omega⟩ ⟨by omega, by omega⟩ (fun c_186 => ?_) (fun c_186 => ?_)
                      · refine r_lload dX11_restOf_228 rfl ?_
                        refine r_l2i dX11_restOf_230 ?_
                        refine r_ireturn hq dX11_restOf_231 rfl rfl rfl ?_
                        rw [show j5 = k by omega] at hcv
                        have hl0 : ln_ = 0 := by omega
                        rw [hl0, Nat.zero_mul, Nat.add_zero] at hed
                        rw [hed, ha] at hpr
                        have hf := (hcv.tr hpr.fin.sy).emod
                        rw [Int.emod_eq_of_lt v0 vm] at hf
                        rw [show v = rs k c s m nn from hf]
                        exact hQ _ _ _
                      · have e197 : pw1 i5.toNat = pw1 j5 := by congr 1; omega
                        have e209 : ms ((6 * ri) + i5).toNat = s j5 := by rw [show ((6 * ri) + i5).toNat = 6 * r + j5 by omega]; exact (hg5 j5 (by omega)).1
                        have sb := (hg5 j5 (by omega)).2
                        rw [← e209] at sb
                        have pb := hpb j5 (by omega)
                        rw [← e197] at pb
                        refine r_lload dX11_restOf_189 rfl ?_
                        refine r_aload_n dX11_restOf_191 rfl rfl ?_
                        refine gf_X11_33 dX11_restOf_192 (by omega) ((hs_n (by omega)).trans ((hs_n (by omega)).trans ((hs_n (by omega)).trans hm0))) rfl ?_
                        refine r_iload dX11_restOf_195 rfl ?_
                        refine r_laload dX11_restOf_197 (by omega) ((hs_n (by omega)).trans ((hs_n (by omega)).trans hs_e)) (by omega) (by omega) (by decide) ?_
                        refine r_aload_n dX11_restOf_198 rfl rfl ?_
                        refine gf_X11_17 dX11_restOf_199 (by omega) ((hs_n (by omega)).trans ((hs_n (by omega)).trans ((hs_n (by omega)).trans hm0))) rfl ?_
                        refine r_bipush (z := 6) dX11_restOf_202 (by decide) ?_
                        refine r_iload_n dX11_restOf_204 rfl rfl ?_
                        refine r_imul dX11_restOf_205 ?_
                        refine r_iload dX11_restOf_206 rfl ?_
                        refine r_iadd dX11_restOf_208 ?_
                        refine r_laload dX11_restOf_209 (by omega) ((hs_n (by omega)).trans ((hs_n (by omega)).trans ((hs_n (by omega)).trans hms))) (by omega) (by omega) (by decide) ?_
                        refine r_iload_n dX11_restOf_210 rfl rfl ?_
                        refine r_i2l dX11_restOf_211 ⟨by omega, by omega⟩ ?_
                        refine r_callS (av := [.long (lZ (ms ((6 * ri) + i5).toNat)), .long (lZ (m))]) dX11_restOf_212 lkX11_modulo ml_X11_156 stX11_modulo ⟨Nat.le_of_ble_eq_true rfl, Nat.le_of_ble_eq_true rfl⟩ rfl rfl (nle rfl) ⟨Nat.le_of_ble_eq_true rfl, Nat.le_of_ble_eq_true rfl⟩ (c_X11_modulo (x := ms ((6 * ri) + i5).toNat) (m := m) (by omega) (by omega) ?_)
                        have em_212 := emod_bd (ms ((6 * ri) + i5).toNat) (show 0 < m by omega)
                        show G _ _ _ _ _ _ _ 215 _ _ _
                        have m215 := acc_b pb.1 pb.2 em_212.1 em_212.2 hm
                        refine r_lmul dX11_restOf_215 ?_
                        refine r_ladd dX11_restOf_216 ?_
                        refine r_iload_n dX11_restOf_217 rfl rfl ?_
                        refine r_i2l dX11_restOf_218 ⟨by omega, by omega⟩ ?_
                        refine r_lremp dX11_restOf_219 ⟨by omega, by omega⟩ ⟨by omega, by omega⟩ (by omega) (by omega) ?_
                        have eb_219 := emod_bd (v + ((pw1 (i5).toNat) * ((ms ((6 * ri) + i5).toNat) % m))) (show 0 < m by omega)
                        refine r_lstore (L2 := [_, _, none, _, _, _, none, _]) dX11_restOf_220 (nlt rfl) rfl ?_
                        refine r_iinc (L2 := [_, _, none, _, _, _, none, _]) dX11_restOf_222 (nlt rfl) rfl rfl ?_
                        refine r_goto 182 dX11_restOf_225 (by decide) ?_
                        exact ih182 ((v + ((pw1 (i5).toNat) * ((ms ((6 * ri) + i5).toNat) % m))) % m) (i5 + 1) ((j5 + 1)) (by omega) (by omega) (by omega) (by omega) (by omega) (cg.md.tr (by rw [sm_s]; exact hcv.add (by rw [e197, e209]; exact cg.rf.mul cg.md)))
                  refine r_mask [true, true, false, true, true, true, false, true] (L2 := [_, _, none, _, _, _, none, _]) rfl ?_
                  exact lp182 ((7 : Int) + 1).toNat (0) (0) (0) (by omega) rfl (by omega) (by decide) (by omega) cg.rf
                · refine r_iload dX11_restOf_129 rfl ?_
                  refine r_iconst (z := 2) dX11_restOf_131 ?_
                  refine r_iremp dX11_restOf_132 ⟨by omega, by omega⟩ ⟨by decide, by decide⟩ (by omega) (by decide) ?_
                  refine r_iconst (z := 1) dX11_restOf_133 ?_
                  refine r_icmp_ne 152 dX11_restOf_134 (by decide) ⟨by omega, by omega⟩ ⟨by decide, by decide⟩ (fun c_134 => ?_) (fun c_134 => ?_)
                  · refine r_aload_n dX11_restOf_152 rfl rfl ?_
                    refine r_aload_n dX11_restOf_153 rfl rfl ?_
                    refine gf_X11_36 dX11_restOf_154 (by omega) ((hs_n (by omega)).trans ((hs_n (by omega)).trans ((hs_n (by omega)).trans hm0))) rfl ?_
                    refine r_aload_n dX11_restOf_157 rfl rfl ?_
                    refine gf_X11_36 dX11_restOf_158 (by omega) ((hs_n (by omega)).trans ((hs_n (by omega)).trans ((hs_n (by omega)).trans hm0))) rfl ?_
                    refine r_iload_n dX11_restOf_161 rfl rfl ?_
                    refine r_iload_n dX11_restOf_162 rfl rfl ?_
                    refine r_i2l dX11_restOf_163 ⟨by omega, by omega⟩ ?_
                    refine r_callV (av := [.ref (132), .ref (132), .int (iZ (ri)), .long (lZ (m))]) dX11_restOf_164 lkX11_times ml_X11_160 imX11_times seX11_times (by omega) (rfl : vwCl[11]? = _) ⟨_, ((hs_n (by omega)).trans ((hs_n (by omega)).trans ((hs_n (by omega)).trans hm0)))⟩ ⟨Nat.le_of_ble_eq_true rfl, Nat.le_of_ble_eq_true rfl⟩ rfl rfl (nle rfl) ⟨Nat.le_of_ble_eq_true rfl, Nat.le_of_ble_eq_true rfl⟩ (c_X11_timesS (r := r) (k := k) (c := c) (s := s) (om := om) (ml := ml) (ms := ms) (P := st1) (n1 := d) (Y := st1) (n2 := 0) (bo := bo1) (a := a) (m := m) (ln := ln) (pr := pr) (nm := nm) (at_ := at_) (wr := wr) (va := va) (em := em) (ta := ta) (ro := ro) (dg := dg) ((hs_n (by omega)).trans ((hs_n (by omega)).trans ((hs_n (by omega)).trans hm0))) hN ((hs_n (by omega)).trans ((hs_n (by omega)).trans ((hs_n (by omega)).trans hom))) ((hs_n (by omega)).trans ((hs_n (by omega)).trans ((hs_n (by omega)).trans hml))) ((hs_n (by omega)).trans ((hs_n (by omega)).trans ((hs_n (by omega)).trans hms))) hg (by omega) (by omega) ((hs_n (by omega)).trans hs_e) hs_e hm2 hm hsb9 hrec hsr (fun P164 bo164 hP164 hR164 => ?_))
                    refine g_heap (h2 := (hs (hs (hs h (131) (aL 6 (pw1))) (132) (aL 6 (P164))) (133) (aL 12 (bo164)))) ((congrArg (fun x9 => hs x9 (132) (aL 6 (P164))) hs_hs).trans (hs_put (by omega) hs_hs)) ?_
                    show G _ _ _ _ _ _ _ 167 _ _ _
                    refine r_iload dX11_restOf_167 rfl ?_
                    refine r_iconst (z := 2) dX11_restOf_169 ?_
                    refine r_idivp dX11_restOf_170 ⟨by omega, by omega⟩ ⟨by decide, by decide⟩ (by omega) (by decide) ?_
                    refine r_istore (L2 := [_, _, _, _, _, _, none, none]) dX11_restOf_171 (nlt rfl) rfl ?_
                    refine r_goto 124 dX11_restOf_173 (by decide) ?_
                    exact ih124 (pw1) (P164) (bo164) (lf / 2) ((ln_ / 2)) (e) ((d + d)) (by omega) (by omega) (by omega) (by rw [← hed]; have e9 : ln_ = 2 * (ln_ / 2) := (by omega); have e8 : ln_ * d = (2 * (ln_ / 2)) * d := (by rw [← e9]); rw [e8, Nat.mul_comm 2, Nat.mul_assoc, Nat.two_mul]) hpb hP164 hpr hR164
                  · refine r_aload_n dX11_restOf_137 rfl rfl ?_
                    refine r_aload_n dX11_restOf_138 rfl rfl ?_
                    refine gf_X11_33 dX11_restOf_139 (by omega) ((hs_n (by omega)).trans ((hs_n (by omega)).trans ((hs_n (by omega)).trans hm0))) rfl ?_
                    refine r_aload_n dX11_restOf_142 rfl rfl ?_
                    refine gf_X11_36 dX11_restOf_143 (by omega) ((hs_n (by omega)).trans ((hs_n (by omega)).trans ((hs_n (by omega)).trans hm0))) rfl ?_
                    refine r_iload_n dX11_restOf_146 rfl rfl ?_
                    refine r_iload_n dX11_restOf_147 rfl rfl ?_
                    refine r_i2l dX11_restOf_148 ⟨by omega, by omega⟩ ?_
                    refine r_callV (av := [.ref (131), .ref (132), .int (iZ (ri)), .long (lZ (m))]) dX11_restOf_149 lkX11_times ml_X11_160 imX11_times seX11_times (by omega) (rfl : vwCl[11]? = _) ⟨_, ((hs_n (by omega)).trans ((hs_n (by omega)).trans ((hs_n (by omega)).trans hm0)))⟩ ⟨Nat.le_of_ble_eq_true rfl, Nat.le_of_ble_eq_true rfl⟩ rfl rfl (nle rfl) ⟨Nat.le_of_ble_eq_true rfl, Nat.le_of_ble_eq_true rfl⟩ (c_X11_timesP (r := r) (k := k) (c := c) (s := s) (om := om) (ml := ml) (ms := ms) (P := pw1) (n1 := e) (Y := st1) (n2 := d) (bo := bo1) (a := a) (m := m) (ln := ln) (pr := pr) (nm := nm) (at_ := at_) (wr := wr) (va := va) (em := em) (ta := ta) (ro := ro) (dg := dg) ((hs_n (by omega)).trans ((hs_n (by omega)).trans ((hs_n (by omega)).trans hm0))) hN ((hs_n (by omega)).trans ((hs_n (by omega)).trans ((hs_n (by omega)).trans hom))) ((hs_n (by omega)).trans ((hs_n (by omega)).trans ((hs_n (by omega)).trans hml))) ((hs_n (by omega)).trans ((hs_n (by omega)).trans ((hs_n (by omega)).trans hms))) hg (by omega) (by omega) ((hs_n (by omega)).trans ((hs_n (by omega)).trans hs_e)) ((hs_n (by omega)).trans hs_e) hs_e hm2 hm hpb hsb9 hrec hpr hsr (fun P149 bo149 hP149 hR149 => ?_))
                    refine g_heap (h2 := (hs (hs (hs h (131) (aL 6 (P149))) (132) (aL 6 (st1))) (133) (aL 12 (bo149)))) ((congrArg (fun x9 => hs x9 (131) (aL 6 (P149))) hs_hs).trans (hs_put (by omega) (hs_put (by omega) hs_hs))) ?_
                    show G _ _ _ _ _ _ _ 152 _ _ _
                    refine r_aload_n dX11_restOf_152 rfl rfl ?_
                    refine r_aload_n dX11_restOf_153 rfl rfl ?_
                    refine gf_X11_36 dX11_restOf_154 (by omega) ((hs_n (by omega)).trans ((hs_n (by omega)).trans ((hs_n (by omega)).trans hm0))) rfl ?_
                    refine r_aload_n dX11_restOf_157 rfl rfl ?_
                    refine gf_X11_36 dX11_restOf_158 (by omega) ((hs_n (by omega)).trans ((hs_n (by omega)).trans ((hs_n (by omega)).trans hm0))) rfl ?_
                    refine r_iload_n dX11_restOf_161 rfl rfl ?_
                    refine r_iload_n dX11_restOf_162 rfl rfl ?_
                    refine r_i2l dX11_restOf_163 ⟨by omega, by omega⟩ ?_
                    refine r_callV (av := [.ref (132), .ref (132), .int (iZ (ri)), .long (lZ (m))]) dX11_restOf_164 lkX11_times ml_X11_160 imX11_times seX11_times (by omega) (rfl : vwCl[11]? = _) ⟨_, ((hs_n (by omega)).trans ((hs_n (by omega)).trans ((hs_n (by omega)).trans hm0)))⟩ ⟨Nat.le_of_ble_eq_true rfl, Nat.le_of_ble_eq_true rfl⟩ rfl rfl (nle rfl) ⟨Nat.le_of_ble_eq_true rfl, Nat.le_of_ble_eq_true rfl⟩ (c_X11_timesS (r := r) (k := k) (c := c) (s := s) (om := om) (ml := ml) (ms := ms) (P := st1) (n1 := d) (Y := st1) (n2 := 0) (bo := bo149) (a := a) (m := m) (ln := ln) (pr := pr) (nm := nm) (at_ := at_) (wr := wr) (va := va) (em := em) (ta := ta) (ro := ro) (dg := dg) ((hs_n (by omega)).trans ((hs_n (by omega)).trans ((hs_n (by omega)).trans hm0))) hN ((hs_n (by omega)).trans ((hs_n (by omega)).trans ((hs_n (by omega)).trans hom))) ((hs_n (by omega)).trans ((hs_n (by omega)).trans ((hs_n (by omega)).trans hml))) ((hs_n (by omega)).trans ((hs_n (by omega)).trans ((hs_n (by omega)).trans hms))) hg (by omega) (by omega) ((hs_n (by omega)).trans hs_e) hs_e hm2 hm hsb9 hrec hsr (fun P164v2 bo164v2 hP164v2 hR164v2 => ?_))
                    refine g_heap (h2 := (hs (hs (hs h (131) (aL 6 (P149))) (132) (aL 6 (P164v2))) (133) (aL 12 (bo164v2)))) ((congrArg (fun x9 => hs x9 (132) (aL 6 (P164v2))) hs_hs).trans (hs_put (by omega) hs_hs)) ?_
                    show G _ _ _ _ _ _ _ 167 _ _ _
                    refine r_iload dX11_restOf_167 rfl ?_
                    refine r_iconst (z := 2) dX11_restOf_169 ?_
                    refine r_idivp dX11_restOf_170 ⟨by omega, by omega⟩ ⟨by decide, by decide⟩ (by omega) (by decide) ?_
                    refine r_istore (L2 := [_, _, _, _, _, _, none, none]) dX11_restOf_171 (nlt rfl) rfl ?_
                    refine r_goto 124 dX11_restOf_173 (by decide) ?_
                    exact ih124 (P149) (P164v2) (bo164v2) (lf / 2) ((ln_ / 2)) ((e + d)) ((d + d)) (by omega) (by omega) (by omega) (by rw [← hed]; have e9 : ln_ = 2 * (ln_ / 2) + 1 := (by omega); have e8 : ln_ * d = (2 * (ln_ / 2) + 1) * d := (by rw [← e9]); rw [e8, Nat.add_mul, Nat.mul_comm 2, Nat.mul_assoc, Nat.two_mul]; omega) hP149 hP164v2 hR149 hR164v2
            refine g_heap (hs_id (c := aL 12 (b0)) ((hs_n (by omega)).trans ((hs_n (by omega)).trans h133))).symm ?_
            exact lp124 ((ni + 1 : Int) + 1).toNat (pw) (stp) (b0) (ni) (nn) (0) (1) (by omega) (by omega) (by omega) (by omega) (fun u hu => by rw [hpw u (by omega)]; split <;> omega) (fun u hu => by rw [hst u (by omega)]; split <;> omega) (Rp.zero hg2 (by rw [hpw 0 (by omega), if_pos rfl]) (fun i h1 h2 => by rw [hpw i (by omega), if_neg (by omega)])) (Rp.one (by omega) (by rw [hst 1 (by omega), if_pos ⟨rfl, by omega⟩]) (fun i h1 h2 => by rw [hst i (by omega), if_neg (by omega)]))
          · have e114 : ml (6 * ri).toNat = c 1 := by rw [show (6 * ri).toNat = 6 * r + 1 - 1 by omega]; exact (hg4 1 (by omega) (by omega)).1
            have cb := (hg4 1 (by omega) (by omega)).2
            rw [← e114] at cb
            have hone1 : ∀ stp : Nat → Int, Rp m a k (uA stp 0 (ml (6 * ri).toNat % m)) 1 := fun stp => by
              have hk1 : k = 1 := by omega
              have hrec1 := hrec
              rw [hk1] at hrec1 ⊢
              have h1 := Rp.one1 (P := fun _ => c 1) hrec1 rfl
              refine h1.cong (fun i hi => ?_)
              rw [show i = 0 by omega, uA_e, e114]
              exact cg.md
            refine r_aload_n dX11_restOf_101 rfl rfl ?_
            refine gf_X11_36 dX11_restOf_102 (by omega) ((hs_n (by omega)).trans ((hs_n (by omega)).trans hm0)) rfl ?_
            refine r_iconst (z := 0) dX11_restOf_105 ?_
            refine r_aload_n dX11_restOf_106 rfl rfl ?_
            refine gf_X11_13 dX11_restOf_107 (by omega) ((hs_n (by omega)).trans ((hs_n (by omega)).trans hm0)) rfl ?_
            refine r_bipush (z := 6) dX11_restOf_110 (by decide) ?_
            refine r_iload_n dX11_restOf_112 rfl rfl ?_
            refine r_imul dX11_restOf_113 ?_
            refine r_laload dX11_restOf_114 (by omega) ((hs_n (by omega)).trans ((hs_n (by omega)).trans hml)) (by omega) (by omega) (by decide) ?_
            refine r_iload_n dX11_restOf_115 rfl rfl ?_
            refine r_i2l dX11_restOf_116 ⟨by omega, by omega⟩ ?_
            refine r_callS (av := [.long (lZ (ml (6 * ri).toNat)), .long (lZ (m))]) dX11_restOf_117 lkX11_modulo ml_X11_156 stX11_modulo ⟨Nat.le_of_ble_eq_true rfl, Nat.le_of_ble_eq_true rfl⟩ rfl rfl (nle rfl) ⟨Nat.le_of_ble_eq_true rfl, Nat.le_of_ble_eq_true rfl⟩ (c_X11_modulo (x := ml (6 * ri).toNat) (m := m) (by omega) (by omega) ?_)
            have em_117 := emod_bd (ml (6 * ri).toNat) (show 0 < m by omega)
            show G _ _ _ _ _ _ _ 120 _ _ _
            refine r_lastore dX11_restOf_120 (by omega) hs_e (by omega) (by omega) (by decide) ?_
            refine g_heap (h2 := (hs (hs h (131) (aL 6 (pw))) (132) (aL 6 (uA (stp) (0 : Int).toNat ((ml (6 * ri).toNat) % m))))) hs_hs ?_
            refine r_iload_n dX11_restOf_121 rfl rfl ?_
            refine r_istore (L2 := [_, _, _, _, _, _, none, none]) dX11_restOf_122 (nlt rfl) rfl ?_
            have lp124 : ∀ (fu124 : Nat) (pw1 : Nat → Int) (st1 : Nat → Int) (bo1 : Nat → Int) (lf : Int) (ln_ : Nat) (e : Nat) (d : Nat), (lf + 1) < (fu124 : Int) → (lf = (ln_ : Int)) → (lf ≤ 1000000000) → (e + ln_ * d = nn) → (∀ j, j < k → 0 ≤ pw1 j ∧ pw1 j < m) → (∀ j, j < k → 0 ≤ st1 j ∧ st1 j < m) → (Rp m a k pw1 e) → (Rp m a k st1 d) → G X RX11 cX11_restOf mX11_restOf.rm N 0 0 124 [some (.ref (124)), some (.int (iZ (ri))), some (.int (iZ (ni))), some (.int (iZ (m))), some (.int (iZ (om (ri).toNat))), some (.int (iZ (lf))), none, none] [] (hs (hs (hs h (131) (aL 6 (pw1))) (132) (aL 6 (st1))) (133) (aL 12 (bo1))) := by
              intro fu124
              induction fu124 with
              | zero => intro pw1 st1 bo1 lf ln_ e d hm elf lf9 hed hpb hsb9 hpr hsr; exfalso; omega
              | succ fu124 ih124 =>
                intro pw1 st1 bo1 lf ln_ e d hms124 elf lf9 hed hpb hsb9 hpr hsr
                refine r_iload dX11_restOf_124 rfl ?_
                refine r_if_le 176 dX11_restOf_126 (by decide) ⟨by omega, by omega⟩ (fun c_126 => ?_) (fun c_126 => ?_)
                · refine r_lconst (z := 0) dX11_restOf_176 (by decide) ?_
                  refine r_lstore (L2 := [_, _, _, _, _, _, none, none]) dX11_restOf_177 (nlt rfl) rfl ?_
                  refine r_iconst (z := 0) dX11_restOf_179 ?_
                  refine r_istore (L2 := [_, _, _, _, _, _, none, _]) dX11_restOf_180 (nlt rfl) rfl ?_
                  have lp182 : ∀ (fu182 : Nat) (v : Int) (i5 : Int) (j5 : Nat), (7 - i5) < (fu182 : Int) → (i5 = (j5 : Int)) → (j5 ≤ k) → (0 ≤ v) → (v < m) → (cg m v (sm (fun i => pw1 i * s i) j5)) → G X RX11 cX11_restOf mX11_restOf.rm N 0 0 182 [some (.ref (124)), some (.int (iZ (ri))), none, some (.int (iZ (m))), some (.int (iZ (om (ri).toNat))), some (.long (lZ (v))), none, some (.int (iZ (i5)))] [] (hs (hs (hs h (131) (aL 6 (pw1))) (132) (aL 6 (st1))) (133) (aL 12 (bo1))) := by
                    intro fu182
                    induction fu182 with
                    | zero => intro v i5 j5 hm ei5 j5k v0 vm hcv; exfalso; omega
                    | succ fu182 ih182 =>
                      intro v i5 j5 hms182 ei5 j5k v0 vm hcv
                      refine r_iload dX11_restOf_182 rfl ?_
                      refine r_iload dX11_restOf_184 rfl ?_
                      refine r_icmp_ge 228 dX11_restOf_186 (by decide) ⟨by omega, by omega⟩ ⟨by omega, by omega⟩ (fun c_186 => ?_) (fun c_186 => ?_)
                      · refine r_lload dX11_restOf_228 rfl ?_
                        refine r_l2i dX11_restOf_230 ?_
                        refine r_ireturn hq dX11_restOf_231 rfl rfl rfl ?_
                        rw [show j5 = k by omega] at hcv
                        have hl0 : ln_ = 0 := by omega
                        rw [hl0, Nat.zero_mul, Nat.add_zero] at hed
                        rw [hed, ha] at hpr
                        have hf := (hcv.tr hpr.fin.sy).emod
                        rw [Int.emod_eq_of_lt v0 vm] at hf
                        rw [show v = rs k c s m nn from hf]
                        exact hQ _ _ _
                      · have e197 : pw1 i5.toNat = pw1 j5 := by congr 1; omega
                        have e209 : ms ((6 * ri) + i5).toNat = s j5 := by rw [show ((6 * ri) + i5).toNat = 6 * r + j5 by omega]; exact (hg5 j5 (by omega)).1
                        have sb := (hg5 j5 (by omega)).2
                        rw [← e209] at sb
                        have pb := hpb j5 (by omega)
                        rw [← e197] at pb
                        refine r_lload dX11_restOf_189 rfl ?_
                        refine r_aload_n dX11_restOf_191 rfl rfl ?_
                        refine gf_X11_33 dX11_restOf_192 (by omega) ((hs_n (by omega)).trans ((hs_n (by omega)).trans ((hs_n (by omega)).trans hm0))) rfl ?_
                        refine r_iload dX11_restOf_195 rfl ?_
                        refine r_laload dX11_restOf_197 (by omega) ((hs_n (by omega)).trans ((hs_n (by omega)).trans hs_e)) (by omega) (by omega) (by decide) ?_
                        refine r_aload_n dX11_restOf_198 rfl rfl ?_
                        refine gf_X11_17 dX11_restOf_199 (by omega) ((hs_n (by omega)).trans ((hs_n (by omega)).trans ((hs_n (by omega)).trans hm0))) rfl ?_
                        refine r_bipush (z := 6) dX11_restOf_202 (by decide) ?_
                        refine r_iload_n dX11_restOf_204 rfl rfl ?_
                        refine r_imul dX11_restOf_205 ?_
                        refine r_iload dX11_restOf_206 rfl ?_
                        refine r_iadd dX11_restOf_208 ?_
                        refine r_laload dX11_restOf_209 (by omega) ((hs_n (by omega)).trans ((hs_n (by omega)).trans ((hs_n (by omega)).trans hms))) (by omega) (by omega) (by decide) ?_
                        refine r_iload_n dX11_restOf_210 rfl rfl ?_
                        refine r_i2l dX11_restOf_211 ⟨by omega, by omega⟩ ?_
                        refine r_callS (av := [.long (lZ (ms ((6 * ri) + i5).toNat)), .long (lZ (m))]) dX11_restOf_212 lkX11_modulo ml_X11_156 stX11_modulo ⟨Nat.le_of_ble_eq_true rfl, Nat.le_of_ble_eq_true rfl⟩ rfl rfl (nle rfl) ⟨Nat.le_of_ble_eq_true rfl, Nat.le_of_ble_eq_true rfl⟩ (c_X11_modulo (x := ms ((6 * ri) + i5).toNat) (m := m) (by omega) (by omega) ?_)
                        have em_212 := emod_bd (ms ((6 * ri) + i5).toNat) (show 0 < m by omega)
                        show G _ _ _ _ _ _ _ 215 _ _ _
                        have m215 := acc_b pb.1 pb.2 em_212.1 em_212.2 hm
                        refine r_lmul dX11_restOf_215 ?_
                        refine r_ladd dX11_restOf_216 ?_
                        refine r_iload_n dX11_restOf_217 rfl rfl ?_
                        refine r_i2l dX11_restOf_218 ⟨by omega, by omega⟩ ?_
                        refine r_lremp dX11_restOf_219 ⟨by omega, by omega⟩ ⟨by omega, by omega⟩ (by omega) (by omega) ?_
                        have eb_219 := emod_bd (v + ((pw1 (i5).toNat) * ((ms ((6 * ri) + i5).toNat) % m))) (show 0 < m by omega)
                        refine r_lstore (L2 := [_, _, none, _, _, _, none, _]) dX11_restOf_220 (nlt rfl) rfl ?_
                        refine r_iinc (L2 := [_, _, none, _, _, _, none, _]) dX11_restOf_222 (nlt rfl) rfl rfl ?_
                        refine r_goto 182 dX11_restOf_225 (by decide) ?_
                        exact ih182 ((v + ((pw1 (i5).toNat) * ((ms ((6 * ri) + i5).toNat) % m))) % m) (i5 + 1) ((j5 + 1)) (by omega) (by omega) (by omega) (by omega) (by omega) (cg.md.tr (by rw [sm_s]; exact hcv.add (by rw [e197, e209]; exact cg.rf.mul cg.md)))
                  refine r_mask [true, true, false, true, true, true, false, true] (L2 := [_, _, none, _, _, _, none, _]) rfl ?_
                  exact lp182 ((7 : Int) + 1).toNat (0) (0) (0) (by omega) rfl (by omega) (by decide) (by omega) cg.rf
                · refine r_iload dX11_restOf_129 rfl ?_
                  refine r_iconst (z := 2) dX11_restOf_131 ?_
                  refine r_iremp dX11_restOf_132 ⟨by omega, by omega⟩ ⟨by decide, by decide⟩ (by omega) (by decide) ?_
                  refine r_iconst (z := 1) dX11_restOf_133 ?_
                  refine r_icmp_ne 152 dX11_restOf_134 (by decide) ⟨by omega, by omega⟩ ⟨by decide, by decide⟩ (fun c_134 => ?_) (fun c_134 => ?_)
                  · refine r_aload_n dX11_restOf_152 rfl rfl ?_
                    refine r_aload_n dX11_restOf_153 rfl rfl ?_
                    refine gf_X11_36 dX11_restOf_154 (by omega) ((hs_n (by omega)).trans ((hs_n (by omega)).trans ((hs_n (by omega)).trans hm0))) rfl ?_
                    refine r_aload_n dX11_restOf_157 rfl rfl ?_
                    refine gf_X11_36 dX11_restOf_158 (by omega) ((hs_n (by omega)).trans ((hs_n (by omega)).trans ((hs_n (by omega)).trans hm0))) rfl ?_
                    refine r_iload_n dX11_restOf_161 rfl rfl ?_
                    refine r_iload_n dX11_restOf_162 rfl rfl ?_
                    refine r_i2l dX11_restOf_163 ⟨by omega, by omega⟩ ?_
                    refine r_callV (av := [.ref (132), .ref (132), .int (iZ (ri)), .long (lZ (m))]) dX11_restOf_164 lkX11_times ml_X11_160 imX11_times seX11_times (by omega) (rfl : vwCl[11]? = _) ⟨_, ((hs_n (by omega)).trans ((hs_n (by omega)).trans ((hs_n (by omega)).trans hm0)))⟩ ⟨Nat.le_of_ble_eq_true rfl, Nat.le_of_ble_eq_true rfl⟩ rfl rfl (nle rfl) ⟨Nat.le_of_ble_eq_true rfl, Nat.le_of_ble_eq_true rfl⟩ (c_X11_timesS (r := r) (k := k) (c := c) (s := s) (om := om) (ml := ml) (ms := ms) (P := st1) (n1 := d) (Y := st1) (n2 := 0) (bo := bo1) (a := a) (m := m) (ln := ln) (pr := pr) (nm := nm) (at_ := at_) (wr := wr) (va := va) (em := em) (ta := ta) (ro := ro) (dg := dg) ((hs_n (by omega)).trans ((hs_n (by omega)).trans ((hs_n (by omega)).trans hm0))) hN ((hs_n (by omega)).trans ((hs_n (by omega)).trans ((hs_n (by omega)).trans hom))) ((hs_n (by omega)).trans ((hs_n (by omega)).trans ((hs_n (by omega)).trans hml))) ((hs_n (by omega)).trans ((hs_n (by omega)).trans ((hs_n (by omega)).trans hms))) hg (by omega) (by omega) ((hs_n (by omega)).trans hs_e) hs_e hm2 hm hsb9 hrec hsr (fun P164v3 bo164v3 hP164v3 hR164v3 => ?_))
                    refine g_heap (h2 := (hs (hs (hs h (131) (aL 6 (pw1))) (132) (aL 6 (P164v3))) (133) (aL 12 (bo164v3)))) ((congrArg (fun x9 => hs x9 (132) (aL 6 (P164v3))) hs_hs).trans (hs_put (by omega) hs_hs)) ?_
                    show G _ _ _ _ _ _ _ 167 _ _ _
                    refine r_iload dX11_restOf_167 rfl ?_
                    refine r_iconst (z := 2) dX11_restOf_169 ?_
                    refine r_idivp dX11_restOf_170 ⟨by omega, by omega⟩ ⟨by decide, by decide⟩ (by omega) (by decide) ?_
                    refine r_istore (L2 := [_, _, _, _, _, _, none, none]) dX11_restOf_171 (nlt rfl) rfl ?_
                    refine r_goto 124 dX11_restOf_173 (by decide) ?_
                    exact ih124 (pw1) (P164v3) (bo164v3) (lf / 2) ((ln_ / 2)) (e) ((d + d)) (by omega) (by omega) (by omega) (by rw [← hed]; have e9 : ln_ = 2 * (ln_ / 2) := (by omega); have e8 : ln_ * d = (2 * (ln_ / 2)) * d := (by rw [← e9]); rw [e8, Nat.mul_comm 2, Nat.mul_assoc, Nat.two_mul]) hpb hP164v3 hpr hR164v3
                  · refine r_aload_n dX11_restOf_137 rfl rfl ?_
                    refine r_aload_n dX11_restOf_138 rfl rfl ?_
                    refine gf_X11_33 dX11_restOf_139 (by omega) ((hs_n (by omega)).trans ((hs_n (by omega)).trans ((hs_n (by omega)).trans hm0))) rfl ?_
                    refine r_aload_n dX11_restOf_142 rfl rfl ?_
                    refine gf_X11_36 dX11_restOf_143 (by omega) ((hs_n (by omega)).trans ((hs_n (by omega)).trans ((hs_n (by omega)).trans hm0))) rfl ?_
                    refine r_iload_n dX11_restOf_146 rfl rfl ?_
                    refine r_iload_n dX11_restOf_147 rfl rfl ?_
                    refine r_i2l dX11_restOf_148 ⟨by omega, by omega⟩ ?_
                    refine r_callV (av := [.ref (131), .ref (132), .int (iZ (ri)), .long (lZ (m))]) dX11_restOf_149 lkX11_times ml_X11_160 imX11_times seX11_times (by omega) (rfl : vwCl[11]? = _) ⟨_, ((hs_n (by omega)).trans ((hs_n (by omega)).trans ((hs_n (by omega)).trans hm0)))⟩ ⟨Nat.le_of_ble_eq_true rfl, Nat.le_of_ble_eq_true rfl⟩ rfl rfl (nle rfl) ⟨Nat.le_of_ble_eq_true rfl, Nat.le_of_ble_eq_true rfl⟩ (c_X11_timesP (r := r) (k := k) (c := c) (s := s) (om := om) (ml := ml) (ms := ms) (P := pw1) (n1 := e) (Y := st1) (n2 := d) (bo := bo1) (a := a) (m := m) (ln := ln) (pr := pr) (nm := nm) (at_ := at_) (wr := wr) (va := va) (em := em) (ta := ta) (ro := ro) (dg := dg) ((hs_n (by omega)).trans ((hs_n (by omega)).trans ((hs_n (by omega)).trans hm0))) hN ((hs_n (by omega)).trans ((hs_n (by omega)).trans ((hs_n (by omega)).trans hom))) ((hs_n (by omega)).trans ((hs_n (by omega)).trans ((hs_n (by omega)).trans hml))) ((hs_n (by omega)).trans ((hs_n (by omega)).trans ((hs_n (by omega)).trans hms))) hg (by omega) (by omega) ((hs_n (by omega)).trans ((hs_n (by omega)).trans hs_e)) ((hs_n (by omega)).trans hs_e) hs_e hm2 hm hpb hsb9 hrec hpr hsr (fun P149v2 bo149v2 hP149v2 hR149v2 => ?_))
                    refine g_heap (h2 := (hs (hs (hs h (131) (aL 6 (P149v2))) (132) (aL 6 (st1))) (133) (aL 12 (bo149v2)))) ((congrArg (fun x9 => hs x9 (131) (aL 6 (P149v2))) hs_hs).trans (hs_put (by omega) (hs_put (by omega) hs_hs))) ?_
                    show G _ _ _ _ _ _ _ 152 _ _ _
                    refine r_aload_n dX11_restOf_152 rfl rfl ?_
                    refine r_aload_n dX11_restOf_153 rfl rfl ?_
                    refine gf_X11_36 dX11_restOf_154 (by omega) ((hs_n (by omega)).trans ((hs_n (by omega)).trans ((hs_n (by omega)).trans hm0))) rfl ?_
                    refine r_aload_n dX11_restOf_157 rfl rfl ?_
                    refine gf_X11_36 dX11_restOf_158 (by omega) ((hs_n (by omega)).trans ((hs_n (by omega)).trans ((hs_n (by omega)).trans hm0))) rfl ?_
                    refine r_iload_n dX11_restOf_161 rfl rfl ?_
                    refine r_iload_n dX11_restOf_162 rfl rfl ?_
                    refine r_i2l dX11_restOf_163 ⟨by omega, by omega⟩ ?_
                    refine r_callV (av := [.ref (132), .ref (132), .int (iZ (ri)), .long (lZ (m))]) dX11_restOf_164 lkX11_times ml_X11_160 imX11_times seX11_times (by omega) (rfl : vwCl[11]? = _) ⟨_, ((hs_n (by omega)).trans ((hs_n (by omega)).trans ((hs_n (by omega)).trans hm0)))⟩ ⟨Nat.le_of_ble_eq_true rfl, Nat.le_of_ble_eq_true rfl⟩ rfl rfl (nle rfl) ⟨Nat.le_of_ble_eq_true rfl, Nat.le_of_ble_eq_true rfl⟩ (c_X11_timesS (r := r) (k := k) (c := c) (s := s) (om := om) (ml := ml) (ms := ms) (P := st1) (n1 := d) (Y := st1) (n2 := 0) (bo := bo149v2) (a := a) (m := m) (ln := ln) (pr := pr) (nm := nm) (at_ := at_) (wr := wr) (va := va) (em := em) (ta := ta) (ro := ro) (dg := dg) ((hs_n (by omega)).trans ((hs_n (by omega)).trans ((hs_n (by omega)).trans hm0))) hN ((hs_n (by omega)).trans ((hs_n (by omega)).trans ((hs_n (by omega)).trans hom))) ((hs_n (by omega)).trans ((hs_n (by omega)).trans ((hs_n (by omega)).trans hml))) ((hs_n (by omega)).trans ((hs_n (by omega)).trans ((hs_n (by omega)).trans hms))) hg (by omega) (by omega) ((hs_n (by omega)).trans hs_e) hs_e hm2 hm hsb9 hrec hsr (fun P164v4 bo164v4 hP164v4 hR164v4 => ?_))
                    refine g_heap (h2 := (hs (hs (hs h (131) (aL 6 (P149v2))) (132) (aL 6 (P164v4))) (133) (aL 12 (bo164v4)))) ((congrArg (fun x9 => hs x9 (132) (aL 6 (P164v4))) hs_hs).trans (hs_put (by omega) hs_hs)) ?_
                    show G _ _ _ _ _ _ _ 167 _ _ _
                    refine r_iload dX11_restOf_167 rfl ?_
                    refine r_iconst (z := 2) dX11_restOf_169 ?_
                    refine r_idivp dX11_restOf_170 ⟨by omega, by omega⟩ ⟨by decide, by decide⟩ (by omega) (by decide) ?_
                    refine r_istore (L2 := [_, _, _, _, _, _, none, none]) dX11_restOf_171 (nlt rfl) rfl ?_
                    refine r_goto 124 dX11_restOf_173 (by decide) ?_
                    exact ih124 (P149v2) (P164v4) (bo164v4) (lf / 2) ((ln_ / 2)) ((e + d)) ((d + d)) (by omega) (by omega) (by omega) (by rw [← hed]; have e9 : ln_ = 2 * (ln_ / 2) + 1 := (by omega); have e8 : ln_ * d = (2 * (ln_ / 2) + 1) * d := (by rw [← e9]); rw [e8, Nat.add_mul, Nat.mul_comm 2, Nat.mul_assoc, Nat.two_mul]; omega) hP149v2 hP164v4 hR149v2 hR164v4
            refine g_heap (hs_id (c := aL 12 (b0)) ((hs_n (by omega)).trans ((hs_n (by omega)).trans h133))).symm ?_
            exact lp124 ((ni + 1 : Int) + 1).toNat (pw) (uA (stp) (0 : Int).toNat ((ml (6 * ri).toNat) % m)) (b0) (ni) (nn) (0) (1) (by omega) (by omega) (by omega) (by omega) (fun u hu => by rw [hpw u (by omega)]; split <;> omega) (fun u hu => by rw [show u = 0 by omega]; show 0 ≤ uA stp 0 _ 0 ∧ uA stp 0 _ 0 < m; rw [uA_e]; exact em_117) (Rp.zero hg2 (by rw [hpw 0 (by omega), if_pos rfl]) (fun i h1 h2 => by rw [hpw i (by omega), if_neg (by omega)])) (hone1 stp)
        · have ein : i.toNat = j := by omega
          refine r_aload_n dX11_restOf_42 rfl rfl ?_
          refine gf_X11_33 dX11_restOf_43 (by omega) ((hs_n (by omega)).trans ((hs_n (by omega)).trans hm0)) rfl ?_
          refine r_iload dX11_restOf_46 rfl ?_
          refine r_iload dX11_restOf_48 rfl ?_
          refine r_if_ne 60 dX11_restOf_50 (by decide) ⟨by omega, by omega⟩ (fun c_50 => ?_) (fun c_50 => ?_)
          · refine r_lconst (z := 0) dX11_restOf_60 (by decide) ?_
            refine r_lastore dX11_restOf_61 (by omega) ((hs_n (by omega)).trans hs_e) (by omega) (by omega) (by decide) ?_
            refine g_heap (h2 := (hs (hs h (131) (aL 6 (uA (pw) (i).toNat (0)))) (132) (aL 6 (stp)))) (hs_put (by omega) hs_hs) ?_
            refine r_aload_n dX11_restOf_62 rfl rfl ?_
            refine gf_X11_36 dX11_restOf_63 (by omega) ((hs_n (by omega)).trans ((hs_n (by omega)).trans hm0)) rfl ?_
            refine r_iload dX11_restOf_66 rfl ?_
            refine r_iload dX11_restOf_68 rfl ?_
            refine r_iconst (z := 1) dX11_restOf_70 ?_
            refine r_icmp_ne 87 dX11_restOf_71 (by decide) ⟨by omega, by omega⟩ ⟨by decide, by decide⟩ (fun c_71 => ?_) (fun c_71 => ?_)
            · refine r_lconst (z := 0) dX11_restOf_87 (by decide) ?_
              refine r_lastore dX11_restOf_88 (by omega) hs_e (by omega) (by omega) (by decide) ?_
              refine g_heap (h2 := (hs (hs h (131) (aL 6 (uA (pw) (i).toNat (0)))) (132) (aL 6 (uA (stp) (i).toNat (0))))) hs_hs ?_
              refine r_iinc (L2 := [_, _, _, _, _, _, none, none]) dX11_restOf_89 (nlt rfl) rfl rfl ?_
              refine r_goto 35 dX11_restOf_92 (by decide) ?_
              exact ih35 (uA (pw) (i).toNat (0)) (uA (stp) (i).toNat (0)) (i + 1) ((j + 1)) (by omega) (by omega) (by omega) (fun u hu => by rw [ein]; by_cases z : u = j; (rw [z, uA_e, if_neg (by omega)]); rw [uA_n z]; exact hpw u (by omega)) (fun u hu => by rw [ein]; by_cases z : u = j; (rw [z, uA_e, if_neg (by omega)]); rw [uA_n z]; exact hst u (by omega))
            · refine r_iload dX11_restOf_74 rfl ?_
              refine r_iconst (z := 1) dX11_restOf_76 ?_
              refine r_icmp_le 87 dX11_restOf_77 (by decide) ⟨by omega, by omega⟩ ⟨by decide, by decide⟩ (fun c_77 => ?_) (fun c_77 => ?_)
              · refine r_lconst (z := 0) dX11_restOf_87 (by decide) ?_
                refine r_lastore dX11_restOf_88 (by omega) hs_e (by omega) (by omega) (by decide) ?_
                refine g_heap (h2 := (hs (hs h (131) (aL 6 (uA (pw) (i).toNat (0)))) (132) (aL 6 (uA (stp) (i).toNat (0))))) hs_hs ?_
                refine r_iinc (L2 := [_, _, _, _, _, _, none, none]) dX11_restOf_89 (nlt rfl) rfl rfl ?_
                refine r_goto 35 dX11_restOf_92 (by decide) ?_
                exact ih35 (uA (pw) (i).toNat (0)) (uA (stp) (i).toNat (0)) (i + 1) ((j + 1)) (by omega) (by omega) (by omega) (fun u hu => by rw [ein]; by_cases z : u = j; (rw [z, uA_e, if_neg (by omega)]); rw [uA_n z]; exact hpw u (by omega)) (fun u hu => by rw [ein]; by_cases z : u = j; (rw [z, uA_e, if_neg (by omega)]); rw [uA_n z]; exact hst u (by omega))
              · refine r_lconst (z := 1) dX11_restOf_80 (by decide) ?_
                refine r_iload_n dX11_restOf_81 rfl rfl ?_
                refine r_i2l dX11_restOf_82 ⟨by omega, by omega⟩ ?_
                refine r_lremp dX11_restOf_83 ⟨by decide, by decide⟩ ⟨by omega, by omega⟩ (by omega) (by omega) ?_
                have eb_83 := emod_bd (1) (show 0 < m by omega)
                refine r_goto 88 dX11_restOf_84 (by decide) ?_
                refine r_lastore dX11_restOf_88 (by omega) hs_e (by omega) (by omega) (by decide) ?_
                refine g_heap (h2 := (hs (hs h (131) (aL 6 (uA (pw) (i).toNat (0)))) (132) (aL 6 (uA (stp) (i).toNat (1 % m))))) hs_hs ?_
                refine r_iinc (L2 := [_, _, _, _, _, _, none, none]) dX11_restOf_89 (nlt rfl) rfl rfl ?_
                refine r_goto 35 dX11_restOf_92 (by decide) ?_
                exact ih35 (uA (pw) (i).toNat (0)) (uA (stp) (i).toNat (1 % m)) (i + 1) ((j + 1)) (by omega) (by omega) (by omega) (fun u hu => by rw [ein]; by_cases z : u = j; (rw [z, uA_e, if_neg (by omega)]); rw [uA_n z]; exact hpw u (by omega)) (fun u hu => by rw [ein]; by_cases z : u = j; (rw [z, uA_e, e1m, if_pos (by omega)]); rw [uA_n z]; exact hst u (by omega))
          · refine r_lconst (z := 1) dX11_restOf_53 (by decide) ?_
            refine r_iload_n dX11_restOf_54 rfl rfl ?_
            refine r_i2l dX11_restOf_55 ⟨by omega, by omega⟩ ?_
            refine r_lremp dX11_restOf_56 ⟨by decide, by decide⟩ ⟨by omega, by omega⟩ (by omega) (by omega) ?_
            have eb_56 := emod_bd (1) (show 0 < m by omega)
            refine r_goto 61 dX11_restOf_57 (by decide) ?_
            refine r_lastore dX11_restOf_61 (by omega) ((hs_n (by omega)).trans hs_e) (by omega) (by omega) (by decide) ?_
            refine g_heap (h2 := (hs (hs h (131) (aL 6 (uA (pw) (i).toNat (1 % m)))) (132) (aL 6 (stp)))) (hs_put (by omega) hs_hs) ?_
            refine r_aload_n dX11_restOf_62 rfl rfl ?_
            refine gf_X11_36 dX11_restOf_63 (by omega) ((hs_n (by omega)).trans ((hs_n (by omega)).trans hm0)) rfl ?_
            refine r_iload dX11_restOf_66 rfl ?_
            refine r_iload dX11_restOf_68 rfl ?_
            refine r_iconst (z := 1) dX11_restOf_70 ?_
            refine r_icmp_ne 87 dX11_restOf_71 (by decide) ⟨by omega, by omega⟩ ⟨by decide, by decide⟩ (fun c_71 => ?_) (fun c_71 => ?_)
            · refine r_lconst (z := 0) dX11_restOf_87 (by decide) ?_
              refine r_lastore dX11_restOf_88 (by omega) hs_e (by omega) (by omega) (by decide) ?_
              refine g_heap (h2 := (hs (hs h (131) (aL 6 (uA (pw) (i).toNat (1 % m)))) (132) (aL 6 (uA (stp) (i).toNat (0))))) hs_hs ?_
              refine r_iinc (L2 := [_, _, _, _, _, _, none, none]) dX11_restOf_89 (nlt rfl) rfl rfl ?_
              refine r_goto 35 dX11_restOf_92 (by decide) ?_
              exact ih35 (uA (pw) (i).toNat (1 % m)) (uA (stp) (i).toNat (0)) (i + 1) ((j + 1)) (by omega) (by omega) (by omega) (fun u hu => by rw [ein]; by_cases z : u = j; (rw [z, uA_e, e1m, if_pos (by omega)]); rw [uA_n z]; exact hpw u (by omega)) (fun u hu => by rw [ein]; by_cases z : u = j; (rw [z, uA_e, if_neg (by omega)]); rw [uA_n z]; exact hst u (by omega))
            · refine r_iload dX11_restOf_74 rfl ?_
              refine r_iconst (z := 1) dX11_restOf_76 ?_
              refine r_icmp_le 87 dX11_restOf_77 (by decide) ⟨by omega, by omega⟩ ⟨by decide, by decide⟩ (fun c_77 => ?_) (fun c_77 => ?_)
              · refine r_lconst (z := 0) dX11_restOf_87 (by decide) ?_
                refine r_lastore dX11_restOf_88 (by omega) hs_e (by omega) (by omega) (by decide) ?_
                refine g_heap (h2 := (hs (hs h (131) (aL 6 (uA (pw) (i).toNat (1 % m)))) (132) (aL 6 (uA (stp) (i).toNat (0))))) hs_hs ?_
                refine r_iinc (L2 := [_, _, _, _, _, _, none, none]) dX11_restOf_89 (nlt rfl) rfl rfl ?_
                refine r_goto 35 dX11_restOf_92 (by decide) ?_
                exact ih35 (uA (pw) (i).toNat (1 % m)) (uA (stp) (i).toNat (0)) (i + 1) ((j + 1)) (by omega) (by omega) (by omega) (fun u hu => by rw [ein]; by_cases z : u = j; (rw [z, uA_e, e1m, if_pos (by omega)]); rw [uA_n z]; exact hpw u (by omega)) (fun u hu => by rw [ein]; by_cases z : u = j; (rw [z, uA_e, if_neg (by omega)]); rw [uA_n z]; exact hst u (by omega))
              · refine r_lconst (z := 1) dX11_restOf_80 (by decide) ?_
                refine r_iload_n dX11_restOf_81 rfl rfl ?_
                refine r_i2l dX11_restOf_82 ⟨by omega, by omega⟩ ?_
                refine r_lremp dX11_restOf_83 ⟨by decide, by decide⟩ ⟨by omega, by omega⟩ (by omega) (by omega) ?_
                have eb_83 := emod_bd (1) (show 0 < m by omega)
                refine r_goto 88 dX11_restOf_84 (by decide) ?_
                refine r_lastore dX11_restOf_88 (by omega) hs_e (by omega) (by omega) (by decide) ?_
                refine g_heap (h2 := (hs (hs h (131) (aL 6 (uA (pw) (i).toNat (1 % m)))) (132) (aL 6 (uA (stp) (i).toNat (1 % m))))) hs_hs ?_
                refine r_iinc (L2 := [_, _, _, _, _, _, none, none]) dX11_restOf_89 (nlt rfl) rfl rfl ?_
                refine r_goto 35 dX11_restOf_92 (by decide) ?_
                exact ih35 (uA (pw) (i).toNat (1 % m)) (uA (stp) (i).toNat (1 % m)) (i + 1) ((j + 1)) (by omega) (by omega) (by omega) (fun u hu => by rw [ein]; by_cases z : u = j; (rw [z, uA_e, e1m, if_pos (by omega)]); rw [uA_n z]; exact hpw u (by omega)) (fun u hu => by rw [ein]; by_cases z : u = j; (rw [z, uA_e, e1m, if_pos (by omega)]); rw [uA_n z]; exact hst u (by omega))
    refine g_heap (hs_id (c := aL 6 (p0)) h131).symm ?_
    refine g_heap (hs_id (c := aL 6 (t0)) ((hs_n (by omega)).trans h132)).symm ?_
    exact lp35 ((7 : Int) + 1).toNat (p0) (t0) (0) (0) (by omega) rfl (by decide) (fun u hu => absurd hu (Nat.not_lt_zero u)) (fun u hu => absurd hu (Nat.not_lt_zero u))
  · have e24 : ms ((6 * ri) + ni).toNat = s nn := by rw [show ((6 * ri) + ni).toNat = 6 * r + nn by omega]; exact (hg5 nn (by omega)).1
    have sb := (hg5 nn (by omega)).2
    rw [← e24] at sb
    refine r_aload_n dX11_restOf_14 rfl rfl ?_
    refine gf_X11_17 dX11_restOf_15 (by omega) hm0 rfl ?_
    refine r_bipush (z := 6) dX11_restOf_18 (by decide) ?_
    refine r_iload_n dX11_restOf_20 rfl rfl ?_
    refine r_imul dX11_restOf_21 ?_
    refine r_iload_n dX11_restOf_22 rfl rfl ?_
    refine r_iadd dX11_restOf_23 ?_
    refine r_laload dX11_restOf_24 (by omega) hms (by omega) (by omega) (by decide) ?_
    refine r_iload_n dX11_restOf_25 rfl rfl ?_
    refine r_i2l dX11_restOf_26 ⟨by omega, by omega⟩ ?_
    refine r_callS (av := [.long (lZ (ms ((6 * ri) + ni).toNat)), .long (lZ (m))]) dX11_restOf_27 lkX11_modulo ml_X11_156 stX11_modulo ⟨Nat.le_of_ble_eq_true rfl, Nat.le_of_ble_eq_true rfl⟩ rfl rfl (nle rfl) ⟨Nat.le_of_ble_eq_true rfl, Nat.le_of_ble_eq_true rfl⟩ (c_X11_modulo (x := ms ((6 * ri) + ni).toNat) (m := m) (by omega) (by omega) ?_)
    have em_27 := emod_bd (ms ((6 * ri) + ni).toNat) (show 0 < m by omega)
    show G _ _ _ _ _ _ _ 30 _ _ _
    refine r_l2i dX11_restOf_30 ?_
    refine r_ireturn hq dX11_restOf_31 rfl rfl rfl ?_
    have hfin := hQ p0 t0 b0
    rw [hs_id h131, hs_id h132, hs_id h133] at hfin
    rw [show ms ((6 * ri) + ni).toNat % m = rs k c s m nn by unfold rs; rw [ex_lt (by omega), e24]]
    exact hfin
set_option maxHeartbeats 2000000 in
set_option maxRecDepth 20000 in
theorem c_X11_rest {N : Nat} {h : Hp} {Q : QP} {tb : Nat → Int} {ln : Nat} {K : Nat → Nat} {C S : Nat → Nat → Int} {p : Int} {vs : Nat → Int} {sz : Nat} {i n m : Int} (hI : MDI h tb ln K C S p vs sz) (hN : 146 ≤ N) (hi : rI i) (hn : rI n) (hm : rI m) (hQ : ∀ (r : Int) (h2 : Hp), SPrest i n m K C S r → MDI h2 tb ln K C S p vs sz → OUTM h h2 → Q (some (.int (iZ r))) N h2) : Runs mX11_rest [.ref (124), .int (iZ (i)), .int (iZ (n)), .int (iZ (m))] N h Q := by
  obtain ⟨at_, wr, va, em, ta, ro, dg, om, ml, ms, a130, a131, a132, a133, a134, a135, a136, a137, a138, a139, a140, a141, a142, a143, a144, a145, hm0, hom, hml, hms, hbt, hnv, h130, h131, h132, h133, h134, h135, h136, h137, h138, h139, h140, h141, h142, h143, h144, h145, hMR, hlN, hbb, hPr, hs40, hvb⟩ := id hI
  have hl0 : 0 ≤ (ln : Int) := by omega
  have hl : (ln : Int) ≤ 100 := by omega
  have hn1 := hn.1
  have hn2 := hn.2
  have hm1 := hm.1
  have hm2 := hm.2
  refine run_start (own := RX11) rfl (by decide) (nle rfl) rfl (fun X hq hini => ?_)
  show G X RX11 cX11_rest mX11_rest.rm N 0 0 0 [some (.ref (124)), some (.int (iZ (i))), some (.int (iZ (n))), some (.int (iZ (m)))] [] h
  refine r_iload_n dX11_rest_0 rfl rfl ?_
  refine r_callS (av := [.int (iZ (i))]) dX11_rest_1 lkX11_isReg ml_X11_127 stX11_isReg ⟨Nat.le_of_ble_eq_true rfl, Nat.le_of_ble_eq_true rfl⟩ rfl rfl (nle rfl) ⟨Nat.le_of_ble_eq_true rfl, Nat.le_of_ble_eq_true rfl⟩ (c_X11_isReg (x := i) hi (fun b1 hb1 => ?_))
  show G _ _ _ _ _ _ _ 4 _ _ _
  refine r_if_eq 43 dX11_rest_4 (by decide) (by rcases hb1 with ⟨y, _⟩ | ⟨y, _⟩ <;> exact ⟨by omega, by omega⟩) (fun c_4 => ?_) (fun c_4 => ?_)
  · refine r_iconst (z := -1) dX11_rest_43 ?_
    refine r_ireturn hq dX11_rest_44 rfl rfl rfl ?_
    exact hQ _ h (Or.inl ⟨by omega, rfl⟩) hI (fun _ _ => rfl)
  · refine r_iload_n dX11_rest_7 rfl rfl ?_
    refine r_i2l dX11_rest_8 ⟨by omega, by omega⟩ ?_
    refine r_lconst (z := 0) dX11_rest_9 (by decide) ?_
    refine r_ldc2 (z := 1000000000) dX11_rest_10 kc_X11_140 ?_
    refine r_callS (av := [.long (lZ (n)), .long (lZ (0)), .long (lZ (1000000000))]) dX11_rest_13 lkX11_in ml_X11_80 stX11_in ⟨Nat.le_of_ble_eq_true rfl, Nat.le_of_ble_eq_true rfl⟩ rfl rfl (nle rfl) ⟨Nat.le_of_ble_eq_true rfl, Nat.le_of_ble_eq_true rfl⟩ (c_X11_in (x := n) (l := 0) (m := 1000000000) ⟨by omega, by omega⟩ ⟨by decide, by decide⟩ ⟨by decide, by decide⟩ (fun b13 hb13 => ?_))
    show G _ _ _ _ _ _ _ 16 _ _ _
    refine r_if_eq 43 dX11_rest_16 (by decide) (by rcases hb13 with ⟨y, _⟩ | ⟨y, _⟩ <;> exact ⟨by omega, by omega⟩) (fun c_16 => ?_) (fun c_16 => ?_)
    · refine r_iconst (z := -1) dX11_rest_43 ?_
      refine r_ireturn hq dX11_rest_44 rfl rfl rfl ?_
      exact hQ _ h (Or.inl ⟨by omega, rfl⟩) hI (fun _ _ => rfl)
    · refine r_iload_n dX11_rest_19 rfl rfl ?_
      refine r_i2l dX11_rest_20 ⟨by omega, by omega⟩ ?_
      refine r_ldc2 (z := 2) dX11_rest_21 kc_X11_134 ?_
      refine r_ldc2 (z := 1000000) dX11_rest_24 kc_X11_121 ?_
      refine r_callS (av := [.long (lZ (m)), .long (lZ (2)), .long (lZ (1000000))]) dX11_rest_27 lkX11_in ml_X11_80 stX11_in ⟨Nat.le_of_ble_eq_true rfl, Nat.le_of_ble_eq_true rfl⟩ rfl rfl (nle rfl) ⟨Nat.le_of_ble_eq_true rfl, Nat.le_of_ble_eq_true rfl⟩ (c_X11_in (x := m) (l := 2) (m := 1000000) ⟨by omega, by omega⟩ ⟨by decide, by decide⟩ ⟨by decide, by decide⟩ (fun b27 hb27 => ?_))
      show G _ _ _ _ _ _ _ 30 _ _ _
      refine r_if_eq 43 dX11_rest_30 (by decide) (by rcases hb27 with ⟨y, _⟩ | ⟨y, _⟩ <;> exact ⟨by omega, by omega⟩) (fun c_30 => ?_) (fun c_30 => ?_)
      · refine r_iconst (z := -1) dX11_rest_43 ?_
        refine r_ireturn hq dX11_rest_44 rfl rfl rfl ?_
        exact hQ _ h (Or.inl ⟨by omega, rfl⟩) hI (fun _ _ => rfl)
      · refine r_aload_n dX11_rest_33 rfl rfl ?_
        refine r_iload_n dX11_rest_34 rfl rfl ?_
        refine r_iload_n dX11_rest_35 rfl rfl ?_
        refine r_iload_n dX11_rest_36 rfl rfl ?_
        refine r_callV (av := [.int (iZ (i)), .int (iZ (n)), .int (iZ (m))]) dX11_rest_37 lkX11_restOf ml_X11_164 imX11_restOf seX11_restOf (by omega) (rfl : vwCl[11]? = _) ⟨_, hm0⟩ ⟨Nat.le_of_ble_eq_true rfl, Nat.le_of_ble_eq_true rfl⟩ rfl rfl (nle rfl) ⟨Nat.le_of_ble_eq_true rfl, Nat.le_of_ble_eq_true rfl⟩ (c_X11_restOf (r := i.toNat) (k := (K i.toNat)) (c := (C i.toNat)) (s := (S i.toNat)) (nn := n.toNat) (om := om) (ml := ml) (ms := ms) (p0 := a131) (t0 := a132) (b0 := a133) (m := m) (ln := (ln : Int)) (pr := p) (nm := (sz : Int)) (at_ := at_) (wr := wr) (va := va) (em := em) (ta := ta) (ro := ro) (dg := dg) hm0 hN hom hml hms (hMR i.toNat (by omega)).1 (by omega) (by omega) h131 h132 h133 (by omega) (by omega) (by omega) (by omega) (fun p37 t37 b37 => ?_))
        show G _ _ _ _ _ _ _ 40 _ _ _
        refine r_goto 44 dX11_rest_40 (by decide) ?_
        refine r_ireturn hq dX11_rest_44 rfl rfl rfl ?_
        refine hQ _ _ (Or.inr ⟨by omega, by omega, by omega, by omega, by omega, by omega, rfl⟩) ⟨_, _, _, _, _, _, _, _, _, _, _, _, _, _, _, _, _, _, _, _, _, _, _, _, _, _, ((hs_n (by omega)).trans ((hs_n (by omega)).trans ((hs_n (by omega)).trans hm0))), ((hs_n (by omega)).trans ((hs_n (by omega)).trans ((hs_n (by omega)).trans hom))), ((hs_n (by omega)).trans ((hs_n (by omega)).trans ((hs_n (by omega)).trans hml))), ((hs_n (by omega)).trans ((hs_n (by omega)).trans ((hs_n (by omega)).trans hms))), ((hs_n (by omega)).trans ((hs_n (by omega)).trans ((hs_n (by omega)).trans hbt))), ((hs_n (by omega)).trans ((hs_n (by omega)).trans ((hs_n (by omega)).trans hnv))), ((hs_n (by omega)).trans ((hs_n (by omega)).trans ((hs_n (by omega)).trans h130))), ((hs_n (by omega)).trans ((hs_n (by omega)).trans hs_e)), ((hs_n (by omega)).trans hs_e), hs_e, ((hs_n (by omega)).trans ((hs_n (by omega)).trans ((hs_n (by omega)).trans h134))), ((hs_n (by omega)).trans ((hs_n (by omega)).trans ((hs_n (by omega)).trans h135))), ((hs_n (by omega)).trans ((hs_n (by omega)).trans ((hs_n (by omega)).trans h136))), ((hs_n (by omega)).trans ((hs_n (by omega)).trans ((hs_n (by omega)).trans h137))), ((hs_n (by omega)).trans ((hs_n (by omega)).trans ((hs_n (by omega)).trans h138))), ((hs_n (by omega)).trans ((hs_n (by omega)).trans ((hs_n (by omega)).trans h139))), ((hs_n (by omega)).trans ((hs_n (by omega)).trans ((hs_n (by omega)).trans h140))), ((hs_n (by omega)).trans ((hs_n (by omega)).trans ((hs_n (by omega)).trans h141))), ((hs_n (by omega)).trans ((hs_n (by omega)).trans ((hs_n (by omega)).trans h142))), ((hs_n (by omega)).trans ((hs_n (by omega)).trans ((hs_n (by omega)).trans h143))), ((hs_n (by omega)).trans ((hs_n (by omega)).trans ((hs_n (by omega)).trans h144))), ((hs_n (by omega)).trans ((hs_n (by omega)).trans ((hs_n (by omega)).trans h145))), hMR, hlN, hbb, hPr, hs40, hvb⟩ (fun a9 h9 => ((hs_n (by omega)).trans ((hs_n (by omega)).trans ((hs_n (by omega)).trans rfl))))
set_option maxHeartbeats 2000000 in
set_option maxRecDepth 20000 in
theorem c_X11_breaks {N : Nat} {h : Hp} {Q : QP} {tb : Nat → Int} {ln : Nat} {K : Nat → Nat} {C S : Nat → Nat → Int} {p : Int} {vs : Nat → Int} {sz : Nat} {i : Int} (hI : MDI h tb ln K C S p vs sz) (hN : 146 ≤ N) (hi : rI i) (hQ : ∀ (r : Int) (h2 : Hp), SPbreaks i K C S p vs sz r → MDI h2 tb ln K C S p vs sz → OUTM h h2 → Q (some (.int (iZ r))) N h2) : Runs mX11_breaks [.ref (124), .int (iZ (i))] N h Q := by
  obtain ⟨at_, wr, va, em, ta, ro, dg, om, ml, ms, a130, a131, a132, a133, a134, a135, a136, a137, a138, a139, a140, a141, a142, a143, a144, a145, hm0, hom, hml, hms, hbt, hnv, h130, h131, h132, h133, h134, h135, h136, h137, h138, h139, h140, h141, h142, h143, h144, h145, hMR, hlN, hbb, hPr, hs40, hvb⟩ := id hI
  have hl0 : 0 ≤ (ln : Int) := by omega
  have hl : (ln : Int) ≤ 100 := by omega
  have np1 := hPr.1
  have np2 := hPr.2.1
  have hrb := fun n => rs_in (k := K i.toNat) (c := C i.toNat) (s := S i.toNat) (m := p) (by omega) n
  refine run_start (own := RX11) rfl (by decide) (nle rfl) rfl (fun X hq hini => ?_)
  show G X RX11 cX11_breaks mX11_breaks.rm N 0 0 0 [some (.ref (124)), some (.int (iZ (i))), none] [] h
  refine r_iload_n dX11_breaks_0 rfl rfl ?_
  refine r_callS (av := [.int (iZ (i))]) dX11_breaks_1 lkX11_isReg ml_X11_127 stX11_isReg ⟨Nat.le_of_ble_eq_true rfl, Nat.le_of_ble_eq_true rfl⟩ rfl rfl (nle rfl) ⟨Nat.le_of_ble_eq_true rfl, Nat.le_of_ble_eq_true rfl⟩ (c_X11_isReg (x := i) hi (fun b1 hb1 => ?_))
  show G _ _ _ _ _ _ _ 4 _ _ _
  refine r_if_ne 9 dX11_breaks_4 (by decide) (by rcases hb1 with ⟨y, _⟩ | ⟨y, _⟩ <;> exact ⟨by omega, by omega⟩) (fun c_4 => ?_) (fun c_4 => ?_)
  · refine r_iconst (z := 0) dX11_breaks_9 ?_
    refine r_istore_n (L2 := [_, _, _]) dX11_breaks_10 rfl (nlt rfl) rfl ?_
    have lp11 : ∀ (fu11 : Nat) (p1 : Nat → Int) (t1 : Nat → Int) (b1 : Nat → Int) (n : Int) (j : Nat), (41 - n) < (fu11 : Int) → (n = (j : Int)) → (j ≤ sz) → (∀ t, t < j → rs (K i.toNat) (C i.toNat) (S i.toNat) p t = vs t) → G X RX11 cX11_breaks mX11_breaks.rm N 0 0 11 [some (.ref (124)), some (.int (iZ (i))), some (.int (iZ (n)))] [] (hs (hs (hs h (131) (aL 6 (p1))) (132) (aL 6 (t1))) (133) (aL 12 (b1))) := by
      intro fu11
      induction fu11 with
      | zero => intro p1 t1 b1 n j hm en jl hal; exfalso; omega
      | succ fu11 ih11 =>
        intro p1 t1 b1 n j hms11 en jl hal
        refine r_iload_n dX11_breaks_11 rfl rfl ?_
        refine r_aload_n dX11_breaks_12 rfl rfl ?_
        refine gf_X11_221 dX11_breaks_13 (by omega) ((hs_n (by omega)).trans ((hs_n (by omega)).trans ((hs_n (by omega)).trans hm0))) rfl ?_
        refine r_icmp_ge 46 dX11_breaks_16 (by decide) ⟨by omega, by omega⟩ ⟨by omega, by omega⟩ (fun c_16 => ?_) (fun c_16 => ?_)
        · refine r_bipush (z := -4) dX11_breaks_46 (by decide) ?_
          refine r_ireturn hq dX11_breaks_48 rfl rfl rfl ?_
          refine hQ _ _ (Or.inr ⟨by omega, by omega, Or.inr ⟨fun t ht => hal t (by omega), rfl⟩⟩) ⟨_, _, _, _, _, _, _, _, _, _, _, _, _, _, _, _, _, _, _, _, _, _, _, _, _, _, ((hs_n (by omega)).trans ((hs_n (by omega)).trans ((hs_n (by omega)).trans hm0))), ((hs_n (by omega)).trans ((hs_n (by omega)).trans ((hs_n (by omega)).trans hom))), ((hs_n (by omega)).trans ((hs_n (by omega)).trans ((hs_n (by omega)).trans hml))), ((hs_n (by omega)).trans ((hs_n (by omega)).trans ((hs_n (by omega)).trans hms))), ((hs_n (by omega)).trans ((hs_n (by omega)).trans ((hs_n (by omega)).trans hbt))), ((hs_n (by omega)).trans ((hs_n (by omega)).trans ((hs_n (by omega)).trans hnv))), ((hs_n (by omega)).trans ((hs_n (by omega)).trans ((hs_n (by omega)).trans h130))), ((hs_n (by omega)).trans ((hs_n (by omega)).trans hs_e)), ((hs_n (by omega)).trans hs_e), hs_e, ((hs_n (by omega)).trans ((hs_n (by omega)).trans ((hs_n (by omega)).trans h134))), ((hs_n (by omega)).trans ((hs_n (by omega)).trans ((hs_n (by omega)).trans h135))), ((hs_n (by omega)).trans ((hs_n (by omega)).trans ((hs_n (by omega)).trans h136))), ((hs_n (by omega)).trans ((hs_n (by omega)).trans ((hs_n (by omega)).trans h137))), ((hs_n (by omega)).trans ((hs_n (by omega)).trans ((hs_n (by omega)).trans h138))), ((hs_n (by omega)).trans ((hs_n (by omega)).trans ((hs_n (by omega)).trans h139))), ((hs_n (by omega)).trans ((hs_n (by omega)).trans ((hs_n (by omega)).trans h140))), ((hs_n (by omega)).trans ((hs_n (by omega)).trans ((hs_n (by omega)).trans h141))), ((hs_n (by omega)).trans ((hs_n (by omega)).trans ((hs_n (by omega)).trans h142))), ((hs_n (by omega)).trans ((hs_n (by omega)).trans ((hs_n (by omega)).trans h143))), ((hs_n (by omega)).trans ((hs_n (by omega)).trans ((hs_n (by omega)).trans h144))), ((hs_n (by omega)).trans ((hs_n (by omega)).trans ((hs_n (by omega)).trans h145))), hMR, hlN, hbb, hPr, hs40, hvb⟩ (fun a9 h9 => ((hs_n (by omega)).trans ((hs_n (by omega)).trans ((hs_n (by omega)).trans rfl))))
        · have ejn : vs n.toNat = vs j := by congr 1; omega
          have vb := hvb j (by omega)
          rw [← ejn] at vb
          have rb := hrb j
          refine r_aload_n dX11_breaks_19 rfl rfl ?_
          refine r_iload_n dX11_breaks_20 rfl rfl ?_
          refine r_iload_n dX11_breaks_21 rfl rfl ?_
          refine r_aload_n dX11_breaks_22 rfl rfl ?_
          refine gf_X11_23 dX11_breaks_23 (by omega) ((hs_n (by omega)).trans ((hs_n (by omega)).trans ((hs_n (by omega)).trans hm0))) rfl ?_
          refine r_callV (av := [.int (iZ (i)), .int (iZ (n)), .int (iZ (p))]) dX11_breaks_26 lkX11_restOf ml_X11_164 imX11_restOf seX11_restOf (by omega) (rfl : vwCl[11]? = _) ⟨_, ((hs_n (by omega)).trans ((hs_n (by omega)).trans ((hs_n (by omega)).trans hm0)))⟩ ⟨Nat.le_of_ble_eq_true rfl, Nat.le_of_ble_eq_true rfl⟩ rfl rfl (nle rfl) ⟨Nat.le_of_ble_eq_true rfl, Nat.le_of_ble_eq_true rfl⟩ (c_X11_restOf (r := i.toNat) (k := (K i.toNat)) (c := (C i.toNat)) (s := (S i.toNat)) (nn := j) (om := om) (ml := ml) (ms := ms) (p0 := p1) (t0 := t1) (b0 := b1) (m := p) (ln := (ln : Int)) (pr := p) (nm := (sz : Int)) (at_ := at_) (wr := wr) (va := va) (em := em) (ta := ta) (ro := ro) (dg := dg) ((hs_n (by omega)).trans ((hs_n (by omega)).trans ((hs_n (by omega)).trans hm0))) hN ((hs_n (by omega)).trans ((hs_n (by omega)).trans ((hs_n (by omega)).trans hom))) ((hs_n (by omega)).trans ((hs_n (by omega)).trans ((hs_n (by omega)).trans hml))) ((hs_n (by omega)).trans ((hs_n (by omega)).trans ((hs_n (by omega)).trans hms))) (hMR i.toNat (by omega)).1 (by omega) (by omega) ((hs_n (by omega)).trans ((hs_n (by omega)).trans hs_e)) ((hs_n (by omega)).trans hs_e) hs_e (by omega) (by omega) (by omega) (by omega) (fun p26 t26 b26 => ?_))
          refine g_heap (h2 := (hs (hs (hs h (131) (aL 6 (p26))) (132) (aL 6 (t26))) (133) (aL 12 (b26)))) ((congrArg (fun x9 => hs x9 (133) (aL 12 (b26))) ((congrArg (fun x9 => hs x9 (132) (aL 6 (t26))) (hs_put (by omega) (hs_put (by omega) hs_hs))).trans (hs_put (by omega) hs_hs))).trans hs_hs) ?_
          show G _ _ _ _ _ _ _ 29 _ _ _
          refine r_aload_n dX11_breaks_29 rfl rfl ?_
          refine gf_X11_27 dX11_breaks_30 (by omega) ((hs_n (by omega)).trans ((hs_n (by omega)).trans ((hs_n (by omega)).trans hm0))) rfl ?_
          refine r_iload_n dX11_breaks_33 rfl rfl ?_
          refine r_iaload dX11_breaks_34 (by omega) ((hs_n (by omega)).trans ((hs_n (by omega)).trans ((hs_n (by omega)).trans hnv))) (by omega) (by omega) (by decide) ?_
          refine r_icmp_eq 40 dX11_breaks_35 (by decide) ⟨by omega, by omega⟩ ⟨by omega, by omega⟩ (fun c_35 => ?_) (fun c_35 => ?_)
          · refine r_iinc (L2 := [_, _, _]) dX11_breaks_40 (nlt rfl) rfl rfl ?_
            refine r_goto 11 dX11_breaks_43 (by decide) ?_
            exact ih11 (p26) (t26) (b26) (n + 1) ((j + 1)) (by omega) (by omega) (by omega) (fun t ht => by by_cases z : t = j; (rw [z, ← ejn]; exact c_35); exact hal t (by omega))
          · refine r_iload_n dX11_breaks_38 rfl rfl ?_
            refine r_ireturn hq dX11_breaks_39 rfl rfl rfl ?_
            refine hQ _ _ (Or.inr ⟨by omega, by omega, Or.inl ⟨j, by omega, by rw [← ejn]; exact c_35, hal, by omega⟩⟩) ⟨_, _, _, _, _, _, _, _, _, _, _, _, _, _, _, _, _, _, _, _, _, _, _, _, _, _, ((hs_n (by omega)).trans ((hs_n (by omega)).trans ((hs_n (by omega)).trans hm0))), ((hs_n (by omega)).trans ((hs_n (by omega)).trans ((hs_n (by omega)).trans hom))), ((hs_n (by omega)).trans ((hs_n (by omega)).trans ((hs_n (by omega)).trans hml))), ((hs_n (by omega)).trans ((hs_n (by omega)).trans ((hs_n (by omega)).trans hms))), ((hs_n (by omega)).trans ((hs_n (by omega)).trans ((hs_n (by omega)).trans hbt))), ((hs_n (by omega)).trans ((hs_n (by omega)).trans ((hs_n (by omega)).trans hnv))), ((hs_n (by omega)).trans ((hs_n (by omega)).trans ((hs_n (by omega)).trans h130))), ((hs_n (by omega)).trans ((hs_n (by omega)).trans hs_e)), ((hs_n (by omega)).trans hs_e), hs_e, ((hs_n (by omega)).trans ((hs_n (by omega)).trans ((hs_n (by omega)).trans h134))), ((hs_n (by omega)).trans ((hs_n (by omega)).trans ((hs_n (by omega)).trans h135))), ((hs_n (by omega)).trans ((hs_n (by omega)).trans ((hs_n (by omega)).trans h136))), ((hs_n (by omega)).trans ((hs_n (by omega)).trans ((hs_n (by omega)).trans h137))), ((hs_n (by omega)).trans ((hs_n (by omega)).trans ((hs_n (by omega)).trans h138))), ((hs_n (by omega)).trans ((hs_n (by omega)).trans ((hs_n (by omega)).trans h139))), ((hs_n (by omega)).trans ((hs_n (by omega)).trans ((hs_n (by omega)).trans h140))), ((hs_n (by omega)).trans ((hs_n (by omega)).trans ((hs_n (by omega)).trans h141))), ((hs_n (by omega)).trans ((hs_n (by omega)).trans ((hs_n (by omega)).trans h142))), ((hs_n (by omega)).trans ((hs_n (by omega)).trans ((hs_n (by omega)).trans h143))), ((hs_n (by omega)).trans ((hs_n (by omega)).trans ((hs_n (by omega)).trans h144))), ((hs_n (by omega)).trans ((hs_n (by omega)).trans ((hs_n (by omega)).trans h145))), hMR, hlN, hbb, hPr, hs40, hvb⟩ (fun a9 h9 => ((hs_n (by omega)).trans ((hs_n (by omega)).trans ((hs_n (by omega)).trans rfl))))
    refine g_heap (hs_id (c := aL 6 (a131)) h131).symm ?_
    refine g_heap (hs_id (c := aL 6 (a132)) ((hs_n (by omega)).trans h132)).symm ?_
    refine g_heap (hs_id (c := aL 12 (a133)) ((hs_n (by omega)).trans ((hs_n (by omega)).trans h133))).symm ?_
    exact lp11 ((41 : Int) + 1).toNat (a131) (a132) (a133) (0) (0) (by omega) rfl (Nat.zero_le _) (fun t ht => absurd ht (Nat.not_lt_zero t))
  · refine r_iconst (z := -1) dX11_breaks_7 ?_
    refine r_ireturn hq dX11_breaks_8 rfl rfl rfl ?_
    exact hQ _ h (Or.inl ⟨by omega, rfl⟩) hI (fun _ _ => rfl)
