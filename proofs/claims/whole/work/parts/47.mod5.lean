set_option maxHeartbeats 4000000 in
set_option maxRecDepth 20000 in
theorem c_X11_layExact {N : Nat} {h : Hp} {Q : QP} {ln pr nm at_ wr va em ta ro dg : Int} {om ml ms : Nat → Int} {ex0 c s : Nat → Int} {r k last : Nat} {ri li : Int} (hm0 : h 124 = MOo ln pr nm at_ wr va em ta ro dg) (hN : 146 ≤ N) (hom : h 125 = aI 7 om) (hml : h 126 = aL 42 ml) (hms : h 127 = aL 42 ms) (hex : h 130 = aL 2001 ex0) (hg : RG om ml ms r k c s) (hri : ri = (r : Int)) (hr6 : r < 7) (hli : li = (last : Int)) (hla : last ≤ 2000) (hQ : ∀ (t : Nat) (F : Nat → Int), Told k c s (last + 1) t → (∀ j, j < t → F j = ex k c s j) → Q (some (.int (iZ (t : Int)))) N (hs (hs h 124 (MOo ln pr nm at_ wr va (t : Int) ta ro dg)) 130 (aL 2001 F))) : Runs mX11_layExact [.ref (124), .int (iZ (ri)), .int (iZ (li))] N h Q := by
  obtain ⟨hg1, hg2, hg3, hg4, hg5⟩ := id hg
  have ern : ri.toNat = r := by omega
  have eom : om ri.toNat = (k : Int) := by rw [ern]; exact hg1
  refine run_start (own := RX11) rfl (by decide) (nle rfl) rfl (fun X hq hini => ?_)
  show G X RX11 cX11_layExact mX11_layExact.rm N 0 0 0 [some (.ref (124)), some (.int (iZ (ri))), some (.int (iZ (li))), none, none, none, none, none, none, none, none, none, none, none] [] h
  refine r_aload_n dX11_layExact_0 rfl rfl ?_
  refine r_iconst (z := 0) dX11_layExact_1 ?_
  refine pf_X11_137 (fs2 := [_, _, _, _, _, _, _, _, _, _, _, _, _, _, _, _, _, _, _, _, _, _, _, _, _, _, _, _, _, _, _]) dX11_layExact_2 (fun _ _ => rfl) (fun _ _ => rfl) (nlt rfl) (by omega) hm0 rfl ?_
  have lp5 : ∀ (fu5 : Nat) (e1 : Int) (F : Nat → Int) (t : Nat), (2002 - e1) < (fu5 : Int) → (e1 = (t : Int)) → (t ≤ last + 1) → (∀ j, j < t → F j = ex k c s j) → (∀ j, j < t → inM (ex k c s j)) → G X RX11 cX11_layExact mX11_layExact.rm N 0 0 5 [some (.ref (124)), some (.int (iZ (ri))), some (.int (iZ (li))), none, none, none, none, none, none, none, none, none, none, none] [] (hs (hs h (124) (MOo (ln) (pr) (nm) (at_) (wr) (va) (e1) (ta) (ro) (dg))) (130) (aL 2001 (F))) := by
    intro fu5
    induction fu5 with
    | zero => intro e1 F t hm et tl hF hIn; exfalso; omega
    | succ fu5 ih5 =>
      intro e1 F t hms5 et tl hF hIn
      refine r_aload_n dX11_layExact_5 rfl rfl ?_
      refine gf_X11_137 dX11_layExact_6 (by omega) ((hs_n (by omega)).trans hs_e) rfl ?_
      refine r_iload_n dX11_layExact_9 rfl rfl ?_
      refine r_icmp_gt 213 dX11_layExact_10 (by decide) ⟨by omega, by omega⟩ ⟨by omega, by omega⟩ (fun c_10 => ?_) (fun c_10 => ?_)
      · refine r_aload_n dX11_layExact_213 rfl rfl ?_
        refine gf_X11_137 dX11_layExact_214 (by omega) ((hs_n (by omega)).trans hs_e) rfl ?_
        refine r_ireturn hq dX11_layExact_217 rfl rfl rfl ?_
        rw [et]
        exact hQ t F ⟨tl, hIn, fun w => absurd w (by omega)⟩ hF
      · have etn : e1.toNat = t := by omega
        refine r_aload_n dX11_layExact_13 rfl rfl ?_
        refine gf_X11_137 dX11_layExact_14 (by omega) ((hs_n (by omega)).trans hs_e) rfl ?_
        refine r_aload_n dX11_layExact_17 rfl rfl ?_
        refine gf_X11_7 dX11_layExact_18 (by omega) ((hs_n (by omega)).trans hs_e) rfl ?_
        refine r_iload_n dX11_layExact_21 rfl rfl ?_
        refine r_iaload dX11_layExact_22 (by omega) ((hs_n (by omega)).trans ((hs_n (by omega)).trans hom)) (by omega) (by omega) (by decide) ?_
        refine r_icmp_ge 44 dX11_layExact_23 (by decide) ⟨by omega, by omega⟩ ⟨by omega, by omega⟩ (fun c_23 => ?_) (fun c_23 => ?_)
        · refine r_lconst (z := 0) dX11_layExact_44 (by decide) ?_
          refine r_lstore (L2 := [_, _, _, none, none, _, none, none, none, none, none, none, none, none]) dX11_layExact_45 (nlt rfl) rfl ?_
          refine r_lconst (z := 0) dX11_layExact_47 (by decide) ?_
          refine r_lstore (L2 := [_, _, _, none, none, _, none, _, none, none, none, none, none, none]) dX11_layExact_48 (nlt rfl) rfl ?_
          refine r_iconst (z := 1) dX11_layExact_50 ?_
          refine r_istore (L2 := [_, _, _, none, none, _, none, _, none, _, none, none, none, none]) dX11_layExact_51 (nlt rfl) rfl ?_
          have lp53 : ∀ (fu53 : Nat) (hi : Int) (lo : Int) (i : Int) (j : Nat), ((k : Int) + 1 - i) < (fu53 : Int) → (i = (j : Int) + 1) → (j ≤ k) → (hi = sm (fun u => c (u + 1) * (F (t - 1 - u)).tdiv 1000000000) j) → (lo = sm (fun u => c (u + 1) * (F (t - 1 - u)).tmod 1000000000) j) → G X RX11 cX11_layExact mX11_layExact.rm N 0 0 53 [some (.ref (124)), some (.int (iZ (ri))), some (.int (iZ (li))), none, none, some (.long (lZ (hi))), none, some (.long (lZ (lo))), none, some (.int (iZ (i))), none, none, none, none] [] (hs (hs h (124) (MOo (ln) (pr) (nm) (at_) (wr) (va) (e1) (ta) (ro) (dg))) (130) (aL 2001 (F))) := by
            intro fu53
            induction fu53 with
            | zero => intro hi lo i j hm ei jk ehi elo; exfalso; omega
            | succ fu53 ih53 =>
              intro hi lo i j hms53 ei jk ehi elo
              refine r_iload dX11_layExact_53 rfl ?_
              refine r_aload_n dX11_layExact_55 rfl rfl ?_
              refine gf_X11_7 dX11_layExact_56 (by omega) ((hs_n (by omega)).trans hs_e) rfl ?_
              refine r_iload_n dX11_layExact_59 rfl rfl ?_
              refine r_iaload dX11_layExact_60 (by omega) ((hs_n (by omega)).trans ((hs_n (by omega)).trans hom)) (by omega) (by omega) (by decide) ?_
              refine r_icmp_gt 128 dX11_layExact_61 (by decide) ⟨by omega, by omega⟩ ⟨by omega, by omega⟩ (fun c_61 => ?_) (fun c_61 => ?_)
              · have hjk : j = k := by omega
                rw [hjk] at ehi elo
                have hs5 := carry_split c F k t
                rw [← ehi, ← elo] at hs5
                have hce : carry c F k t = ex k c s t := by rw [ex_ge hg2 (by omega)]; exact carry_cong (fun _ _ _ => rfl) (fun u hu => hF _ (by omega))
                rw [hce] at hs5
                have hFb : ∀ u, u < k → -100000000000000000 ≤ F (t - 1 - u) ∧ F (t - 1 - u) ≤ 100000000000000000 := fun u hu => by rw [hF _ (by omega)]; exact hIn _ (by omega)
                have bhi : -60000000000000 ≤ hi ∧ hi ≤ 60000000000000 := by
                  have q := sm_bd (g := fun u => c (u + 1) * (F (t - 1 - u)).tdiv 1000000000) (B := 10000000000000) (by decide) (n := k) (fun u hu => mulb (A := 100000) (B := 100000000) (hg4 (u + 1) (by omega) (by omega)).2.1 (hg4 (u + 1) (by omega) (by omega)).2.2 (tdiv9 (B := 100000000) (by have := hFb u hu; omega) (by have := hFb u hu; omega)).1 (tdiv9 (B := 100000000) (by have := hFb u hu; omega) (by have := hFb u hu; omega)).2 (by decide))
                  rw [← ehi] at q
                  omega
                have blo : -600000000000000 ≤ lo ∧ lo ≤ 600000000000000 := by
                  have q := sm_bd (g := fun u => c (u + 1) * (F (t - 1 - u)).tmod 1000000000) (B := 100000000000000) (by decide) (n := k) (fun u hu => mulb (A := 100000) (B := 1000000000) (hg4 (u + 1) (by omega) (by omega)).2.1 (hg4 (u + 1) (by omega) (by omega)).2.2 (by have := tmod9 (F (t - 1 - u)); omega) (by have := tmod9 (F (t - 1 - u)); omega) (by decide))
                  rw [← elo] at q
                  omega
                have tm := tmod9 lo
                have td := tdiv9 (x := lo) (B := 1000000) (by omega) (by omega)
                refine r_lload dX11_layExact_128 rfl ?_
                refine r_lload dX11_layExact_130 rfl ?_
                refine r_ldc2 (z := 1000000000) dX11_layExact_132 kc_X11_140 ?_
                refine r_ldiv dX11_layExact_135 ⟨by omega, by omega⟩ ⟨by decide, by decide⟩ (by decide) (by omega) ?_
                refine r_ladd dX11_layExact_136 ?_
                refine r_lstore (L2 := [_, _, _, none, none, _, none, _, none, _, none, none, none, none]) dX11_layExact_137 (nlt rfl) rfl ?_
                refine r_lload dX11_layExact_139 rfl ?_
                refine r_ldc2 (z := 1000000000) dX11_layExact_141 kc_X11_140 ?_
                refine r_lrem dX11_layExact_144 ⟨by omega, by omega⟩ ⟨by decide, by decide⟩ (by decide) (by omega) ?_
                refine r_lstore (L2 := [_, _, _, none, none, _, none, _, none, _, none, none, none, none]) dX11_layExact_145 (nlt rfl) rfl ?_
                refine r_lload dX11_layExact_147 rfl ?_
                refine r_callS (av := [.long (lZ (hi + (lo.tdiv 1000000000)))]) dX11_layExact_149 lkX11_size ml_X11_84 stX11_size ⟨Nat.le_of_ble_eq_true rfl, Nat.le_of_ble_eq_true rfl⟩ rfl rfl (nle rfl) ⟨Nat.le_of_ble_eq_true rfl, Nat.le_of_ble_eq_true rfl⟩ (c_X11_size (x := hi + (lo.tdiv 1000000000)) (by omega) ?_)
                show G _ _ _ _ _ _ _ 152 _ _ _
                refine r_ldc2 (z := 100000001) dX11_layExact_152 kc_X11_142 ?_
                refine r_lcmp_le 164 dX11_layExact_155 dX11_layExact_156 (by decide) ⟨by omega, by omega⟩ ⟨by decide, by decide⟩ (fun c_155 => ?_) (fun c_155 => ?_)
                · refine r_lload dX11_layExact_164 rfl ?_
                  refine r_ldc2 (z := 1000000000) dX11_layExact_166 kc_X11_140 ?_
                  refine r_lmul dX11_layExact_169 ?_
                  refine r_lload dX11_layExact_170 rfl ?_
                  refine r_ladd dX11_layExact_172 ?_
                  refine r_lstore_n (L2 := [_, _, _, _, none, _, none, _, none, _, none, none, none, none]) dX11_layExact_173 rfl (nlt rfl) rfl ?_
                  refine r_lload_n dX11_layExact_174 rfl rfl ?_
                  refine r_callS (av := [.long (lZ (((hi + (lo.tdiv 1000000000)) * 1000000000) + (lo.tmod 1000000000)))]) dX11_layExact_175 lkX11_size ml_X11_84 stX11_size ⟨Nat.le_of_ble_eq_true rfl, Nat.le_of_ble_eq_true rfl⟩ rfl rfl (nle rfl) ⟨Nat.le_of_ble_eq_true rfl, Nat.le_of_ble_eq_true rfl⟩ (c_X11_size (x := ((hi + (lo.tdiv 1000000000)) * 1000000000) + (lo.tmod 1000000000)) (by omega) ?_)
                  show G _ _ _ _ _ _ _ 178 _ _ _
                  refine r_ldc2 (z := 100000000000000000) dX11_layExact_178 kc_X11_144 ?_
                  refine r_lcmp_le 190 dX11_layExact_181 dX11_layExact_182 (by decide) ⟨by omega, by omega⟩ ⟨by decide, by decide⟩ (fun c_181 => ?_) (fun c_181 => ?_)
                  · have ez : ((hi + (lo.tdiv 1000000000)) * 1000000000) + (lo.tmod 1000000000) = ex k c s t := by omega
                    have hin : inM (ex k c s t) := by rw [← ez]; exact ⟨by omega, by omega⟩
                    refine r_aload_n dX11_layExact_190 rfl rfl ?_
                    refine gf_X11_30 dX11_layExact_191 (by omega) ((hs_n (by omega)).trans hs_e) rfl ?_
                    refine r_aload_n dX11_layExact_194 rfl rfl ?_
                    refine gf_X11_137 dX11_layExact_195 (by omega) ((hs_n (by omega)).trans hs_e) rfl ?_
                    refine r_lload_n dX11_layExact_198 rfl rfl ?_
                    refine r_lastore dX11_layExact_199 (by omega) hs_e (by omega) (by omega) (by decide) ?_
                    refine g_heap (h2 := (hs (hs h (124) (MOo (ln) (pr) (nm) (at_) (wr) (va) (e1) (ta) (ro) (dg))) (130) (aL 2001 (uA (F) (e1).toNat (((hi + (lo.tdiv 1000000000)) * 1000000000) + (lo.tmod 1000000000)))))) hs_hs ?_
                    refine r_aload_n dX11_layExact_200 rfl rfl ?_
                    refine r_dup dX11_layExact_201 rfl ?_
                    refine gf_X11_137 dX11_layExact_202 (by omega) ((hs_n (by omega)).trans hs_e) rfl ?_
                    refine r_iconst (z := 1) dX11_layExact_205 ?_
                    refine r_iadd dX11_layExact_206 ?_
                    refine pf_X11_137 (fs2 := [_, _, _, _, _, _, _, _, _, _, _, _, _, _, _, _, _, _, _, _, _, _, _, _, _, _, _, _, _, _, _]) dX11_layExact_207 (fun _ _ => rfl) (fun _ _ => rfl) (nlt rfl) (by omega) ((hs_n (by omega)).trans hs_e) rfl ?_
                    refine g_heap (h2 := (hs (hs h (124) (MOo (ln) (pr) (nm) (at_) (wr) (va) (e1 + 1) (ta) (ro) (dg))) (130) (aL 2001 (uA (F) (e1).toNat (((hi + (lo.tdiv 1000000000)) * 1000000000) + (lo.tmod 1000000000)))))) (hs_put (by omega) hs_hs) ?_
                    refine r_goto 5 dX11_layExact_210 (by decide) ?_
                    refine r_mask [true, true, true, false, false, false, false, false, false, false, false, false, false, false] (L2 := [_, _, _, none, none, none, none, none, none, none, none, none, none, none]) rfl ?_
                    exact ih5 (e1 + 1) (uA (F) (e1).toNat (((hi + (lo.tdiv 1000000000)) * 1000000000) + (lo.tmod 1000000000))) ((t + 1)) (by omega) (by omega) (by omega) (fun j hj => by rw [etn]; by_cases z : j = t; (rw [z, uA_e]; exact ez); rw [uA_n z]; exact hF j (by omega)) (fun j hj => by by_cases z : j = t; (rw [z]; exact hin); exact hIn j (by omega))
                  · refine r_aload_n dX11_layExact_185 rfl rfl ?_
                    refine gf_X11_137 dX11_layExact_186 (by omega) ((hs_n (by omega)).trans hs_e) rfl ?_
                    refine r_ireturn hq dX11_layExact_189 rfl rfl rfl ?_
                    rw [et]
                    exact hQ t F ⟨by omega, hIn, fun _ w => by have w1 := w.1; have w2 := w.2; omega⟩ hF
                · refine r_aload_n dX11_layExact_159 rfl rfl ?_
                  refine gf_X11_137 dX11_layExact_160 (by omega) ((hs_n (by omega)).trans hs_e) rfl ?_
                  refine r_ireturn hq dX11_layExact_163 rfl rfl rfl ?_
                  rw [et]
                  exact hQ t F ⟨by omega, hIn, fun _ w => by have w1 := w.1; have w2 := w.2; omega⟩ hF
              · refine r_aload_n dX11_layExact_64 rfl rfl ?_
                refine gf_X11_13 dX11_layExact_65 (by omega) ((hs_n (by omega)).trans hs_e) rfl ?_
                refine r_bipush (z := 6) dX11_layExact_68 (by decide) ?_
                refine r_iload_n dX11_layExact_70 rfl rfl ?_
                refine r_imul dX11_layExact_71 ?_
                refine r_iload dX11_layExact_72 rfl ?_
                refine r_iadd dX11_layExact_74 ?_
                refine r_iconst (z := 1) dX11_layExact_75 ?_
                refine r_isub dX11_layExact_76 ?_
                refine r_laload dX11_layExact_77 (by omega) ((hs_n (by omega)).trans ((hs_n (by omega)).trans hml)) (by omega) (by omega) (by decide) ?_
                refine r_lstore (L2 := [_, _, _, none, none, _, none, _, none, _, _, none, none, none]) dX11_layExact_78 (nlt rfl) rfl ?_
                refine r_aload_n dX11_layExact_80 rfl rfl ?_
                refine gf_X11_30 dX11_layExact_81 (by omega) ((hs_n (by omega)).trans hs_e) rfl ?_
                refine r_aload_n dX11_layExact_84 rfl rfl ?_
                refine gf_X11_137 dX11_layExact_85 (by omega) ((hs_n (by omega)).trans hs_e) rfl ?_
                refine r_iload dX11_layExact_88 rfl ?_
                refine r_isub dX11_layExact_90 ?_
                refine r_laload dX11_layExact_91 (by omega) hs_e (by omega) (by omega) (by decide) ?_
                refine r_lstore (L2 := [_, _, _, none, none, _, none, _, none, _, _, none, _, none]) dX11_layExact_92 (nlt rfl) rfl ?_
                have hjk : j < k := by omega
                have e1c : ml (((6 * ri) + i) - 1).toNat = c (j + 1) := by rw [show (((6 * ri) + i) - 1).toNat = 6 * r + (j + 1) - 1 by omega]; exact (hg4 (j + 1) (by omega) (by omega)).1
                have e2x : F (e1 - i).toNat = F (t - 1 - j) := by congr 1; omega
                have hfb := hIn (t - 1 - j) (by omega)
                rw [← hF (t - 1 - j) (by omega), ← e2x] at hfb
                have hfb1 := hfb.1
                have hfb2 := hfb.2
                refine r_lload dX11_layExact_94 rfl ?_
                refine r_lload dX11_layExact_96 rfl ?_
                refine r_lload dX11_layExact_98 rfl ?_
                refine r_ldc2 (z := 1000000000) dX11_layExact_100 kc_X11_140 ?_
                refine r_ldiv dX11_layExact_103 ⟨by omega, by omega⟩ ⟨by decide, by decide⟩ (by decide) (by omega) ?_
                refine r_lmul dX11_layExact_104 ?_
                refine r_ladd dX11_layExact_105 ?_
                refine r_lstore (L2 := [_, _, _, none, none, _, none, _, none, _, _, none, _, none]) dX11_layExact_106 (nlt rfl) rfl ?_
                refine r_lload dX11_layExact_108 rfl ?_
                refine r_lload dX11_layExact_110 rfl ?_
                refine r_lload dX11_layExact_112 rfl ?_
                refine r_ldc2 (z := 1000000000) dX11_layExact_114 kc_X11_140 ?_
                refine r_lrem dX11_layExact_117 ⟨by omega, by omega⟩ ⟨by decide, by decide⟩ (by decide) (by omega) ?_
                refine r_lmul dX11_layExact_118 ?_
                refine r_ladd dX11_layExact_119 ?_
                refine r_lstore (L2 := [_, _, _, none, none, _, none, _, none, _, _, none, _, none]) dX11_layExact_120 (nlt rfl) rfl ?_
                refine r_iinc (L2 := [_, _, _, none, none, _, none, _, none, _, _, none, _, none]) dX11_layExact_122 (nlt rfl) rfl rfl ?_
                refine r_goto 53 dX11_layExact_125 (by decide) ?_
                refine r_mask [true, true, true, false, false, true, false, true, false, true, false, false, false, false] (L2 := [_, _, _, none, none, _, none, _, none, _, none, none, none, none]) rfl ?_
                exact ih53 (hi + ((ml (((6 * ri) + i) - 1).toNat) * ((F (e1 - i).toNat).tdiv 1000000000))) (lo + ((ml (((6 * ri) + i) - 1).toNat) * ((F (e1 - i).toNat).tmod 1000000000))) (i + 1) ((j + 1)) (by omega) (by omega) (by omega) (by rw [sm_s, ehi, e1c, e2x]) (by rw [sm_s, elo, e1c, e2x])
          exact lp53 (((k : Int) + 1 : Int) + 1).toNat (0) (0) (1) (0) (by omega) rfl (by omega) rfl rfl
        · refine r_aload_n dX11_layExact_26 rfl rfl ?_
          refine gf_X11_17 dX11_layExact_27 (by omega) ((hs_n (by omega)).trans hs_e) rfl ?_
          refine r_bipush (z := 6) dX11_layExact_30 (by decide) ?_
          refine r_iload_n dX11_layExact_32 rfl rfl ?_
          refine r_imul dX11_layExact_33 ?_
          refine r_aload_n dX11_layExact_34 rfl rfl ?_
          refine gf_X11_137 dX11_layExact_35 (by omega) ((hs_n (by omega)).trans hs_e) rfl ?_
          refine r_iadd dX11_layExact_38 ?_
          refine r_laload dX11_layExact_39 (by omega) ((hs_n (by omega)).trans ((hs_n (by omega)).trans hms)) (by omega) (by omega) (by decide) ?_
          refine r_lstore_n (L2 := [_, _, _, _, none, none, none, none, none, none, none, none, none, none]) dX11_layExact_40 rfl (nlt rfl) rfl ?_
          refine r_goto 190 dX11_layExact_41 (by decide) ?_
          have e38 : ((6 * ri) + e1).toNat = 6 * r + t := by omega
          have hs9 := hg5 t (by omega)
          have ez : ms ((6 * ri) + e1).toNat = ex k c s t := by rw [ex_lt (by omega), e38]; exact hs9.1
          have hin : inM (ex k c s t) := by rw [ex_lt (by omega)]; exact ⟨by omega, by omega⟩
          refine r_aload_n dX11_layExact_190 rfl rfl ?_
          refine gf_X11_30 dX11_layExact_191 (by omega) ((hs_n (by omega)).trans hs_e) rfl ?_
          refine r_aload_n dX11_layExact_194 rfl rfl ?_
          refine gf_X11_137 dX11_layExact_195 (by omega) ((hs_n (by omega)).trans hs_e) rfl ?_
          refine r_lload_n dX11_layExact_198 rfl rfl ?_
          refine r_lastore dX11_layExact_199 (by omega) hs_e (by omega) (by omega) (by decide) ?_
          refine g_heap (h2 := (hs (hs h (124) (MOo (ln) (pr) (nm) (at_) (wr) (va) (e1) (ta) (ro) (dg))) (130) (aL 2001 (uA (F) (e1).toNat (ms ((6 * ri) + e1).toNat))))) hs_hs ?_
          refine r_aload_n dX11_layExact_200 rfl rfl ?_
          refine r_dup dX11_layExact_201 rfl ?_
          refine gf_X11_137 dX11_layExact_202 (by omega) ((hs_n (by omega)).trans hs_e) rfl ?_
          refine r_iconst (z := 1) dX11_layExact_205 ?_
          refine r_iadd dX11_layExact_206 ?_
          refine pf_X11_137 (fs2 := [_, _, _, _, _, _, _, _, _, _, _, _, _, _, _, _, _, _, _, _, _, _, _, _, _, _, _, _, _, _, _]) dX11_layExact_207 (fun _ _ => rfl) (fun _ _ => rfl) (nlt rfl) (by omega) ((hs_n (by omega)).trans hs_e) rfl ?_
          refine g_heap (h2 := (hs (hs h (124) (MOo (ln) (pr) (nm) (at_) (wr) (va) (e1 + 1) (ta) (ro) (dg))) (130) (aL 2001 (uA (F) (e1).toNat (ms ((6 * ri) + e1).toNat))))) (hs_put (by omega) hs_hs) ?_
          refine r_goto 5 dX11_layExact_210 (by decide) ?_
          refine r_mask [true, true, true, false, false, false, false, false, false, false, false, false, false, false] (L2 := [_, _, _, none, none, none, none, none, none, none, none, none, none, none]) rfl ?_
          exact ih5 (e1 + 1) (uA (F) (e1).toNat (ms ((6 * ri) + e1).toNat)) ((t + 1)) (by omega) (by omega) (by omega) (fun j hj => by rw [etn]; by_cases z : j = t; (rw [z, uA_e]; exact ez); rw [uA_n z]; exact hF j (by omega)) (fun j hj => by by_cases z : j = t; (rw [z]; exact hin); exact hIn j (by omega))
  refine g_heap (hs_id (c := aL 2001 (ex0)) ((hs_n (by omega)).trans hex)).symm ?_
  exact lp5 ((2002 : Int) + 1).toNat (0) (ex0) (0) (by omega) rfl (by omega) (fun j hj => absurd hj (Nat.not_lt_zero j)) (fun j hj => absurd hj (Nat.not_lt_zero j))
set_option maxHeartbeats 2000000 in
set_option maxRecDepth 20000 in
theorem c_X11_exact {N : Nat} {h : Hp} {Q : QP} {tb : Nat → Int} {ln : Nat} {K : Nat → Nat} {C S : Nat → Nat → Int} {p : Int} {vs : Nat → Int} {sz : Nat} {i n : Int} (hI : MDI h tb ln K C S p vs sz) (hN : 146 ≤ N) (hi : rI i) (hn : rI n) (hQ : ∀ (r : Int) (h2 : Hp), SPexact i n K C S r → MDI h2 tb ln K C S p vs sz → OUTM h h2 → Q (some (.long (lZ r))) N h2) : Runs mX11_exact [.ref (124), .int (iZ (i)), .int (iZ (n))] N h Q := by
  obtain ⟨at_, wr, va, em, ta, ro, dg, om, ml, ms, a130, a131, a132, a133, a134, a135, a136, a137, a138, a139, a140, a141, a142, a143, a144, a145, hm0, hom, hml, hms, hbt, hnv, h130, h131, h132, h133, h134, h135, h136, h137, h138, h139, h140, h141, h142, h143, h144, h145, hMR, hlN, hbb, hPr, hs40, hvb⟩ := id hI
  have hl0 : 0 ≤ (ln : Int) := by omega
  have hl : (ln : Int) ≤ 100 := by omega
  have hn1 := hn.1
  have hn2 := hn.2
  refine run_start (own := RX11) rfl (by decide) (nle rfl) rfl (fun X hq hini => ?_)
  show G X RX11 cX11_exact mX11_exact.rm N 0 0 0 [some (.ref (124)), some (.int (iZ (i))), some (.int (iZ (n)))] [] h
  refine r_iload_n dX11_exact_0 rfl rfl ?_
  refine r_callS (av := [.int (iZ (i))]) dX11_exact_1 lkX11_isReg ml_X11_127 stX11_isReg ⟨Nat.le_of_ble_eq_true rfl, Nat.le_of_ble_eq_true rfl⟩ rfl rfl (nle rfl) ⟨Nat.le_of_ble_eq_true rfl, Nat.le_of_ble_eq_true rfl⟩ (c_X11_isReg (x := i) hi (fun b1 hb1 => ?_))
  show G _ _ _ _ _ _ _ 4 _ _ _
  refine r_if_eq 19 dX11_exact_4 (by decide) (by rcases hb1 with ⟨y, _⟩ | ⟨y, _⟩ <;> exact ⟨by omega, by omega⟩) (fun c_4 => ?_) (fun c_4 => ?_)
  · refine r_ldc2 (z := -1000000000000000000) dX11_exact_19 kc_X11_148 ?_
    refine r_lreturn hq dX11_exact_22 rfl rfl rfl ?_
    exact hQ _ h (Or.inl ⟨by omega, rfl⟩) hI (fun _ _ => rfl)
  · refine r_iload_n dX11_exact_7 rfl rfl ?_
    refine r_i2l dX11_exact_8 ⟨by omega, by omega⟩ ?_
    refine r_lconst (z := 0) dX11_exact_9 (by decide) ?_
    refine r_ldc2 (z := 2000) dX11_exact_10 kc_X11_146 ?_
    refine r_callS (av := [.long (lZ (n)), .long (lZ (0)), .long (lZ (2000))]) dX11_exact_13 lkX11_in ml_X11_80 stX11_in ⟨Nat.le_of_ble_eq_true rfl, Nat.le_of_ble_eq_true rfl⟩ rfl rfl (nle rfl) ⟨Nat.le_of_ble_eq_true rfl, Nat.le_of_ble_eq_true rfl⟩ (c_X11_in (x := n) (l := 0) (m := 2000) ⟨by omega, by omega⟩ ⟨by decide, by decide⟩ ⟨by decide, by decide⟩ (fun b13 hb13 => ?_))
    show G _ _ _ _ _ _ _ 16 _ _ _
    refine r_if_ne 23 dX11_exact_16 (by decide) (by rcases hb13 with ⟨y, _⟩ | ⟨y, _⟩ <;> exact ⟨by omega, by omega⟩) (fun c_16 => ?_) (fun c_16 => ?_)
    · refine r_aload_n dX11_exact_23 rfl rfl ?_
      refine r_iload_n dX11_exact_24 rfl rfl ?_
      refine r_iload_n dX11_exact_25 rfl rfl ?_
      refine r_callV (av := [.int (iZ (i)), .int (iZ (n))]) dX11_exact_26 lkX11_layExact ml_X11_150 imX11_layExact seX11_layExact (by omega) (rfl : vwCl[11]? = _) ⟨_, hm0⟩ ⟨Nat.le_of_ble_eq_true rfl, Nat.le_of_ble_eq_true rfl⟩ rfl rfl (nle rfl) ⟨Nat.le_of_ble_eq_true rfl, Nat.le_of_ble_eq_true rfl⟩ (c_X11_layExact (r := i.toNat) (k := K i.toNat) (c := C i.toNat) (s := S i.toNat) (last := n.toNat) (om := om) (ml := ml) (ms := ms) (ex0 := a130) (ln := (ln : Int)) (pr := p) (nm := (sz : Int)) (at_ := at_) (wr := wr) (va := va) (em := em) (ta := ta) (ro := ro) (dg := dg) hm0 hN hom hml hms h130 (hMR i.toNat (by omega)).1 (by omega) (by omega) (by omega) (by omega) (fun t26 X26 hT26 hX26 => ?_))
      show G _ _ _ _ _ _ _ 29 _ _ _
      refine r_iload_n dX11_exact_29 rfl rfl ?_
      refine r_icmp_le 42 dX11_exact_30 (by decide) (by have := hT26.1; exact ⟨by omega, by omega⟩) ⟨by omega, by omega⟩ (fun c_30 => ?_) (fun c_30 => ?_)
      · refine r_ldc2 (z := -1000000000000000005) dX11_exact_42 kc_X11_154 ?_
        refine r_lreturn hq dX11_exact_45 rfl rfl rfl ?_
        refine hQ _ _ (Or.inr ⟨by omega, by omega, by omega, by omega, t26, hT26, Or.inr ⟨by omega, rfl⟩⟩) ⟨_, _, _, _, _, _, _, _, _, _, _, _, _, _, _, _, _, _, _, _, _, _, _, _, _, _, ((hs_n (by omega)).trans hs_e), ((hs_n (by omega)).trans ((hs_n (by omega)).trans hom)), ((hs_n (by omega)).trans ((hs_n (by omega)).trans hml)), ((hs_n (by omega)).trans ((hs_n (by omega)).trans hms)), ((hs_n (by omega)).trans ((hs_n (by omega)).trans hbt)), ((hs_n (by omega)).trans ((hs_n (by omega)).trans hnv)), hs_e, ((hs_n (by omega)).trans ((hs_n (by omega)).trans h131)), ((hs_n (by omega)).trans ((hs_n (by omega)).trans h132)), ((hs_n (by omega)).trans ((hs_n (by omega)).trans h133)), ((hs_n (by omega)).trans ((hs_n (by omega)).trans h134)), ((hs_n (by omega)).trans ((hs_n (by omega)).trans h135)), ((hs_n (by omega)).trans ((hs_n (by omega)).trans h136)), ((hs_n (by omega)).trans ((hs_n (by omega)).trans h137)), ((hs_n (by omega)).trans ((hs_n (by omega)).trans h138)), ((hs_n (by omega)).trans ((hs_n (by omega)).trans h139)), ((hs_n (by omega)).trans ((hs_n (by omega)).trans h140)), ((hs_n (by omega)).trans ((hs_n (by omega)).trans h141)), ((hs_n (by omega)).trans ((hs_n (by omega)).trans h142)), ((hs_n (by omega)).trans ((hs_n (by omega)).trans h143)), ((hs_n (by omega)).trans ((hs_n (by omega)).trans h144)), ((hs_n (by omega)).trans ((hs_n (by omega)).trans h145)), hMR, hlN, hbb, hPr, hs40, hvb⟩ (fun a9 h9 => ((hs_n (by omega)).trans ((hs_n (by omega)).trans rfl)))
      · refine r_aload_n dX11_exact_33 rfl rfl ?_
        refine gf_X11_30 dX11_exact_34 (by omega) ((hs_n (by omega)).trans hs_e) rfl ?_
        refine r_iload_n dX11_exact_37 rfl rfl ?_
        refine r_laload dX11_exact_38 (by omega) hs_e (by omega) (by omega) (by decide) ?_
        refine r_goto 45 dX11_exact_39 (by decide) ?_
        refine r_lreturn hq dX11_exact_45 rfl rfl rfl ?_
        rw [hX26 n.toNat (by omega)]
        refine hQ _ _ (Or.inr ⟨by omega, by omega, by omega, by omega, t26, hT26, Or.inl ⟨by omega, rfl⟩⟩) ⟨_, _, _, _, _, _, _, _, _, _, _, _, _, _, _, _, _, _, _, _, _, _, _, _, _, _, ((hs_n (by omega)).trans hs_e), ((hs_n (by omega)).trans ((hs_n (by omega)).trans hom)), ((hs_n (by omega)).trans ((hs_n (by omega)).trans hml)), ((hs_n (by omega)).trans ((hs_n (by omega)).trans hms)), ((hs_n (by omega)).trans ((hs_n (by omega)).trans hbt)), ((hs_n (by omega)).trans ((hs_n (by omega)).trans hnv)), hs_e, ((hs_n (by omega)).trans ((hs_n (by omega)).trans h131)), ((hs_n (by omega)).trans ((hs_n (by omega)).trans h132)), ((hs_n (by omega)).trans ((hs_n (by omega)).trans h133)), ((hs_n (by omega)).trans ((hs_n (by omega)).trans h134)), ((hs_n (by omega)).trans ((hs_n (by omega)).trans h135)), ((hs_n (by omega)).trans ((hs_n (by omega)).trans h136)), ((hs_n (by omega)).trans ((hs_n (by omega)).trans h137)), ((hs_n (by omega)).trans ((hs_n (by omega)).trans h138)), ((hs_n (by omega)).trans ((hs_n (by omega)).trans h139)), ((hs_n (by omega)).trans ((hs_n (by omega)).trans h140)), ((hs_n (by omega)).trans ((hs_n (by omega)).trans h141)), ((hs_n (by omega)).trans ((hs_n (by omega)).trans h142)), ((hs_n (by omega)).trans ((hs_n (by omega)).trans h143)), ((hs_n (by omega)).trans ((hs_n (by omega)).trans h144)), ((hs_n (by omega)).trans ((hs_n (by omega)).trans h145)), hMR, hlN, hbb, hPr, hs40, hvb⟩ (fun a9 h9 => ((hs_n (by omega)).trans ((hs_n (by omega)).trans rfl)))
    · refine r_ldc2 (z := -1000000000000000000) dX11_exact_19 kc_X11_148 ?_
      refine r_lreturn hq dX11_exact_22 rfl rfl rfl ?_
      exact hQ _ h (Or.inl ⟨by omega, rfl⟩) hI (fun _ _ => rfl)
set_option maxHeartbeats 2000000 in
set_option maxRecDepth 20000 in
theorem c_X11_count {N : Nat} {h : Hp} {Q : QP} {tb : Nat → Int} {ln : Nat} {K : Nat → Nat} {C S : Nat → Nat → Int} {p : Int} {vs : Nat → Int} {sz : Nat} {w : Int} (hI : MDI h tb ln K C S p vs sz) (hN : 146 ≤ N) (hw : rI w) (hQ : ∀ (r : Int) (h2 : Hp), SPcount w ln sz K r → MDI h2 tb ln K C S p vs sz → OUTM h h2 → Q (some (.int (iZ r))) N h2) : Runs mX11_count [.ref (124), .int (iZ (w))] N h Q := by
  obtain ⟨at_, wr, va, em, ta, ro, dg, om, ml, ms, a130, a131, a132, a133, a134, a135, a136, a137, a138, a139, a140, a141, a142, a143, a144, a145, hm0, hom, hml, hms, hbt, hnv, h130, h131, h132, h133, h134, h135, h136, h137, h138, h139, h140, h141, h142, h143, h144, h145, hMR, hlN, hbb, hPr, hs40, hvb⟩ := id hI
  have hl0 : 0 ≤ (ln : Int) := by omega
  have hl : (ln : Int) ≤ 100 := by omega
  have hw1 := hw.1
  have hw2 := hw.2
  refine run_start (own := RX11) rfl (by decide) (nle rfl) rfl (fun X hq hini => ?_)
  show G X RX11 cX11_count mX11_count.rm N 0 0 0 [some (.ref (124)), some (.int (iZ (w)))] [] h
  refine r_iload_n dX11_count_0 rfl rfl ?_
  rcases (show w < 0 ∨ 2 < w ∨ w = 0 ∨ w = 1 ∨ w = 2 by omega) with hs_1 | hs_1 | hs_1 | hs_1 | hs_1
  · refine r_tabOut 80 dX11_count_1 hw (by omega) (by decide) ?_
    refine r_iconst (z := -1) dX11_count_80 ?_
    refine r_ireturn hq dX11_count_81 rfl rfl rfl ?_
    exact hQ _ h (Or.inr (Or.inr (Or.inr ⟨by omega, by omega, by omega, rfl⟩))) hI (fun _ _ => rfl)
  · refine r_tabOut 80 dX11_count_1 hw (by omega) (by decide) ?_
    refine r_iconst (z := -1) dX11_count_80 ?_
    refine r_ireturn hq dX11_count_81 rfl rfl rfl ?_
    exact hQ _ h (Or.inr (Or.inr (Or.inr ⟨by omega, by omega, by omega, rfl⟩))) hI (fun _ _ => rfl)
  · refine r_tabIn (off := 27) 28 dX11_count_1 hw (by omega) (by omega) (by rw [hs_1]; rfl) (by decide) ?_
    refine r_aload_n dX11_count_28 rfl rfl ?_
    refine gf_X11_90 dX11_count_29 (by omega) hm0 rfl ?_
    refine r_ireturn hq dX11_count_32 rfl rfl rfl ?_
    exact hQ _ h (Or.inl ⟨by omega, rfl⟩) hI (fun _ _ => rfl)
  · refine r_tabIn (off := 32) 33 dX11_count_1 hw (by omega) (by omega) (by rw [hs_1]; rfl) (by decide) ?_
    refine r_aload_n dX11_count_33 rfl rfl ?_
    refine gf_X11_221 dX11_count_34 (by omega) hm0 rfl ?_
    refine r_ireturn hq dX11_count_37 rfl rfl rfl ?_
    exact hQ _ h (Or.inr (Or.inl ⟨by omega, rfl⟩)) hI (fun _ _ => rfl)
  · refine r_tabIn (off := 37) 38 dX11_count_1 hw (by omega) (by omega) (by rw [hs_1]; rfl) (by decide) ?_
    refine r_aload_n dX11_count_38 rfl rfl ?_
    refine gf_X11_7 dX11_count_39 (by omega) hm0 rfl ?_
    refine r_iconst (z := 0) dX11_count_42 ?_
    refine r_iaload dX11_count_43 (by omega) hom (by omega) (by omega) (by decide) ?_
    refine r_aload_n dX11_count_44 rfl rfl ?_
    refine gf_X11_7 dX11_count_45 (by omega) hm0 rfl ?_
    refine r_iconst (z := 1) dX11_count_48 ?_
    refine r_iaload dX11_count_49 (by omega) hom (by omega) (by omega) (by decide) ?_
    refine r_iadd dX11_count_50 ?_
    refine r_aload_n dX11_count_51 rfl rfl ?_
    refine gf_X11_7 dX11_count_52 (by omega) hm0 rfl ?_
    refine r_iconst (z := 2) dX11_count_55 ?_
    refine r_iaload dX11_count_56 (by omega) hom (by omega) (by omega) (by decide) ?_
    refine r_iadd dX11_count_57 ?_
    refine r_aload_n dX11_count_58 rfl rfl ?_
    refine gf_X11_7 dX11_count_59 (by omega) hm0 rfl ?_
    refine r_iconst (z := 3) dX11_count_62 ?_
    refine r_iaload dX11_count_63 (by omega) hom (by omega) (by omega) (by decide) ?_
    refine r_iadd dX11_count_64 ?_
    refine r_aload_n dX11_count_65 rfl rfl ?_
    refine gf_X11_7 dX11_count_66 (by omega) hm0 rfl ?_
    refine r_iconst (z := 4) dX11_count_69 ?_
    refine r_iaload dX11_count_70 (by omega) hom (by omega) (by omega) (by decide) ?_
    refine r_iadd dX11_count_71 ?_
    refine r_aload_n dX11_count_72 rfl rfl ?_
    refine gf_X11_7 dX11_count_73 (by omega) hm0 rfl ?_
    refine r_iconst (z := 5) dX11_count_76 ?_
    refine r_iaload dX11_count_77 (by omega) hom (by omega) (by omega) (by decide) ?_
    refine r_iadd dX11_count_78 ?_
    refine r_ireturn hq dX11_count_79 rfl rfl rfl ?_
    refine hQ _ h (Or.inr (Or.inr (Or.inl ⟨by omega, ?_⟩))) hI (fun _ _ => rfl)
    have q0 := (hMR 0 (by omega)).1.1
    have q1 := (hMR 1 (by omega)).1.1
    have q2 := (hMR 2 (by omega)).1.1
    have q3 := (hMR 3 (by omega)).1.1
    have q4 := (hMR 4 (by omega)).1.1
    have q5 := (hMR 5 (by omega)).1.1
    show om 0 + om 1 + om 2 + om 3 + om 4 + om 5 = 0 + (K 0 : Int) + (K 1 : Int) + (K 2 : Int) + (K 3 : Int) + (K 4 : Int) + (K 5 : Int)
    omega
set_option maxHeartbeats 2000000 in
set_option maxRecDepth 20000 in
theorem c_X11_isPrime {N : Nat} {h : Hp} {Q : QP} {p : Int} (hp : rI p) (hQ : ∀ b : Int, (b = 1 ∧ Prm p ∨ b = 0 ∧ ¬ Prm p) → Q (some (.int (iZ b))) N h) : Runs mX11_isPrime [.int (iZ (p))] N h Q := by
  have hp1 := hp.1
  have hp2 := hp.2
  refine run_start (own := RX11) rfl (by decide) (nle rfl) rfl (fun X hq hini => ?_)
  show G X RX11 cX11_isPrime mX11_isPrime.rm N 0 0 0 [some (.int (iZ (p))), none, none] [] h
  refine r_iload_n dX11_isPrime_0 rfl rfl ?_
  refine r_i2l dX11_isPrime_1 ⟨by omega, by omega⟩ ?_
  refine r_ldc2 (z := 2) dX11_isPrime_2 kc_X11_134 ?_
  refine r_ldc2 (z := 97) dX11_isPrime_5 kc_X11_202 ?_
  refine r_callS (av := [.long (lZ (p)), .long (lZ (2)), .long (lZ (97))]) dX11_isPrime_8 lkX11_in ml_X11_80 stX11_in ⟨Nat.le_of_ble_eq_true rfl, Nat.le_of_ble_eq_true rfl⟩ rfl rfl (nle rfl) ⟨Nat.le_of_ble_eq_true rfl, Nat.le_of_ble_eq_true rfl⟩ (c_X11_in (x := p) (l := 2) (m := 97) ⟨by omega, by omega⟩ ⟨by decide, by decide⟩ ⟨by decide, by decide⟩ (fun b8 hb8 => ?_))
  show G _ _ _ _ _ _ _ 11 _ _ _
  refine r_istore_n (L2 := [_, _, none]) dX11_isPrime_11 rfl (nlt rfl) rfl ?_
  refine r_iconst (z := 2) dX11_isPrime_12 ?_
  refine r_istore_n (L2 := [_, _, _]) dX11_isPrime_13 rfl (nlt rfl) rfl ?_
  have lp14 : ∀ (fu14 : Nat) (is : Int) (d : Int), (12 - d) < (fu14 : Int) → (is = 0 ∨ is = 1) → (2 ≤ d) → (d ≤ 11) → (is = 0 → ¬ Prm p) → (is = 1 → 2 ≤ p ∧ p ≤ 97 ∧ ∀ t : Int, 2 ≤ t → t < d → p % t ≠ 0) → G X RX11 cX11_isPrime mX11_isPrime.rm N 0 0 14 [some (.int (iZ (p))), some (.int (iZ (is))), some (.int (iZ (d)))] [] h := by
    intro fu14
    induction fu14 with
    | zero => intro is d hm is01 d2 d11 hz0 hz1; exfalso; omega
    | succ fu14 ih14 =>
      intro is d hms14 is01 d2 d11 hz0 hz1
      refine r_iload_n dX11_isPrime_14 rfl rfl ?_
      refine r_if_eq 43 dX11_isPrime_15 (by decide) (by rcases is01 with y | y <;> exact ⟨by omega, by omega⟩) (fun c_15 => ?_) (fun c_15 => ?_)
      · refine r_iload_n dX11_isPrime_43 rfl rfl ?_
        refine r_zreturn hq dX11_isPrime_44 rfl (by omega) rfl rfl ?_
        have e0 : is = 0 := by omega
        rw [e0]
        exact hQ 0 (Or.inr ⟨rfl, hz0 e0⟩)
      · have hz3 := hz1 (by omega)
        have m20 := mulb (A := 11) (B := 11) (a := d) (b := d) (C := 121) (by omega) (by omega) (by omega) (by omega) (by decide)
        refine r_iload_n dX11_isPrime_18 rfl rfl ?_
        refine r_iload_n dX11_isPrime_19 rfl rfl ?_
        refine r_imul dX11_isPrime_20 ?_
        refine r_iload_n dX11_isPrime_21 rfl rfl ?_
        refine r_icmp_gt 43 dX11_isPrime_22 (by decide) ⟨by omega, by omega⟩ hp (fun c_22 => ?_) (fun c_22 => ?_)
        · refine r_iload_n dX11_isPrime_43 rfl rfl ?_
          refine r_zreturn hq dX11_isPrime_44 rfl (by omega) rfl rfl ?_
          have e1 : is = 1 := by omega
          rw [e1]
          exact hQ 1 (Or.inl ⟨rfl, hz3.1, hz3.2.1, fun t a b => by
            by_cases z : t < d
            · exact hz3.2.2 t a z
            · have := Int.mul_le_mul (show d ≤ t by omega) (show d ≤ t by omega) (by omega) (by omega)
              omega⟩)
        · have d10 : d ≤ 10 := by
            by_cases z : d ≤ 10
            · exact z
            · have := Int.mul_le_mul (show (11 : Int) ≤ d by omega) (show (11 : Int) ≤ d by omega) (by decide) (by omega)
              omega
          refine r_iload_n dX11_isPrime_25 rfl rfl ?_
          refine r_iload_n dX11_isPrime_26 rfl rfl ?_
          refine r_iremp dX11_isPrime_27 ⟨by omega, by omega⟩ ⟨by omega, by omega⟩ (by omega) (by omega) ?_
          have eb_27 := emod_bd (p) (show 0 < d by omega)
          refine r_if_eq 35 dX11_isPrime_28 (by decide) ⟨by omega, by omega⟩ (fun c_28 => ?_) (fun c_28 => ?_)
          · refine r_iconst (z := 0) dX11_isPrime_35 ?_
            refine r_istore_n (L2 := [_, _, _]) dX11_isPrime_36 rfl (nlt rfl) rfl ?_
            refine r_iinc (L2 := [_, _, _]) dX11_isPrime_37 (nlt rfl) rfl rfl ?_
            refine r_goto 14 dX11_isPrime_40 (by decide) ?_
            exact ih14 (0) (d + 1) (by omega) (by omega) (by omega) (by omega) (fun w y => y.2.2 d d2 (by omega) c_28) (fun w => by omega)
          · refine r_iconst (z := 1) dX11_isPrime_31 ?_
            refine r_goto 36 dX11_isPrime_32 (by decide) ?_
            refine r_istore_n (L2 := [_, _, _]) dX11_isPrime_36 rfl (nlt rfl) rfl ?_
            refine r_iinc (L2 := [_, _, _]) dX11_isPrime_37 (nlt rfl) rfl rfl ?_
            refine r_goto 14 dX11_isPrime_40 (by decide) ?_
            exact ih14 (1) (d + 1) (by omega) (by omega) (by omega) (by omega) (fun w => by omega) (fun w => ⟨by omega, by omega, fun t a b => by by_cases z : t = d; (rw [z]; exact c_28); exact hz3.2.2 t a (by omega)⟩)
  exact lp14 ((12 : Int) + 1).toNat (b8) (2) (by omega) (by omega) (by decide) (by decide) (fun w y => by have := y.1; have := y.2.1; omega) (fun w => ⟨by omega, by omega, fun t a b => by omega⟩)
set_option maxHeartbeats 2000000 in
set_option maxRecDepth 20000 in
theorem c_X11_prime {N : Nat} {h : Hp} {Q : QP} {tb : Nat → Int} {ln : Nat} {K : Nat → Nat} {C S : Nat → Nat → Int} {p pp : Int} {vs : Nat → Int} {sz : Nat} (hI : MDI h tb ln K C S p vs sz) (hN : 146 ≤ N) (hp : rI pp) (hQ : ∀ (r : Int) (h2 : Hp) (p2 : Int) (sz2 : Nat), SPprime pp p sz r p2 sz2 → MDI h2 tb ln K C S p2 vs sz2 → OUTM h h2 → Q (some (.int (iZ r))) N h2) : Runs mX11_prime [.ref (124), .int (iZ (pp))] N h Q := by
  obtain ⟨at_, wr, va, em, ta, ro, dg, om, ml, ms, a130, a131, a132, a133, a134, a135, a136, a137, a138, a139, a140, a141, a142, a143, a144, a145, hm0, hom, hml, hms, hbt, hnv, h130, h131, h132, h133, h134, h135, h136, h137, h138, h139, h140, h141, h142, h143, h144, h145, hMR, hlN, hbb, hPr, hs40, hvb⟩ := id hI
  have hl0 : 0 ≤ (ln : Int) := by omega
  have hl : (ln : Int) ≤ 100 := by omega
  refine run_start (own := RX11) rfl (by decide) (nle rfl) rfl (fun X hq hini => ?_)
  show G X RX11 cX11_prime mX11_prime.rm N 0 0 0 [some (.ref (124)), some (.int (iZ (pp))), none] [] h
  refine r_iload_n dX11_prime_0 rfl rfl ?_
  refine r_callS (av := [.int (iZ (pp))]) dX11_prime_1 lkX11_isPrime ml_X11_204 stX11_isPrime ⟨Nat.le_of_ble_eq_true rfl, Nat.le_of_ble_eq_true rfl⟩ rfl rfl (nle rfl) ⟨Nat.le_of_ble_eq_true rfl, Nat.le_of_ble_eq_true rfl⟩ (c_X11_isPrime (p := pp) hp (fun b1 hb1 => ?_))
  show G _ _ _ _ _ _ _ 4 _ _ _
  refine r_if_ne 9 dX11_prime_4 (by decide) (by rcases hb1 with ⟨y, _⟩ | ⟨y, _⟩ <;> exact ⟨by omega, by omega⟩) (fun c_4 => ?_) (fun c_4 => ?_)
  · refine r_aload_n dX11_prime_9 rfl rfl ?_
    refine gf_X11_221 dX11_prime_10 (by omega) hm0 rfl ?_
    refine r_istore_n (L2 := [_, _, _]) dX11_prime_13 rfl (nlt rfl) rfl ?_
    refine r_aload_n dX11_prime_14 rfl rfl ?_
    refine r_iload_n dX11_prime_15 rfl rfl ?_
    refine pf_X11_23 (fs2 := [_, _, _, _, _, _, _, _, _, _, _, _, _, _, _, _, _, _, _, _, _, _, _, _, _, _, _, _, _, _, _]) dX11_prime_16 (fun _ _ => rfl) (fun _ _ => rfl) (nlt rfl) (by omega) hm0 rfl ?_
    refine r_aload_n dX11_prime_19 rfl rfl ?_
    refine r_iconst (z := 0) dX11_prime_20 ?_
    refine pf_X11_221 (fs2 := [_, _, _, _, _, _, _, _, _, _, _, _, _, _, _, _, _, _, _, _, _, _, _, _, _, _, _, _, _, _, _]) dX11_prime_21 (fun _ _ => rfl) (fun _ _ => rfl) (nlt rfl) (by omega) hs_e rfl ?_
    refine g_heap (h2 := (hs h (124) (MOo ((ln : Int)) (pp) (0) (at_) (wr) (va) (em) (ta) (ro) (dg)))) hs_hs ?_
    refine r_iload_n dX11_prime_24 rfl rfl ?_
    refine r_ireturn hq dX11_prime_25 rfl rfl rfl ?_
    have hpr : Prm pp := by
      rcases hb1 with ⟨_, y⟩ | ⟨y, _⟩
      · exact y
      · exact absurd y c_4
    refine hQ _ _ pp 0 (Or.inr ⟨hpr, rfl, rfl, rfl⟩) ⟨_, _, _, _, _, _, _, _, _, _, _, _, _, _, _, _, _, _, _, _, _, _, _, _, _, _, hs_e, ((hs_n (by omega)).trans hom), ((hs_n (by omega)).trans hml), ((hs_n (by omega)).trans hms), ((hs_n (by omega)).trans hbt), ((hs_n (by omega)).trans hnv), ((hs_n (by omega)).trans h130), ((hs_n (by omega)).trans h131), ((hs_n (by omega)).trans h132), ((hs_n (by omega)).trans h133), ((hs_n (by omega)).trans h134), ((hs_n (by omega)).trans h135), ((hs_n (by omega)).trans h136), ((hs_n (by omega)).trans h137), ((hs_n (by omega)).trans h138), ((hs_n (by omega)).trans h139), ((hs_n (by omega)).trans h140), ((hs_n (by omega)).trans h141), ((hs_n (by omega)).trans h142), ((hs_n (by omega)).trans h143), ((hs_n (by omega)).trans h144), ((hs_n (by omega)).trans h145), hMR, hlN, hbb, hpr, (by omega), fun i hi => absurd hi (Nat.not_lt_zero i)⟩ (fun a9 h9 => ((hs_n (by omega)).trans rfl))
  · refine r_iconst (z := -1) dX11_prime_7 ?_
    refine r_ireturn hq dX11_prime_8 rfl rfl rfl ?_
    exact hQ _ h p sz (Or.inl ⟨by rcases hb1 with ⟨y, _⟩ | ⟨_, y⟩; omega; exact y, rfl, rfl, rfl⟩) hI (fun _ _ => rfl)
set_option maxHeartbeats 2000000 in
set_option maxRecDepth 20000 in
theorem c_X11_add {N : Nat} {h : Hp} {Q : QP} {tb : Nat → Int} {ln : Nat} {K : Nat → Nat} {C S : Nat → Nat → Int} {p : Int} {vs : Nat → Int} {sz : Nat} {v : Int} (hI : MDI h tb ln K C S p vs sz) (hN : 146 ≤ N) (hv : rI v) (hQ : ∀ (r : Int) (h2 : Hp) (vs2 : Nat → Int) (sz2 : Nat), SPadd v p vs sz r vs2 sz2 → MDI h2 tb ln K C S p vs2 sz2 → OUTM h h2 → Q (some (.int (iZ r))) N h2) : Runs mX11_add [.ref (124), .int (iZ (v))] N h Q := by
  obtain ⟨at_, wr, va, em, ta, ro, dg, om, ml, ms, a130, a131, a132, a133, a134, a135, a136, a137, a138, a139, a140, a141, a142, a143, a144, a145, hm0, hom, hml, hms, hbt, hnv, h130, h131, h132, h133, h134, h135, h136, h137, h138, h139, h140, h141, h142, h143, h144, h145, hMR, hlN, hbb, hPr, hs40, hvb⟩ := id hI
  have hl0 : 0 ≤ (ln : Int) := by omega
  have hl : (ln : Int) ≤ 100 := by omega
  have np1 := hPr.1
  have np2 := hPr.2.1
  have hv1 := hv.1
  have hv2 := hv.2
  refine run_start (own := RX11) rfl (by decide) (nle rfl) rfl (fun X hq hini => ?_)
  show G X RX11 cX11_add mX11_add.rm N 0 0 0 [some (.ref (124)), some (.int (iZ (v)))] [] h
  refine r_iload_n dX11_add_0 rfl rfl ?_
  refine r_i2l dX11_add_1 ⟨by omega, by omega⟩ ?_
  refine r_lconst (z := 0) dX11_add_2 (by decide) ?_
  refine r_aload_n dX11_add_3 rfl rfl ?_
  refine gf_X11_23 dX11_add_4 (by omega) hm0 rfl ?_
  refine r_iconst (z := 1) dX11_add_7 ?_
  refine r_isub dX11_add_8 ?_
  refine r_i2l dX11_add_9 ⟨by omega, by omega⟩ ?_
  refine r_callS (av := [.long (lZ (v)), .long (lZ (0)), .long (lZ (p - 1))]) dX11_add_10 lkX11_in ml_X11_80 stX11_in ⟨Nat.le_of_ble_eq_true rfl, Nat.le_of_ble_eq_true rfl⟩ rfl rfl (nle rfl) ⟨Nat.le_of_ble_eq_true rfl, Nat.le_of_ble_eq_true rfl⟩ (c_X11_in (x := v) (l := 0) (m := p - 1) ⟨by omega, by omega⟩ ⟨by decide, by decide⟩ ⟨by omega, by omega⟩ (fun b10 hb10 => ?_))
  show G _ _ _ _ _ _ _ 13 _ _ _
  refine r_if_ne 18 dX11_add_13 (by decide) (by rcases hb10 with ⟨y, _⟩ | ⟨y, _⟩ <;> exact ⟨by omega, by omega⟩) (fun c_13 => ?_) (fun c_13 => ?_)
  · refine r_aload_n dX11_add_18 rfl rfl ?_
    refine gf_X11_221 dX11_add_19 (by omega) hm0 rfl ?_
    refine r_bipush (z := 40) dX11_add_22 (by decide) ?_
    refine r_icmp_ne 30 dX11_add_24 (by decide) ⟨by omega, by omega⟩ ⟨by decide, by decide⟩ (fun c_24 => ?_) (fun c_24 => ?_)
    · refine r_aload_n dX11_add_30 rfl rfl ?_
      refine gf_X11_27 dX11_add_31 (by omega) hm0 rfl ?_
      refine r_aload_n dX11_add_34 rfl rfl ?_
      refine gf_X11_221 dX11_add_35 (by omega) hm0 rfl ?_
      refine r_iload_n dX11_add_38 rfl rfl ?_
      refine r_iastore dX11_add_39 (by omega) hnv (by omega) (by omega) (by decide) ?_
      refine r_aload_n dX11_add_40 rfl rfl ?_
      refine r_dup dX11_add_41 rfl ?_
      refine gf_X11_221 dX11_add_42 (by omega) ((hs_n (by omega)).trans hm0) rfl ?_
      refine r_iconst (z := 1) dX11_add_45 ?_
      refine r_iadd dX11_add_46 ?_
      refine pf_X11_221 (fs2 := [_, _, _, _, _, _, _, _, _, _, _, _, _, _, _, _, _, _, _, _, _, _, _, _, _, _, _, _, _, _, _]) dX11_add_47 (fun _ _ => rfl) (fun _ _ => rfl) (nlt rfl) (by omega) ((hs_n (by omega)).trans hm0) rfl ?_
      refine r_aload_n dX11_add_50 rfl rfl ?_
      refine gf_X11_221 dX11_add_51 (by omega) hs_e rfl ?_
      refine r_ireturn hq dX11_add_54 rfl rfl rfl ?_
      rw [show ((sz : Int)).toNat = sz by omega, show (sz : Int) + 1 = ((sz + 1 : Nat) : Int) by omega]
      refine hQ _ _ _ (sz + 1) (Or.inr (Or.inr ⟨by omega, by omega, by omega, by omega, rfl, rfl⟩)) ⟨_, _, _, _, _, _, _, _, _, _, _, _, _, _, _, _, _, _, _, _, _, _, _, _, _, _, hs_e, ((hs_n (by omega)).trans ((hs_n (by omega)).trans hom)), ((hs_n (by omega)).trans ((hs_n (by omega)).trans hml)), ((hs_n (by omega)).trans ((hs_n (by omega)).trans hms)), ((hs_n (by omega)).trans ((hs_n (by omega)).trans hbt)), ((hs_n (by omega)).trans hs_e), ((hs_n (by omega)).trans ((hs_n (by omega)).trans h130)), ((hs_n (by omega)).trans ((hs_n (by omega)).trans h131)), ((hs_n (by omega)).trans ((hs_n (by omega)).trans h132)), ((hs_n (by omega)).trans ((hs_n (by omega)).trans h133)), ((hs_n (by omega)).trans ((hs_n (by omega)).trans h134)), ((hs_n (by omega)).trans ((hs_n (by omega)).trans h135)), ((hs_n (by omega)).trans ((hs_n (by omega)).trans h136)), ((hs_n (by omega)).trans ((hs_n (by omega)).trans h137)), ((hs_n (by omega)).trans ((hs_n (by omega)).trans h138)), ((hs_n (by omega)).trans ((hs_n (by omega)).trans h139)), ((hs_n (by omega)).trans ((hs_n (by omega)).trans h140)), ((hs_n (by omega)).trans ((hs_n (by omega)).trans h141)), ((hs_n (by omega)).trans ((hs_n (by omega)).trans h142)), ((hs_n (by omega)).trans ((hs_n (by omega)).trans h143)), ((hs_n (by omega)).trans ((hs_n (by omega)).trans h144)), ((hs_n (by omega)).trans ((hs_n (by omega)).trans h145)), hMR, hlN, hbb, hPr, (by omega), fun i hi => by by_cases w : i = sz; (rw [w, uA_e]; omega); rw [uA_n w]; exact hvb i (by omega)⟩ (fun a9 h9 => ((hs_n (by omega)).trans ((hs_n (by omega)).trans rfl)))
    · refine r_bipush (z := -3) dX11_add_27 (by decide) ?_
      refine r_ireturn hq dX11_add_29 rfl rfl rfl ?_
      exact hQ _ h vs sz (Or.inr (Or.inl ⟨by omega, by omega, by omega, rfl, rfl, rfl⟩)) hI (fun _ _ => rfl)
  · refine r_iconst (z := -1) dX11_add_16 ?_
    refine r_ireturn hq dX11_add_17 rfl rfl rfl ?_
    exact hQ _ h vs sz (Or.inl ⟨by omega, rfl, rfl, rfl⟩) hI (fun _ _ => rfl)
set_option maxHeartbeats 4000000 in
set_option maxRecDepth 20000 in
theorem c_X11_same {N : Nat} {h : Hp} {Q : QP} {tb : Nat → Int} {ln : Nat} {K : Nat → Nat} {C S : Nat → Nat → Int} {p : Int} {vs : Nat → Int} {sz : Nat} {x y : Int} (hI : MDI h tb ln K C S p vs sz) (hN : 146 ≤ N) (hx : rI x) (hy : rI y) (hQ : ∀ (r : Int) (h2 : Hp), SPsame x y K C S r → MDI h2 tb ln K C S p vs sz → OUTM h h2 → Q (some (.int (iZ r))) N h2) : Runs mX11_same [.ref (124), .int (iZ (x)), .int (iZ (y))] N h Q := by
  obtain ⟨at_, wr, va, em, ta, ro, dg, om, ml, ms, a130, a131, a132, a133, a134, a135, a136, a137, a138, a139, a140, a141, a142, a143, a144, a145, hm0, hom, hml, hms, hbt, hnv, h130, h131, h132, h133, h134, h135, h136, h137, h138, h139, h140, h141, h142, h143, h144, h145, hMR, hlN, hbb, hPr, hs40, hvb⟩ := id hI
  have hl0 : 0 ≤ (ln : Int) := by omega
  have hl : (ln : Int) ≤ 100 := by omega
  refine run_start (own := RX11) rfl (by decide) (nle rfl) rfl (fun X hq hini => ?_)
  show G X RX11 cX11_same mX11_same.rm N 0 0 0 [some (.ref (124)), some (.int (iZ (x))), some (.int (iZ (y))), none, none, none, none] [] h
  refine r_iload_n dX11_same_0 rfl rfl ?_
  refine r_callS (av := [.int (iZ (x))]) dX11_same_1 lkX11_isReg ml_X11_127 stX11_isReg ⟨Nat.le_of_ble_eq_true rfl, Nat.le_of_ble_eq_true rfl⟩ rfl rfl (nle rfl) ⟨Nat.le_of_ble_eq_true rfl, Nat.le_of_ble_eq_true rfl⟩ (c_X11_isReg (x := x) hx (fun b1 hb1 => ?_))
  show G _ _ _ _ _ _ _ 4 _ _ _
  refine r_if_eq 14 dX11_same_4 (by decide) (by rcases hb1 with ⟨y, _⟩ | ⟨y, _⟩ <;> exact ⟨by omega, by omega⟩) (fun c_4 => ?_) (fun c_4 => ?_)
  · refine r_iconst (z := -1) dX11_same_14 ?_
    refine r_ireturn hq dX11_same_15 rfl rfl rfl ?_
    exact hQ _ h (Or.inl ⟨by omega, rfl⟩) hI (fun _ _ => rfl)
  · refine r_iload_n dX11_same_7 rfl rfl ?_
    refine r_callS (av := [.int (iZ (y))]) dX11_same_8 lkX11_isReg ml_X11_127 stX11_isReg ⟨Nat.le_of_ble_eq_true rfl, Nat.le_of_ble_eq_true rfl⟩ rfl rfl (nle rfl) ⟨Nat.le_of_ble_eq_true rfl, Nat.le_of_ble_eq_true rfl⟩ (c_X11_isReg (x := y) hy (fun b8 hb8 => ?_))
    show G _ _ _ _ _ _ _ 11 _ _ _
    refine r_if_ne 16 dX11_same_11 (by decide) (by rcases hb8 with ⟨y, _⟩ | ⟨y, _⟩ <;> exact ⟨by omega, by omega⟩) (fun c_11 => ?_) (fun c_11 => ?_)
    · obtain ⟨hg1, hg2, hg3, hg4, hg5⟩ := (hMR x.toNat (by omega)).1
      obtain ⟨hq1, hq2, hq3, hq4, hq5⟩ := (hMR y.toNat (by omega)).1
      refine r_aload_n dX11_same_16 rfl rfl ?_
      refine gf_X11_7 dX11_same_17 (by omega) hm0 rfl ?_
      refine r_iload_n dX11_same_20 rfl rfl ?_
      refine r_iaload dX11_same_21 (by omega) hom (by omega) (by omega) (by decide) ?_
      refine r_aload_n dX11_same_22 rfl rfl ?_
      refine gf_X11_7 dX11_same_23 (by omega) hm0 rfl ?_
      refine r_iload_n dX11_same_26 rfl rfl ?_
      refine r_iaload dX11_same_27 (by omega) hom (by omega) (by omega) (by decide) ?_
      refine r_iadd dX11_same_28 ?_
      refine r_istore_n (L2 := [_, _, _, _, none, none, none]) dX11_same_29 rfl (nlt rfl) rfl ?_
      refine r_aload_n dX11_same_30 rfl rfl ?_
      refine r_iload_n dX11_same_31 rfl rfl ?_
      refine r_iload_n dX11_same_32 rfl rfl ?_
      refine r_iconst (z := 1) dX11_same_33 ?_
      refine r_isub dX11_same_34 ?_
      refine r_callV (av := [.int (iZ (x)), .int (iZ (((om (x).toNat) + (om (y).toNat)) - 1))]) dX11_same_35 lkX11_layExact ml_X11_150 imX11_layExact seX11_layExact (by omega) (rfl : vwCl[11]? = _) ⟨_, hm0⟩ ⟨Nat.le_of_ble_eq_true rfl, Nat.le_of_ble_eq_true rfl⟩ rfl rfl (nle rfl) ⟨Nat.le_of_ble_eq_true rfl, Nat.le_of_ble_eq_true rfl⟩ (c_X11_layExact (r := x.toNat) (k := K x.toNat) (c := C x.toNat) (s := S x.toNat) (last := (K x.toNat + K y.toNat - 1)) (om := om) (ml := ml) (ms := ms) (ex0 := a130) (ln := (ln : Int)) (pr := p) (nm := (sz : Int)) (at_ := at_) (wr := wr) (va := va) (em := em) (ta := ta) (ro := ro) (dg := dg) hm0 hN hom hml hms h130 (hMR x.toNat (by omega)).1 (by omega) (by omega) (by omega) (by omega) (fun t35 X35 hT35 hX35 => ?_))
      show G _ _ _ _ _ _ _ 38 _ _ _
      rw [show K x.toNat + K y.toNat - 1 + 1 = K x.toNat + K y.toNat by omega] at hT35
      have tle1 := hT35.1
      refine r_istore (L2 := [_, _, _, _, _, none, none]) dX11_same_38 (nlt rfl) rfl ?_
      refine r_iconst (z := 0) dX11_same_40 ?_
      refine r_istore (L2 := [_, _, _, _, _, _, none]) dX11_same_41 (nlt rfl) rfl ?_
      have lp43 : ∀ (fu43 : Nat) (fx : Nat → Int) (i : Int) (j : Nat), (14 - i) < (fu43 : Int) → (i = (j : Int)) → (j ≤ t35) → (∀ u, u < j → fx u = ex (K x.toNat) (C x.toNat) (S x.toNat) u) → G X RX11 cX11_same mX11_same.rm N 0 0 43 [some (.ref (124)), some (.int (iZ (x))), some (.int (iZ (y))), some (.int (iZ ((om (x).toNat) + (om (y).toNat)))), some (.int (iZ ((t35 : Int)))), some (.int (iZ (i))), none] [] (hs (hs (hs h (124) (MOo ((ln : Int)) (p) ((sz : Int)) (at_) (wr) (va) ((t35 : Int)) (ta) (ro) (dg))) (130) (aL 2001 (X35))) (142) (aL 100 (fx))) := by
        intro fu43
        induction fu43 with
        | zero => intro fx i j hm ei jl hfx; exfalso; omega
        | succ fu43 ih43 =>
          intro fx i j hms43 ei jl hfx
          refine r_iload dX11_same_43 rfl ?_
          refine r_iload dX11_same_45 rfl ?_
          refine r_icmp_ge 70 dX11_same_47 (by decide) ⟨by omega, by omega⟩ ⟨by omega, by omega⟩ (fun c_47 => ?_) (fun c_47 => ?_)
          · refine r_aload_n dX11_same_70 rfl rfl ?_
            refine r_iload_n dX11_same_71 rfl rfl ?_
            refine r_iload_n dX11_same_72 rfl rfl ?_
            refine r_iconst (z := 1) dX11_same_73 ?_
            refine r_isub dX11_same_74 ?_
            refine r_callV (av := [.int (iZ (y)), .int (iZ (((om (x).toNat) + (om (y).toNat)) - 1))]) dX11_same_75 lkX11_layExact ml_X11_150 imX11_layExact seX11_layExact (by omega) (rfl : vwCl[11]? = _) ⟨_, ((hs_n (by omega)).trans ((hs_n (by omega)).trans hs_e))⟩ ⟨Nat.le_of_ble_eq_true rfl, Nat.le_of_ble_eq_true rfl⟩ rfl rfl (nle rfl) ⟨Nat.le_of_ble_eq_true rfl, Nat.le_of_ble_eq_true rfl⟩ (c_X11_layExact (r := y.toNat) (k := K y.toNat) (c := C y.toNat) (s := S y.toNat) (last := (K x.toNat + K y.toNat - 1)) (om := om) (ml := ml) (ms := ms) (ex0 := X35) (ln := (ln : Int)) (pr := p) (nm := (sz : Int)) (at_ := at_) (wr := wr) (va := va) (em := (t35 : Int)) (ta := ta) (ro := ro) (dg := dg) ((hs_n (by omega)).trans ((hs_n (by omega)).trans hs_e)) hN ((hs_n (by omega)).trans ((hs_n (by omega)).trans ((hs_n (by omega)).trans hom))) ((hs_n (by omega)).trans ((hs_n (by omega)).trans ((hs_n (by omega)).trans hml))) ((hs_n (by omega)).trans ((hs_n (by omega)).trans ((hs_n (by omega)).trans hms))) ((hs_n (by omega)).trans hs_e) (hMR y.toNat (by omega)).1 (by omega) (by omega) (by omega) (by omega) (fun t75 X75 hT75 hX75 => ?_))
            refine g_heap (h2 := (hs (hs (hs h (124) (MOo ((ln : Int)) (p) ((sz : Int)) (at_) (wr) (va) ((t75 : Int)) (ta) (ro) (dg))) (130) (aL 2001 (X75))) (142) (aL 100 (fx)))) ((congrArg (fun x9 => hs x9 (130) (aL 2001 (X75))) (hs_put (by omega) (hs_put (by omega) hs_hs))).trans (hs_put (by omega) hs_hs)) ?_
            show G _ _ _ _ _ _ _ 78 _ _ _
            rw [show K x.toNat + K y.toNat - 1 + 1 = K x.toNat + K y.toNat by omega] at hT75
            have tle2 := hT75.1
            refine r_istore (L2 := [_, _, _, _, _, _, none]) dX11_same_78 (nlt rfl) rfl ?_
            refine r_iconst (z := 0) dX11_same_80 ?_
            refine r_istore (L2 := [_, _, _, _, _, _, _]) dX11_same_81 (nlt rfl) rfl ?_
            have lp83 : ∀ (fu83 : Nat) (n : Int) (u : Nat), (14 - n) < (fu83 : Int) → (n = (u : Int)) → (u ≤ min t35 t75) → (∀ q, q < u → ex (K x.toNat) (C x.toNat) (S x.toNat) q = ex (K y.toNat) (C y.toNat) (S y.toNat) q) → G X RX11 cX11_same mX11_same.rm N 0 0 83 [some (.ref (124)), some (.int (iZ (x))), some (.int (iZ (y))), some (.int (iZ ((om (x).toNat) + (om (y).toNat)))), some (.int (iZ ((t35 : Int)))), some (.int (iZ ((t75 : Int)))), some (.int (iZ (n)))] [] (hs (hs (hs h (124) (MOo ((ln : Int)) (p) ((sz : Int)) (at_) (wr) (va) ((t75 : Int)) (ta) (ro) (dg))) (130) (aL 2001 (X75))) (142) (aL 100 (fx))) := by
              intro fu83
              induction fu83 with
              | zero => intro n u hm en ul hal; exfalso; omega
              | succ fu83 ih83 =>
                intro n u hms83 en ul hal
                refine r_iload dX11_same_83 rfl ?_
                refine r_iload_n dX11_same_85 rfl rfl ?_
                refine r_icmp_ge 132 dX11_same_86 (by decide) ⟨by omega, by omega⟩ ⟨by omega, by omega⟩ (fun c_86 => ?_) (fun c_86 => ?_)
                · refine r_iconst (z := 1) dX11_same_132 ?_
                  refine r_ireturn hq dX11_same_133 rfl rfl rfl ?_
                  refine hQ _ _ (Or.inr ⟨by omega, by omega, by omega, by omega, t35, t75, hT35, hT75, Or.inr ⟨fun q hq => hal q (by omega), Or.inr ⟨by omega, rfl⟩⟩⟩) ⟨_, _, _, _, _, _, _, _, _, _, _, _, _, _, _, _, _, _, _, _, _, _, _, _, _, _, ((hs_n (by omega)).trans ((hs_n (by omega)).trans hs_e)), ((hs_n (by omega)).trans ((hs_n (by omega)).trans ((hs_n (by omega)).trans hom))), ((hs_n (by omega)).trans ((hs_n (by omega)).trans ((hs_n (by omega)).trans hml))), ((hs_n (by omega)).trans ((hs_n (by omega)).trans ((hs_n (by omega)).trans hms))), ((hs_n (by omega)).trans ((hs_n (by omega)).trans ((hs_n (by omega)).trans hbt))), ((hs_n (by omega)).trans ((hs_n (by omega)).trans ((hs_n (by omega)).trans hnv))), ((hs_n (by omega)).trans hs_e), ((hs_n (by omega)).trans ((hs_n (by omega)).trans ((hs_n (by omega)).trans h131))), ((hs_n (by omega)).trans ((hs_n (by omega)).trans ((hs_n (by omega)).trans h132))), ((hs_n (by omega)).trans ((hs_n (by omega)).trans ((hs_n (by omega)).trans h133))), ((hs_n (by omega)).trans ((hs_n (by omega)).trans ((hs_n (by omega)).trans h134))), ((hs_n (by omega)).trans ((hs_n (by omega)).trans ((hs_n (by omega)).trans h135))), ((hs_n (by omega)).trans ((hs_n (by omega)).trans ((hs_n (by omega)).trans h136))), ((hs_n (by omega)).trans ((hs_n (by omega)).trans ((hs_n (by omega)).trans h137))), ((hs_n (by omega)).trans ((hs_n (by omega)).trans ((hs_n (by omega)).trans h138))), ((hs_n (by omega)).trans ((hs_n (by omega)).trans ((hs_n (by omega)).trans h139))), ((hs_n (by omega)).trans ((hs_n (by omega)).trans ((hs_n (by omega)).trans h140))), ((hs_n (by omega)).trans ((hs_n (by omega)).trans ((hs_n (by omega)).trans h141))), hs_e, ((hs_n (by omega)).trans ((hs_n (by omega)).trans ((hs_n (by omega)).trans h143))), ((hs_n (by omega)).trans ((hs_n (by omega)).trans ((hs_n (by omega)).trans h144))), ((hs_n (by omega)).trans ((hs_n (by omega)).trans ((hs_n (by omega)).trans h145))), hMR, hlN, hbb, hPr, hs40, hvb⟩ (fun a9 h9 => ((hs_n (by omega)).trans ((hs_n (by omega)).trans ((hs_n (by omega)).trans rfl))))
                · refine r_iload dX11_same_89 rfl ?_
                  refine r_iload dX11_same_91 rfl ?_
                  refine r_icmp_ge 103 dX11_same_93 (by decide) ⟨by omega, by omega⟩ ⟨by omega, by omega⟩ (fun c_93 => ?_) (fun c_93 => ?_)
                  · refine r_bipush (z := -5) dX11_same_103 (by decide) ?_
                    refine r_ireturn hq dX11_same_105 rfl rfl rfl ?_
                    refine hQ _ _ (Or.inr ⟨by omega, by omega, by omega, by omega, t35, t75, hT35, hT75, Or.inr ⟨fun q hq => hal q (by omega), Or.inl ⟨by omega, rfl⟩⟩⟩) ⟨_, _, _, _, _, _, _, _, _, _, _, _, _, _, _, _, _, _, _, _, _, _, _, _, _, _, ((hs_n (by omega)).trans ((hs_n (by omega)).trans hs_e)), ((hs_n (by omega)).trans ((hs_n (by omega)).trans ((hs_n (by omega)).trans hom))), ((hs_n (by omega)).trans ((hs_n (by omega)).trans ((hs_n (by omega)).trans hml))), ((hs_n (by omega)).trans ((hs_n (by omega)).trans ((hs_n (by omega)).trans hms))), ((hs_n (by omega)).trans ((hs_n (by omega)).trans ((hs_n (by omega)).trans hbt))), ((hs_n (by omega)).trans ((hs_n (by omega)).trans ((hs_n (by omega)).trans hnv))), ((hs_n (by omega)).trans hs_e), ((hs_n (by omega)).trans ((hs_n (by omega)).trans ((hs_n (by omega)).trans h131))), ((hs_n (by omega)).trans ((hs_n (by omega)).trans ((hs_n (by omega)).trans h132))), ((hs_n (by omega)).trans ((hs_n (by omega)).trans ((hs_n (by omega)).trans h133))), ((hs_n (by omega)).trans ((hs_n (by omega)).trans ((hs_n (by omega)).trans h134))), ((hs_n (by omega)).trans ((hs_n (by omega)).trans ((hs_n (by omega)).trans h135))), ((hs_n (by omega)).trans ((hs_n (by omega)).trans ((hs_n (by omega)).trans h136))), ((hs_n (by omega)).trans ((hs_n (by omega)).trans ((hs_n (by omega)).trans h137))), ((hs_n (by omega)).trans ((hs_n (by omega)).trans ((hs_n (by omega)).trans h138))), ((hs_n (by omega)).trans ((hs_n (by omega)).trans ((hs_n (by omega)).trans h139))), ((hs_n (by omega)).trans ((hs_n (by omega)).trans ((hs_n (by omega)).trans h140))), ((hs_n (by omega)).trans ((hs_n (by omega)).trans ((hs_n (by omega)).trans h141))), hs_e, ((hs_n (by omega)).trans ((hs_n (by omega)).trans ((hs_n (by omega)).trans h143))), ((hs_n (by omega)).trans ((hs_n (by omega)).trans ((hs_n (by omega)).trans h144))), ((hs_n (by omega)).trans ((hs_n (by omega)).trans ((hs_n (by omega)).trans h145))), hMR, hlN, hbb, hPr, hs40, hvb⟩ (fun a9 h9 => ((hs_n (by omega)).trans ((hs_n (by omega)).trans ((hs_n (by omega)).trans rfl))))
                  · refine r_iload dX11_same_96 rfl ?_
                    refine r_iload dX11_same_98 rfl ?_
                    refine r_icmp_lt 106 dX11_same_100 (by decide) ⟨by omega, by omega⟩ ⟨by omega, by omega⟩ (fun c_100 => ?_) (fun c_100 => ?_)
                    · have ein2 : n.toNat = u := by omega
                      have ea : fx n.toNat = ex (K x.toNat) (C x.toNat) (S x.toNat) u := by rw [ein2]; exact hfx u (by omega)
                      have ta := hT35.2.1 u (by omega)
                      have ta1 := ta.1
                      have ta2 := ta.2
                      rw [← ea] at ta1 ta2
                      have eb : X75 n.toNat = ex (K y.toNat) (C y.toNat) (S y.toNat) u := by rw [ein2]; exact hX75 u (by omega)
                      have tb9 := hT75.2.1 u (by omega)
                      have tb1 := tb9.1
                      have tb2 := tb9.2
                      rw [← eb] at tb1 tb2
                      refine r_aload_n dX11_same_106 rfl rfl ?_
                      refine gf_X11_66 dX11_same_107 (by omega) ((hs_n (by omega)).trans ((hs_n (by omega)).trans hs_e)) rfl ?_
                      refine r_iload dX11_same_110 rfl ?_
                      refine r_laload dX11_same_112 (by omega) hs_e (by omega) (by omega) (by decide) ?_
                      refine r_aload_n dX11_same_113 rfl rfl ?_
                      refine gf_X11_30 dX11_same_114 (by omega) ((hs_n (by omega)).trans ((hs_n (by omega)).trans hs_e)) rfl ?_
                      refine r_iload dX11_same_117 rfl ?_
                      refine r_laload dX11_same_119 (by omega) ((hs_n (by omega)).trans hs_e) (by omega) (by omega) (by decide) ?_
                      refine r_lcmp_eq 126 dX11_same_120 dX11_same_121 (by decide) ⟨by omega, by omega⟩ ⟨by omega, by omega⟩ (fun c_120 => ?_) (fun c_120 => ?_)
                      · refine r_iinc (L2 := [_, _, _, _, _, _, _]) dX11_same_126 (nlt rfl) rfl rfl ?_
                        refine r_goto 83 dX11_same_129 (by decide) ?_
                        exact ih83 (n + 1) ((u + 1)) (by omega) (by omega) (by omega) (fun q hq => by by_cases z : q = u; (rw [z, ← ea, ← eb]; exact c_120); exact hal q (by omega))
                      · refine r_iconst (z := 0) dX11_same_124 ?_
                        refine r_ireturn hq dX11_same_125 rfl rfl rfl ?_
                        refine hQ _ _ (Or.inr ⟨by omega, by omega, by omega, by omega, t35, t75, hT35, hT75, Or.inl ⟨u, by omega, by rw [← ea, ← eb]; exact c_120, rfl⟩⟩) ⟨_, _, _, _, _, _, _, _, _, _, _, _, _, _, _, _, _, _, _, _, _, _, _, _, _, _, ((hs_n (by omega)).trans ((hs_n (by omega)).trans hs_e)), ((hs_n (by omega)).trans ((hs_n (by omega)).trans ((hs_n (by omega)).trans hom))), ((hs_n (by omega)).trans ((hs_n (by omega)).trans ((hs_n (by omega)).trans hml))), ((hs_n (by omega)).trans ((hs_n (by omega)).trans ((hs_n (by omega)).trans hms))), ((hs_n (by omega)).trans ((hs_n (by omega)).trans ((hs_n (by omega)).trans hbt))), ((hs_n (by omega)).trans ((hs_n (by omega)).trans ((hs_n (by omega)).trans hnv))), ((hs_n (by omega)).trans hs_e), ((hs_n (by omega)).trans ((hs_n (by omega)).trans ((hs_n (by omega)).trans h131))), ((hs_n (by omega)).trans ((hs_n (by omega)).trans ((hs_n (by omega)).trans h132))), ((hs_n (by omega)).trans ((hs_n (by omega)).trans ((hs_n (by omega)).trans h133))), ((hs_n (by omega)).trans ((hs_n (by omega)).trans ((hs_n (by omega)).trans h134))), ((hs_n (by omega)).trans ((hs_n (by omega)).trans ((hs_n (by omega)).trans h135))), ((hs_n (by omega)).trans ((hs_n (by omega)).trans ((hs_n (by omega)).trans h136))), ((hs_n (by omega)).trans ((hs_n (by omega)).trans ((hs_n (by omega)).trans h137))), ((hs_n (by omega)).trans ((hs_n (by omega)).trans ((hs_n (by omega)).trans h138))), ((hs_n (by omega)).trans ((hs_n (by omega)).trans ((hs_n (by omega)).trans h139))), ((hs_n (by omega)).trans ((hs_n (by omega)).trans ((hs_n (by omega)).trans h140))), ((hs_n (by omega)).trans ((hs_n (by omega)).trans ((hs_n (by omega)).trans h141))), hs_e, ((hs_n (by omega)).trans ((hs_n (by omega)).trans ((hs_n (by omega)).trans h143))), ((hs_n (by omega)).trans ((hs_n (by omega)).trans ((hs_n (by omega)).trans h144))), ((hs_n (by omega)).trans ((hs_n (by omega)).trans ((hs_n (by omega)).trans h145))), hMR, hlN, hbb, hPr, hs40, hvb⟩ (fun a9 h9 => ((hs_n (by omega)).trans ((hs_n (by omega)).trans ((hs_n (by omega)).trans rfl))))
                    · refine r_bipush (z := -5) dX11_same_103 (by decide) ?_
                      refine r_ireturn hq dX11_same_105 rfl rfl rfl ?_
                      refine hQ _ _ (Or.inr ⟨by omega, by omega, by omega, by omega, t35, t75, hT35, hT75, Or.inr ⟨fun q hq => hal q (by omega), Or.inl ⟨by omega, rfl⟩⟩⟩) ⟨_, _, _, _, _, _, _, _, _, _, _, _, _, _, _, _, _, _, _, _, _, _, _, _, _, _, ((hs_n (by omega)).trans ((hs_n (by omega)).trans hs_e)), ((hs_n (by omega)).trans ((hs_n (by omega)).trans ((hs_n (by omega)).trans hom))), ((hs_n (by omega)).trans ((hs_n (by omega)).trans ((hs_n (by omega)).trans hml))), ((hs_n (by omega)).trans ((hs_n (by omega)).trans ((hs_n (by omega)).trans hms))), ((hs_n (by omega)).trans ((hs_n (by omega)).trans ((hs_n (by omega)).trans hbt))), ((hs_n (by omega)).trans ((hs_n (by omega)).trans ((hs_n (by omega)).trans hnv))), ((hs_n (by omega)).trans hs_e), ((hs_n (by omega)).trans ((hs_n (by omega)).trans ((hs_n (by omega)).trans h131))), ((hs_n (by omega)).trans ((hs_n (by omega)).trans ((hs_n (by omega)).trans h132))), ((hs_n (by omega)).trans ((hs_n (by omega)).trans ((hs_n (by omega)).trans h133))), ((hs_n (by omega)).trans ((hs_n (by omega)).trans ((hs_n (by omega)).trans h134))), ((hs_n (by omega)).trans ((hs_n (by omega)).trans ((hs_n (by omega)).trans h135))), ((hs_n (by omega)).trans ((hs_n (by omega)).trans ((hs_n (by omega)).trans h136))), ((hs_n (by omega)).trans ((hs_n (by omega)).trans ((hs_n (by omega)).trans h137))), ((hs_n (by omega)).trans ((hs_n (by omega)).trans ((hs_n (by omega)).trans h138))), ((hs_n (by omega)).trans ((hs_n (by omega)).trans ((hs_n (by omega)).trans h139))), ((hs_n (by omega)).trans ((hs_n (by omega)).trans ((hs_n (by omega)).trans h140))), ((hs_n (by omega)).trans ((hs_n (by omega)).trans ((hs_n (by omega)).trans h141))), hs_e, ((hs_n (by omega)).trans ((hs_n (by omega)).trans ((hs_n (by omega)).trans h143))), ((hs_n (by omega)).trans ((hs_n (by omega)).trans ((hs_n (by omega)).trans h144))), ((hs_n (by omega)).trans ((hs_n (by omega)).trans ((hs_n (by omega)).trans h145))), hMR, hlN, hbb, hPr, hs40, hvb⟩ (fun a9 h9 => ((hs_n (by omega)).trans ((hs_n (by omega)).trans ((hs_n (by omega)).trans rfl))))
            exact lp83 ((14 : Int) + 1).toNat (0) (0) (by omega) rfl (Nat.zero_le _) (fun q hq => absurd hq (Nat.not_lt_zero q))
          · have ein : i.toNat = j := by omega
            refine r_aload_n dX11_same_50 rfl rfl ?_
            refine gf_X11_66 dX11_same_51 (by omega) ((hs_n (by omega)).trans ((hs_n (by omega)).trans hs_e)) rfl ?_
            refine r_iload dX11_same_54 rfl ?_
            refine r_aload_n dX11_same_56 rfl rfl ?_
            refine gf_X11_30 dX11_same_57 (by omega) ((hs_n (by omega)).trans ((hs_n (by omega)).trans hs_e)) rfl ?_
            refine r_iload dX11_same_60 rfl ?_
            refine r_laload dX11_same_62 (by omega) ((hs_n (by omega)).trans hs_e) (by omega) (by omega) (by decide) ?_
            refine r_lastore dX11_same_63 (by omega) hs_e (by omega) (by omega) (by decide) ?_
            refine g_heap (h2 := (hs (hs (hs h (124) (MOo ((ln : Int)) (p) ((sz : Int)) (at_) (wr) (va) ((t35 : Int)) (ta) (ro) (dg))) (130) (aL 2001 (X35))) (142) (aL 100 (uA (fx) (i).toNat (X35 (i).toNat))))) hs_hs ?_
            refine r_iinc (L2 := [_, _, _, _, _, _, none]) dX11_same_64 (nlt rfl) rfl rfl ?_
            refine r_goto 43 dX11_same_67 (by decide) ?_
            exact ih43 (uA (fx) (i).toNat (X35 (i).toNat)) (i + 1) ((j + 1)) (by omega) (by omega) (by omega) (fun u hu => by rw [ein]; by_cases z : u = j; (rw [z, uA_e]; exact hX35 j (by omega)); rw [uA_n z]; exact hfx u (by omega))
      refine g_heap (hs_id (c := aL 100 (a142)) ((hs_n (by omega)).trans ((hs_n (by omega)).trans h142))).symm ?_
      exact lp43 ((14 : Int) + 1).toNat (a142) (0) (0) (by omega) rfl (Nat.zero_le _) (fun u hu => absurd hu (Nat.not_lt_zero u))
    · refine r_iconst (z := -1) dX11_same_14 ?_
      refine r_ireturn hq dX11_same_15 rfl rfl rfl ?_
      exact hQ _ h (Or.inl ⟨by omega, rfl⟩) hI (fun _ _ => rfl)
