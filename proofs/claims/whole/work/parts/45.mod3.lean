set_option maxHeartbeats 8000000 in
set_option maxRecDepth 20000 in
theorem c_X11_readAll {N : Nat} {h : Hp} {Q : QP} {ln pr nm at_ wr va em ta ro dg : Int} {b : Nat → Int} {om ml ms : Nat → Int} (hm0 : h 124 = MOo ln pr nm at_ wr va em ta ro dg) (hN : 146 ≤ N) (hbt : h 128 = aI 100 b) (hbb : ∀ j, j < 100 → 0 ≤ b j ∧ b j ≤ 255) (hl0 : 0 ≤ ln) (hl : ln ≤ 100) (hom : h 125 = aI 7 om) (hml : h 126 = aL 42 ml) (hms : h 127 = aL 42 ms) (hQ : ∀ (r : Int) (k2 : Nat) (c2 s2 : Nat → Int) (om2 ml2 ms2 : Nat → Int) (at2 wr2 va2 : Int), Par ln b r k2 c2 s2 → (r = -4 → om2 6 = (k2 : Int) ∧ (∀ j, 1 ≤ j → j ≤ k2 → ml2 (36 + j - 1) = c2 j) ∧ ∀ j, j < k2 → ms2 (36 + j) = s2 j) → (∀ j, j < 6 → om2 j = om j) → (∀ j, j < 36 → ml2 j = ml j) → (∀ j, j < 36 → ms2 j = ms j) → Q (some (.int (iZ r))) N (hs (hs (hs (hs h 124 (MOo ln pr nm at2 wr2 va2 em ta ro dg)) 126 (aL 42 ml2)) 125 (aI 7 om2)) 127 (aL 42 ms2))) : Runs mX11_readAll [.ref (124)] N h Q := by
  refine run_start (own := RX11) rfl (by decide) (nle rfl) rfl (fun X hq hini => ?_)
  show G X RX11 cX11_readAll mX11_readAll.rm N 0 0 0 [some (.ref (124)), none, none, none, none] [] h
  refine r_aload_n dX11_readAll_0 rfl rfl ?_
  refine r_iconst (z := 0) dX11_readAll_1 ?_
  refine pf_X11_99 (fs2 := [_, _, _, _, _, _, _, _, _, _, _, _, _, _, _, _, _, _, _, _, _, _, _, _, _, _, _, _, _, _, _]) dX11_readAll_2 (fun _ _ => rfl) (fun _ _ => rfl) (nlt rfl) (by omega) hm0 rfl ?_
  refine r_iconst (z := 0) dX11_readAll_5 ?_
  refine r_istore_n (L2 := [_, _, none, none, none]) dX11_readAll_6 rfl (nlt rfl) rfl ?_
  refine r_iconst (z := 1) dX11_readAll_7 ?_
  refine r_istore_n (L2 := [_, _, _, none, none]) dX11_readAll_8 rfl (nlt rfl) rfl ?_
  have lp9 : ∀ (fu9 : Nat) (at1 : Int) (wr1 : Int) (va1 : Int) (ml1 : Nat → Int) (kk : Int) (mo : Int) (n : Nat) (cg : Nat → Int), (8 - kk) < (fu9 : Int) → (kk = (n : Int)) → (n ≤ 6) → (mo = 0 ∨ mo = 1) → (0 ≤ at1) → (at1 ≤ ln) → (mo = 1 → n ≤ 5 ∧ ∀ (r : Int) (k2 : Nat) (c2 : Nat → Int) (st : Int), LawP ln b (6 - n) n at1 cg r k2 c2 st → LawP ln b 6 0 0 (fun _ => 0) r k2 c2 st) → (mo = 0 → 1 ≤ n ∧ LawP ln b 6 0 0 (fun _ => 0) (-4) n cg at1) → (∀ j, 1 ≤ j → j ≤ n → ml1 (36 + j - 1) = cg j) → (∀ j, j < 36 → ml1 j = ml j) → G X RX11 cX11_readAll mX11_readAll.rm N 0 0 9 [some (.ref (124)), some (.int (iZ (kk))), some (.int (iZ (mo))), none, none] [] (hs (hs h (124) (MOo (ln) (pr) (nm) (at1) (wr1) (va1) (em) (ta) (ro) (dg))) (126) (aL 42 (ml1))) := by
    intro fu9
    induction fu9 with
    | zero => intro at1 wr1 va1 ml1 kk mo n cg hm ek n6 m01 at0 atl hP hE hcg hmk; exfalso; omega
    | succ fu9 ih9 =>
      intro at1 wr1 va1 ml1 kk mo n cg hms9 ek n6 m01 at0 atl hP hE hcg hmk
      refine r_iload_n dX11_readAll_9 rfl rfl ?_
      refine r_if_eq 151 dX11_readAll_10 (by decide) ⟨by omega, by omega⟩ (fun c_10 => ?_) (fun c_10 => ?_)
      · refine r_aload_n dX11_readAll_151 rfl rfl ?_
        refine gf_X11_7 dX11_readAll_152 (by omega) ((hs_n (by omega)).trans hs_e) rfl ?_
        refine r_bipush (z := 6) dX11_readAll_155 (by decide) ?_
        refine r_iload_n dX11_readAll_157 rfl rfl ?_
        refine r_iastore dX11_readAll_158 (by omega) ((hs_n (by omega)).trans ((hs_n (by omega)).trans hom)) (by omega) (by omega) (by decide) ?_
        refine r_iconst (z := 0) dX11_readAll_159 ?_
        refine r_istore_n (L2 := [_, _, _, _, none]) dX11_readAll_160 rfl (nlt rfl) rfl ?_
        obtain ⟨hE1, hE2⟩ := hE c_10
        have lp161 : ∀ (fu161 : Nat) (at3 : Int) (wr3 : Int) (va3 : Int) (ms1 : Nat → Int) (i : Int) (n2 : Nat) (sg : Nat → Int), (7 - i) < (fu161 : Int) → (i = (n2 : Int)) → (n2 ≤ n) → (0 ≤ at3) → (n2 < n → at3 ≤ ln) → (n2 < n → ∀ (r : Int) (s2 : Nat → Int), StP ln b n (n - n2) n2 at3 sg r s2 → StP ln b n n 0 at1 (fun _ => 0) r s2) → (n2 = n → StP ln b n n 0 at1 (fun _ => 0) (-4) sg) → (∀ j, j < n2 → ms1 (36 + j) = sg j) → (∀ j, j < 36 → ms1 j = ms j) → G X RX11 cX11_readAll mX11_readAll.rm N 0 0 161 [some (.ref (124)), some (.int (iZ (kk))), none, some (.int (iZ (i))), none] [] (hs (hs (hs (hs h (124) (MOo (ln) (pr) (nm) (at3) (wr3) (va3) (em) (ta) (ro) (dg))) (126) (aL 42 (ml1))) (125) (aI 7 (uA (om) (6 : Int).toNat (kk)))) (127) (aL 42 (ms1))) := by
          intro fu161
          induction fu161 with
          | zero => intro at3 wr3 va3 ms1 i n2 sg hm ei n2n at30 at3l hP3 hE3 hsg hmk3; exfalso; omega
          | succ fu161 ih161 =>
            intro at3 wr3 va3 ms1 i n2 sg hms161 ei n2n at30 at3l hP3 hE3 hsg hmk3
            refine r_iload_n dX11_readAll_161 rfl rfl ?_
            refine r_iload_n dX11_readAll_162 rfl rfl ?_
            refine r_icmp_ge 282 dX11_readAll_163 (by decide) ⟨by omega, by omega⟩ ⟨by omega, by omega⟩ (fun c_163 => ?_) (fun c_163 => ?_)
            · refine r_bipush (z := -4) dX11_readAll_282 (by decide) ?_
              refine r_ireturn hq dX11_readAll_284 rfl rfl rfl ?_
              have hfin := hQ ((-4)) n cg sg (uA (om) (6 : Int).toNat (kk)) (ml1) (ms1) (at3) (wr3) (va3) (Or.inl ⟨at1, hE2, hE3 (by omega)⟩) (fun _ => ⟨(show uA om 6 kk 6 = _ from uA_e).trans (by omega), hcg, fun j hj => hsg j (by omega)⟩) (fun j hj => uA_n (by show j ≠ 6; omega)) hmk hmk3
              exact hfin
            · have hP39 := hP3 (by omega)
              obtain ⟨d3, hd3⟩ : ∃ d3, n - n2 = d3 + 1 := ⟨n - n2 - 1, by omega⟩
              rw [hd3] at hP39
              have h3l := at3l (by omega)
              refine r_aload_n dX11_readAll_166 rfl rfl ?_
              refine r_ldc2 (z := 1000000) dX11_readAll_167 kc_X11_121 ?_
              refine r_callV (av := [.long (lZ (1000000))]) dX11_readAll_170 lkX11_number ml_X11_117 imX11_number seX11_number (by omega) (rfl : vwCl[11]? = _) ⟨_, ((hs_n (by omega)).trans ((hs_n (by omega)).trans ((hs_n (by omega)).trans hs_e)))⟩ ⟨Nat.le_of_ble_eq_true rfl, Nat.le_of_ble_eq_true rfl⟩ rfl rfl (nle rfl) ⟨Nat.le_of_ble_eq_true rfl, Nat.le_of_ble_eq_true rfl⟩ (c_X11_number (most := 1000000) (b := b) (ln := ln) (pr := pr) (nm := nm) (at_ := at3) (wr := wr3) (va := va3) (em := em) (ta := ta) (ro := ro) (dg := dg) ((hs_n (by omega)).trans ((hs_n (by omega)).trans ((hs_n (by omega)).trans hs_e))) hN ((hs_n (by omega)).trans ((hs_n (by omega)).trans ((hs_n (by omega)).trans ((hs_n (by omega)).trans hbt)))) hbb hl0 hl (by omega) (by omega) (by decide) (by decide) (fun z170 w170 v170 e170 at170 wr170 va170 hn170 hz170 => ?_))
              refine g_heap (h2 := (hs (hs (hs (hs h (124) (MOo (ln) (pr) (nm) (at170) (wr170) (va170) (em) (ta) (ro) (dg))) (126) (aL 42 (ml1))) (125) (aI 7 (uA (om) (6 : Int).toNat (kk)))) (127) (aL 42 (ms1)))) (hs_put (by omega) (hs_put (by omega) (hs_put (by omega) hs_hs))) ?_
              have hbd170 := hn170.bd (by omega) (by omega) (by decide)
              show G _ _ _ _ _ _ _ 173 _ _ _
              refine r_if_ne 181 dX11_readAll_173 (by decide) (by rcases hz170 with ⟨y, _⟩ | ⟨y, _⟩ <;> exact ⟨by omega, by omega⟩) (fun c_173 => ?_) (fun c_173 => ?_)
              · obtain ⟨hok3, hva4, hat4⟩ : w170 = -4 ∧ va170 = v170 ∧ at170 = e170 := by
                  rcases hz170 with ⟨y, _⟩ | ⟨_, y⟩
                  · omega
                  · exact y
                subst hva4
                subst hat4
                have e36b : (36 + i).toNat = 36 + n2 := by omega
                have hb4 : 0 < at170 ∧ at170 ≤ ln ∧ -1000000 ≤ va170 ∧ va170 ≤ 1000000 := by omega
                refine r_aload_n dX11_readAll_181 rfl rfl ?_
                refine gf_X11_17 dX11_readAll_182 (by omega) ((hs_n (by omega)).trans ((hs_n (by omega)).trans ((hs_n (by omega)).trans hs_e))) rfl ?_
                refine r_bipush (z := 36) dX11_readAll_185 (by decide) ?_
                refine r_iload_n dX11_readAll_187 rfl rfl ?_
                refine r_iadd dX11_readAll_188 ?_
                refine r_aload_n dX11_readAll_189 rfl rfl ?_
                refine gf_X11_109 dX11_readAll_190 (by omega) ((hs_n (by omega)).trans ((hs_n (by omega)).trans ((hs_n (by omega)).trans hs_e))) rfl ?_
                refine r_lastore dX11_readAll_193 (by omega) hs_e (by omega) (by omega) (by decide) ?_
                refine g_heap (h2 := (hs (hs (hs (hs h (124) (MOo (ln) (pr) (nm) (at170) (wr170) (va170) (em) (ta) (ro) (dg))) (126) (aL 42 (ml1))) (125) (aI 7 (uA (om) (6 : Int).toNat (kk)))) (127) (aL 42 (uA (ms1) (36 + i).toNat (va170))))) hs_hs ?_
                refine r_iload_n dX11_readAll_194 rfl rfl ?_
                refine r_iload_n dX11_readAll_195 rfl rfl ?_
                refine r_iconst (z := 1) dX11_readAll_196 ?_
                refine r_isub dX11_readAll_197 ?_
                refine r_icmp_ne 205 dX11_readAll_198 (by decide) ⟨by omega, by omega⟩ ⟨by omega, by omega⟩ (fun c_198 => ?_) (fun c_198 => ?_)
                · refine r_iconst (z := 0) dX11_readAll_205 ?_
                  refine r_istore (L2 := [_, _, none, _, _]) dX11_readAll_206 (nlt rfl) rfl ?_
                  refine r_iload dX11_readAll_208 rfl ?_
                  refine r_if_eq 227 dX11_readAll_210 (by decide) ⟨by decide, by decide⟩ (fun c_210 => ?_) (fun c_210 => by exfalso; omega)
                  refine r_aload_n dX11_readAll_227 rfl rfl ?_
                  refine gf_X11_99 dX11_readAll_228 (by omega) ((hs_n (by omega)).trans ((hs_n (by omega)).trans ((hs_n (by omega)).trans hs_e))) rfl ?_
                  refine r_aload_n dX11_readAll_231 rfl rfl ?_
                  refine gf_X11_90 dX11_readAll_232 (by omega) ((hs_n (by omega)).trans ((hs_n (by omega)).trans ((hs_n (by omega)).trans hs_e))) rfl ?_
                  refine r_icmp_eq 252 dX11_readAll_235 (by decide) ⟨by omega, by omega⟩ ⟨by omega, by omega⟩ (fun c_235 => ?_) (fun c_235 => ?_)
                  · refine r_aload_n dX11_readAll_252 rfl rfl ?_
                    refine gf_X11_99 dX11_readAll_253 (by omega) ((hs_n (by omega)).trans ((hs_n (by omega)).trans ((hs_n (by omega)).trans hs_e))) rfl ?_
                    refine r_ireturn hq dX11_readAll_256 rfl rfl rfl ?_
                    have hfin := hQ (at170) n cg (fun _ => 0) (uA (om) (6 : Int).toNat (kk)) (ml1) (uA (ms1) (36 + i).toNat (va170)) (at170) (wr170) (va170) (Or.inl ⟨at1, hE2, hP39 _ _ ⟨w170, va170, at170, hn170, Or.inr ⟨hok3, Or.inr (Or.inr (Or.inl ⟨by omega, (fun q => by have := q.1; have := q.2; omega), rfl⟩))⟩⟩⟩) (fun y => by omega) (fun j hj => uA_n (by show j ≠ (6 : Int).toNat; show j ≠ 6; omega)) hmk (fun j hj => by rw [e36b, uA_n (by omega)]; exact hmk3 j hj)
                    exact hfin
                  · refine r_aload_n dX11_readAll_238 rfl rfl ?_
                    refine gf_X11_20 dX11_readAll_239 (by omega) ((hs_n (by omega)).trans ((hs_n (by omega)).trans ((hs_n (by omega)).trans hs_e))) rfl ?_
                    refine r_aload_n dX11_readAll_242 rfl rfl ?_
                    refine gf_X11_99 dX11_readAll_243 (by omega) ((hs_n (by omega)).trans ((hs_n (by omega)).trans ((hs_n (by omega)).trans hs_e))) rfl ?_
                    refine r_iaload dX11_readAll_246 (by omega) ((hs_n (by omega)).trans ((hs_n (by omega)).trans ((hs_n (by omega)).trans ((hs_n (by omega)).trans hbt)))) (by omega) (by omega) (by decide) ?_
                    have b_246 := hbb (at170).toNat (by omega)
                    refine r_bipush (z := 44) dX11_readAll_247 (by decide) ?_
                    refine r_icmp_eq 257 dX11_readAll_249 (by decide) ⟨by omega, by omega⟩ ⟨by decide, by decide⟩ (fun c_249 => ?_) (fun c_249 => ?_)
                    · refine r_aload_n dX11_readAll_257 rfl rfl ?_
                      refine r_dup dX11_readAll_258 rfl ?_
                      refine gf_X11_99 dX11_readAll_259 (by omega) ((hs_n (by omega)).trans ((hs_n (by omega)).trans ((hs_n (by omega)).trans hs_e))) rfl ?_
                      refine r_iload dX11_readAll_262 rfl ?_
                      refine r_if_eq 271 dX11_readAll_264 (by decide) ⟨by decide, by decide⟩ (fun c_264 => ?_) (fun c_264 => by exfalso; omega)
                      refine r_iconst (z := 1) dX11_readAll_271 ?_
                      refine r_iadd dX11_readAll_272 ?_
                      refine pf_X11_99 (fs2 := [_, _, _, _, _, _, _, _, _, _, _, _, _, _, _, _, _, _, _, _, _, _, _, _, _, _, _, _, _, _, _]) dX11_readAll_273 (fun _ _ => rfl) (fun _ _ => rfl) (nlt rfl) (by omega) ((hs_n (by omega)).trans ((hs_n (by omega)).trans ((hs_n (by omega)).trans hs_e))) rfl ?_
                      refine g_heap (h2 := (hs (hs (hs (hs h (124) (MOo (ln) (pr) (nm) (at170 + 1) (wr170) (va170) (em) (ta) (ro) (dg))) (126) (aL 42 (ml1))) (125) (aI 7 (uA (om) (6 : Int).toNat (kk)))) (127) (aL 42 (uA (ms1) (36 + i).toNat (va170))))) (hs_put (by omega) (hs_put (by omega) (hs_put (by omega) hs_hs))) ?_
                      refine r_iinc (L2 := [_, _, none, _, _]) dX11_readAll_276 (nlt rfl) rfl rfl ?_
                      refine r_goto 161 dX11_readAll_279 (by decide) ?_
                      refine r_mask [true, true, false, true, false] (L2 := [_, _, none, _, none]) rfl ?_
                      exact ih161 (at170 + 1) (wr170) (va170) (uA (ms1) (36 + i).toNat (va170)) (i + 1) ((n2 + 1)) ((uA sg n2 va170)) (by omega) (by omega) (by omega) (by omega) (fun _ => by omega) (fun _ r s2 z => hP39 r s2 ⟨w170, va170, at170, hn170, Or.inr ⟨hok3, Or.inr (Or.inr (Or.inr ⟨by omega, ⟨by omega, by omega⟩, by rw [show n - (n2 + 1) = d3 by omega] at z; exact z⟩))⟩⟩) (fun z => by omega) (fun j hj => by rw [e36b]; by_cases z : j = n2; (rw [z, uA_e, uA_e]); rw [uA_n (by omega), uA_n z]; exact hsg j (by omega)) (fun j hj => by rw [e36b, uA_n (by omega)]; exact hmk3 j hj)
                    · refine r_aload_n dX11_readAll_252 rfl rfl ?_
                      refine gf_X11_99 dX11_readAll_253 (by omega) ((hs_n (by omega)).trans ((hs_n (by omega)).trans ((hs_n (by omega)).trans hs_e))) rfl ?_
                      refine r_ireturn hq dX11_readAll_256 rfl rfl rfl ?_
                      have hfin := hQ (at170) n cg (fun _ => 0) (uA (om) (6 : Int).toNat (kk)) (ml1) (uA (ms1) (36 + i).toNat (va170)) (at170) (wr170) (va170) (Or.inl ⟨at1, hE2, hP39 _ _ ⟨w170, va170, at170, hn170, Or.inr ⟨hok3, Or.inr (Or.inr (Or.inl ⟨by omega, (fun q => by have := q.1; have := q.2; omega), rfl⟩))⟩⟩⟩) (fun y => by omega) (fun j hj => uA_n (by show j ≠ (6 : Int).toNat; show j ≠ 6; omega)) hmk (fun j hj => by rw [e36b, uA_n (by omega)]; exact hmk3 j hj)
                      exact hfin
                · refine r_iconst (z := 1) dX11_readAll_201 ?_
                  refine r_goto 206 dX11_readAll_202 (by decide) ?_
                  refine r_istore (L2 := [_, _, none, _, _]) dX11_readAll_206 (nlt rfl) rfl ?_
                  refine r_iload dX11_readAll_208 rfl ?_
                  refine r_if_eq 227 dX11_readAll_210 (by decide) ⟨by decide, by decide⟩ (fun c_210 => by exfalso; omega) (fun c_210 => ?_)
                  refine r_aload_n dX11_readAll_213 rfl rfl ?_
                  refine gf_X11_99 dX11_readAll_214 (by omega) ((hs_n (by omega)).trans ((hs_n (by omega)).trans ((hs_n (by omega)).trans hs_e))) rfl ?_
                  refine r_aload_n dX11_readAll_217 rfl rfl ?_
                  refine gf_X11_90 dX11_readAll_218 (by omega) ((hs_n (by omega)).trans ((hs_n (by omega)).trans ((hs_n (by omega)).trans hs_e))) rfl ?_
                  refine r_icmp_ge 257 dX11_readAll_221 (by decide) ⟨by omega, by omega⟩ ⟨by omega, by omega⟩ (fun c_221 => ?_) (fun c_221 => ?_)
                  · refine r_aload_n dX11_readAll_257 rfl rfl ?_
                    refine r_dup dX11_readAll_258 rfl ?_
                    refine gf_X11_99 dX11_readAll_259 (by omega) ((hs_n (by omega)).trans ((hs_n (by omega)).trans ((hs_n (by omega)).trans hs_e))) rfl ?_
                    refine r_iload dX11_readAll_262 rfl ?_
                    refine r_if_eq 271 dX11_readAll_264 (by decide) ⟨by decide, by decide⟩ (fun c_264 => by exfalso; omega) (fun c_264 => ?_)
                    refine r_iconst (z := 0) dX11_readAll_267 ?_
                    refine r_goto 272 dX11_readAll_268 (by decide) ?_
                    refine r_iadd dX11_readAll_272 ?_
                    refine pf_X11_99 (fs2 := [_, _, _, _, _, _, _, _, _, _, _, _, _, _, _, _, _, _, _, _, _, _, _, _, _, _, _, _, _, _, _]) dX11_readAll_273 (fun _ _ => rfl) (fun _ _ => rfl) (nlt rfl) (by omega) ((hs_n (by omega)).trans ((hs_n (by omega)).trans ((hs_n (by omega)).trans hs_e))) rfl ?_
                    refine g_heap (h2 := (hs (hs (hs (hs h (124) (MOo (ln) (pr) (nm) (at170 + 0) (wr170) (va170) (em) (ta) (ro) (dg))) (126) (aL 42 (ml1))) (125) (aI 7 (uA (om) (6 : Int).toNat (kk)))) (127) (aL 42 (uA (ms1) (36 + i).toNat (va170))))) (hs_put (by omega) (hs_put (by omega) (hs_put (by omega) hs_hs))) ?_
                    refine r_iinc (L2 := [_, _, none, _, _]) dX11_readAll_276 (nlt rfl) rfl rfl ?_
                    refine r_goto 161 dX11_readAll_279 (by decide) ?_
                    refine r_mask [true, true, false, true, false] (L2 := [_, _, none, _, none]) rfl ?_
                    exact ih161 (at170 + 0) (wr170) (va170) (uA (ms1) (36 + i).toNat (va170)) (i + 1) ((n2 + 1)) ((uA sg n2 va170)) (by omega) (by omega) (by omega) (by omega) (fun _ => by omega) (fun y => by omega) (fun _ => hP39 _ _ ⟨w170, va170, at170, hn170, Or.inr ⟨hok3, Or.inr (Or.inl ⟨by omega, by omega, rfl, rfl⟩)⟩⟩) (fun j hj => by rw [e36b]; by_cases z : j = n2; (rw [z, uA_e, uA_e]); rw [uA_n (by omega), uA_n z]; exact hsg j (by omega)) (fun j hj => by rw [e36b, uA_n (by omega)]; exact hmk3 j hj)
                  · refine r_goto 252 dX11_readAll_224 (by decide) ?_
                    refine r_aload_n dX11_readAll_252 rfl rfl ?_
                    refine gf_X11_99 dX11_readAll_253 (by omega) ((hs_n (by omega)).trans ((hs_n (by omega)).trans ((hs_n (by omega)).trans hs_e))) rfl ?_
                    refine r_ireturn hq dX11_readAll_256 rfl rfl rfl ?_
                    have hfin := hQ (at170) n cg (fun _ => 0) (uA (om) (6 : Int).toNat (kk)) (ml1) (uA (ms1) (36 + i).toNat (va170)) (at170) (wr170) (va170) (Or.inl ⟨at1, hE2, hP39 _ _ ⟨w170, va170, at170, hn170, Or.inr ⟨hok3, Or.inl ⟨by omega, by omega, rfl⟩⟩⟩⟩) (fun y => by omega) (fun j hj => uA_n (by show j ≠ (6 : Int).toNat; show j ≠ 6; omega)) hmk (fun j hj => by rw [e36b, uA_n (by omega)]; exact hmk3 j hj)
                    exact hfin
              · refine r_aload_n dX11_readAll_176 rfl rfl ?_
                refine gf_X11_106 dX11_readAll_177 (by omega) ((hs_n (by omega)).trans ((hs_n (by omega)).trans ((hs_n (by omega)).trans hs_e))) rfl ?_
                refine r_ireturn hq dX11_readAll_180 rfl rfl rfl ?_
                have hfin := hQ (wr170) n cg (fun _ => 0) (uA (om) (6 : Int).toNat (kk)) (ml1) (ms1) (at170) (wr170) (va170) (Or.inl ⟨at1, hE2, hP39 _ _ ⟨w170, v170, e170, hn170, Or.inl ⟨by omega, by omega⟩⟩⟩) (fun y => by omega) (fun j hj => uA_n (by show j ≠ 6; omega)) hmk hmk3
                exact hfin
        refine r_mask [true, true, false, true, false] (L2 := [_, _, none, _, none]) rfl ?_
        refine g_heap (hs_id (c := aL 42 (ms)) ((hs_n (by omega)).trans ((hs_n (by omega)).trans ((hs_n (by omega)).trans hms)))).symm ?_
        exact lp161 ((7 : Int) + 1).toNat (at1) (wr1) (va1) (ms) (0) (0) ((fun _ => 0)) (by omega) rfl (by omega) (by omega) (fun _ => by omega) (fun _ r s2 z => z) (fun z => by omega) (fun j hj => absurd hj (Nat.not_lt_zero j)) (fun j hj => rfl)
      · obtain ⟨hP1, hP2⟩ := hP (by omega)
        obtain ⟨d9, hd9⟩ : ∃ d9, 6 - n = d9 + 1 := ⟨5 - n, by omega⟩
        rw [hd9] at hP2
        have hP9 := hP2
        refine r_aload_n dX11_readAll_13 rfl rfl ?_
        refine r_ldc2 (z := 100000) dX11_readAll_14 kc_X11_115 ?_
        refine r_callV (av := [.long (lZ (100000))]) dX11_readAll_17 lkX11_number ml_X11_117 imX11_number seX11_number (by omega) (rfl : vwCl[11]? = _) ⟨_, ((hs_n (by omega)).trans hs_e)⟩ ⟨Nat.le_of_ble_eq_true rfl, Nat.le_of_ble_eq_true rfl⟩ rfl rfl (nle rfl) ⟨Nat.le_of_ble_eq_true rfl, Nat.le_of_ble_eq_true rfl⟩ (c_X11_number (most := 100000) (b := b) (ln := ln) (pr := pr) (nm := nm) (at_ := at1) (wr := wr1) (va := va1) (em := em) (ta := ta) (ro := ro) (dg := dg) ((hs_n (by omega)).trans hs_e) hN ((hs_n (by omega)).trans ((hs_n (by omega)).trans hbt)) hbb hl0 hl (by omega) (by omega) (by decide) (by decide) (fun z17 w17 v17 e17 at17 wr17 va17 hn17 hz17 => ?_))
        refine g_heap (h2 := (hs (hs h (124) (MOo (ln) (pr) (nm) (at17) (wr17) (va17) (em) (ta) (ro) (dg))) (126) (aL 42 (ml1)))) (hs_put (by omega) hs_hs) ?_
        have hbd17 := hn17.bd (by omega) (by omega) (by decide)
        show G _ _ _ _ _ _ _ 20 _ _ _
        refine r_if_ne 28 dX11_readAll_20 (by decide) (by rcases hz17 with ⟨y, _⟩ | ⟨y, _⟩ <;> exact ⟨by omega, by omega⟩) (fun c_20 => ?_) (fun c_20 => ?_)
        · obtain ⟨hok, hva3, hat3⟩ : w17 = -4 ∧ va17 = v17 ∧ at17 = e17 := by
            rcases hz17 with ⟨y, _⟩ | ⟨_, y⟩
            · omega
            · exact y
          subst hva3
          subst hat3
          have e36 : (36 + kk).toNat = 36 + n := by omega
          have hb3 : 0 < at17 ∧ at17 ≤ ln ∧ -100000 ≤ va17 ∧ va17 ≤ 100000 := by omega
          refine r_aload_n dX11_readAll_28 rfl rfl ?_
          refine gf_X11_13 dX11_readAll_29 (by omega) ((hs_n (by omega)).trans hs_e) rfl ?_
          refine r_bipush (z := 36) dX11_readAll_32 (by decide) ?_
          refine r_iload_n dX11_readAll_34 rfl rfl ?_
          refine r_iadd dX11_readAll_35 ?_
          refine r_aload_n dX11_readAll_36 rfl rfl ?_
          refine gf_X11_109 dX11_readAll_37 (by omega) ((hs_n (by omega)).trans hs_e) rfl ?_
          refine r_lastore dX11_readAll_40 (by omega) hs_e (by omega) (by omega) (by decide) ?_
          refine g_heap (h2 := (hs (hs h (124) (MOo (ln) (pr) (nm) (at17) (wr17) (va17) (em) (ta) (ro) (dg))) (126) (aL 42 (uA (ml1) (36 + kk).toNat (va17))))) hs_hs ?_
          refine r_iinc (L2 := [_, _, _, none, none]) dX11_readAll_41 (nlt rfl) rfl rfl ?_
          refine r_aload_n dX11_readAll_44 rfl rfl ?_
          refine gf_X11_99 dX11_readAll_45 (by omega) ((hs_n (by omega)).trans hs_e) rfl ?_
          refine r_aload_n dX11_readAll_48 rfl rfl ?_
          refine gf_X11_90 dX11_readAll_49 (by omega) ((hs_n (by omega)).trans hs_e) rfl ?_
          refine r_icmp_ge 79 dX11_readAll_52 (by decide) ⟨by omega, by omega⟩ ⟨by omega, by omega⟩ (fun c_52 => ?_) (fun c_52 => ?_)
          · refine r_iconst (z := 0) dX11_readAll_79 ?_
            refine r_istore_n (L2 := [_, _, _, _, none]) dX11_readAll_80 rfl (nlt rfl) rfl ?_
            refine r_aload_n dX11_readAll_81 rfl rfl ?_
            refine gf_X11_99 dX11_readAll_82 (by omega) ((hs_n (by omega)).trans hs_e) rfl ?_
            refine r_aload_n dX11_readAll_85 rfl rfl ?_
            refine gf_X11_90 dX11_readAll_86 (by omega) ((hs_n (by omega)).trans hs_e) rfl ?_
            refine r_icmp_ge 119 dX11_readAll_89 (by decide) ⟨by omega, by omega⟩ ⟨by omega, by omega⟩ (fun c_89 => ?_) (fun c_89 => ?_)
            · refine r_iconst (z := 0) dX11_readAll_119 ?_
              refine r_istore (L2 := [_, _, _, _, _]) dX11_readAll_120 (nlt rfl) rfl ?_
              refine r_iload_n dX11_readAll_122 rfl rfl ?_
              refine r_if_ne 136 dX11_readAll_123 (by decide) ⟨by decide, by decide⟩ (fun c_123 => by exfalso; omega) (fun c_123 => ?_)
              refine r_iload dX11_readAll_126 rfl ?_
              refine r_if_ne 136 dX11_readAll_128 (by decide) ⟨by decide, by decide⟩ (fun c_128 => by exfalso; omega) (fun c_128 => ?_)
              refine r_aload_n dX11_readAll_131 rfl rfl ?_
              refine gf_X11_99 dX11_readAll_132 (by omega) ((hs_n (by omega)).trans hs_e) rfl ?_
              refine r_ireturn hq dX11_readAll_135 rfl rfl rfl ?_
              have hfin := hQ (at17) 0 (fun _ => 0) (fun _ => 0) (om) (uA (ml1) (36 + kk).toNat (va17)) (ms) (at17) (wr17) (va17) (Or.inr ⟨by omega, 0, fun _ => 0, 0, hP9 _ _ _ _ ⟨w17, va17, at17, hn17, Or.inr ⟨hok, Or.inr (Or.inr (Or.inl ⟨(fun q => by have := q.1; have := q.2; omega), Or.inl (fun q => by have := q.1; have := q.2; omega), rfl⟩))⟩⟩⟩) (fun y => by omega) (fun j hj => rfl) (fun j hj => by rw [e36, uA_n (by omega)]; exact hmk j hj) (fun j hj => rfl)
              rw [hs_id (a := 125) ((hs_n (by omega)).trans ((hs_n (by omega)).trans hom))] at hfin
              rw [hs_id (a := 127) ((hs_n (by omega)).trans ((hs_n (by omega)).trans hms))] at hfin
              exact hfin
            · refine r_aload_n dX11_readAll_92 rfl rfl ?_
              refine gf_X11_20 dX11_readAll_93 (by omega) ((hs_n (by omega)).trans hs_e) rfl ?_
              refine r_aload_n dX11_readAll_96 rfl rfl ?_
              refine gf_X11_99 dX11_readAll_97 (by omega) ((hs_n (by omega)).trans hs_e) rfl ?_
              refine r_iaload dX11_readAll_100 (by omega) ((hs_n (by omega)).trans ((hs_n (by omega)).trans hbt)) (by omega) (by omega) (by decide) ?_
              have b_100 := hbb (at17).toNat (by omega)
              refine r_bipush (z := 58) dX11_readAll_101 (by decide) ?_
              refine r_icmp_ne 119 dX11_readAll_103 (by decide) ⟨by omega, by omega⟩ ⟨by decide, by decide⟩ (fun c_103 => ?_) (fun c_103 => ?_)
              · refine r_iconst (z := 0) dX11_readAll_119 ?_
                refine r_istore (L2 := [_, _, _, _, _]) dX11_readAll_120 (nlt rfl) rfl ?_
                refine r_iload_n dX11_readAll_122 rfl rfl ?_
                refine r_if_ne 136 dX11_readAll_123 (by decide) ⟨by decide, by decide⟩ (fun c_123 => by exfalso; omega) (fun c_123 => ?_)
                refine r_iload dX11_readAll_126 rfl ?_
                refine r_if_ne 136 dX11_readAll_128 (by decide) ⟨by decide, by decide⟩ (fun c_128 => by exfalso; omega) (fun c_128 => ?_)
                refine r_aload_n dX11_readAll_131 rfl rfl ?_
                refine gf_X11_99 dX11_readAll_132 (by omega) ((hs_n (by omega)).trans hs_e) rfl ?_
                refine r_ireturn hq dX11_readAll_135 rfl rfl rfl ?_
                have hfin := hQ (at17) 0 (fun _ => 0) (fun _ => 0) (om) (uA (ml1) (36 + kk).toNat (va17)) (ms) (at17) (wr17) (va17) (Or.inr ⟨by omega, 0, fun _ => 0, 0, hP9 _ _ _ _ ⟨w17, va17, at17, hn17, Or.inr ⟨hok, Or.inr (Or.inr (Or.inl ⟨(fun q => by have := q.1; have := q.2; omega), Or.inl (fun q => by have := q.1; have := q.2; omega), rfl⟩))⟩⟩⟩) (fun y => by omega) (fun j hj => rfl) (fun j hj => by rw [e36, uA_n (by omega)]; exact hmk j hj) (fun j hj => rfl)
                rw [hs_id (a := 125) ((hs_n (by omega)).trans ((hs_n (by omega)).trans hom))] at hfin
                rw [hs_id (a := 127) ((hs_n (by omega)).trans ((hs_n (by omega)).trans hms))] at hfin
                exact hfin
              · refine r_aload_n dX11_readAll_106 rfl rfl ?_
                refine gf_X11_109 dX11_readAll_107 (by omega) ((hs_n (by omega)).trans hs_e) rfl ?_
                refine r_lconst (z := 0) dX11_readAll_110 (by decide) ?_
                refine r_lcmp_eq 119 dX11_readAll_111 dX11_readAll_112 (by decide) ⟨by omega, by omega⟩ ⟨by decide, by decide⟩ (fun c_111 => ?_) (fun c_111 => ?_)
                · refine r_iconst (z := 0) dX11_readAll_119 ?_
                  refine r_istore (L2 := [_, _, _, _, _]) dX11_readAll_120 (nlt rfl) rfl ?_
                  refine r_iload_n dX11_readAll_122 rfl rfl ?_
                  refine r_if_ne 136 dX11_readAll_123 (by decide) ⟨by decide, by decide⟩ (fun c_123 => by exfalso; omega) (fun c_123 => ?_)
                  refine r_iload dX11_readAll_126 rfl ?_
                  refine r_if_ne 136 dX11_readAll_128 (by decide) ⟨by decide, by decide⟩ (fun c_128 => by exfalso; omega) (fun c_128 => ?_)
                  refine r_aload_n dX11_readAll_131 rfl rfl ?_
                  refine gf_X11_99 dX11_readAll_132 (by omega) ((hs_n (by omega)).trans hs_e) rfl ?_
                  refine r_ireturn hq dX11_readAll_135 rfl rfl rfl ?_
                  have hfin := hQ (at17) 0 (fun _ => 0) (fun _ => 0) (om) (uA (ml1) (36 + kk).toNat (va17)) (ms) (at17) (wr17) (va17) (Or.inr ⟨by omega, 0, fun _ => 0, 0, hP9 _ _ _ _ ⟨w17, va17, at17, hn17, Or.inr ⟨hok, Or.inl ⟨⟨by omega, by omega⟩, by omega, rfl⟩⟩⟩⟩) (fun y => by omega) (fun j hj => rfl) (fun j hj => by rw [e36, uA_n (by omega)]; exact hmk j hj) (fun j hj => rfl)
                  rw [hs_id (a := 125) ((hs_n (by omega)).trans ((hs_n (by omega)).trans hom))] at hfin
                  rw [hs_id (a := 127) ((hs_n (by omega)).trans ((hs_n (by omega)).trans hms))] at hfin
                  exact hfin
                · refine r_iconst (z := 1) dX11_readAll_115 ?_
                  refine r_goto 120 dX11_readAll_116 (by decide) ?_
                  refine r_istore (L2 := [_, _, _, _, _]) dX11_readAll_120 (nlt rfl) rfl ?_
                  refine r_iload_n dX11_readAll_122 rfl rfl ?_
                  refine r_if_ne 136 dX11_readAll_123 (by decide) ⟨by decide, by decide⟩ (fun c_123 => by exfalso; omega) (fun c_123 => ?_)
                  refine r_iload dX11_readAll_126 rfl ?_
                  refine r_if_ne 136 dX11_readAll_128 (by decide) ⟨by decide, by decide⟩ (fun c_128 => ?_) (fun c_128 => by exfalso; omega)
                  refine r_aload_n dX11_readAll_136 rfl rfl ?_
                  refine r_dup dX11_readAll_137 rfl ?_
                  refine gf_X11_99 dX11_readAll_138 (by omega) ((hs_n (by omega)).trans hs_e) rfl ?_
                  refine r_iconst (z := 1) dX11_readAll_141 ?_
                  refine r_iadd dX11_readAll_142 ?_
                  refine pf_X11_99 (fs2 := [_, _, _, _, _, _, _, _, _, _, _, _, _, _, _, _, _, _, _, _, _, _, _, _, _, _, _, _, _, _, _]) dX11_readAll_143 (fun _ _ => rfl) (fun _ _ => rfl) (nlt rfl) (by omega) ((hs_n (by omega)).trans hs_e) rfl ?_
                  refine g_heap (h2 := (hs (hs h (124) (MOo (ln) (pr) (nm) (at17 + 1) (wr17) (va17) (em) (ta) (ro) (dg))) (126) (aL 42 (uA (ml1) (36 + kk).toNat (va17))))) (hs_put (by omega) hs_hs) ?_
                  refine r_iload_n dX11_readAll_146 rfl rfl ?_
                  refine r_istore_n (L2 := [_, _, _, _, _]) dX11_readAll_147 rfl (nlt rfl) rfl ?_
                  refine r_goto 9 dX11_readAll_148 (by decide) ?_
                  refine r_mask [true, true, true, false, false] (L2 := [_, _, _, none, none]) rfl ?_
                  exact ih9 (at17 + 1) (wr17) (va17) (uA (ml1) (36 + kk).toNat (va17)) (kk + 1) (0) ((n + 1)) ((uA cg (n + 1) va17)) (by omega) (by omega) (by omega) (by omega) (by omega) (by omega) (fun y => absurd y (by decide)) (fun _ => ⟨by omega, hP9 _ _ _ _ ⟨w17, va17, at17, hn17, Or.inr ⟨hok, Or.inr (Or.inl ⟨⟨by omega, by omega⟩, by omega, rfl, rfl, rfl, rfl⟩)⟩⟩⟩) (fun j h1 h2 => by rw [e36]; by_cases z : j = n + 1; (rw [z, uA_e, show 36 + (n + 1) - 1 = 36 + n by omega, uA_e]); rw [uA_n (by omega), uA_n z]; exact hcg j h1 (by omega)) (fun j hj => by rw [e36, uA_n (by omega)]; exact hmk j hj)
          · refine r_aload_n dX11_readAll_55 rfl rfl ?_
            refine gf_X11_20 dX11_readAll_56 (by omega) ((hs_n (by omega)).trans hs_e) rfl ?_
            refine r_aload_n dX11_readAll_59 rfl rfl ?_
            refine gf_X11_99 dX11_readAll_60 (by omega) ((hs_n (by omega)).trans hs_e) rfl ?_
            refine r_iaload dX11_readAll_63 (by omega) ((hs_n (by omega)).trans ((hs_n (by omega)).trans hbt)) (by omega) (by omega) (by decide) ?_
            have b_63 := hbb (at17).toNat (by omega)
            refine r_bipush (z := 44) dX11_readAll_64 (by decide) ?_
            refine r_icmp_ne 79 dX11_readAll_66 (by decide) ⟨by omega, by omega⟩ ⟨by decide, by decide⟩ (fun c_66 => ?_) (fun c_66 => ?_)
            · refine r_iconst (z := 0) dX11_readAll_79 ?_
              refine r_istore_n (L2 := [_, _, _, _, none]) dX11_readAll_80 rfl (nlt rfl) rfl ?_
              refine r_aload_n dX11_readAll_81 rfl rfl ?_
              refine gf_X11_99 dX11_readAll_82 (by omega) ((hs_n (by omega)).trans hs_e) rfl ?_
              refine r_aload_n dX11_readAll_85 rfl rfl ?_
              refine gf_X11_90 dX11_readAll_86 (by omega) ((hs_n (by omega)).trans hs_e) rfl ?_
              refine r_icmp_ge 119 dX11_readAll_89 (by decide) ⟨by omega, by omega⟩ ⟨by omega, by omega⟩ (fun c_89 => ?_) (fun c_89 => ?_)
              · refine r_iconst (z := 0) dX11_readAll_119 ?_
                refine r_istore (L2 := [_, _, _, _, _]) dX11_readAll_120 (nlt rfl) rfl ?_
                refine r_iload_n dX11_readAll_122 rfl rfl ?_
                refine r_if_ne 136 dX11_readAll_123 (by decide) ⟨by decide, by decide⟩ (fun c_123 => by exfalso; omega) (fun c_123 => ?_)
                refine r_iload dX11_readAll_126 rfl ?_
                refine r_if_ne 136 dX11_readAll_128 (by decide) ⟨by decide, by decide⟩ (fun c_128 => by exfalso; omega) (fun c_128 => ?_)
                refine r_aload_n dX11_readAll_131 rfl rfl ?_
                refine gf_X11_99 dX11_readAll_132 (by omega) ((hs_n (by omega)).trans hs_e) rfl ?_
                refine r_ireturn hq dX11_readAll_135 rfl rfl rfl ?_
                have hfin := hQ (at17) 0 (fun _ => 0) (fun _ => 0) (om) (uA (ml1) (36 + kk).toNat (va17)) (ms) (at17) (wr17) (va17) (Or.inr ⟨by omega, 0, fun _ => 0, 0, hP9 _ _ _ _ ⟨w17, va17, at17, hn17, Or.inr ⟨hok, Or.inr (Or.inr (Or.inl ⟨(fun q => by have := q.1; have := q.2; omega), Or.inl (fun q => by have := q.1; have := q.2; omega), rfl⟩))⟩⟩⟩) (fun y => by omega) (fun j hj => rfl) (fun j hj => by rw [e36, uA_n (by omega)]; exact hmk j hj) (fun j hj => rfl)
                rw [hs_id (a := 125) ((hs_n (by omega)).trans ((hs_n (by omega)).trans hom))] at hfin
                rw [hs_id (a := 127) ((hs_n (by omega)).trans ((hs_n (by omega)).trans hms))] at hfin
                exact hfin
              · refine r_aload_n dX11_readAll_92 rfl rfl ?_
                refine gf_X11_20 dX11_readAll_93 (by omega) ((hs_n (by omega)).trans hs_e) rfl ?_
                refine r_aload_n dX11_readAll_96 rfl rfl ?_
                refine gf_X11_99 dX11_readAll_97 (by omega) ((hs_n (by omega)).trans hs_e) rfl ?_
                refine r_iaload dX11_readAll_100 (by omega) ((hs_n (by omega)).trans ((hs_n (by omega)).trans hbt)) (by omega) (by omega) (by decide) ?_
                have b_100 := hbb (at17).toNat (by omega)
                refine r_bipush (z := 58) dX11_readAll_101 (by decide) ?_
                refine r_icmp_ne 119 dX11_readAll_103 (by decide) ⟨by omega, by omega⟩ ⟨by decide, by decide⟩ (fun c_103 => ?_) (fun c_103 => ?_)
                · refine r_iconst (z := 0) dX11_readAll_119 ?_
                  refine r_istore (L2 := [_, _, _, _, _]) dX11_readAll_120 (nlt rfl) rfl ?_
                  refine r_iload_n dX11_readAll_122 rfl rfl ?_
                  refine r_if_ne 136 dX11_readAll_123 (by decide) ⟨by decide, by decide⟩ (fun c_123 => by exfalso; omega) (fun c_123 => ?_)
                  refine r_iload dX11_readAll_126 rfl ?_
                  refine r_if_ne 136 dX11_readAll_128 (by decide) ⟨by decide, by decide⟩ (fun c_128 => by exfalso; omega) (fun c_128 => ?_)
                  refine r_aload_n dX11_readAll_131 rfl rfl ?_
                  refine gf_X11_99 dX11_readAll_132 (by omega) ((hs_n (by omega)).trans hs_e) rfl ?_
                  refine r_ireturn hq dX11_readAll_135 rfl rfl rfl ?_
                  have hfin := hQ (at17) 0 (fun _ => 0) (fun _ => 0) (om) (uA (ml1) (36 + kk).toNat (va17)) (ms) (at17) (wr17) (va17) (Or.inr ⟨by omega, 0, fun _ => 0, 0, hP9 _ _ _ _ ⟨w17, va17, at17, hn17, Or.inr ⟨hok, Or.inr (Or.inr (Or.inl ⟨(fun q => by have := q.1; have := q.2; omega), Or.inl (fun q => by have := q.1; have := q.2; omega), rfl⟩))⟩⟩⟩) (fun y => by omega) (fun j hj => rfl) (fun j hj => by rw [e36, uA_n (by omega)]; exact hmk j hj) (fun j hj => rfl)
                  rw [hs_id (a := 125) ((hs_n (by omega)).trans ((hs_n (by omega)).trans hom))] at hfin
                  rw [hs_id (a := 127) ((hs_n (by omega)).trans ((hs_n (by omega)).trans hms))] at hfin
                  exact hfin
                · refine r_aload_n dX11_readAll_106 rfl rfl ?_
                  refine gf_X11_109 dX11_readAll_107 (by omega) ((hs_n (by omega)).trans hs_e) rfl ?_
                  refine r_lconst (z := 0) dX11_readAll_110 (by decide) ?_
                  refine r_lcmp_eq 119 dX11_readAll_111 dX11_readAll_112 (by decide) ⟨by omega, by omega⟩ ⟨by decide, by decide⟩ (fun c_111 => ?_) (fun c_111 => ?_)
                  · refine r_iconst (z := 0) dX11_readAll_119 ?_
                    refine r_istore (L2 := [_, _, _, _, _]) dX11_readAll_120 (nlt rfl) rfl ?_
                    refine r_iload_n dX11_readAll_122 rfl rfl ?_
                    refine r_if_ne 136 dX11_readAll_123 (by decide) ⟨by decide, by decide⟩ (fun c_123 => by exfalso; omega) (fun c_123 => ?_)
                    refine r_iload dX11_readAll_126 rfl ?_
                    refine r_if_ne 136 dX11_readAll_128 (by decide) ⟨by decide, by decide⟩ (fun c_128 => by exfalso; omega) (fun c_128 => ?_)
                    refine r_aload_n dX11_readAll_131 rfl rfl ?_
                    refine gf_X11_99 dX11_readAll_132 (by omega) ((hs_n (by omega)).trans hs_e) rfl ?_
                    refine r_ireturn hq dX11_readAll_135 rfl rfl rfl ?_
                    have hfin := hQ (at17) 0 (fun _ => 0) (fun _ => 0) (om) (uA (ml1) (36 + kk).toNat (va17)) (ms) (at17) (wr17) (va17) (Or.inr ⟨by omega, 0, fun _ => 0, 0, hP9 _ _ _ _ ⟨w17, va17, at17, hn17, Or.inr ⟨hok, Or.inl ⟨⟨by omega, by omega⟩, by omega, rfl⟩⟩⟩⟩) (fun y => by omega) (fun j hj => rfl) (fun j hj => by rw [e36, uA_n (by omega)]; exact hmk j hj) (fun j hj => rfl)
                    rw [hs_id (a := 125) ((hs_n (by omega)).trans ((hs_n (by omega)).trans hom))] at hfin
                    rw [hs_id (a := 127) ((hs_n (by omega)).trans ((hs_n (by omega)).trans hms))] at hfin
                    exact hfin
                  · refine r_iconst (z := 1) dX11_readAll_115 ?_
                    refine r_goto 120 dX11_readAll_116 (by decide) ?_
                    refine r_istore (L2 := [_, _, _, _, _]) dX11_readAll_120 (nlt rfl) rfl ?_
                    refine r_iload_n dX11_readAll_122 rfl rfl ?_
                    refine r_if_ne 136 dX11_readAll_123 (by decide) ⟨by decide, by decide⟩ (fun c_123 => by exfalso; omega) (fun c_123 => ?_)
                    refine r_iload dX11_readAll_126 rfl ?_
                    refine r_if_ne 136 dX11_readAll_128 (by decide) ⟨by decide, by decide⟩ (fun c_128 => ?_) (fun c_128 => by exfalso; omega)
                    refine r_aload_n dX11_readAll_136 rfl rfl ?_
                    refine r_dup dX11_readAll_137 rfl ?_
                    refine gf_X11_99 dX11_readAll_138 (by omega) ((hs_n (by omega)).trans hs_e) rfl ?_
                    refine r_iconst (z := 1) dX11_readAll_141 ?_
                    refine r_iadd dX11_readAll_142 ?_
                    refine pf_X11_99 (fs2 := [_, _, _, _, _, _, _, _, _, _, _, _, _, _, _, _, _, _, _, _, _, _, _, _, _, _, _, _, _, _, _]) dX11_readAll_143 (fun _ _ => rfl) (fun _ _ => rfl) (nlt rfl) (by omega) ((hs_n (by omega)).trans hs_e) rfl ?_
                    refine g_heap (h2 := (hs (hs h (124) (MOo (ln) (pr) (nm) (at17 + 1) (wr17) (va17) (em) (ta) (ro) (dg))) (126) (aL 42 (uA (ml1) (36 + kk).toNat (va17))))) (hs_put (by omega) hs_hs) ?_
                    refine r_iload_n dX11_readAll_146 rfl rfl ?_
                    refine r_istore_n (L2 := [_, _, _, _, _]) dX11_readAll_147 rfl (nlt rfl) rfl ?_
                    refine r_goto 9 dX11_readAll_148 (by decide) ?_
                    refine r_mask [true, true, true, false, false] (L2 := [_, _, _, none, none]) rfl ?_
                    exact ih9 (at17 + 1) (wr17) (va17) (uA (ml1) (36 + kk).toNat (va17)) (kk + 1) (0) ((n + 1)) ((uA cg (n + 1) va17)) (by omega) (by omega) (by omega) (by omega) (by omega) (by omega) (fun y => absurd y (by decide)) (fun _ => ⟨by omega, hP9 _ _ _ _ ⟨w17, va17, at17, hn17, Or.inr ⟨hok, Or.inr (Or.inl ⟨⟨by omega, by omega⟩, by omega, rfl, rfl, rfl, rfl⟩)⟩⟩⟩) (fun j h1 h2 => by rw [e36]; by_cases z : j = n + 1; (rw [z, uA_e, show 36 + (n + 1) - 1 = 36 + n by omega, uA_e]); rw [uA_n (by omega), uA_n z]; exact hcg j h1 (by omega)) (fun j hj => by rw [e36, uA_n (by omega)]; exact hmk j hj)
            · refine r_iload_n dX11_readAll_69 rfl rfl ?_
              refine r_bipush (z := 6) dX11_readAll_70 (by decide) ?_
              refine r_icmp_ge 79 dX11_readAll_72 (by decide) ⟨by omega, by omega⟩ ⟨by decide, by decide⟩ (fun c_72 => ?_) (fun c_72 => ?_)
              · refine r_iconst (z := 0) dX11_readAll_79 ?_
                refine r_istore_n (L2 := [_, _, _, _, none]) dX11_readAll_80 rfl (nlt rfl) rfl ?_
                refine r_aload_n dX11_readAll_81 rfl rfl ?_
                refine gf_X11_99 dX11_readAll_82 (by omega) ((hs_n (by omega)).trans hs_e) rfl ?_
                refine r_aload_n dX11_readAll_85 rfl rfl ?_
                refine gf_X11_90 dX11_readAll_86 (by omega) ((hs_n (by omega)).trans hs_e) rfl ?_
                refine r_icmp_ge 119 dX11_readAll_89 (by decide) ⟨by omega, by omega⟩ ⟨by omega, by omega⟩ (fun c_89 => ?_) (fun c_89 => ?_)
                · refine r_iconst (z := 0) dX11_readAll_119 ?_
                  refine r_istore (L2 := [_, _, _, _, _]) dX11_readAll_120 (nlt rfl) rfl ?_
                  refine r_iload_n dX11_readAll_122 rfl rfl ?_
                  refine r_if_ne 136 dX11_readAll_123 (by decide) ⟨by decide, by decide⟩ (fun c_123 => by exfalso; omega) (fun c_123 => ?_)
                  refine r_iload dX11_readAll_126 rfl ?_
                  refine r_if_ne 136 dX11_readAll_128 (by decide) ⟨by decide, by decide⟩ (fun c_128 => by exfalso; omega) (fun c_128 => ?_)
                  refine r_aload_n dX11_readAll_131 rfl rfl ?_
                  refine gf_X11_99 dX11_readAll_132 (by omega) ((hs_n (by omega)).trans hs_e) rfl ?_
                  refine r_ireturn hq dX11_readAll_135 rfl rfl rfl ?_
                  have hfin := hQ (at17) 0 (fun _ => 0) (fun _ => 0) (om) (uA (ml1) (36 + kk).toNat (va17)) (ms) (at17) (wr17) (va17) (Or.inr ⟨by omega, 0, fun _ => 0, 0, hP9 _ _ _ _ ⟨w17, va17, at17, hn17, Or.inr ⟨hok, Or.inr (Or.inr (Or.inl ⟨(fun q => by have := q.1; have := q.2; omega), Or.inr (by omega), rfl⟩))⟩⟩⟩) (fun y => by omega) (fun j hj => rfl) (fun j hj => by rw [e36, uA_n (by omega)]; exact hmk j hj) (fun j hj => rfl)
                  rw [hs_id (a := 125) ((hs_n (by omega)).trans ((hs_n (by omega)).trans hom))] at hfin
                  rw [hs_id (a := 127) ((hs_n (by omega)).trans ((hs_n (by omega)).trans hms))] at hfin
                  exact hfin
                · refine r_aload_n dX11_readAll_92 rfl rfl ?_
                  refine gf_X11_20 dX11_readAll_93 (by omega) ((hs_n (by omega)).trans hs_e) rfl ?_
                  refine r_aload_n dX11_readAll_96 rfl rfl ?_
                  refine gf_X11_99 dX11_readAll_97 (by omega) ((hs_n (by omega)).trans hs_e) rfl ?_
                  refine r_iaload dX11_readAll_100 (by omega) ((hs_n (by omega)).trans ((hs_n (by omega)).trans hbt)) (by omega) (by omega) (by decide) ?_
                  have b_100 := hbb (at17).toNat (by omega)
                  refine r_bipush (z := 58) dX11_readAll_101 (by decide) ?_
                  refine r_icmp_ne 119 dX11_readAll_103 (by decide) ⟨by omega, by omega⟩ ⟨by decide, by decide⟩ (fun c_103 => ?_) (fun c_103 => ?_)
                  · refine r_iconst (z := 0) dX11_readAll_119 ?_
                    refine r_istore (L2 := [_, _, _, _, _]) dX11_readAll_120 (nlt rfl) rfl ?_
                    refine r_iload_n dX11_readAll_122 rfl rfl ?_
                    refine r_if_ne 136 dX11_readAll_123 (by decide) ⟨by decide, by decide⟩ (fun c_123 => by exfalso; omega) (fun c_123 => ?_)
                    refine r_iload dX11_readAll_126 rfl ?_
                    refine r_if_ne 136 dX11_readAll_128 (by decide) ⟨by decide, by decide⟩ (fun c_128 => by exfalso; omega) (fun c_128 => ?_)
                    refine r_aload_n dX11_readAll_131 rfl rfl ?_
                    refine gf_X11_99 dX11_readAll_132 (by omega) ((hs_n (by omega)).trans hs_e) rfl ?_
                    refine r_ireturn hq dX11_readAll_135 rfl rfl rfl ?_
                    have hfin := hQ (at17) 0 (fun _ => 0) (fun _ => 0) (om) (uA (ml1) (36 + kk).toNat (va17)) (ms) (at17) (wr17) (va17) (Or.inr ⟨by omega, 0, fun _ => 0, 0, hP9 _ _ _ _ ⟨w17, va17, at17, hn17, Or.inr ⟨hok, Or.inr (Or.inr (Or.inl ⟨(fun q => by have := q.1; have := q.2; omega), Or.inr (by omega), rfl⟩))⟩⟩⟩) (fun y => by omega) (fun j hj => rfl) (fun j hj => by rw [e36, uA_n (by omega)]; exact hmk j hj) (fun j hj => rfl)
                    rw [hs_id (a := 125) ((hs_n (by omega)).trans ((hs_n (by omega)).trans hom))] at hfin
                    rw [hs_id (a := 127) ((hs_n (by omega)).trans ((hs_n (by omega)).trans hms))] at hfin
                    exact hfin
                  · refine r_aload_n dX11_readAll_106 rfl rfl ?_
                    refine gf_X11_109 dX11_readAll_107 (by omega) ((hs_n (by omega)).trans hs_e) rfl ?_
                    refine r_lconst (z := 0) dX11_readAll_110 (by decide) ?_
                    refine r_lcmp_eq 119 dX11_readAll_111 dX11_readAll_112 (by decide) ⟨by omega, by omega⟩ ⟨by decide, by decide⟩ (fun c_111 => ?_) (fun c_111 => ?_)
                    · refine r_iconst (z := 0) dX11_readAll_119 ?_
                      refine r_istore (L2 := [_, _, _, _, _]) dX11_readAll_120 (nlt rfl) rfl ?_
                      refine r_iload_n dX11_readAll_122 rfl rfl ?_
                      refine r_if_ne 136 dX11_readAll_123 (by decide) ⟨by decide, by decide⟩ (fun c_123 => by exfalso; omega) (fun c_123 => ?_)
                      refine r_iload dX11_readAll_126 rfl ?_
                      refine r_if_ne 136 dX11_readAll_128 (by decide) ⟨by decide, by decide⟩ (fun c_128 => by exfalso; omega) (fun c_128 => ?_)
                      refine r_aload_n dX11_readAll_131 rfl rfl ?_
                      refine gf_X11_99 dX11_readAll_132 (by omega) ((hs_n (by omega)).trans hs_e) rfl ?_
                      refine r_ireturn hq dX11_readAll_135 rfl rfl rfl ?_
                      have hfin := hQ (at17) 0 (fun _ => 0) (fun _ => 0) (om) (uA (ml1) (36 + kk).toNat (va17)) (ms) (at17) (wr17) (va17) (Or.inr ⟨by omega, 0, fun _ => 0, 0, hP9 _ _ _ _ ⟨w17, va17, at17, hn17, Or.inr ⟨hok, Or.inl ⟨⟨by omega, by omega⟩, by omega, rfl⟩⟩⟩⟩) (fun y => by omega) (fun j hj => rfl) (fun j hj => by rw [e36, uA_n (by omega)]; exact hmk j hj) (fun j hj => rfl)
                      rw [hs_id (a := 125) ((hs_n (by omega)).trans ((hs_n (by omega)).trans hom))] at hfin
                      rw [hs_id (a := 127) ((hs_n (by omega)).trans ((hs_n (by omega)).trans hms))] at hfin
                      exact hfin
                    · refine r_iconst (z := 1) dX11_readAll_115 ?_
                      refine r_goto 120 dX11_readAll_116 (by decide) ?_
                      refine r_istore (L2 := [_, _, _, _, _]) dX11_readAll_120 (nlt rfl) rfl ?_
                      refine r_iload_n dX11_readAll_122 rfl rfl ?_
                      refine r_if_ne 136 dX11_readAll_123 (by decide) ⟨by decide, by decide⟩ (fun c_123 => by exfalso; omega) (fun c_123 => ?_)
                      refine r_iload dX11_readAll_126 rfl ?_
                      refine r_if_ne 136 dX11_readAll_128 (by decide) ⟨by decide, by decide⟩ (fun c_128 => ?_) (fun c_128 => by exfalso; omega)
                      refine r_aload_n dX11_readAll_136 rfl rfl ?_
                      refine r_dup dX11_readAll_137 rfl ?_
                      refine gf_X11_99 dX11_readAll_138 (by omega) ((hs_n (by omega)).trans hs_e) rfl ?_
                      refine r_iconst (z := 1) dX11_readAll_141 ?_
                      refine r_iadd dX11_readAll_142 ?_
                      refine pf_X11_99 (fs2 := [_, _, _, _, _, _, _, _, _, _, _, _, _, _, _, _, _, _, _, _, _, _, _, _, _, _, _, _, _, _, _]) dX11_readAll_143 (fun _ _ => rfl) (fun _ _ => rfl) (nlt rfl) (by omega) ((hs_n (by omega)).trans hs_e) rfl ?_
                      refine g_heap (h2 := (hs (hs h (124) (MOo (ln) (pr) (nm) (at17 + 1) (wr17) (va17) (em) (ta) (ro) (dg))) (126) (aL 42 (uA (ml1) (36 + kk).toNat (va17))))) (hs_put (by omega) hs_hs) ?_
                      refine r_iload_n dX11_readAll_146 rfl rfl ?_
                      refine r_istore_n (L2 := [_, _, _, _, _]) dX11_readAll_147 rfl (nlt rfl) rfl ?_
                      refine r_goto 9 dX11_readAll_148 (by decide) ?_
                      refine r_mask [true, true, true, false, false] (L2 := [_, _, _, none, none]) rfl ?_
                      exact ih9 (at17 + 1) (wr17) (va17) (uA (ml1) (36 + kk).toNat (va17)) (kk + 1) (0) ((n + 1)) ((uA cg (n + 1) va17)) (by omega) (by omega) (by omega) (by omega) (by omega) (by omega) (fun y => absurd y (by decide)) (fun _ => ⟨by omega, hP9 _ _ _ _ ⟨w17, va17, at17, hn17, Or.inr ⟨hok, Or.inr (Or.inl ⟨⟨by omega, by omega⟩, by omega, rfl, rfl, rfl, rfl⟩)⟩⟩⟩) (fun j h1 h2 => by rw [e36]; by_cases z : j = n + 1; (rw [z, uA_e, show 36 + (n + 1) - 1 = 36 + n by omega, uA_e]); rw [uA_n (by omega), uA_n z]; exact hcg j h1 (by omega)) (fun j hj => by rw [e36, uA_n (by omega)]; exact hmk j hj)
              · refine r_iconst (z := 1) dX11_readAll_75 ?_
                refine r_goto 80 dX11_readAll_76 (by decide) ?_
                refine r_istore_n (L2 := [_, _, _, _, none]) dX11_readAll_80 rfl (nlt rfl) rfl ?_
                refine r_aload_n dX11_readAll_81 rfl rfl ?_
                refine gf_X11_99 dX11_readAll_82 (by omega) ((hs_n (by omega)).trans hs_e) rfl ?_
                refine r_aload_n dX11_readAll_85 rfl rfl ?_
                refine gf_X11_90 dX11_readAll_86 (by omega) ((hs_n (by omega)).trans hs_e) rfl ?_
                refine r_icmp_ge 119 dX11_readAll_89 (by decide) ⟨by omega, by omega⟩ ⟨by omega, by omega⟩ (fun c_89 => ?_) (fun c_89 => ?_)
                · refine r_iconst (z := 0) dX11_readAll_119 ?_
                  refine r_istore (L2 := [_, _, _, _, _]) dX11_readAll_120 (nlt rfl) rfl ?_
                  refine r_iload_n dX11_readAll_122 rfl rfl ?_
                  refine r_if_ne 136 dX11_readAll_123 (by decide) ⟨by decide, by decide⟩ (fun c_123 => ?_) (fun c_123 => by exfalso; omega)
                  refine r_aload_n dX11_readAll_136 rfl rfl ?_
                  refine r_dup dX11_readAll_137 rfl ?_
                  refine gf_X11_99 dX11_readAll_138 (by omega) ((hs_n (by omega)).trans hs_e) rfl ?_
                  refine r_iconst (z := 1) dX11_readAll_141 ?_
                  refine r_iadd dX11_readAll_142 ?_
                  refine pf_X11_99 (fs2 := [_, _, _, _, _, _, _, _, _, _, _, _, _, _, _, _, _, _, _, _, _, _, _, _, _, _, _, _, _, _, _]) dX11_readAll_143 (fun _ _ => rfl) (fun _ _ => rfl) (nlt rfl) (by omega) ((hs_n (by omega)).trans hs_e) rfl ?_
                  refine g_heap (h2 := (hs (hs h (124) (MOo (ln) (pr) (nm) (at17 + 1) (wr17) (va17) (em) (ta) (ro) (dg))) (126) (aL 42 (uA (ml1) (36 + kk).toNat (va17))))) (hs_put (by omega) hs_hs) ?_
                  refine r_iload_n dX11_readAll_146 rfl rfl ?_
                  refine r_istore_n (L2 := [_, _, _, _, _]) dX11_readAll_147 rfl (nlt rfl) rfl ?_
                  refine r_goto 9 dX11_readAll_148 (by decide) ?_
                  refine r_mask [true, true, true, false, false] (L2 := [_, _, _, none, none]) rfl ?_
                  exact ih9 (at17 + 1) (wr17) (va17) (uA (ml1) (36 + kk).toNat (va17)) (kk + 1) (1) ((n + 1)) ((uA cg (n + 1) va17)) (by omega) (by omega) (by omega) (by omega) (by omega) (by omega) (fun _ => ⟨by omega, fun r k2 c2 st z => hP9 r k2 c2 st ⟨w17, va17, at17, hn17, Or.inr ⟨hok, Or.inr (Or.inr (Or.inr ⟨(fun q => by have := q.1; have := q.2; omega), ⟨by omega, by omega⟩, by omega, by rw [show 6 - (n + 1) = d9 by omega] at z; exact z⟩))⟩⟩⟩) (fun y => absurd y (by decide)) (fun j h1 h2 => by rw [e36]; by_cases z : j = n + 1; (rw [z, uA_e, show 36 + (n + 1) - 1 = 36 + n by omega, uA_e]); rw [uA_n (by omega), uA_n z]; exact hcg j h1 (by omega)) (fun j hj => by rw [e36, uA_n (by omega)]; exact hmk j hj)
                · refine r_aload_n dX11_readAll_92 rfl rfl ?_
                  refine gf_X11_20 dX11_readAll_93 (by omega) ((hs_n (by omega)).trans hs_e) rfl ?_
                  refine r_aload_n dX11_readAll_96 rfl rfl ?_
                  refine gf_X11_99 dX11_readAll_97 (by omega) ((hs_n (by omega)).trans hs_e) rfl ?_
                  refine r_iaload dX11_readAll_100 (by omega) ((hs_n (by omega)).trans ((hs_n (by omega)).trans hbt)) (by omega) (by omega) (by decide) ?_
                  have b_100 := hbb (at17).toNat (by omega)
                  refine r_bipush (z := 58) dX11_readAll_101 (by decide) ?_
                  refine r_icmp_ne 119 dX11_readAll_103 (by decide) ⟨by omega, by omega⟩ ⟨by decide, by decide⟩ (fun c_103 => ?_) (fun c_103 => ?_)
                  · refine r_iconst (z := 0) dX11_readAll_119 ?_
                    refine r_istore (L2 := [_, _, _, _, _]) dX11_readAll_120 (nlt rfl) rfl ?_
                    refine r_iload_n dX11_readAll_122 rfl rfl ?_
                    refine r_if_ne 136 dX11_readAll_123 (by decide) ⟨by decide, by decide⟩ (fun c_123 => ?_) (fun c_123 => by exfalso; omega)
                    refine r_aload_n dX11_readAll_136 rfl rfl ?_
                    refine r_dup dX11_readAll_137 rfl ?_
                    refine gf_X11_99 dX11_readAll_138 (by omega) ((hs_n (by omega)).trans hs_e) rfl ?_
                    refine r_iconst (z := 1) dX11_readAll_141 ?_
                    refine r_iadd dX11_readAll_142 ?_
                    refine pf_X11_99 (fs2 := [_, _, _, _, _, _, _, _, _, _, _, _, _, _, _, _, _, _, _, _, _, _, _, _, _, _, _, _, _, _, _]) dX11_readAll_143 (fun _ _ => rfl) (fun _ _ => rfl) (nlt rfl) (by omega) ((hs_n (by omega)).trans hs_e) rfl ?_
                    refine g_heap (h2 := (hs (hs h (124) (MOo (ln) (pr) (nm) (at17 + 1) (wr17) (va17) (em) (ta) (ro) (dg))) (126) (aL 42 (uA (ml1) (36 + kk).toNat (va17))))) (hs_put (by omega) hs_hs) ?_
                    refine r_iload_n dX11_readAll_146 rfl rfl ?_
                    refine r_istore_n (L2 := [_, _, _, _, _]) dX11_readAll_147 rfl (nlt rfl) rfl ?_
                    refine r_goto 9 dX11_readAll_148 (by decide) ?_
                    refine r_mask [true, true, true, false, false] (L2 := [_, _, _, none, none]) rfl ?_
                    exact ih9 (at17 + 1) (wr17) (va17) (uA (ml1) (36 + kk).toNat (va17)) (kk + 1) (1) ((n + 1)) ((uA cg (n + 1) va17)) (by omega) (by omega) (by omega) (by omega) (by omega) (by omega) (fun _ => ⟨by omega, fun r k2 c2 st z => hP9 r k2 c2 st ⟨w17, va17, at17, hn17, Or.inr ⟨hok, Or.inr (Or.inr (Or.inr ⟨(fun q => by have := q.1; have := q.2; omega), ⟨by omega, by omega⟩, by omega, by rw [show 6 - (n + 1) = d9 by omega] at z; exact z⟩))⟩⟩⟩) (fun y => absurd y (by decide)) (fun j h1 h2 => by rw [e36]; by_cases z : j = n + 1; (rw [z, uA_e, show 36 + (n + 1) - 1 = 36 + n by omega, uA_e]); rw [uA_n (by omega), uA_n z]; exact hcg j h1 (by omega)) (fun j hj => by rw [e36, uA_n (by omega)]; exact hmk j hj)
                  · refine r_aload_n dX11_readAll_106 rfl rfl ?_
                    refine gf_X11_109 dX11_readAll_107 (by omega) ((hs_n (by omega)).trans hs_e) rfl ?_
                    refine r_lconst (z := 0) dX11_readAll_110 (by decide) ?_
                    refine r_lcmp_eq 119 dX11_readAll_111 dX11_readAll_112 (by decide) ⟨by omega, by omega⟩ ⟨by decide, by decide⟩ (fun c_111 => ?_) (fun c_111 => ?_)
                    · refine r_iconst (z := 0) dX11_readAll_119 ?_
                      refine r_istore (L2 := [_, _, _, _, _]) dX11_readAll_120 (nlt rfl) rfl ?_
                      refine r_iload_n dX11_readAll_122 rfl rfl ?_
                      refine r_if_ne 136 dX11_readAll_123 (by decide) ⟨by decide, by decide⟩ (fun c_123 => ?_) (fun c_123 => by exfalso; omega)
                      refine r_aload_n dX11_readAll_136 rfl rfl ?_
                      refine r_dup dX11_readAll_137 rfl ?_
                      refine gf_X11_99 dX11_readAll_138 (by omega) ((hs_n (by omega)).trans hs_e) rfl ?_
                      refine r_iconst (z := 1) dX11_readAll_141 ?_
                      refine r_iadd dX11_readAll_142 ?_
                      refine pf_X11_99 (fs2 := [_, _, _, _, _, _, _, _, _, _, _, _, _, _, _, _, _, _, _, _, _, _, _, _, _, _, _, _, _, _, _]) dX11_readAll_143 (fun _ _ => rfl) (fun _ _ => rfl) (nlt rfl) (by omega) ((hs_n (by omega)).trans hs_e) rfl ?_
                      refine g_heap (h2 := (hs (hs h (124) (MOo (ln) (pr) (nm) (at17 + 1) (wr17) (va17) (em) (ta) (ro) (dg))) (126) (aL 42 (uA (ml1) (36 + kk).toNat (va17))))) (hs_put (by omega) hs_hs) ?_
                      refine r_iload_n dX11_readAll_146 rfl rfl ?_
                      refine r_istore_n (L2 := [_, _, _, _, _]) dX11_readAll_147 rfl (nlt rfl) rfl ?_
                      refine r_goto 9 dX11_readAll_148 (by decide) ?_
                      refine r_mask [true, true, true, false, false] (L2 := [_, _, _, none, none]) rfl ?_
                      exact ih9 (at17 + 1) (wr17) (va17) (uA (ml1) (36 + kk).toNat (va17)) (kk + 1) (1) ((n + 1)) ((uA cg (n + 1) va17)) (by omega) (by omega) (by omega) (by omega) (by omega) (by omega) (fun _ => ⟨by omega, fun r k2 c2 st z => hP9 r k2 c2 st ⟨w17, va17, at17, hn17, Or.inr ⟨hok, Or.inr (Or.inr (Or.inr ⟨(fun q => by have := q.1; have := q.2; omega), ⟨by omega, by omega⟩, by omega, by rw [show 6 - (n + 1) = d9 by omega] at z; exact z⟩))⟩⟩⟩) (fun y => absurd y (by decide)) (fun j h1 h2 => by rw [e36]; by_cases z : j = n + 1; (rw [z, uA_e, show 36 + (n + 1) - 1 = 36 + n by omega, uA_e]); rw [uA_n (by omega), uA_n z]; exact hcg j h1 (by omega)) (fun j hj => by rw [e36, uA_n (by omega)]; exact hmk j hj)
                    · refine r_iconst (z := 1) dX11_readAll_115 ?_
                      refine r_goto 120 dX11_readAll_116 (by decide) ?_
                      refine r_istore (L2 := [_, _, _, _, _]) dX11_readAll_120 (nlt rfl) rfl ?_
                      refine r_iload_n dX11_readAll_122 rfl rfl ?_
                      refine r_if_ne 136 dX11_readAll_123 (by decide) ⟨by decide, by decide⟩ (fun c_123 => ?_) (fun c_123 => by exfalso; omega)
                      refine r_aload_n dX11_readAll_136 rfl rfl ?_
                      refine r_dup dX11_readAll_137 rfl ?_
                      refine gf_X11_99 dX11_readAll_138 (by omega) ((hs_n (by omega)).trans hs_e) rfl ?_
                      refine r_iconst (z := 1) dX11_readAll_141 ?_
                      refine r_iadd dX11_readAll_142 ?_
                      refine pf_X11_99 (fs2 := [_, _, _, _, _, _, _, _, _, _, _, _, _, _, _, _, _, _, _, _, _, _, _, _, _, _, _, _, _, _, _]) dX11_readAll_143 (fun _ _ => rfl) (fun _ _ => rfl) (nlt rfl) (by omega) ((hs_n (by omega)).trans hs_e) rfl ?_
                      refine g_heap (h2 := (hs (hs h (124) (MOo (ln) (pr) (nm) (at17 + 1) (wr17) (va17) (em) (ta) (ro) (dg))) (126) (aL 42 (uA (ml1) (36 + kk).toNat (va17))))) (hs_put (by omega) hs_hs) ?_
                      refine r_iload_n dX11_readAll_146 rfl rfl ?_
                      refine r_istore_n (L2 := [_, _, _, _, _]) dX11_readAll_147 rfl (nlt rfl) rfl ?_
                      refine r_goto 9 dX11_readAll_148 (by decide) ?_
                      refine r_mask [true, true, true, false, false] (L2 := [_, _, _, none, none]) rfl ?_
                      exact ih9 (at17 + 1) (wr17) (va17) (uA (ml1) (36 + kk).toNat (va17)) (kk + 1) (1) ((n + 1)) ((uA cg (n + 1) va17)) (by omega) (by omega) (by omega) (by omega) (by omega) (by omega) (fun _ => ⟨by omega, fun r k2 c2 st z => hP9 r k2 c2 st ⟨w17, va17, at17, hn17, Or.inr ⟨hok, Or.inr (Or.inr (Or.inr ⟨(fun q => by have := q.1; have := q.2; omega), ⟨by omega, by omega⟩, by omega, by rw [show 6 - (n + 1) = d9 by omega] at z; exact z⟩))⟩⟩⟩) (fun y => absurd y (by decide)) (fun j h1 h2 => by rw [e36]; by_cases z : j = n + 1; (rw [z, uA_e, show 36 + (n + 1) - 1 = 36 + n by omega, uA_e]); rw [uA_n (by omega), uA_n z]; exact hcg j h1 (by omega)) (fun j hj => by rw [e36, uA_n (by omega)]; exact hmk j hj)
        · refine r_aload_n dX11_readAll_23 rfl rfl ?_
          refine gf_X11_106 dX11_readAll_24 (by omega) ((hs_n (by omega)).trans hs_e) rfl ?_
          refine r_ireturn hq dX11_readAll_27 rfl rfl rfl ?_
          have hfin := hQ (wr17) 0 (fun _ => 0) (fun _ => 0) (om) (ml1) (ms) (at17) (wr17) (va17) (Or.inr ⟨by omega, 0, fun _ => 0, 0, hP9 _ _ _ _ ⟨w17, v17, e17, hn17, Or.inl ⟨by omega, by omega⟩⟩⟩) (fun y => by omega) (fun j hj => rfl) hmk (fun j hj => rfl)
          rw [hs_id (a := 125) ((hs_n (by omega)).trans ((hs_n (by omega)).trans hom))] at hfin
          rw [hs_id (a := 127) ((hs_n (by omega)).trans ((hs_n (by omega)).trans hms))] at hfin
          exact hfin
  refine g_heap (hs_id (c := aL 42 (ml)) ((hs_n (by omega)).trans hml)).symm ?_
  exact lp9 ((8 : Int) + 1).toNat (0) (wr) (va) (ml) (0) (1) (0) ((fun _ => 0)) (by omega) rfl (by decide) (Or.inr rfl) (by decide) (by omega) (fun _ => ⟨by decide, fun r k2 c2 st z => z⟩) (fun y => absurd y (by decide)) (fun j h1 h2 => by omega) (fun j hj => rfl)
set_option maxHeartbeats 2000000 in
set_option maxRecDepth 20000 in
theorem c_X11_fault {N : Nat} {h : Hp} {Q : QP} {ln pr nm at_ wr va em ta ro dg : Int} {b : Nat → Int} {om ml ms : Nat → Int} (hm0 : h 124 = MOo ln pr nm at_ wr va em ta ro dg) (hN : 146 ≤ N) (hbt : h 128 = aI 100 b) (hbb : ∀ j, j < 100 → 0 ≤ b j ∧ b j ≤ 255) (hl0 : 0 ≤ ln) (hl : ln ≤ 100) (hom : h 125 = aI 7 om) (hml : h 126 = aL 42 ml) (hms : h 127 = aL 42 ms) (hQ : ∀ (r : Int) (k2 : Nat) (c2 s2 : Nat → Int) (om2 ml2 ms2 : Nat → Int) (at2 wr2 va2 : Int), Par ln b r k2 c2 s2 → (r = -4 → om2 6 = (k2 : Int) ∧ (∀ j, 1 ≤ j → j ≤ k2 → ml2 (36 + j - 1) = c2 j) ∧ ∀ j, j < k2 → ms2 (36 + j) = s2 j) → (∀ j, j < 6 → om2 j = om j) → (∀ j, j < 36 → ml2 j = ml j) → (∀ j, j < 36 → ms2 j = ms j) → Q (some (.int (iZ r))) N (hs (hs (hs (hs h 124 (MOo ln pr nm at2 wr2 va2 em ta ro dg)) 126 (aL 42 ml2)) 125 (aI 7 om2)) 127 (aL 42 ms2))) : Runs mX11_fault [.ref (124)] N h Q := by
  refine run_start (own := RX11) rfl (by decide) (nle rfl) rfl (fun X hq hini => ?_)
  show G X RX11 cX11_fault mX11_fault.rm N 0 0 0 [some (.ref (124))] [] h
  refine r_aload_n dX11_fault_0 rfl rfl ?_
  refine r_callV (av := []) dX11_fault_1 lkX11_readAll ml_X11_123 imX11_readAll seX11_readAll (by omega) (rfl : vwCl[11]? = _) ⟨_, hm0⟩ ⟨Nat.le_of_ble_eq_true rfl, Nat.le_of_ble_eq_true rfl⟩ rfl rfl (nle rfl) ⟨Nat.le_of_ble_eq_true rfl, Nat.le_of_ble_eq_true rfl⟩ (c_X11_readAll (b := b) (om := om) (ml := ml) (ms := ms) (ln := ln) (pr := pr) (nm := nm) (at_ := at_) (wr := wr) (va := va) (em := em) (ta := ta) (ro := ro) (dg := dg) hm0 hN hbt hbb hl0 hl hom hml hms (fun r1 k1 c1 s1 om1 ml1 ms1 at1 wr1 va1 hP1 h41 ho1 hm1 hs1 => ?_))
  show G _ _ _ _ _ _ _ 4 _ _ _
  refine r_ireturn hq dX11_fault_4 rfl rfl rfl ?_
  exact hQ _ _ _ _ _ _ _ _ _ _ hP1 h41 ho1 hm1 hs1
/-- six of register 6 to register i -/
def kpF (f : Nat → Int) (i t : Nat) : Nat → Int := fun j => if 6 * i ≤ j ∧ j < 6 * i + t then f (36 + (j - 6 * i)) else f j
theorem kpF_0 (f : Nat → Int) (i : Nat) : kpF f i 0 = f := funext fun j => by unfold kpF; rw [if_neg (by omega)]
theorem kpF_s (f : Nat → Int) (i t : Nat) (hi : i < 6) (ht : t < 6) : uA (kpF f i t) (6 * i + t) (kpF f i t (36 + t)) = kpF f i (t + 1) := funext fun j => by
  unfold uA
  have e1 : kpF f i t (36 + t) = f (36 + t) := by unfold kpF; rw [if_neg (by omega)]
  rw [e1]
  unfold kpF
  by_cases z : j = 6 * i + t
  · rw [if_pos z, if_pos ⟨by omega, by omega⟩]; congr 1; omega
  · rw [if_neg z]
    by_cases w : 6 * i ≤ j ∧ j < 6 * i + t
    · rw [if_pos w, if_pos ⟨w.1, by omega⟩]
    · rw [if_neg w, if_neg (by omega)]
set_option maxHeartbeats 2000000 in
set_option maxRecDepth 20000 in
theorem c_X11_keep {N : Nat} {h : Hp} {Q : QP} {ln pr nm at_ wr va em ta ro dg : Int} {om ml ms : Nat → Int} {ii : Int} {i : Nat} (hm0 : h 124 = MOo ln pr nm at_ wr va em ta ro dg) (hN : 146 ≤ N) (hom : h 125 = aI 7 om) (hml : h 126 = aL 42 ml) (hms : h 127 = aL 42 ms) (hi : ii = (i : Int)) (hi6 : i < 6) (hQ : Q none N (hs (hs (hs h 125 (aI 7 (uA om i (om 6)))) 126 (aL 42 (kpF ml i 6))) 127 (aL 42 (kpF ms i 6)))) : Runs mX11_keep [.ref (124), .int (iZ (ii))] N h Q := by
  have ein : ii.toNat = i := by omega
  refine run_start (own := RX11) rfl (by decide) (nle rfl) rfl (fun X hq hini => ?_)
  show G X RX11 cX11_keep mX11_keep.rm N 0 0 0 [some (.ref (124)), some (.int (iZ (ii))), none] [] h
  refine r_aload_n dX11_keep_0 rfl rfl ?_
  refine gf_X11_7 dX11_keep_1 (by omega) hm0 rfl ?_
  refine r_iload_n dX11_keep_4 rfl rfl ?_
  refine r_aload_n dX11_keep_5 rfl rfl ?_
  refine gf_X11_7 dX11_keep_6 (by omega) hm0 rfl ?_
  refine r_bipush (z := 6) dX11_keep_9 (by decide) ?_
  refine r_iaload dX11_keep_11 (by omega) hom (by omega) (by omega) (by decide) ?_
  refine r_iastore dX11_keep_12 (by omega) hom (by omega) (by omega) (by decide) ?_
  refine r_iconst (z := 0) dX11_keep_13 ?_
  refine r_istore_n (L2 := [_, _, _]) dX11_keep_14 rfl (nlt rfl) rfl ?_
  have lp15 : ∀ (fu15 : Nat) (ml1 : Nat → Int) (ms1 : Nat → Int) (t : Int) (n : Nat), (7 - t) < (fu15 : Int) → (t = (n : Int)) → (n ≤ 6) → (ml1 = kpF ml i n) → (ms1 = kpF ms i n) → G X RX11 cX11_keep mX11_keep.rm N 0 0 15 [some (.ref (124)), some (.int (iZ (ii))), some (.int (iZ (t)))] [] (hs (hs (hs h (125) (aI 7 (uA (om) (ii).toNat (om (6 : Int).toNat)))) (126) (aL 42 (ml1))) (127) (aL 42 (ms1))) := by
    intro fu15
    induction fu15 with
    | zero => intro ml1 ms1 t n hm et n6 e1 e2; exfalso; omega
    | succ fu15 ih15 =>
      intro ml1 ms1 t n hms15 et n6 e1 e2
      refine r_iload_n dX11_keep_15 rfl rfl ?_
      refine r_bipush (z := 6) dX11_keep_16 (by decide) ?_
      refine r_icmp_ge 67 dX11_keep_18 (by decide) ⟨by omega, by omega⟩ ⟨by decide, by decide⟩ (fun c_18 => ?_) (fun c_18 => ?_)
      · refine r_return hq dX11_keep_67 rfl rfl rfl ?_
        have n9 : n = 6 := by omega
        rw [e1, e2, n9, ein]
        exact hQ
      · have ex1 : (6 * ii + t).toNat = 6 * i + n := by omega
        have ex2 : (36 + t).toNat = 36 + n := by omega
        refine r_aload_n dX11_keep_21 rfl rfl ?_
        refine gf_X11_13 dX11_keep_22 (by omega) ((hs_n (by omega)).trans ((hs_n (by omega)).trans ((hs_n (by omega)).trans hm0))) rfl ?_
        refine r_bipush (z := 6) dX11_keep_25 (by decide) ?_
        refine r_iload_n dX11_keep_27 rfl rfl ?_
        refine r_imul dX11_keep_28 ?_
        refine r_iload_n dX11_keep_29 rfl rfl ?_
        refine r_iadd dX11_keep_30 ?_
        refine r_aload_n dX11_keep_31 rfl rfl ?_
        refine gf_X11_13 dX11_keep_32 (by omega) ((hs_n (by omega)).trans ((hs_n (by omega)).trans ((hs_n (by omega)).trans hm0))) rfl ?_
        refine r_bipush (z := 36) dX11_keep_35 (by decide) ?_
        refine r_iload_n dX11_keep_37 rfl rfl ?_
        refine r_iadd dX11_keep_38 ?_
        refine r_laload dX11_keep_39 (by omega) ((hs_n (by omega)).trans hs_e) (by omega) (by omega) (by decide) ?_
        refine r_lastore dX11_keep_40 (by omega) ((hs_n (by omega)).trans hs_e) (by omega) (by omega) (by decide) ?_
        refine g_heap (h2 := (hs (hs (hs h (125) (aI 7 (uA (om) (ii).toNat (om (6 : Int).toNat)))) (126) (aL 42 (uA (ml1) ((6 * ii) + t).toNat (ml1 (36 + t).toNat)))) (127) (aL 42 (ms1)))) (hs_put (by omega) hs_hs) ?_
        refine r_aload_n dX11_keep_41 rfl rfl ?_
        refine gf_X11_17 dX11_keep_42 (by omega) ((hs_n (by omega)).trans ((hs_n (by omega)).trans ((hs_n (by omega)).trans hm0))) rfl ?_
        refine r_bipush (z := 6) dX11_keep_45 (by decide) ?_
        refine r_iload_n dX11_keep_47 rfl rfl ?_
        refine r_imul dX11_keep_48 ?_
        refine r_iload_n dX11_keep_49 rfl rfl ?_
        refine r_iadd dX11_keep_50 ?_
        refine r_aload_n dX11_keep_51 rfl rfl ?_
        refine gf_X11_17 dX11_keep_52 (by omega) ((hs_n (by omega)).trans ((hs_n (by omega)).trans ((hs_n (by omega)).trans hm0))) rfl ?_
        refine r_bipush (z := 36) dX11_keep_55 (by decide) ?_
        refine r_iload_n dX11_keep_57 rfl rfl ?_
        refine r_iadd dX11_keep_58 ?_
        refine r_laload dX11_keep_59 (by omega) hs_e (by omega) (by omega) (by decide) ?_
        refine r_lastore dX11_keep_60 (by omega) hs_e (by omega) (by omega) (by decide) ?_
        refine g_heap (h2 := (hs (hs (hs h (125) (aI 7 (uA (om) (ii).toNat (om (6 : Int).toNat)))) (126) (aL 42 (uA (ml1) ((6 * ii) + t).toNat (ml1 (36 + t).toNat)))) (127) (aL 42 (uA (ms1) ((6 * ii) + t).toNat (ms1 (36 + t).toNat))))) hs_hs ?_
        refine r_iinc (L2 := [_, _, _]) dX11_keep_61 (nlt rfl) rfl rfl ?_
        refine r_goto 15 dX11_keep_64 (by decide) ?_
        exact ih15 (uA (ml1) ((6 * ii) + t).toNat (ml1 (36 + t).toNat)) (uA (ms1) ((6 * ii) + t).toNat (ms1 (36 + t).toNat)) (t + 1) ((n + 1)) (by omega) (by omega) (by omega) (by rw [ex1, ex2, e1]; exact kpF_s ml i n hi6 (by omega)) (by rw [ex1, ex2, e2]; exact kpF_s ms i n hi6 (by omega))
  refine g_heap (hs_id (c := aL 42 (ml)) ((hs_n (by omega)).trans hml)).symm ?_
  refine g_heap (hs_id (c := aL 42 (ms)) ((hs_n (by omega)).trans ((hs_n (by omega)).trans hms))).symm ?_
  exact lp15 ((7 : Int) + 1).toNat (ml) (ms) (0) (0) (by omega) rfl (by decide) (kpF_0 ml i).symm (kpF_0 ms i).symm
