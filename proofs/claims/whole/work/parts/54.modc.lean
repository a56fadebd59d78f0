/-- what the model makes of the lines: the pivot's line scaled and changed with line r; then cleared -/
def mSw (A : Mat) (r v : Nat) (t p : Int) : Mat := fun i c => if i = r then A v c * t % p else if i = v then A r c else A i c
def mCl (B : Mat) (r col : Nat) (p : Int) : Mat := fun i c => if i ≠ r ∧ B i col ≠ 0 then (B i c - B i col * B r c) % p else B i c
def ML (li : Nat → Int) (pl sp : Nat) (A : Mat) : Prop := ∀ i, i < pl → ∀ c, c ≤ sp → li (41 * i + c) = A i c
def RNG (A : Mat) (pl sp : Nat) (p : Int) : Prop := ∀ i, i < pl → ∀ c, c ≤ sp → 0 ≤ A i c ∧ A i c < p
def ZR (A : Mat) (pl led col : Nat) : Prop := ∀ i, led ≤ i → i < pl → ∀ c, c < col → A i c = 0
theorem mm_eq {A : Mat} {led v col sp pl : Nat} {t p : Int} (hp : 2 ≤ p) (hl : led < pl) (hv : v < pl) (hlv : led ≤ v) (hcs : col ≤ sp) (hR : RNG A pl sp p) (hZ : ZR A pl led col) : ∀ i, i < pl → ∀ c, c ≤ sp → mCl (mSw A led v t p) led col p i c = clr (scl (swp A led v) led col sp t p) led col sp pl p i c := by
  have hB : ∀ c, c ≤ sp → mSw A led v t p led c = scl (swp A led v) led col sp t p led c := fun c hc => by
    unfold mSw scl swp
    rw [if_pos rfl]
    by_cases h1 : col ≤ c
    · rw [if_pos ⟨rfl, h1, hc⟩, if_pos rfl]
    · rw [if_neg (fun w => h1 w.2.1), if_pos rfl, hZ v hlv hv c (by omega), Int.zero_mul, Int.zero_emod]
  have hx : ∀ i, i ≠ led → ∀ c, mSw A led v t p i c = scl (swp A led v) led col sp t p i c := fun i hi c => by
    unfold mSw scl swp
    rw [if_neg hi, if_neg (fun w : i = led ∧ col ≤ c ∧ c ≤ sp => hi w.1), if_neg hi]
    by_cases h1 : i = v
    · rw [if_pos h1, if_pos h1]
    · rw [if_neg h1, if_neg h1]
  intro i hi c hc
  unfold mCl clr
  by_cases h1 : i = led
  · rw [if_neg (fun w => w.1 h1), if_neg (fun w => w.2.1 h1), h1]
    exact hB c hc
  · rw [hx i h1 col, hx i h1 c, hB c hc]
    by_cases h2 : scl (swp A led v) led col sp t p i col ≠ 0
    · rw [if_pos ⟨h1, h2⟩]
      have hxr : 0 ≤ scl (swp A led v) led col sp t p i c ∧ scl (swp A led v) led col sp t p i c < p := by
        rw [← hx i h1 c]
        unfold mSw
        rw [if_neg h1]
        split
        · exact hR led hl c hc
        · exact hR i hi c hc
      by_cases h3 : col ≤ c
      · rw [if_pos ⟨hi, h1, h2, h3, hc⟩]
        generalize scl (swp A led v) led col sp t p i c = x
        generalize scl (swp A led v) led col sp t p i col = f
        generalize scl (swp A led v) led col sp t p led c = z
        refine cg.emod ?_
        show p ∣ _
        exact ⟨-z, by rw [Int.sub_mul, Int.mul_neg]; omega⟩
      · rw [if_neg (fun w => h3 w.2.2.2.1)]
        have h4 : scl (swp A led v) led col sp t p led c = 0 := by
          rw [← hB c hc]
          unfold mSw
          rw [if_pos rfl, hZ v hlv hv c (by omega), Int.zero_mul, Int.zero_emod]
        rw [h4, Int.mul_zero, Int.sub_zero, Int.emod_eq_of_lt hxr.1 hxr.2]
    · rw [if_neg (fun w => h2 w.2), if_neg (fun w => h2 w.2.2.1)]
/-- one column: what is kept of zeros and of bounds -/
theorem gst_keep {p : Int} {sp pl col : Nat} {g : GS} (hp : Prm p) (hcs : col ≤ sp) (hR : RNG g.1 pl sp p) (hZ : ZR g.1 pl g.2.1 col) : RNG (gst p sp pl g col).1 pl sp p ∧ ZR (gst p sp pl g col).1 pl (gst p sp pl g col).2.1 (col + 1) := by
  have hp2 := hp.1
  by_cases h : g.2.1 < pl ∧ flW g.1 col g.2.1 pl < pl
  · have hW := flW_LW (A := g.1) (col := col) (i := g.2.1) (places := pl) (by omega)
    rw [gst_yes h]
    generalize hv : flW g.1 col g.2.1 pl = v at h hW ⊢
    refine ⟨range_clr (by omega) (range_scl (by omega) (range_swp h.1 h.2 hR)), fun i hi hi2 c hc => ?_⟩
    have hi : g.2.1 + 1 ≤ i := hi
    have hvc : g.1 v col ≠ 0 := hW.2.2.2 h.2
    have hvr := hR v h.2 col hcs
    have hiv : IsInv (g.1 v col) p (ivf p (g.1 v col)) := by
      obtain ⟨q, rfl, hq⟩ := prm_n hp
      obtain ⟨u, hu⟩ := pz_inv hq hvr.1 hvr.2 hvc
      have hi9 : IsInv (g.1 v col) (q : Int) (u % (q : Int)) := IsInv.of hp2 rfl (by have := hu.emod; exact this)
      rw [ivf_of hi9]; exact hi9
    have hnz : ∀ c, c < col → swp g.1 g.2.1 v i c = 0 := fun c hc => by
      unfold swp
      rw [if_neg (by omega)]
      split
      · exact hZ g.2.1 (Nat.le_refl _) h.1 c hc
      · exact hZ i (by omega) hi2 c hc
    have hsi : ∀ c, scl (swp g.1 g.2.1 v) g.2.1 col sp (ivf p (g.1 v col)) p i c = swp g.1 g.2.1 v i c := fun c => if_neg (by omega)
    show clr (scl (swp g.1 g.2.1 v) g.2.1 col sp (ivf p (g.1 v col)) p) g.2.1 col sp pl p i c = 0
    unfold clr
    by_cases h1 : i < pl ∧ i ≠ g.2.1 ∧ scl (swp g.1 g.2.1 v) g.2.1 col sp (ivf p (g.1 v col)) p i col ≠ 0 ∧ col ≤ c ∧ c ≤ sp
    · rw [if_pos h1, show c = col by omega]
      have e1 : scl (swp g.1 g.2.1 v) g.2.1 col sp (ivf p (g.1 v col)) p g.2.1 col = 1 := by
        unfold scl
        rw [if_pos ⟨rfl, Nat.le_refl _, hcs⟩]
        unfold swp
        rw [if_pos rfl]
        exact hiv.2.2
      rw [e1, Int.mul_one]
      generalize scl (swp g.1 g.2.1 v) g.2.1 col sp (ivf p (g.1 v col)) p i col = x
      rw [show x + (p - x) = p by omega, Int.emod_self]
    · rw [if_neg h1, hsi]
      by_cases h2 : c < col
      · exact hnz c h2
      · have h3 : c = col := by omega
        rw [h3]
        refine Classical.byContradiction fun w => h1 ⟨hi2, by omega, by rw [hsi]; exact w, by omega, by omega⟩
  · rw [gst_no h]
    refine ⟨hR, fun i hi hi2 c hc => ?_⟩
    by_cases h2 : c < col
    · exact hZ i hi hi2 c h2
    · have hW := flW_LW (A := g.1) (col := col) (i := g.2.1) (places := pl) (by omega)
      rw [show c = col by omega]
      exact hW.2.2.1 i hi (by omega)
def FO (fo : Nat → Int) (sp : Nat) (g : GS) : Prop := ∀ t, t < sp → (fo t = -1 ∧ ∀ r, r < g.2.1 → g.2.2 r ≠ t) ∨ ∃ r, r < g.2.1 ∧ g.2.2 r = t ∧ fo t = (r : Int)
set_option maxHeartbeats 16000000 in
set_option maxRecDepth 20000 in
theorem c_X11_solve {N : Nat} {h : Hp} {Q : QP} {ln p at_ wr va em ta ro dg : Int} {vs l0 f0 : Nat → Int} {sz sp : Nat} {spi : Int} (hm0 : h 124 = MOo ln p (sz : Int) at_ wr va em ta ro dg) (hN : 146 ≤ N) (hnv : h 129 = aI 40 vs) (h136 : h 136 = aL 1700 l0) (h137 : h 137 = aL 41 f0) (hs40 : sz ≤ 40) (hvb : ∀ i, i < sz → 0 ≤ vs i ∧ vs i < p) (hpr : Prm p) (hsp : spi = (sp : Int)) (hss : sp ≤ sz) (hQ : ∀ (b : Int) (li2 fo2 : Nat → Int), (b = 0 ∧ ¬ SOLb p vs sz sp) ∨ (b = 1 ∧ SOLb p vs sz sp ∧ LAWR p vs sz sp (fun t => fo2 (sp - t)) ∧ ∀ u, u < sp → 0 ≤ fo2 u ∧ fo2 u < p) → Q (some (.int (iZ b))) N (hs (hs h 136 (aL 1700 li2)) 137 (aL 41 fo2))) : Runs mX11_solve [.ref (124), .int (iZ (spi))] N h Q := by
  have hp2 := hpr.1
  have hp97 := hpr.2.1
  obtain ⟨pl, hpl⟩ : ∃ pl, pl = sz - sp := ⟨_, rfl⟩
  refine run_start (own := RX11) rfl (by decide) (nle rfl) rfl (fun X hq hini => ?_)
  show G X RX11 cX11_solve mX11_solve.rm N 0 0 0 [some (.ref (124)), some (.int (iZ (spi))), none, none, none, none, none, none, none, none, none, none] [] h
  refine r_aload_n dX11_solve_0 rfl rfl ?_
  refine gf_X11_221 dX11_solve_1 (by omega) hm0 rfl ?_
  refine r_iload_n dX11_solve_4 rfl rfl ?_
  refine r_isub dX11_solve_5 ?_
  refine r_istore_n (L2 := [_, _, _, none, none, none, none, none, none, none, none, none]) dX11_solve_6 rfl (nlt rfl) rfl ?_
  refine r_iconst (z := 0) dX11_solve_7 ?_
  refine r_istore_n (L2 := [_, _, _, _, none, none, none, none, none, none, none, none]) dX11_solve_8 rfl (nlt rfl) rfl ?_
  have lp9 : ∀ (fu9 : Nat) (li : Nat → Int) (i : Int) (n : Nat), (41 - i) < (fu9 : Int) → (i = (n : Int)) → (n ≤ pl) → (∀ i2, i2 < n → ∀ c, c ≤ sp → li (41 * i2 + c) = vs (i2 + c)) → G X RX11 cX11_solve mX11_solve.rm N 0 0 9 [some (.ref (124)), some (.int (iZ (spi))), some (.int (iZ ((sz : Int) - spi))), some (.int (iZ (i))), none, none, none, none, none, none, none, none] [] (hs h (136) (aL 1700 (li))) := by
    intro fu9
    induction fu9 with
    | zero => intro li i n hm ei npl hli; exfalso; omega
    | succ fu9 ih9 =>
      intro li i n hms9 ei npl hli
      refine r_iload_n dX11_solve_9 rfl rfl ?_
      refine r_iload_n dX11_solve_10 rfl rfl ?_
      refine r_icmp_ge 77 dX11_solve_11 (by decide) ⟨by omega, by omega⟩ ⟨by omega, by omega⟩ (fun c_11 => ?_) (fun c_11 => ?_)
      · refine r_iconst (z := 0) dX11_solve_77 ?_
        refine r_istore_n (L2 := [_, _, _, _, none, none, none, none, none, none, none, none]) dX11_solve_78 rfl (nlt rfl) rfl ?_
        refine r_iconst (z := 0) dX11_solve_79 ?_
        refine r_istore (L2 := [_, _, _, _, _, none, none, none, none, none, none, none]) dX11_solve_80 (nlt rfl) rfl ?_
        have nE : n = pl := by omega
        rw [nE] at hli
        have lp82 : ∀ (fu82 : Nat) (fo : Nat → Int) (j2 : Int) (q2 : Nat), (41 - j2) < (fu82 : Int) → (j2 = (q2 : Int)) → (q2 ≤ sp) → (∀ t, t < q2 → fo t = -1) → G X RX11 cX11_solve mX11_solve.rm N 0 0 82 [some (.ref (124)), some (.int (iZ (spi))), some (.int (iZ ((sz : Int) - spi))), some (.int (iZ (0))), some (.int (iZ (j2))), none, none, none, none, none, none, none] [] (hs (hs h (136) (aL 1700 (li))) (137) (aL 41 (fo))) := by
          intro fu82
          induction fu82 with
          | zero => intro fo j2 q2 hm ej2 q2sp hfo; exfalso; omega
          | succ fu82 ih82 =>
            intro fo j2 q2 hms82 ej2 q2sp hfo
            refine r_iload dX11_solve_82 rfl ?_
            refine r_iload_n dX11_solve_84 rfl rfl ?_
            refine r_icmp_ge 104 dX11_solve_85 (by decide) ⟨by omega, by omega⟩ ⟨by omega, by omega⟩ (fun c_85 => ?_) (fun c_85 => ?_)
            · refine r_iconst (z := 0) dX11_solve_104 ?_
              refine r_istore (L2 := [_, _, _, _, _, none, none, none, none, none, none, none]) dX11_solve_105 (nlt rfl) rfl ?_
              have lp107 : ∀ (fu107 : Nat) (li3 : Nat → Int) (fo3 : Nat → Int) (row : Int) (j3 : Int) (jn : Nat), (42 - j3) < (fu107 : Int) → (j3 = (jn : Int)) → (jn ≤ sp) → (row = ((gss p sp pl (fun i c => vs (i + c)) jn).2.1 : Int)) → (ML li3 pl sp (gss p sp pl (fun i c => vs (i + c)) jn).1) → (RNG (gss p sp pl (fun i c => vs (i + c)) jn).1 pl sp p) → (ZR (gss p sp pl (fun i c => vs (i + c)) jn).1 pl (gss p sp pl (fun i c => vs (i + c)) jn).2.1 jn) → (FO fo3 sp (gss p sp pl (fun i c => vs (i + c)) jn)) → G X RX11 cX11_solve mX11_solve.rm N 0 0 107 [some (.ref (124)), some (.int (iZ (spi))), some (.int (iZ ((sz : Int) - spi))), some (.int (iZ (row))), some (.int (iZ (j3))), none, none, none, none, none, none, none] [] (hs (hs h (136) (aL 1700 (li3))) (137) (aL 41 (fo3))) := by
                intro fu107
                induction fu107 with
                | zero => intro li3 fo3 row j3 jn hm ej3 jnsp erow hML hRN hZR hFO; exfalso; omega
                | succ fu107 ih107 =>
                  intro li3 fo3 row j3 jn hms107 ej3 jnsp erow hML hRN hZR hFO
                  obtain ⟨led1, led2⟩ := gss_led (p := p) (span := sp) (places := pl) (A := (fun i c => vs (i + c))) jn
                  refine r_iload dX11_solve_107 rfl ?_
                  refine r_iload_n dX11_solve_109 rfl rfl ?_
                  refine r_icmp_ge 379 dX11_solve_110 (by decide) ⟨by omega, by omega⟩ ⟨by omega, by omega⟩ (fun c_110 => ?_) (fun c_110 => ?_)
                  · refine r_iload_n dX11_solve_379 rfl rfl ?_
                    refine r_istore (L2 := [_, _, _, _, _, none, none, none, none, none, none, none]) dX11_solve_380 (nlt rfl) rfl ?_
                    have jE : jn = sp := by omega
                    have lp382 : ∀ (fu382 : Nat) (i7 : Int) (n7 : Nat), (41 - i7) < (fu382 : Int) → (i7 = (n7 : Int)) → ((gss p sp pl (fun i c => vs (i + c)) jn).2.1 ≤ n7) → (n7 ≤ pl) → (∀ t, (gss p sp pl (fun i c => vs (i + c)) jn).2.1 ≤ t → t < n7 → (gss p sp pl (fun i c => vs (i + c)) jn).1 t sp = 0) → G X RX11 cX11_solve mX11_solve.rm N 0 0 382 [some (.ref (124)), some (.int (iZ (spi))), some (.int (iZ ((sz : Int) - spi))), some (.int (iZ (row))), some (.int (iZ (i7))), none, none, none, none, none, none, none] [] (hs (hs h (136) (aL 1700 (li3))) (137) (aL 41 (fo3))) := by
                      intro fu382
                      induction fu382 with
                      | zero => intro i7 n7 hm ei7 n7a n7l hz7; exfalso; omega
                      | succ fu382 ih382 =>
                        intro i7 n7 hms382 ei7 n7a n7l hz7
                        refine r_iload dX11_solve_382 rfl ?_
                        refine r_iload_n dX11_solve_384 rfl rfl ?_
                        refine r_icmp_ge 413 dX11_solve_385 (by decide) ⟨by omega, by omega⟩ ⟨by omega, by omega⟩ (fun c_385 => ?_) (fun c_385 => ?_)
                        · refine r_iconst (z := 0) dX11_solve_413 ?_
                          refine r_istore (L2 := [_, _, _, _, _, none, none, none, none, none, none, none]) dX11_solve_414 (nlt rfl) rfl ?_
                          have lp416 : ∀ (fu416 : Nat) (fo8 : Nat → Int) (j8 : Int) (q8 : Nat), (42 - j8) < (fu416 : Int) → (j8 = (q8 : Int)) → (q8 ≤ sp) → (∀ t, q8 ≤ t → t < sp → fo8 t = fo3 t) → (∀ t, t < q8 → ((fo3 t = -1 ∧ fo8 t = 0) ∨ ∃ r, r < (gss p sp pl (fun i c => vs (i + c)) jn).2.1 ∧ fo3 t = (r : Int) ∧ fo8 t = (gss p sp pl (fun i c => vs (i + c)) jn).1 r sp)) → G X RX11 cX11_solve mX11_solve.rm N 0 0 416 [some (.ref (124)), some (.int (iZ (spi))), none, none, some (.int (iZ (j8))), none, none, none, none, none, none, none] [] (hs (hs h (136) (aL 1700 (li3))) (137) (aL 41 (fo8))) := by
                            intro fu416
                            induction fu416 with
                            | zero => intro fo8 j8 q8 hm ej8 q8l hf8a hf8b; exfalso; omega
                            | succ fu416 ih416 =>
                              intro fo8 j8 q8 hms416 ej8 q8l hf8a hf8b
                              refine r_iload dX11_solve_416 rfl ?_
                              refine r_iload_n dX11_solve_418 rfl rfl ?_
                              refine r_icmp_ge 469 dX11_solve_419 (by decide) ⟨by omega, by omega⟩ ⟨by omega, by omega⟩ (fun c_419 => ?_) (fun c_419 => ?_)
                              · refine r_iconst (z := 1) dX11_solve_469 ?_
                                refine r_zreturn hq dX11_solve_470 rfl (by decide) rfl rfl ?_
                                have q8E : q8 = sp := by omega
                                have hEl : elim p vs sz sp = (gss p sp pl (fun i c => vs (i + c)) jn) := by unfold elim; rw [← hpl, jE]
                                refine hQ 1 _ _ (Or.inr ⟨rfl, fun r a b => ?_, fun t a b => ⟨fun r c d => ?_, fun c => ?_⟩, fun u hu => ?_⟩)
                                · rw [hEl] at a ⊢
                                  exact hz7 r a (by omega)
                                · rw [hEl] at c d ⊢
                                  rcases hFO (sp - t) (by omega) with ⟨y1, y2⟩ | ⟨r2, y1, y2, y3⟩
                                  · exact absurd (show (gss p sp pl (fun i c => vs (i + c)) jn).2.2 r = sp - t by omega) (y2 r c)
                                  · have e9 := (gss_ld (p := p) (span := sp) (places := pl) (A := (fun i c => vs (i + c))) jn).2 r r2 c y1 (by omega)
                                    rcases hf8b (sp - t) (by omega) with ⟨z1, z2⟩ | ⟨r3, z1, z2, z3⟩
                                    · omega
                                    · rw [show r3 = r by omega] at z3; exact z3
                                · rw [hEl] at c
                                  rcases hf8b (sp - t) (by omega) with ⟨z1, z2⟩ | ⟨r3, z1, z2, z3⟩
                                  · exact z2
                                  · rcases hFO (sp - t) (by omega) with ⟨y1, y2⟩ | ⟨r2, y1, y2, y3⟩
                                    · omega
                                    · exact absurd (show (gss p sp pl (fun i c => vs (i + c)) jn).2.2 r2 + t = sp by omega) (c r2 y1)
                                · rcases hf8b u (by omega) with ⟨z1, z2⟩ | ⟨r3, z1, z2, z3⟩
                                  · rw [z2]; omega
                                  · rw [z3]; exact hRN r3 (by omega) sp (Nat.le_refl _)
                              · have e8n : j8.toNat = q8 := by omega
                                have f8e : fo8 j8.toNat = fo3 q8 := by rw [e8n]; exact hf8a q8 (Nat.le_refl _) (by omega)
                                have f8r : -1 ≤ fo8 j8.toNat ∧ fo8 j8.toNat ≤ 40 := by
                                  rw [f8e]
                                  rcases hFO q8 (by omega) with ⟨y, _⟩ | ⟨r, y1, y2, y3⟩ <;> omega
                                refine r_aload_n dX11_solve_422 rfl rfl ?_
                                refine gf_X11_51 dX11_solve_423 (by omega) ((hs_n (by omega)).trans ((hs_n (by omega)).trans hm0)) rfl ?_
                                refine r_iload dX11_solve_426 rfl ?_
                                refine r_aload_n dX11_solve_428 rfl rfl ?_
                                refine gf_X11_51 dX11_solve_429 (by omega) ((hs_n (by omega)).trans ((hs_n (by omega)).trans hm0)) rfl ?_
                                refine r_iload dX11_solve_432 rfl ?_
                                refine r_laload dX11_solve_434 (by omega) hs_e (by omega) (by omega) (by decide) ?_
                                refine r_lconst (z := 0) dX11_solve_435 (by decide) ?_
                                refine r_lcmp_ge 444 dX11_solve_436 dX11_solve_437 (by decide) ⟨by omega, by omega⟩ ⟨by decide, by decide⟩ (fun c_436 => ?_) (fun c_436 => ?_)
                                · obtain ⟨r8, hr8, hfr8⟩ : ∃ r, r < (gss p sp pl (fun i c => vs (i + c)) jn).2.1 ∧ fo3 q8 = (r : Int) := by
                                    rcases hFO q8 (by omega) with ⟨y, _⟩ | ⟨r, y1, y2, y3⟩
                                    · omega
                                    · exact ⟨r, y1, y3⟩
                                  have e461 : li3 ((41 * (fo8 j8.toNat)) + spi).toNat = (gss p sp pl (fun i c => vs (i + c)) jn).1 r8 sp := by rw [show ((41 * (fo8 j8.toNat)) + spi).toNat = 41 * r8 + sp by omega]; exact hML r8 (by omega) sp (Nat.le_refl _)
                                  refine r_aload_n dX11_solve_444 rfl rfl ?_
                                  refine gf_X11_48 dX11_solve_445 (by omega) ((hs_n (by omega)).trans ((hs_n (by omega)).trans hm0)) rfl ?_
                                  refine r_bipush (z := 41) dX11_solve_448 (by decide) ?_
                                  refine r_aload_n dX11_solve_450 rfl rfl ?_
                                  refine gf_X11_51 dX11_solve_451 (by omega) ((hs_n (by omega)).trans ((hs_n (by omega)).trans hm0)) rfl ?_
                                  refine r_iload dX11_solve_454 rfl ?_
                                  refine r_laload dX11_solve_456 (by omega) hs_e (by omega) (by omega) (by decide) ?_
                                  refine r_l2i dX11_solve_457 ?_
                                  refine r_imul dX11_solve_458 ?_
                                  refine r_iload_n dX11_solve_459 rfl rfl ?_
                                  refine r_iadd dX11_solve_460 ?_
                                  refine r_laload dX11_solve_461 (by omega) ((hs_n (by omega)).trans hs_e) (by omega) (by omega) (by decide) ?_
                                  refine r_lastore dX11_solve_462 (by omega) hs_e (by omega) (by omega) (by decide) ?_
                                  refine g_heap (h2 := (hs (hs h (136) (aL 1700 (li3))) (137) (aL 41 (uA (fo8) (j8).toNat (li3 ((41 * (fo8 (j8).toNat)) + spi).toNat))))) hs_hs ?_
                                  refine r_iinc (L2 := [_, _, none, none, _, none, none, none, none, none, none, none]) dX11_solve_463 (nlt rfl) rfl rfl ?_
                                  refine r_goto 416 dX11_solve_466 (by decide) ?_
                                  exact ih416 (uA (fo8) (j8).toNat (li3 ((41 * (fo8 (j8).toNat)) + spi).toNat)) (j8 + 1) ((q8 + 1)) (by omega) (by omega) (by omega) (fun t a b => by rw [e8n, uA_n (by omega)]; exact hf8a t (by omega) b) (fun t ht => by rw [e8n]; by_cases w : t = q8; (rw [w, uA_e]; exact Or.inr ⟨r8, hr8, hfr8, by rw [← e8n]; exact e461⟩); rw [uA_n w]; exact hf8b t (by omega))
                                · refine r_lconst (z := 0) dX11_solve_440 (by decide) ?_
                                  refine r_goto 462 dX11_solve_441 (by decide) ?_
                                  refine r_lastore dX11_solve_462 (by omega) hs_e (by omega) (by omega) (by decide) ?_
                                  refine g_heap (h2 := (hs (hs h (136) (aL 1700 (li3))) (137) (aL 41 (uA (fo8) (j8).toNat (0))))) hs_hs ?_
                                  refine r_iinc (L2 := [_, _, none, none, _, none, none, none, none, none, none, none]) dX11_solve_463 (nlt rfl) rfl rfl ?_
                                  refine r_goto 416 dX11_solve_466 (by decide) ?_
                                  exact ih416 (uA (fo8) (j8).toNat (0)) (j8 + 1) ((q8 + 1)) (by omega) (by omega) (by omega) (fun t a b => by rw [e8n, uA_n (by omega)]; exact hf8a t (by omega) b) (fun t ht => by rw [e8n]; by_cases w : t = q8; (rw [w, uA_e]; exact Or.inl ⟨by rcases hFO q8 (by omega) with ⟨y, _⟩ | ⟨r, y1, y2, y3⟩; exact y; omega, rfl⟩); rw [uA_n w]; exact hf8b t (by omega))
                          refine r_mask [true, true, false, false, true, false, false, false, false, false, false, false] (L2 := [_, _, none, none, _, none, none, none, none, none, none, none]) rfl ?_
                          exact lp416 ((42 : Int) + 1).toNat (fo3) (0) (0) (by omega) rfl (Nat.zero_le _) (fun t a b => rfl) (fun t ht => absurd ht (Nat.not_lt_zero t))
                        · have e399 : li3 ((41 * i7) + spi).toNat = (gss p sp pl (fun i c => vs (i + c)) jn).1 n7 sp := by rw [show ((41 * i7) + spi).toNat = 41 * n7 + sp by omega]; exact hML n7 (by omega) sp (Nat.le_refl _)
                          have r399 := hRN n7 (by omega) sp (Nat.le_refl _)
                          rw [← e399] at r399
                          refine r_aload_n dX11_solve_388 rfl rfl ?_
                          refine gf_X11_48 dX11_solve_389 (by omega) ((hs_n (by omega)).trans ((hs_n (by omega)).trans hm0)) rfl ?_
                          refine r_bipush (z := 41) dX11_solve_392 (by decide) ?_
                          refine r_iload dX11_solve_394 rfl ?_
                          refine r_imul dX11_solve_396 ?_
                          refine r_iload_n dX11_solve_397 rfl rfl ?_
                          refine r_iadd dX11_solve_398 ?_
                          refine r_laload dX11_solve_399 (by omega) ((hs_n (by omega)).trans hs_e) (by omega) (by omega) (by decide) ?_
                          refine r_lconst (z := 0) dX11_solve_400 (by decide) ?_
                          refine r_lcmp_eq 407 dX11_solve_401 dX11_solve_402 (by decide) ⟨by omega, by omega⟩ ⟨by decide, by decide⟩ (fun c_401 => ?_) (fun c_401 => ?_)
                          · refine r_iinc (L2 := [_, _, _, _, _, none, none, none, none, none, none, none]) dX11_solve_407 (nlt rfl) rfl rfl ?_
                            refine r_goto 382 dX11_solve_410 (by decide) ?_
                            exact ih382 (i7 + 1) ((n7 + 1)) (by omega) (by omega) (by omega) (by omega) (fun t a b => by by_cases w : t = n7; (rw [w, ← e399]; omega); exact hz7 t a (by omega))
                          · refine r_iconst (z := 0) dX11_solve_405 ?_
                            refine r_zreturn hq dX11_solve_406 rfl (by decide) rfl rfl ?_
                            have hEl : elim p vs sz sp = (gss p sp pl (fun i c => vs (i + c)) jn) := by unfold elim; rw [← hpl, jE]
                            refine hQ 0 _ _ (Or.inl ⟨rfl, fun w => ?_⟩)
                            have w2 := w n7 (by rw [hEl]; exact n7a) (by omega)
                            rw [hEl] at w2
                            omega
                    exact lp382 ((41 : Int) + 1).toNat (row) ((gss p sp pl (fun i c => vs (i + c)) jn).2.1) (by omega) erow (Nat.le_refl _) led2 (fun t a b => by omega)
                  · have hkeep := gst_keep (g := (gss p sp pl (fun i c => vs (i + c)) jn)) (col := jn) hpr jnsp hRN hZR
                    rw [← gss_s] at hkeep
                    refine r_iload_n dX11_solve_113 rfl rfl ?_
                    refine r_istore (L2 := [_, _, _, _, _, _, none, none, none, none, none, none]) dX11_solve_114 (nlt rfl) rfl ?_
                    have lp116 : ∀ (fu116 : Nat) (pv : Int) (v : Nat), (41 - pv) < (fu116 : Int) → (pv = (v : Int)) → ((gss p sp pl (fun i c => vs (i + c)) jn).2.1 ≤ v) → (v ≤ pl) → (∀ t, (gss p sp pl (fun i c => vs (i + c)) jn).2.1 ≤ t → t < v → (gss p sp pl (fun i c => vs (i + c)) jn).1 t jn = 0) → G X RX11 cX11_solve mX11_solve.rm N 0 0 116 [some (.ref (124)), some (.int (iZ (spi))), some (.int (iZ ((sz : Int) - spi))), some (.int (iZ (row))), some (.int (iZ (j3))), some (.int (iZ (pv))), none, none, none, none, none, none] [] (hs (hs h (136) (aL 1700 (li3))) (137) (aL 41 (fo3))) := by
                      intro fu116
                      induction fu116 with
                      | zero => intro pv v hm epv vl vpl hz; exfalso; omega
                      | succ fu116 ih116 =>
                        intro pv v hms116 epv vl vpl hz
                        refine r_iload dX11_solve_116 rfl ?_
                        refine r_iload_n dX11_solve_118 rfl rfl ?_
                        refine r_icmp_ge 146 dX11_solve_119 (by decide) ⟨by omega, by omega⟩ ⟨by omega, by omega⟩ (fun c_119 => ?_) (fun c_119 => ?_)
                        · have hLW : LW (gss p sp pl (fun i c => vs (i + c)) jn).1 jn (gss p sp pl (fun i c => vs (i + c)) jn).2.1 pl v := ⟨vl, vpl, hz, fun w => by omega⟩
                          have hvW := hLW.one (B := (gss p sp pl (fun i c => vs (i + c)) jn).1) (fun _ _ => rfl) (flW_LW led2)
                          refine r_iload dX11_solve_146 rfl ?_
                          refine r_iload_n dX11_solve_148 rfl rfl ?_
                          refine r_icmp_ge 373 dX11_solve_149 (by decide) ⟨by omega, by omega⟩ ⟨by omega, by omega⟩ (fun c_149 => ?_) (fun c_149 => by exfalso; omega)
                          have hgs : gss p sp pl (fun i c => vs (i + c)) (jn + 1) = (gss p sp pl (fun i c => vs (i + c)) jn) := by
                            rw [gss_s, gst_no (fun w => by have := w.2; rw [← hvW] at this; omega)]
                          refine r_iinc (L2 := [_, _, _, _, _, _, none, none, none, none, none, none]) dX11_solve_373 (nlt rfl) rfl rfl ?_
                          refine r_goto 107 dX11_solve_376 (by decide) ?_
                          refine r_mask [true, true, true, true, true, false, false, false, false, false, false, false] (L2 := [_, _, _, _, _, none, none, none, none, none, none, none]) rfl ?_
                          exact ih107 (li3) (fo3) (row) (j3 + 1) ((jn + 1)) (by omega) (by omega) (by omega) (by rw [hgs]; exact erow) (by rw [hgs]; exact hML) hkeep.1 hkeep.2 (by rw [hgs]; exact hFO)
                        · have e134 : li3 ((41 * pv) + j3).toNat = (gss p sp pl (fun i c => vs (i + c)) jn).1 v jn := by rw [show ((41 * pv) + j3).toNat = 41 * v + jn by omega]; exact hML v (by omega) jn jnsp
                          have r134 := hRN v (by omega) jn jnsp
                          rw [← e134] at r134
                          refine r_aload_n dX11_solve_122 rfl rfl ?_
                          refine gf_X11_48 dX11_solve_123 (by omega) ((hs_n (by omega)).trans ((hs_n (by omega)).trans hm0)) rfl ?_
                          refine r_bipush (z := 41) dX11_solve_126 (by decide) ?_
                          refine r_iload dX11_solve_128 rfl ?_
                          refine r_imul dX11_solve_130 ?_
                          refine r_iload dX11_solve_131 rfl ?_
                          refine r_iadd dX11_solve_133 ?_
                          refine r_laload dX11_solve_134 (by omega) ((hs_n (by omega)).trans hs_e) (by omega) (by omega) (by decide) ?_
                          refine r_lconst (z := 0) dX11_solve_135 (by decide) ?_
                          refine r_lcmp_ne 146 dX11_solve_136 dX11_solve_137 (by decide) ⟨by omega, by omega⟩ ⟨by decide, by decide⟩ (fun c_136 => ?_) (fun c_136 => ?_)
                          · have hLW : LW (gss p sp pl (fun i c => vs (i + c)) jn).1 jn (gss p sp pl (fun i c => vs (i + c)) jn).2.1 pl v := ⟨vl, vpl, hz, fun w => by rw [← e134]; exact c_136⟩
                            have hvW := hLW.one (B := (gss p sp pl (fun i c => vs (i + c)) jn).1) (fun _ _ => rfl) (flW_LW led2)
                            refine r_iload dX11_solve_146 rfl ?_
                            refine r_iload_n dX11_solve_148 rfl rfl ?_
                            refine r_icmp_ge 373 dX11_solve_149 (by decide) ⟨by omega, by omega⟩ ⟨by omega, by omega⟩ (fun c_149 => by exfalso; omega) (fun c_149 => ?_)
                            have hvlt : v < pl := by omega
                            have hrl : (gss p sp pl (fun i c => vs (i + c)) jn).2.1 < pl := by omega
                            have hgs : gss p sp pl (fun i c => vs (i + c)) (jn + 1) = (clr (scl (swp (gss p sp pl (fun i c => vs (i + c)) jn).1 (gss p sp pl (fun i c => vs (i + c)) jn).2.1 v) (gss p sp pl (fun i c => vs (i + c)) jn).2.1 jn sp (ivf p ((gss p sp pl (fun i c => vs (i + c)) jn).1 v jn)) p) (gss p sp pl (fun i c => vs (i + c)) jn).2.1 jn sp pl p, (gss p sp pl (fun i c => vs (i + c)) jn).2.1 + 1, fun i => if i = (gss p sp pl (fun i c => vs (i + c)) jn).2.1 then jn else (gss p sp pl (fun i c => vs (i + c)) jn).2.2 i) := by
                              rw [gss_s, gst_yes ⟨hrl, by rw [← hvW]; exact hvlt⟩, ← hvW]
                            have e164 : li3 ((41 * pv) + j3).toNat = (gss p sp pl (fun i c => vs (i + c)) jn).1 v jn := by rw [show ((41 * pv) + j3).toNat = 41 * v + jn by omega]; exact hML v (by omega) jn jnsp
                            have r164 := hRN v (by omega) jn jnsp
                            have nz164 : (gss p sp pl (fun i c => vs (i + c)) jn).1 v jn ≠ 0 := hLW.2.2.2 hvlt
                            rw [← e164] at r164 nz164
                            have hgcd := prm_gcd hpr (show 0 < li3 ((41 * pv) + j3).toNat by omega) r164.2
                            refine r_aload_n dX11_solve_152 rfl rfl ?_
                            refine gf_X11_48 dX11_solve_153 (by omega) ((hs_n (by omega)).trans ((hs_n (by omega)).trans hm0)) rfl ?_
                            refine r_bipush (z := 41) dX11_solve_156 (by decide) ?_
                            refine r_iload dX11_solve_158 rfl ?_
                            refine r_imul dX11_solve_160 ?_
                            refine r_iload dX11_solve_161 rfl ?_
                            refine r_iadd dX11_solve_163 ?_
                            refine r_laload dX11_solve_164 (by omega) ((hs_n (by omega)).trans hs_e) (by omega) (by omega) (by decide) ?_
                            refine r_aload_n dX11_solve_165 rfl rfl ?_
                            refine gf_X11_23 dX11_solve_166 (by omega) ((hs_n (by omega)).trans ((hs_n (by omega)).trans hm0)) rfl ?_
                            refine r_i2l dX11_solve_169 ⟨by omega, by omega⟩ ?_
                            refine r_callS (av := [.long (lZ (li3 ((41 * pv) + j3).toNat)), .long (lZ (p))]) dX11_solve_170 lkX11_inverse ml_X11_199 stX11_inverse ⟨Nat.le_of_ble_eq_true rfl, Nat.le_of_ble_eq_true rfl⟩ rfl rfl (nle rfl) ⟨Nat.le_of_ble_eq_true rfl, Nat.le_of_ble_eq_true rfl⟩ (c_X11_inverse (a := li3 ((41 * pv) + j3).toNat) (m := p) (by omega) (by omega) hgcd (fun x170 hx170 => ?_))
                            show G _ _ _ _ _ _ _ 173 _ _ _
                            refine r_lstore (L2 := [_, _, _, _, _, _, _, none, none, none, none, none]) dX11_solve_173 (nlt rfl) rfl ?_
                            have hx1 := hx170.1
                            have hx2 := hx170.2.1
                            have hivf : ivf p ((gss p sp pl (fun i c => vs (i + c)) jn).1 v jn) = x170 := by rw [← e164]; exact ivf_of hx170
                            refine r_iconst (z := 0) dX11_solve_175 ?_
                            refine r_istore (L2 := [_, _, _, _, _, _, _, none, _, none, none, none]) dX11_solve_176 (nlt rfl) rfl ?_
                            have lp178 : ∀ (fu178 : Nat) (li4 : Nat → Int) (cx : Int) (cn : Nat), (42 - cx) < (fu178 : Int) → (cx = (cn : Int)) → (cn ≤ sp + 1) → (∀ i2, i2 < pl → ∀ c, c ≤ sp → li4 (41 * i2 + c) = if c < cn then mSw (gss p sp pl (fun i c => vs (i + c)) jn).1 (gss p sp pl (fun i c => vs (i + c)) jn).2.1 v x170 p i2 c else (gss p sp pl (fun i c => vs (i + c)) jn).1 i2 c) → G X RX11 cX11_solve mX11_solve.rm N 0 0 178 [some (.ref (124)), some (.int (iZ (spi))), some (.int (iZ ((sz : Int) - spi))), some (.int (iZ (row))), some (.int (iZ (j3))), some (.int (iZ (pv))), some (.long (lZ (x170))), none, some (.int (iZ (cx))), none, none, none] [] (hs (hs h (136) (aL 1700 (li4))) (137) (aL 41 (fo3))) := by
                              intro fu178
                              induction fu178 with
                              | zero => intro li4 cx cn hm ecx cnl hli4; exfalso; omega
                              | succ fu178 ih178 =>
                                intro li4 cx cn hms178 ecx cnl hli4
                                refine r_iload dX11_solve_178 rfl ?_
                                refine r_iload_n dX11_solve_180 rfl rfl ?_
                                refine r_icmp_gt 253 dX11_solve_181 (by decide) ⟨by omega, by omega⟩ ⟨by omega, by omega⟩ (fun c_181 => ?_) (fun c_181 => ?_)
                                · refine r_iconst (z := 0) dX11_solve_253 ?_
                                  refine r_istore (L2 := [_, _, _, _, _, _, _, none, _, none, none, none]) dX11_solve_254 (nlt rfl) rfl ?_
                                  obtain ⟨Bm, hBm⟩ : ∃ Bm : Mat, Bm = mSw (gss p sp pl (fun i c => vs (i + c)) jn).1 (gss p sp pl (fun i c => vs (i + c)) jn).2.1 v x170 p := ⟨_, rfl⟩
                                  have hB4 : ML li4 pl sp Bm := fun i2 h2 c hc => by rw [hli4 i2 h2 c hc, if_pos (by omega), hBm]
                                  have hBr : RNG Bm pl sp p := fun i2 h2 c hc => by
                                    rw [hBm]
                                    unfold mSw
                                    split
                                    · exact emod_bd _ (by omega)
                                    · split
                                      · exact hRN _ (by omega) c hc
                                      · exact hRN i2 h2 c hc
                                  have lp256 : ∀ (fu256 : Nat) (li5 : Nat → Int) (i5 : Int) (n5 : Nat), (41 - i5) < (fu256 : Int) → (i5 = (n5 : Int)) → (n5 ≤ pl) → (∀ i2, i2 < pl → ∀ c, c ≤ sp → li5 (41 * i2 + c) = if i2 < n5 then mCl Bm (gss p sp pl (fun i c => vs (i + c)) jn).2.1 jn p i2 c else Bm i2 c) → G X RX11 cX11_solve mX11_solve.rm N 0 0 256 [some (.ref (124)), some (.int (iZ (spi))), some (.int (iZ ((sz : Int) - spi))), some (.int (iZ (row))), some (.int (iZ (j3))), none, none, none, some (.int (iZ (i5))), none, none, none] [] (hs (hs h (136) (aL 1700 (li5))) (137) (aL 41 (fo3))) := by
                                    intro fu256
                                    induction fu256 with
                                    | zero => intro li5 i5 n5 hm ei5 n5l hli5; exfalso; omega
                                    | succ fu256 ih256 =>
                                      intro li5 i5 n5 hms256 ei5 n5l hli5
                                      refine r_iload dX11_solve_256 rfl ?_
                                      refine r_iload_n dX11_solve_258 rfl rfl ?_
                                      refine r_icmp_ge 361 dX11_solve_259 (by decide) ⟨by omega, by omega⟩ ⟨by omega, by omega⟩ (fun c_259 => ?_) (fun c_259 => ?_)
                                      · have hML9 : ML li5 pl sp (gss p sp pl (fun i c => vs (i + c)) (jn + 1)).1 := fun i2 h2 c hc => by
                                          rw [hli5 i2 h2 c hc, if_pos (by omega), hBm, hgs]
                                          show mCl _ _ _ _ i2 c = clr _ _ _ _ _ _ i2 c
                                          rw [hivf]
                                          exact mm_eq hp2 hrl hvlt vl jnsp hRN hZR i2 h2 c hc
                                        have hFO9 : FO (uA fo3 j3.toNat row) sp (clr (scl (swp (gss p sp pl (fun i c => vs (i + c)) jn).1 (gss p sp pl (fun i c => vs (i + c)) jn).2.1 v) (gss p sp pl (fun i c => vs (i + c)) jn).2.1 jn sp (ivf p ((gss p sp pl (fun i c => vs (i + c)) jn).1 v jn)) p) (gss p sp pl (fun i c => vs (i + c)) jn).2.1 jn sp pl p, (gss p sp pl (fun i c => vs (i + c)) jn).2.1 + 1, fun i => if i = (gss p sp pl (fun i c => vs (i + c)) jn).2.1 then jn else (gss p sp pl (fun i c => vs (i + c)) jn).2.2 i) := fun t ht => by
                                          rw [show j3.toNat = jn by omega]
                                          by_cases w : t = jn
                                          · rw [w, uA_e]
                                            exact Or.inr ⟨(gss p sp pl (fun i c => vs (i + c)) jn).2.1, Nat.lt_succ_self _, if_pos rfl, erow⟩
                                          · rw [uA_n w]
                                            rcases hFO t ht with ⟨y1, y2⟩ | ⟨r, y1, y2, y3⟩
                                            · refine Or.inl ⟨y1, fun r hr => ?_⟩
                                              show (if r = _ then jn else _) ≠ t
                                              have hr : r < (gss p sp pl (fun i c => vs (i + c)) jn).2.1 + 1 := hr
                                              by_cases w2 : r = (gss p sp pl (fun i c => vs (i + c)) jn).2.1
                                              · rw [if_pos w2]; omega
                                              · rw [if_neg w2]; exact y2 r (by omega)
                                            · refine Or.inr ⟨r, Nat.lt_succ_of_lt y1, ?_, y3⟩
                                              show (if r = _ then jn else _) = t
                                              rw [if_neg (by omega)]; exact y2
                                        refine r_aload_n dX11_solve_361 rfl rfl ?_
                                        refine gf_X11_51 dX11_solve_362 (by omega) ((hs_n (by omega)).trans ((hs_n (by omega)).trans hm0)) rfl ?_
                                        refine r_iload dX11_solve_365 rfl ?_
                                        refine r_iload_n dX11_solve_367 rfl rfl ?_
                                        refine r_i2l dX11_solve_368 ⟨by omega, by omega⟩ ?_
                                        refine r_lastore dX11_solve_369 (by omega) hs_e (by omega) (by omega) (by decide) ?_
                                        refine g_heap (h2 := (hs (hs h (136) (aL 1700 (li5))) (137) (aL 41 (uA (fo3) (j3).toNat (row))))) hs_hs ?_
                                        refine r_iinc (L2 := [_, _, _, _, _, none, none, none, _, none, none, none]) dX11_solve_370 (nlt rfl) rfl rfl ?_
                                        refine r_iinc (L2 := [_, _, _, _, _, none, none, none, _, none, none, none]) dX11_solve_373 (nlt rfl) rfl rfl ?_
                                        refine r_goto 107 dX11_solve_376 (by decide) ?_
                                        refine r_mask [true, true, true, true, true, false, false, false, false, false, false, false] (L2 := [_, _, _, _, _, none, none, none, none, none, none, none]) rfl ?_
                                        exact ih107 (li5) (uA (fo3) (j3).toNat (row)) (row + 1) (j3 + 1) ((jn + 1)) (by omega) (by omega) (by omega) (by rw [hgs]; show row + 1 = ((_ + 1 : Nat) : Int); omega) hML9 hkeep.1 hkeep.2 (by rw [hgs]; exact hFO9)
                                      · have e274 : li5 ((41 * i5) + j3).toNat = Bm n5 jn := by rw [show ((41 * i5) + j3).toNat = 41 * n5 + jn by omega, hli5 n5 (by omega) jn jnsp, if_neg (by omega)]
                                        have r274 := hBr n5 (by omega) jn jnsp
                                        rw [← e274] at r274
                                        refine r_aload_n dX11_solve_262 rfl rfl ?_
                                        refine gf_X11_48 dX11_solve_263 (by omega) ((hs_n (by omega)).trans ((hs_n (by omega)).trans hm0)) rfl ?_
                                        refine r_bipush (z := 41) dX11_solve_266 (by decide) ?_
                                        refine r_iload dX11_solve_268 rfl ?_
                                        refine r_imul dX11_solve_270 ?_
                                        refine r_iload dX11_solve_271 rfl ?_
                                        refine r_iadd dX11_solve_273 ?_
                                        refine r_laload dX11_solve_274 (by omega) ((hs_n (by omega)).trans hs_e) (by omega) (by omega) (by decide) ?_
                                        refine r_lstore (L2 := [_, _, _, _, _, none, none, none, _, _, none, none]) dX11_solve_275 (nlt rfl) rfl ?_
                                        refine r_iconst (z := 0) dX11_solve_277 ?_
                                        refine r_istore (L2 := [_, _, _, _, _, none, none, none, _, _, none, _]) dX11_solve_278 (nlt rfl) rfl ?_
                                        have lp280 : ∀ (fu280 : Nat) (li6 : Nat → Int) (c6 : Int) (d6 : Nat), (42 - c6) < (fu280 : Int) → (c6 = (d6 : Int)) → (d6 ≤ sp + 1) → (∀ i2, i2 < pl → ∀ c, c ≤ sp → li6 (41 * i2 + c) = if i2 = n5 ∧ c < d6 ∧ n5 ≠ (gss p sp pl (fun i c => vs (i + c)) jn).2.1 ∧ Bm n5 jn ≠ 0 then (Bm n5 c - Bm n5 jn * Bm (gss p sp pl (fun i c => vs (i + c)) jn).2.1 c) % p else if i2 < n5 then mCl Bm (gss p sp pl (fun i c => vs (i + c)) jn).2.1 jn p i2 c else Bm i2 c) → G X RX11 cX11_solve mX11_solve.rm N 0 0 280 [some (.ref (124)), some (.int (iZ (spi))), some (.int (iZ ((sz : Int) - spi))), some (.int (iZ (row))), some (.int (iZ (j3))), none, none, none, some (.int (iZ (i5))), some (.long (lZ (li5 ((41 * i5) + j3).toNat))), none, some (.int (iZ (c6)))] [] (hs (hs h (136) (aL 1700 (li6))) (137) (aL 41 (fo3))) := by
                                          intro fu280
                                          induction fu280 with
                                          | zero => intro li6 c6 d6 hm ec6 d6l hli6; exfalso; omega
                                          | succ fu280 ih280 =>
                                            intro li6 c6 d6 hms280 ec6 d6l hli6
                                            refine r_iload dX11_solve_280 rfl ?_
                                            refine r_iload_n dX11_solve_282 rfl rfl ?_
                                            refine r_icmp_gt 355 dX11_solve_283 (by decide) ⟨by omega, by omega⟩ ⟨by omega, by omega⟩ (fun c_283 => ?_) (fun c_283 => ?_)
                                            · refine r_iinc (L2 := [_, _, _, _, _, none, none, none, _, _, none, _]) dX11_solve_355 (nlt rfl) rfl rfl ?_
                                              refine r_goto 256 dX11_solve_358 (by decide) ?_
                                              refine r_mask [true, true, true, true, true, false, false, false, true, false, false, false] (L2 := [_, _, _, _, _, none, none, none, _, none, none, none]) rfl ?_
                                              exact ih256 (li6) (i5 + 1) ((n5 + 1)) (by omega) (by omega) (by omega) (fun i2 h2 c hc => by
                                                rw [hli6 i2 h2 c hc]
                                                by_cases w : i2 = n5
                                                · rw [w, if_pos (Nat.lt_succ_self n5)]
                                                  unfold mCl
                                                  by_cases w3 : n5 ≠ (gss p sp pl (fun i c => vs (i + c)) jn).2.1 ∧ Bm n5 jn ≠ 0
                                                  · rw [if_pos (show n5 = n5 ∧ c < d6 ∧ n5 ≠ (gss p sp pl (fun i c => vs (i + c)) jn).2.1 ∧ Bm n5 jn ≠ 0 from ⟨rfl, by omega, w3⟩), if_pos w3]
                                                  · rw [if_neg (fun y : n5 = n5 ∧ c < d6 ∧ n5 ≠ (gss p sp pl (fun i c => vs (i + c)) jn).2.1 ∧ Bm n5 jn ≠ 0 => w3 y.2.2), if_neg w3, if_neg (Nat.lt_irrefl _)]
                                                · rw [if_neg (fun y => w y.1)]
                                                  by_cases w1 : i2 < n5
                                                  · rw [if_pos w1, if_pos (by omega)]
                                                  · rw [if_neg w1, if_neg (by omega)])
                                            · refine r_iload dX11_solve_286 rfl ?_
                                              refine r_iload_n dX11_solve_288 rfl rfl ?_
                                              refine r_icmp_eq 355 dX11_solve_289 (by decide) ⟨by omega, by omega⟩ ⟨by omega, by omega⟩ (fun c_289 => ?_) (fun c_289 => ?_)
                                              · refine r_iinc (L2 := [_, _, _, _, _, none, none, none, _, _, none, _]) dX11_solve_355 (nlt rfl) rfl rfl ?_
                                                refine r_goto 256 dX11_solve_358 (by decide) ?_
                                                refine r_mask [true, true, true, true, true, false, false, false, true, false, false, false] (L2 := [_, _, _, _, _, none, none, none, _, none, none, none]) rfl ?_
                                                exact ih256 (li6) (i5 + 1) ((n5 + 1)) (by omega) (by omega) (by omega) (fun i2 h2 c hc => by
                                                  rw [hli6 i2 h2 c hc]
                                                  by_cases w : i2 = n5
                                                  · rw [w, if_pos (Nat.lt_succ_self n5)]
                                                    unfold mCl
                                                    rw [if_neg (fun y : n5 = n5 ∧ c < d6 ∧ n5 ≠ (gss p sp pl (fun i c => vs (i + c)) jn).2.1 ∧ Bm n5 jn ≠ 0 => y.2.2.1 (by omega)), if_neg (fun y : n5 ≠ (gss p sp pl (fun i c => vs (i + c)) jn).2.1 ∧ Bm n5 jn ≠ 0 => y.1 (by omega)), if_neg (Nat.lt_irrefl _)]
                                                  · rw [if_neg (fun y => w y.1)]
                                                    by_cases w1 : i2 < n5
                                                    · rw [if_pos w1, if_pos (by omega)]
                                                    · rw [if_neg w1, if_neg (by omega)])
                                              · refine r_lload dX11_solve_292 rfl ?_
                                                refine r_lconst (z := 0) dX11_solve_294 (by decide) ?_
                                                refine r_lcmp_eq 355 dX11_solve_295 dX11_solve_296 (by decide) ⟨by omega, by omega⟩ ⟨by decide, by decide⟩ (fun c_295 => ?_) (fun c_295 => ?_)
                                                · refine r_iinc (L2 := [_, _, _, _, _, none, none, none, _, _, none, _]) dX11_solve_355 (nlt rfl) rfl rfl ?_
                                                  refine r_goto 256 dX11_solve_358 (by decide) ?_
                                                  refine r_mask [true, true, true, true, true, false, false, false, true, false, false, false] (L2 := [_, _, _, _, _, none, none, none, _, none, none, none]) rfl ?_
                                                  exact ih256 (li6) (i5 + 1) ((n5 + 1)) (by omega) (by omega) (by omega) (fun i2 h2 c hc => by
                                                    rw [hli6 i2 h2 c hc]
                                                    by_cases w : i2 = n5
                                                    · rw [w, if_pos (Nat.lt_succ_self n5)]
                                                      unfold mCl
                                                      rw [if_neg (fun y : n5 = n5 ∧ c < d6 ∧ n5 ≠ (gss p sp pl (fun i c => vs (i + c)) jn).2.1 ∧ Bm n5 jn ≠ 0 => y.2.2.2 (by rw [← e274]; exact c_295)), if_neg (fun y : n5 ≠ (gss p sp pl (fun i c => vs (i + c)) jn).2.1 ∧ Bm n5 jn ≠ 0 => y.2 (by rw [← e274]; exact c_295)), if_neg (Nat.lt_irrefl _)]
                                                    · rw [if_neg (fun y => w y.1)]
                                                      by_cases w1 : i2 < n5
                                                      · rw [if_pos w1, if_pos (by omega)]
                                                      · rw [if_neg w1, if_neg (by omega)])
                                                · have hn5 : n5 ≠ (gss p sp pl (fun i c => vs (i + c)) jn).2.1 := by omega
                                                  have hb5 : Bm n5 jn ≠ 0 := by rw [← e274]; exact c_295
                                                  have e309 : ((41 * i5) + c6).toNat = 41 * n5 + d6 := by omega
                                                  have e323 : li6 (41 * n5 + d6) = Bm n5 d6 := by rw [hli6 n5 (by omega) d6 (by omega), if_neg (by omega), if_neg (by omega)]
                                                  have e337 : li6 ((41 * row) + c6).toNat = Bm (gss p sp pl (fun i c => vs (i + c)) jn).2.1 d6 := by
                                                    rw [show ((41 * row) + c6).toNat = 41 * (gss p sp pl (fun i c => vs (i + c)) jn).2.1 + d6 by omega, hli6 _ (by omega) d6 (by omega), if_neg (by omega)]
                                                    by_cases w : (gss p sp pl (fun i c => vs (i + c)) jn).2.1 < n5
                                                    · rw [if_pos w]; unfold mCl; rw [if_neg (fun y => y.1 rfl)]
                                                    · rw [if_neg w]
                                                  have r323 := hBr n5 (by omega) d6 (by omega)
                                                  have r337 := hBr (gss p sp pl (fun i c => vs (i + c)) jn).2.1 (by omega) d6 (by omega)
                                                  rw [← e337] at r337
                                                  rw [← e323, ← e309] at r323
                                                  have m338 := mulb (A := 97) (B := 97) (a := li5 ((41 * i5) + j3).toNat) (b := li6 ((41 * row) + c6).toNat) (C := 9409) (by omega) (by omega) (by omega) (by omega) (by decide)
                                                  refine r_aload_n dX11_solve_299 rfl rfl ?_
                                                  refine gf_X11_48 dX11_solve_300 (by omega) ((hs_n (by omega)).trans ((hs_n (by omega)).trans hm0)) rfl ?_
                                                  refine r_bipush (z := 41) dX11_solve_303 (by decide) ?_
                                                  refine r_iload dX11_solve_305 rfl ?_
                                                  refine r_imul dX11_solve_307 ?_
                                                  refine r_iload dX11_solve_308 rfl ?_
                                                  refine r_iadd dX11_solve_310 ?_
                                                  refine r_aload_n dX11_solve_311 rfl rfl ?_
                                                  refine gf_X11_48 dX11_solve_312 (by omega) ((hs_n (by omega)).trans ((hs_n (by omega)).trans hm0)) rfl ?_
                                                  refine r_bipush (z := 41) dX11_solve_315 (by decide) ?_
                                                  refine r_iload dX11_solve_317 rfl ?_
                                                  refine r_imul dX11_solve_319 ?_
                                                  refine r_iload dX11_solve_320 rfl ?_
                                                  refine r_iadd dX11_solve_322 ?_
                                                  refine r_laload dX11_solve_323 (by omega) ((hs_n (by omega)).trans hs_e) (by omega) (by omega) (by decide) ?_
                                                  refine r_lload dX11_solve_324 rfl ?_
                                                  refine r_aload_n dX11_solve_326 rfl rfl ?_
                                                  refine gf_X11_48 dX11_solve_327 (by omega) ((hs_n (by omega)).trans ((hs_n (by omega)).trans hm0)) rfl ?_
                                                  refine r_bipush (z := 41) dX11_solve_330 (by decide) ?_
                                                  refine r_iload_n dX11_solve_332 rfl rfl ?_
                                                  refine r_imul dX11_solve_333 ?_
                                                  refine r_iload dX11_solve_334 rfl ?_
                                                  refine r_iadd dX11_solve_336 ?_
                                                  refine r_laload dX11_solve_337 (by omega) ((hs_n (by omega)).trans hs_e) (by omega) (by omega) (by decide) ?_
                                                  refine r_lmul dX11_solve_338 ?_
                                                  refine r_lsub dX11_solve_339 ?_
                                                  refine r_aload_n dX11_solve_340 rfl rfl ?_
                                                  refine gf_X11_23 dX11_solve_341 (by omega) ((hs_n (by omega)).trans ((hs_n (by omega)).trans hm0)) rfl ?_
                                                  refine r_i2l dX11_solve_344 ⟨by omega, by omega⟩ ?_
                                                  refine r_callS (av := [.long (lZ ((li6 ((41 * i5) + c6).toNat) - ((li5 ((41 * i5) + j3).toNat) * (li6 ((41 * row) + c6).toNat)))), .long (lZ (p))]) dX11_solve_345 lkX11_modulo ml_X11_156 stX11_modulo ⟨Nat.le_of_ble_eq_true rfl, Nat.le_of_ble_eq_true rfl⟩ rfl rfl (nle rfl) ⟨Nat.le_of_ble_eq_true rfl, Nat.le_of_ble_eq_true rfl⟩ (c_X11_modulo (x := (li6 ((41 * i5) + c6).toNat) - ((li5 ((41 * i5) + j3).toNat) * (li6 ((41 * row) + c6).toNat))) (m := p) (by omega) (by omega) ?_)
                                                  have em_345 := emod_bd ((li6 ((41 * i5) + c6).toNat) - ((li5 ((41 * i5) + j3).toNat) * (li6 ((41 * row) + c6).toNat))) (show 0 < p by omega)
                                                  show G _ _ _ _ _ _ _ 348 _ _ _
                                                  refine r_lastore dX11_solve_348 (by omega) ((hs_n (by omega)).trans hs_e) (by omega) (by omega) (by decide) ?_
                                                  refine g_heap (h2 := (hs (hs h (136) (aL 1700 (uA (li6) ((41 * i5) + c6).toNat (((li6 ((41 * i5) + c6).toNat) - ((li5 ((41 * i5) + j3).toNat) * (li6 ((41 * row) + c6).toNat))) % p)))) (137) (aL 41 (fo3)))) (hs_put (by omega) hs_hs) ?_
                                                  refine r_iinc (L2 := [_, _, _, _, _, none, none, none, _, _, none, _]) dX11_solve_349 (nlt rfl) rfl rfl ?_
                                                  refine r_goto 280 dX11_solve_352 (by decide) ?_
                                                  exact ih280 (uA (li6) ((41 * i5) + c6).toNat (((li6 ((41 * i5) + c6).toNat) - ((li5 ((41 * i5) + j3).toNat) * (li6 ((41 * row) + c6).toNat))) % p)) (c6 + 1) ((d6 + 1)) (by omega) (by omega) (by omega) (fun i2 h2 c hc => by
                                                    rw [e309]
                                                    by_cases w : i2 = n5 ∧ c = d6
                                                    · rw [w.1, w.2, uA_e, if_pos (show n5 = n5 ∧ d6 < d6 + 1 ∧ n5 ≠ (gss p sp pl (fun i c => vs (i + c)) jn).2.1 ∧ Bm n5 jn ≠ 0 from ⟨rfl, by omega, hn5, hb5⟩), e323, e337, e274]
                                                    · rw [uA_n (by omega), hli6 i2 h2 c hc]
                                                      by_cases w1 : i2 = n5 ∧ c < d6
                                                      · rw [if_pos (show i2 = n5 ∧ c < d6 ∧ _ ∧ _ from ⟨w1.1, w1.2, hn5, hb5⟩), if_pos (show i2 = n5 ∧ c < d6 + 1 ∧ _ ∧ _ from ⟨w1.1, by omega, hn5, hb5⟩)]
                                                      · rw [if_neg (fun y : i2 = n5 ∧ c < d6 ∧ n5 ≠ (gss p sp pl (fun i c => vs (i + c)) jn).2.1 ∧ Bm n5 jn ≠ 0 => w1 ⟨y.1, y.2.1⟩), if_neg (fun y : i2 = n5 ∧ c < d6 + 1 ∧ n5 ≠ (gss p sp pl (fun i c => vs (i + c)) jn).2.1 ∧ Bm n5 jn ≠ 0 => w ⟨y.1, by have := y.2.1; have : ¬ c < d6 := fun z => w1 ⟨y.1, z⟩; omega⟩)])
                                        exact lp280 ((42 : Int) + 1).toNat (li5) (0) (0) (by omega) rfl (Nat.zero_le _) (fun i2 h2 c hc => by rw [if_neg (by omega)]; exact hli5 i2 h2 c hc)
                                  refine r_mask [true, true, true, true, true, false, false, false, true, false, false, false] (L2 := [_, _, _, _, _, none, none, none, _, none, none, none]) rfl ?_
                                  exact lp256 ((41 : Int) + 1).toNat (li4) (0) (0) (by omega) rfl (Nat.zero_le _) (fun i2 h2 c hc => by rw [if_neg (by omega)]; exact hB4 i2 h2 c hc)
                                · have e217 : ((41 * pv) + cx).toNat = 41 * v + cn := by omega
                                  have e242 : ((41 * row) + cx).toNat = 41 * (gss p sp pl (fun i c => vs (i + c)) jn).2.1 + cn := by omega
                                  have e196 : li4 ((41 * pv) + cx).toNat = (gss p sp pl (fun i c => vs (i + c)) jn).1 v cn := by rw [e217, hli4 v (by omega) cn (by omega), if_neg (by omega)]
                                  have r196 := hRN v (by omega) cn (by omega)
                                  rw [← e196] at r196
                                  have e231 : li4 ((41 * row) + cx).toNat = (gss p sp pl (fun i c => vs (i + c)) jn).1 (gss p sp pl (fun i c => vs (i + c)) jn).2.1 cn := by rw [e242, hli4 _ (by omega) cn (by omega), if_neg (by omega)]
                                  rw [e217] at e196
                                  rw [e242] at e231
                                  have m199 := mulb (A := 97) (B := 97) (a := li4 ((41 * pv) + cx).toNat) (b := x170) (C := 9409) (by omega) (by omega) (by omega) (by omega) (by decide)
                                  have m198 := Int.mul_nonneg r196.1 hx1
                                  refine r_aload_n dX11_solve_184 rfl rfl ?_
                                  refine gf_X11_48 dX11_solve_185 (by omega) ((hs_n (by omega)).trans ((hs_n (by omega)).trans hm0)) rfl ?_
                                  refine r_bipush (z := 41) dX11_solve_188 (by decide) ?_
                                  refine r_iload dX11_solve_190 rfl ?_
                                  refine r_imul dX11_solve_192 ?_
                                  refine r_iload dX11_solve_193 rfl ?_
                                  refine r_iadd dX11_solve_195 ?_
                                  refine r_laload dX11_solve_196 (by omega) ((hs_n (by omega)).trans hs_e) (by omega) (by omega) (by decide) ?_
                                  refine r_lload dX11_solve_197 rfl ?_
                                  refine r_lmul dX11_solve_199 ?_
                                  refine r_aload_n dX11_solve_200 rfl rfl ?_
                                  refine gf_X11_23 dX11_solve_201 (by omega) ((hs_n (by omega)).trans ((hs_n (by omega)).trans hm0)) rfl ?_
                                  refine r_i2l dX11_solve_204 ⟨by omega, by omega⟩ ?_
                                  refine r_lremp dX11_solve_205 ⟨by omega, by omega⟩ ⟨by omega, by omega⟩ (by omega) (by omega) ?_
                                  have eb_205 := emod_bd ((li4 ((41 * pv) + cx).toNat) * x170) (show 0 < p by omega)
                                  refine r_lstore (L2 := [_, _, _, _, _, _, _, none, _, _, none, none]) dX11_solve_206 (nlt rfl) rfl ?_
                                  refine r_aload_n dX11_solve_208 rfl rfl ?_
                                  refine gf_X11_48 dX11_solve_209 (by omega) ((hs_n (by omega)).trans ((hs_n (by omega)).trans hm0)) rfl ?_
                                  refine r_bipush (z := 41) dX11_solve_212 (by decide) ?_
                                  refine r_iload dX11_solve_214 rfl ?_
                                  refine r_imul dX11_solve_216 ?_
                                  refine r_iload dX11_solve_217 rfl ?_
                                  refine r_iadd dX11_solve_219 ?_
                                  refine r_aload_n dX11_solve_220 rfl rfl ?_
                                  refine gf_X11_48 dX11_solve_221 (by omega) ((hs_n (by omega)).trans ((hs_n (by omega)).trans hm0)) rfl ?_
                                  refine r_bipush (z := 41) dX11_solve_224 (by decide) ?_
                                  refine r_iload_n dX11_solve_226 rfl rfl ?_
                                  refine r_imul dX11_solve_227 ?_
                                  refine r_iload dX11_solve_228 rfl ?_
                                  refine r_iadd dX11_solve_230 ?_
                                  refine r_laload dX11_solve_231 (by omega) ((hs_n (by omega)).trans hs_e) (by omega) (by omega) (by decide) ?_
                                  refine r_lastore dX11_solve_232 (by omega) ((hs_n (by omega)).trans hs_e) (by omega) (by omega) (by decide) ?_
                                  refine g_heap (h2 := (hs (hs h (136) (aL 1700 (uA (li4) ((41 * pv) + cx).toNat (li4 ((41 * row) + cx).toNat)))) (137) (aL 41 (fo3)))) (hs_put (by omega) hs_hs) ?_
                                  refine r_aload_n dX11_solve_233 rfl rfl ?_
                                  refine gf_X11_48 dX11_solve_234 (by omega) ((hs_n (by omega)).trans ((hs_n (by omega)).trans hm0)) rfl ?_
                                  refine r_bipush (z := 41) dX11_solve_237 (by decide) ?_
                                  refine r_iload_n dX11_solve_239 rfl rfl ?_
                                  refine r_imul dX11_solve_240 ?_
                                  refine r_iload dX11_solve_241 rfl ?_
                                  refine r_iadd dX11_solve_243 ?_
                                  refine r_lload dX11_solve_244 rfl ?_
                                  refine r_lastore dX11_solve_246 (by omega) ((hs_n (by omega)).trans hs_e) (by omega) (by omega) (by decide) ?_
                                  refine g_heap (h2 := (hs (hs h (136) (aL 1700 (uA (uA (li4) ((41 * pv) + cx).toNat (li4 ((41 * row) + cx).toNat)) ((41 * row) + cx).toNat (((li4 ((41 * pv) + cx).toNat) * x170) % p)))) (137) (aL 41 (fo3)))) (hs_put (by omega) hs_hs) ?_
                                  refine r_iinc (L2 := [_, _, _, _, _, _, _, none, _, _, none, none]) dX11_solve_247 (nlt rfl) rfl rfl ?_
                                  refine r_goto 178 dX11_solve_250 (by decide) ?_
                                  refine r_mask [true, true, true, true, true, true, true, false, true, false, false, false] (L2 := [_, _, _, _, _, _, _, none, _, none, none, none]) rfl ?_
                                  exact ih178 (uA (uA (li4) ((41 * pv) + cx).toNat (li4 ((41 * row) + cx).toNat)) ((41 * row) + cx).toNat (((li4 ((41 * pv) + cx).toNat) * x170) % p)) (cx + 1) ((cn + 1)) (by omega) (by omega) (by omega) (fun i2 h2 c hc => by
                                    rw [e217, e242]
                                    by_cases w : c = cn
                                    · rw [w, if_pos (by omega)]
                                      unfold mSw
                                      by_cases w1 : i2 = (gss p sp pl (fun i c => vs (i + c)) jn).2.1
                                      · rw [w1, uA_e, if_pos rfl, e196]
                                      · rw [if_neg w1, uA_n (by omega)]
                                        by_cases w2 : i2 = v
                                        · rw [w2, uA_e, if_pos rfl, e231]
                                        · rw [uA_n (by omega), if_neg w2, hli4 i2 h2 cn (by omega), if_neg (by omega)]
                                    · rw [uA_n (by omega), uA_n (by omega), hli4 i2 h2 c hc]
                                      by_cases w1 : c < cn
                                      · rw [if_pos w1, if_pos (by omega)]
                                      · rw [if_neg w1, if_neg (by omega)])
                            exact lp178 ((42 : Int) + 1).toNat (li3) (0) (0) (by omega) rfl (Nat.zero_le _) (fun i2 h2 c hc => by rw [if_neg (by omega)]; exact hML i2 h2 c hc)
                          · refine r_iinc (L2 := [_, _, _, _, _, _, none, none, none, none, none, none]) dX11_solve_140 (nlt rfl) rfl rfl ?_
                            refine r_goto 116 dX11_solve_143 (by decide) ?_
                            exact ih116 (pv + 1) ((v + 1)) (by omega) (by omega) (by omega) (by omega) (fun t a b => by by_cases w : t = v; (rw [w, ← e134]; exact c_136); exact hz t a (by omega))
                    exact lp116 ((41 : Int) + 1).toNat (row) ((gss p sp pl (fun i c => vs (i + c)) jn).2.1) (by omega) erow (Nat.le_refl _) led2 (fun t a b => by omega)
              exact lp107 ((42 : Int) + 1).toNat (li) (fo) (0) (0) (0) (by omega) rfl (Nat.zero_le _) rfl hli (fun i2 h2 c hc => hvb _ (by omega)) (fun i2 h1 h2 c hc => absurd hc (Nat.not_lt_zero c)) (fun t ht => Or.inl ⟨hfo t (by omega), fun r hr => absurd hr (Nat.not_lt_zero r)⟩)
            · refine r_aload_n dX11_solve_88 rfl rfl ?_
              refine gf_X11_51 dX11_solve_89 (by omega) ((hs_n (by omega)).trans ((hs_n (by omega)).trans hm0)) rfl ?_
              refine r_iload dX11_solve_92 rfl ?_
              refine r_ldc2 (z := -1) dX11_solve_94 kc_X11_224 ?_
              refine r_lastore dX11_solve_97 (by omega) hs_e (by omega) (by omega) (by decide) ?_
              refine g_heap (h2 := (hs (hs h (136) (aL 1700 (li))) (137) (aL 41 (uA (fo) (j2).toNat ((-1)))))) hs_hs ?_
              refine r_iinc (L2 := [_, _, _, _, _, none, none, none, none, none, none, none]) dX11_solve_98 (nlt rfl) rfl rfl ?_
              refine r_goto 82 dX11_solve_101 (by decide) ?_
              exact ih82 (uA (fo) (j2).toNat ((-1))) (j2 + 1) ((q2 + 1)) (by omega) (by omega) (by omega) (fun t ht => by rw [show j2.toNat = q2 by omega]; by_cases w : t = q2; (rw [w, uA_e]); rw [uA_n w]; exact hfo t (by omega))
        refine g_heap (hs_id (c := aL 41 (f0)) ((hs_n (by omega)).trans h137)).symm ?_
        exact lp82 ((41 : Int) + 1).toNat (f0) (0) (0) (by omega) rfl (Nat.zero_le _) (fun t ht => absurd ht (Nat.not_lt_zero t))
      · refine r_iconst (z := 0) dX11_solve_14 ?_
        refine r_istore (L2 := [_, _, _, _, _, none, none, none, none, none, none, none]) dX11_solve_15 (nlt rfl) rfl ?_
        have lp17 : ∀ (fu17 : Nat) (li1 : Nat → Int) (j : Int) (q : Nat), (41 - j) < (fu17 : Int) → (j = (q : Int)) → (q ≤ sp) → (∀ c, c < q → li1 (41 * n + c) = vs (n + c)) → (∀ x, x < 41 * n → li1 x = li x) → G X RX11 cX11_solve mX11_solve.rm N 0 0 17 [some (.ref (124)), some (.int (iZ (spi))), some (.int (iZ ((sz : Int) - spi))), some (.int (iZ (i))), some (.int (iZ (j))), none, none, none, none, none, none, none] [] (hs h (136) (aL 1700 (li1))) := by
          intro fu17
          induction fu17 with
          | zero => intro li1 j q hm ej qsp hrow hkp; exfalso; omega
          | succ fu17 ih17 =>
            intro li1 j q hms17 ej qsp hrow hkp
            refine r_iload dX11_solve_17 rfl ?_
            refine r_iload_n dX11_solve_19 rfl rfl ?_
            refine r_icmp_ge 51 dX11_solve_20 (by decide) ⟨by omega, by omega⟩ ⟨by omega, by omega⟩ (fun c_20 => ?_) (fun c_20 => ?_)
            · have e59 : ((41 * i) + spi).toNat = 41 * n + sp := by omega
              have qE : q = sp := by omega
              rw [qE] at hrow
              have vb51 := hvb (n + sp) (by omega)
              rw [show n + sp = (i + spi).toNat by omega] at vb51
              refine r_aload_n dX11_solve_51 rfl rfl ?_
              refine gf_X11_48 dX11_solve_52 (by omega) ((hs_n (by omega)).trans hm0) rfl ?_
              refine r_bipush (z := 41) dX11_solve_55 (by decide) ?_
              refine r_iload_n dX11_solve_57 rfl rfl ?_
              refine r_imul dX11_solve_58 ?_
              refine r_iload_n dX11_solve_59 rfl rfl ?_
              refine r_iadd dX11_solve_60 ?_
              refine r_aload_n dX11_solve_61 rfl rfl ?_
              refine gf_X11_27 dX11_solve_62 (by omega) ((hs_n (by omega)).trans hm0) rfl ?_
              refine r_iload_n dX11_solve_65 rfl rfl ?_
              refine r_iload_n dX11_solve_66 rfl rfl ?_
              refine r_iadd dX11_solve_67 ?_
              refine r_iaload dX11_solve_68 (by omega) ((hs_n (by omega)).trans hnv) (by omega) (by omega) (by decide) ?_
              refine r_i2l dX11_solve_69 ⟨by omega, by omega⟩ ?_
              refine r_lastore dX11_solve_70 (by omega) hs_e (by omega) (by omega) (by decide) ?_
              refine g_heap (h2 := (hs h (136) (aL 1700 (uA (li1) ((41 * i) + spi).toNat (vs (i + spi).toNat))))) hs_hs ?_
              refine r_iinc (L2 := [_, _, _, _, _, none, none, none, none, none, none, none]) dX11_solve_71 (nlt rfl) rfl rfl ?_
              refine r_goto 9 dX11_solve_74 (by decide) ?_
              refine r_mask [true, true, true, true, false, false, false, false, false, false, false, false] (L2 := [_, _, _, _, none, none, none, none, none, none, none, none]) rfl ?_
              exact ih9 (uA (li1) ((41 * i) + spi).toNat (vs (i + spi).toNat)) (i + 1) ((n + 1)) (by omega) (by omega) (by omega) (fun i2 h2 c hc => by rw [e59]; by_cases z : i2 = n; (rw [z]; by_cases w : c = sp; (rw [w, uA_e, show (i + spi).toNat = n + sp by omega]); rw [uA_n (by omega)]; exact hrow c (by omega)); rw [uA_n (by omega), hkp _ (by omega)]; exact hli i2 (by omega) c hc)
            · have e33 : ((41 * i) + j).toNat = 41 * n + q := by omega
              have vb23 := hvb (n + q) (by omega)
              rw [show n + q = (i + j).toNat by omega] at vb23
              refine r_aload_n dX11_solve_23 rfl rfl ?_
              refine gf_X11_48 dX11_solve_24 (by omega) ((hs_n (by omega)).trans hm0) rfl ?_
              refine r_bipush (z := 41) dX11_solve_27 (by decide) ?_
              refine r_iload_n dX11_solve_29 rfl rfl ?_
              refine r_imul dX11_solve_30 ?_
              refine r_iload dX11_solve_31 rfl ?_
              refine r_iadd dX11_solve_33 ?_
              refine r_aload_n dX11_solve_34 rfl rfl ?_
              refine gf_X11_27 dX11_solve_35 (by omega) ((hs_n (by omega)).trans hm0) rfl ?_
              refine r_iload_n dX11_solve_38 rfl rfl ?_
              refine r_iload dX11_solve_39 rfl ?_
              refine r_iadd dX11_solve_41 ?_
              refine r_iaload dX11_solve_42 (by omega) ((hs_n (by omega)).trans hnv) (by omega) (by omega) (by decide) ?_
              refine r_i2l dX11_solve_43 ⟨by omega, by omega⟩ ?_
              refine r_lastore dX11_solve_44 (by omega) hs_e (by omega) (by omega) (by decide) ?_
              refine g_heap (h2 := (hs h (136) (aL 1700 (uA (li1) ((41 * i) + j).toNat (vs (i + j).toNat))))) hs_hs ?_
              refine r_iinc (L2 := [_, _, _, _, _, none, none, none, none, none, none, none]) dX11_solve_45 (nlt rfl) rfl rfl ?_
              refine r_goto 17 dX11_solve_48 (by decide) ?_
              exact ih17 (uA (li1) ((41 * i) + j).toNat (vs (i + j).toNat)) (j + 1) ((q + 1)) (by omega) (by omega) (by omega) (fun c hc => by rw [e33]; by_cases w : c = q; (rw [w, uA_e, show (i + j).toNat = n + q by omega]); rw [uA_n (by omega)]; exact hrow c (by omega)) (fun x hx => by rw [e33, uA_n (by omega)]; exact hkp x hx)
        exact lp17 ((41 : Int) + 1).toNat (li) (0) (0) (by omega) rfl (Nat.zero_le _) (fun c hc => absurd hc (Nat.not_lt_zero c)) (fun x _ => rfl)
  refine g_heap (hs_id (c := aL 1700 (l0)) h136).symm ?_
  exact lp9 ((41 : Int) + 1).toNat (l0) (0) (0) (by omega) rfl (Nat.zero_le _) (fun i2 h2 => absurd h2 (Nat.not_lt_zero i2))
