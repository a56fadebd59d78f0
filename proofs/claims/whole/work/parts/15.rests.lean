abbrev REo (q : Nat) (k m : Int) : ACell := ob 5 [.ref (q + 1), .ref (q + 2), .ref (q + 3), .ref (q + 4), .int (iZ k), .int (iZ m)]
theorem acc_b {a b m : Int} (h1 : 0 ≤ a) (h2 : a < m) (h3 : 0 ≤ b) (h4 : b < m) (hm : m ≤ 1000000) : 0 ≤ a * b ∧ a * b ≤ 1000000000000 := by
  have h5 := Int.mul_nonneg h1 h3
  have h6 := Int.mul_le_mul (show a ≤ 1000000 by omega) (show b ≤ 1000000 by omega) h3 (by decide)
  omega
set_option maxHeartbeats 2000000 in
set_option maxRecDepth 20000 in
theorem c_X5_timesZ {N : Nat} {h : Hp} {Q : QP} {q k n0 : Nat} {m : Int} {lw sr P pr a : Nat → Int} (ho : h q = REo q (k : Int) m) (h1 : h (q + 1) = aL 7 lw) (h2 : h (q + 2) = aL 6 sr) (h3 : h (q + 3) = aL 6 P) (h4 : h (q + 4) = aL 12 pr) (hN : q + 4 < N) (hk0 : 0 < k) (hk : k ≤ 6) (hm2 : 2 ≤ m) (hm : m ≤ 1000000) (hlw : ∀ j, 1 ≤ j → j ≤ k → 0 ≤ lw j ∧ lw j < m) (hP : ∀ j, j < k → 0 ≤ P j ∧ P j < m) (hrec : Rec m a lw k) (hrp : Rp m a k P n0) (hQ : ∀ P2 : Nat → Int, (∀ j, j < k → 0 ≤ P2 j ∧ P2 j < m) → Rp m a k P2 (n0 + 1) → Q none N (hs h (q + 3) (aL 6 P2))) : Runs mX5_timesZ [.ref (q)] N h Q := by
  refine run_start (own := RX5) rfl (by decide) (nle rfl) rfl (fun X hq hini => ?_)
  show G X RX5 cX5_timesZ mX5_timesZ.rm N 0 0 0 [some (.ref (q)), none, none, none, none, none] [] h
  refine r_aload_n dX5_timesZ_0 rfl rfl ?_
  refine gf_X5_18 dX5_timesZ_1 (by omega) ho rfl ?_
  refine r_aload_n dX5_timesZ_4 rfl rfl ?_
  refine gf_X5_24 dX5_timesZ_5 (by omega) ho rfl ?_
  refine r_iconst (z := 1) dX5_timesZ_8 ?_
  refine r_isub dX5_timesZ_9 ?_
  have ek1 : ((k : Int) - 1).toNat = k - 1 := by omega
  have hPk := hP (k - 1) (by omega)
  have hPk2 := congrArg P ek1
  refine r_laload dX5_timesZ_10 (by omega) h3 (by omega) (by omega) (by decide) ?_
  refine r_lstore_n (L2 := [_, _, none, none, none, none]) dX5_timesZ_11 rfl (nlt rfl) rfl ?_
  refine r_aload_n dX5_timesZ_12 rfl rfl ?_
  refine gf_X5_24 dX5_timesZ_13 (by omega) ho rfl ?_
  refine r_iconst (z := 1) dX5_timesZ_16 ?_
  refine r_isub dX5_timesZ_17 ?_
  refine r_istore_n (L2 := [_, _, none, _, none, none]) dX5_timesZ_18 rfl (nlt rfl) rfl ?_
  have lp19 : ∀ (fu19 : Nat) (F : Nat → Int) (i : Int) (j : Nat), (i + 2) < (fu19 : Int) → (i + 1 = (j : Int)) → (j ≤ k) → (∀ u, u < j → F u = P u) → (∀ u, j ≤ u → u < k → F u = ((if u = 0 then 0 else P (u - 1)) + P (k - 1) * lw (k - u)) % m) → G X RX5 cX5_timesZ mX5_timesZ.rm N 0 0 19 [some (.ref (q)), some (.long (lZ (P ((k : Int) - 1).toNat))), none, some (.int (iZ (i))), none, none] [] (hs h (q + 3) (aL 6 (F))) := by
    intro fu19
    induction fu19 with
    | zero => intro F i j hm ei jk hF1 hF2; exfalso; omega
    | succ fu19 ih19 =>
      intro F i j hms19 ei jk hF1 hF2
      refine r_iload_n dX5_timesZ_19 rfl rfl ?_
      refine r_if_lt 75 dX5_timesZ_20 (by decide) ⟨by omega, by omega⟩ (fun c_20 => ?_) (fun c_20 => ?_)
      · refine r_return hq dX5_timesZ_75 rfl rfl rfl ?_
        have j0 : j = 0 := by omega
        subst j0
        exact hQ F (fun u hu => by rw [hF2 u (by omega) hu]; exact emod_bd _ (by omega)) (hrp.next hk0 hrec (fun u hu => by rw [hF2 u (by omega) hu]; exact cg.md))
      · have en : i.toNat = j - 1 := by omega
        have ek2 : ((k : Int) - i).toNat = k - (j - 1) := by omega
        have hl9 := hlw ((k : Int) - i).toNat (by omega) (by omega)
        have pk9 : 0 ≤ P ((k : Int) - 1).toNat ∧ P ((k : Int) - 1).toNat < m := by rw [ek1]; exact hPk
        have m9 := acc_b pk9.1 pk9.2 hl9.1 hl9.2 hm
        refine r_iload_n dX5_timesZ_23 rfl rfl ?_
        refine r_if_ne 31 dX5_timesZ_24 (by decide) ⟨by omega, by omega⟩ (fun c_24 => ?_) (fun c_24 => ?_)
        · refine r_aload_n dX5_timesZ_31 rfl rfl ?_
          refine gf_X5_18 dX5_timesZ_32 (by omega) ((hs_n (by omega)).trans ho) rfl ?_
          refine r_iload_n dX5_timesZ_35 rfl rfl ?_
          refine r_iconst (z := 1) dX5_timesZ_36 ?_
          refine r_isub dX5_timesZ_37 ?_
          refine r_laload dX5_timesZ_38 (by omega) hs_e (by omega) (by omega) (by decide) ?_
          refine r_lstore (L2 := [_, _, none, _, _, none]) dX5_timesZ_39 (nlt rfl) rfl ?_
          refine r_aload_n dX5_timesZ_41 rfl rfl ?_
          refine gf_X5_18 dX5_timesZ_42 (by omega) ((hs_n (by omega)).trans ho) rfl ?_
          refine r_iload_n dX5_timesZ_45 rfl rfl ?_
          have hlo : (F (i - 1).toNat : Int) = (if j - 1 = 0 then 0 else P (j - 1 - 1)) := by rw [if_neg (by omega)]; have e8 : (i - 1).toNat = j - 1 - 1 := (by omega); rw [e8]; exact hF1 _ (by omega)
          have hlob : 0 ≤ (F (i - 1).toNat : Int) ∧ (F (i - 1).toNat : Int) < m := by rw [hlo]; rw [if_neg (by omega)]; exact hP _ (by omega)
          refine r_lload dX5_timesZ_46 rfl ?_
          refine r_lload_n dX5_timesZ_48 rfl rfl ?_
          refine r_aload_n dX5_timesZ_49 rfl rfl ?_
          refine gf_X5_9 dX5_timesZ_50 (by omega) ((hs_n (by omega)).trans ho) rfl ?_
          refine r_aload_n dX5_timesZ_53 rfl rfl ?_
          refine gf_X5_24 dX5_timesZ_54 (by omega) ((hs_n (by omega)).trans ho) rfl ?_
          refine r_iload_n dX5_timesZ_57 rfl rfl ?_
          refine r_isub dX5_timesZ_58 ?_
          refine r_laload dX5_timesZ_59 (by omega) ((hs_n (by omega)).trans h1) (by omega) (by omega) (by decide) ?_
          refine r_lmul dX5_timesZ_60 ?_
          refine r_ladd dX5_timesZ_61 ?_
          refine r_aload_n dX5_timesZ_62 rfl rfl ?_
          refine gf_X5_28 dX5_timesZ_63 (by omega) ((hs_n (by omega)).trans ho) rfl ?_
          refine r_i2l dX5_timesZ_66 ⟨by omega, by omega⟩ ?_
          refine r_lremp dX5_timesZ_67 ⟨by omega, by omega⟩ ⟨by omega, by omega⟩ (by omega) (by omega) ?_
          have eb_67 := emod_bd ((F (i - 1).toNat) + ((P ((k : Int) - 1).toNat) * (lw ((k : Int) - i).toNat))) (show 0 < m by omega)
          refine r_lastore dX5_timesZ_68 (by omega) hs_e (by omega) (by omega) (by decide) ?_
          refine g_heap (h2 := (hs h (q + 3) (aL 6 (uA (F) (i).toNat (((F (i - 1).toNat) + ((P ((k : Int) - 1).toNat) * (lw ((k : Int) - i).toNat))) % m))))) hs_hs ?_
          refine r_iinc (L2 := [_, _, none, _, _, none]) dX5_timesZ_69 (nlt rfl) rfl rfl ?_
          refine r_goto 19 dX5_timesZ_72 (by decide) ?_
          refine r_mask [true, true, false, true, false, false] (L2 := [_, _, none, _, none, none]) rfl ?_
          exact ih19 (uA (F) (i).toNat (((F (i - 1).toNat) + ((P ((k : Int) - 1).toNat) * (lw ((k : Int) - i).toNat))) % m)) (i + (-1)) ((j - 1)) (by omega) (by omega) (by omega) (fun u hu => by rw [en, uA_n (by omega)]; exact hF1 u (by omega)) (fun u h8 h9 => by rw [en]; by_cases z : u = j - 1; (subst z; rw [uA_e, ← hlo, ek1, ek2]); rw [uA_n z]; exact hF2 u (by omega) h9)
        · refine r_lconst (z := 0) dX5_timesZ_27 (by decide) ?_
          refine r_goto 39 dX5_timesZ_28 (by decide) ?_
          refine r_lstore (L2 := [_, _, none, _, _, none]) dX5_timesZ_39 (nlt rfl) rfl ?_
          refine r_aload_n dX5_timesZ_41 rfl rfl ?_
          refine gf_X5_18 dX5_timesZ_42 (by omega) ((hs_n (by omega)).trans ho) rfl ?_
          refine r_iload_n dX5_timesZ_45 rfl rfl ?_
          have hlo : (0 : Int) = (if j - 1 = 0 then 0 else P (j - 1 - 1)) := by rw [if_pos (by omega)]
          have hlob : 0 ≤ (0 : Int) ∧ (0 : Int) < m := by rw [hlo]; rw [if_pos (by omega)]; omega
          refine r_lload dX5_timesZ_46 rfl ?_
          refine r_lload_n dX5_timesZ_48 rfl rfl ?_
          refine r_aload_n dX5_timesZ_49 rfl rfl ?_
          refine gf_X5_9 dX5_timesZ_50 (by omega) ((hs_n (by omega)).trans ho) rfl ?_
          refine r_aload_n dX5_timesZ_53 rfl rfl ?_
          refine gf_X5_24 dX5_timesZ_54 (by omega) ((hs_n (by omega)).trans ho) rfl ?_
          refine r_iload_n dX5_timesZ_57 rfl rfl ?_
          refine r_isub dX5_timesZ_58 ?_
          refine r_laload dX5_timesZ_59 (by omega) ((hs_n (by omega)).trans h1) (by omega) (by omega) (by decide) ?_
          refine r_lmul dX5_timesZ_60 ?_
          refine r_ladd dX5_timesZ_61 ?_
          refine r_aload_n dX5_timesZ_62 rfl rfl ?_
          refine gf_X5_28 dX5_timesZ_63 (by omega) ((hs_n (by omega)).trans ho) rfl ?_
          refine r_i2l dX5_timesZ_66 ⟨by omega, by omega⟩ ?_
          refine r_lremp dX5_timesZ_67 ⟨by omega, by omega⟩ ⟨by omega, by omega⟩ (by omega) (by omega) ?_
          have eb_67 := emod_bd (0 + ((P ((k : Int) - 1).toNat) * (lw ((k : Int) - i).toNat))) (show 0 < m by omega)
          refine r_lastore dX5_timesZ_68 (by omega) hs_e (by omega) (by omega) (by decide) ?_
          refine g_heap (h2 := (hs h (q + 3) (aL 6 (uA (F) (i).toNat ((0 + ((P ((k : Int) - 1).toNat) * (lw ((k : Int) - i).toNat))) % m))))) hs_hs ?_
          refine r_iinc (L2 := [_, _, none, _, _, none]) dX5_timesZ_69 (nlt rfl) rfl rfl ?_
          refine r_goto 19 dX5_timesZ_72 (by decide) ?_
          refine r_mask [true, true, false, true, false, false] (L2 := [_, _, none, _, none, none]) rfl ?_
          exact ih19 (uA (F) (i).toNat ((0 + ((P ((k : Int) - 1).toNat) * (lw ((k : Int) - i).toNat))) % m)) (i + (-1)) ((j - 1)) (by omega) (by omega) (by omega) (fun u hu => by rw [en, uA_n (by omega)]; exact hF1 u (by omega)) (fun u h8 h9 => by rw [en]; by_cases z : u = j - 1; (subst z; rw [uA_e, ← hlo, ek1, ek2]); rw [uA_n z]; exact hF2 u (by omega) h9)
  refine g_heap (hs_id (c := aL 6 (P)) h3).symm ?_
  exact lp19 (((k : Int) + 1 : Int) + 1).toNat (P) ((k : Int) - 1) (k) (by omega) (by omega) (by omega) (fun u _ => rfl) (fun u h8 h9 => by omega)
set_option maxHeartbeats 8000000 in
set_option maxRecDepth 20000 in
theorem c_X5_square {N : Nat} {h : Hp} {Q : QP} {q k n0 : Nat} {m : Int} {lw sr P pr a : Nat → Int} (ho : h q = REo q (k : Int) m) (h1 : h (q + 1) = aL 7 lw) (h2 : h (q + 2) = aL 6 sr) (h3 : h (q + 3) = aL 6 P) (h4 : h (q + 4) = aL 12 pr) (hN : q + 4 < N) (hk0 : 0 < k) (hk : k ≤ 6) (hm2 : 2 ≤ m) (hm : m ≤ 1000000) (hlw : ∀ j, 1 ≤ j → j ≤ k → 0 ≤ lw j ∧ lw j < m) (hP : ∀ j, j < k → 0 ≤ P j ∧ P j < m) (hrec : Rec m a lw k) (hrp : Rp m a k P n0) (hQ : ∀ P2 pr2 : Nat → Int, (∀ j, j < k → 0 ≤ P2 j ∧ P2 j < m) → Rp m a k P2 (n0 + n0) → Q none N (hs (hs h (q + 4) (aL 12 pr2)) (q + 3) (aL 6 P2))) : Runs mX5_square [.ref (q)] N h Q := by
  refine run_start (own := RX5) rfl (by decide) (nle rfl) rfl (fun X hq hini => ?_)
  show G X RX5 cX5_square mX5_square.rm N 0 0 0 [some (.ref (q)), none, none, none, none] [] h
  refine r_iconst (z := 0) dX5_square_0 ?_
  refine r_istore_n (L2 := [_, _, none, none, none]) dX5_square_1 rfl (nlt rfl) rfl ?_
  have lp2 : ∀ (fu2 : Nat) (F : Nat → Int) (i : Int), (2 * (k : Int) + 1 - i) < (fu2 : Int) → (0 ≤ i) → (i ≤ 2 * (k : Int)) → (∀ u : Nat, (u : Int) < i → F u = 0) → G X RX5 cX5_square mX5_square.rm N 0 0 2 [some (.ref (q)), some (.int (iZ (i))), none, none, none] [] (hs h (q + 4) (aL 12 (F))) := by
    intro fu2
    induction fu2 with
    | zero => intro F i hm i0 i2 hF; exfalso; omega
    | succ fu2 ih2 =>
      intro F i hms2 i0 i2 hF
      refine r_iload_n dX5_square_2 rfl rfl ?_
      refine r_iconst (z := 2) dX5_square_3 ?_
      refine r_aload_n dX5_square_4 rfl rfl ?_
      refine gf_X5_24 dX5_square_5 (by omega) ((hs_n (by omega)).trans ho) rfl ?_
      refine r_imul dX5_square_8 ?_
      refine r_icmp_ge 25 dX5_square_9 (by decide) ⟨by omega, by omega⟩ ⟨by omega, by omega⟩ (fun c_9 => ?_) (fun c_9 => ?_)
      · refine r_iconst (z := 0) dX5_square_25 ?_
        refine r_istore_n (L2 := [_, _, none, none, none]) dX5_square_26 rfl (nlt rfl) rfl ?_
        have lp27 : ∀ (fu27 : Nat) (F3 : Nat → Int) (r : Int) (rn : Nat), ((k : Int) + 1 - r) < (fu27 : Int) → (r = (rn : Int)) → (rn ≤ k) → (∀ u, u < 12 → u < 2 * k → 0 ≤ F3 u ∧ F3 u ≤ rn * 1000000000000) → (∀ b : Nat → Int, sm (fun u => F3 u * b u) (2 * k - 1) = sm (fun i => sm (fun j => P i * P j * b (i + j)) k) rn) → G X RX5 cX5_square mX5_square.rm N 0 0 27 [some (.ref (q)), some (.int (iZ (r))), none, none, none] [] (hs h (q + 4) (aL 12 (F3))) := by
          intro fu27
          induction fu27 with
          | zero => intro F3 r rn hm er rk hB hS; exfalso; omega
          | succ fu27 ih27 =>
            intro F3 r rn hms27 er rk hB hS
            refine r_iload_n dX5_square_27 rfl rfl ?_
            refine r_aload_n dX5_square_28 rfl rfl ?_
            refine gf_X5_24 dX5_square_29 (by omega) ((hs_n (by omega)).trans ho) rfl ?_
            refine r_icmp_ge 81 dX5_square_32 (by decide) ⟨by omega, by omega⟩ ⟨by omega, by omega⟩ (fun c_32 => ?_) (fun c_32 => ?_)
            · refine r_iconst (z := 2) dX5_square_81 ?_
              refine r_aload_n dX5_square_82 rfl rfl ?_
              refine gf_X5_24 dX5_square_83 (by omega) ((hs_n (by omega)).trans ho) rfl ?_
              refine r_imul dX5_square_86 ?_
              refine r_iconst (z := 2) dX5_square_87 ?_
              refine r_isub dX5_square_88 ?_
              refine r_istore_n (L2 := [_, _, none, none, none]) dX5_square_89 rfl (nlt rfl) rfl ?_
              have lp90 : ∀ (fu90 : Nat) (F5 : Nat → Int) (w : Int) (wn : Nat), (w + 2) < (fu90 : Int) → (w + 1 = (wn : Int)) → (k ≤ wn) → (wn ≤ 2 * k - 1) → (∀ u, u < 12 → u < 2 * k → 0 ≤ F5 u ∧ F5 u ≤ (20 - (wn : Int)) * 1000000000000) → (Rp m a wn F5 (n0 + n0)) → G X RX5 cX5_square mX5_square.rm N 0 0 90 [some (.ref (q)), some (.int (iZ (w))), none, none, none] [] (hs h (q + 4) (aL 12 (F5))) := by
                intro fu90
                induction fu90 with
                | zero => intro F5 w wn hm ew wk w2 hB5 hR5; exfalso; omega
                | succ fu90 ih90 =>
                  intro F5 w wn hms90 ew wk w2 hB5 hR5
                  refine r_iload_n dX5_square_90 rfl rfl ?_
                  refine r_aload_n dX5_square_91 rfl rfl ?_
                  refine gf_X5_24 dX5_square_92 (by omega) ((hs_n (by omega)).trans ho) rfl ?_
                  refine r_icmp_lt 156 dX5_square_95 (by decide) ⟨by omega, by omega⟩ ⟨by omega, by omega⟩ (fun c_95 => ?_) (fun c_95 => ?_)
                  · refine r_iconst (z := 0) dX5_square_156 ?_
                    refine r_istore_n (L2 := [_, _, none, none, none]) dX5_square_157 rfl (nlt rfl) rfl ?_
                    have lp158 : ∀ (fu158 : Nat) (F7 : Nat → Int) (v : Int) (vn : Nat), ((k : Int) + 1 - v) < (fu158 : Int) → (v = (vn : Int)) → (vn ≤ k) → (∀ u, u < vn → F7 u = F5 u % m) → G X RX5 cX5_square mX5_square.rm N 0 0 158 [some (.ref (q)), some (.int (iZ (v))), none, none, none] [] (hs (hs h (q + 4) (aL 12 (F5))) (q + 3) (aL 6 (F7))) := by
                      intro fu158
                      induction fu158 with
                      | zero => intro F7 v vn hm ev vk hF7; exfalso; omega
                      | succ fu158 ih158 =>
                        intro F7 v vn hms158 ev vk hF7
                        refine r_iload_n dX5_square_158 rfl rfl ?_
                        refine r_aload_n dX5_square_159 rfl rfl ?_
                        refine gf_X5_24 dX5_square_160 (by omega) ((hs_n (by omega)).trans ((hs_n (by omega)).trans ho)) rfl ?_
                        refine r_icmp_ge 190 dX5_square_163 (by decide) ⟨by omega, by omega⟩ ⟨by omega, by omega⟩ (fun c_163 => ?_) (fun c_163 => ?_)
                        · refine r_return hq dX5_square_190 rfl rfl rfl ?_
                          have e9 : vn = k := by omega
                          exact hQ F7 F5 (fun u hu => by rw [hF7 u (by omega)]; exact emod_bd _ (by omega)) (by have e8 : wn = k := (by omega); rw [e8] at hR5; exact hR5.cong (fun u hu => by rw [hF7 u (by omega)]; exact cg.md))
                        · refine r_aload_n dX5_square_166 rfl rfl ?_
                          refine gf_X5_18 dX5_square_167 (by omega) ((hs_n (by omega)).trans ((hs_n (by omega)).trans ho)) rfl ?_
                          refine r_iload_n dX5_square_170 rfl rfl ?_
                          have evn : v.toNat = vn := by omega
                          have b171 := hB5 v.toNat (by omega) (by omega)
                          have h5v := congrArg F5 evn
                          refine r_aload_n dX5_square_171 rfl rfl ?_
                          refine gf_X5_21 dX5_square_172 (by omega) ((hs_n (by omega)).trans ((hs_n (by omega)).trans ho)) rfl ?_
                          refine r_iload_n dX5_square_175 rfl rfl ?_
                          refine r_laload dX5_square_176 (by omega) ((hs_n (by omega)).trans hs_e) (by omega) (by omega) (by decide) ?_
                          refine r_aload_n dX5_square_177 rfl rfl ?_
                          refine gf_X5_28 dX5_square_178 (by omega) ((hs_n (by omega)).trans ((hs_n (by omega)).trans ho)) rfl ?_
                          refine r_i2l dX5_square_181 ⟨by omega, by omega⟩ ?_
                          refine r_lremp dX5_square_182 ⟨by omega, by omega⟩ ⟨by omega, by omega⟩ (by omega) (by omega) ?_
                          have eb_182 := emod_bd (F5 (v).toNat) (show 0 < m by omega)
                          refine r_lastore dX5_square_183 (by omega) hs_e (by omega) (by omega) (by decide) ?_
                          refine g_heap (h2 := (hs (hs h (q + 4) (aL 12 (F5))) (q + 3) (aL 6 (uA (F7) (v).toNat ((F5 (v).toNat) % m))))) hs_hs ?_
                          refine r_iinc (L2 := [_, _, none, none, none]) dX5_square_184 (nlt rfl) rfl rfl ?_
                          refine r_goto 158 dX5_square_187 (by decide) ?_
                          exact ih158 (uA (F7) (v).toNat ((F5 (v).toNat) % m)) (v + 1) ((vn + 1)) (by omega) (by omega) (by omega) (fun u hu => by rw [evn]; by_cases z : u = vn; (subst z; rw [uA_e]); rw [uA_n z]; exact hF7 u (by omega))
                    refine g_heap (hs_id (c := aL 6 (P)) ((hs_n (by omega)).trans h3)).symm ?_
                    exact lp158 (((k : Int) + 1 : Int) + 1).toNat (P) (0) (0) (by omega) rfl (by omega) (fun u hu => absurd hu (Nat.not_lt_zero u))
                  · refine r_aload_n dX5_square_98 rfl rfl ?_
                    refine gf_X5_21 dX5_square_99 (by omega) ((hs_n (by omega)).trans ho) rfl ?_
                    refine r_iload_n dX5_square_102 rfl rfl ?_
                    have ewn : w.toNat = wn - 1 := by omega
                    have b103 := hB5 w.toNat (by omega) (by omega)
                    refine r_laload dX5_square_103 (by omega) hs_e (by omega) (by omega) (by decide) ?_
                    refine r_aload_n dX5_square_104 rfl rfl ?_
                    refine gf_X5_28 dX5_square_105 (by omega) ((hs_n (by omega)).trans ho) rfl ?_
                    refine r_i2l dX5_square_108 ⟨by omega, by omega⟩ ?_
                    refine r_lremp dX5_square_109 ⟨by omega, by omega⟩ ⟨by omega, by omega⟩ (by omega) (by omega) ?_
                    have eb_109 := emod_bd (F5 (w).toNat) (show 0 < m by omega)
                    refine r_lstore_n (L2 := [_, _, _, none, none]) dX5_square_110 rfl (nlt rfl) rfl ?_
                    refine r_iconst (z := 1) dX5_square_111 ?_
                    refine r_istore (L2 := [_, _, _, none, _]) dX5_square_112 (nlt rfl) rfl ?_
                    have lp114 : ∀ (fu114 : Nat) (F6 : Nat → Int) (d : Int) (dj : Nat), ((k : Int) + 2 - d) < (fu114 : Int) → (d = (dj : Int) + 1) → (dj ≤ k) → (∀ u, u < 12 → u < 2 * k → 0 ≤ F6 u ∧ F6 u ≤ (21 - (wn : Int)) * 1000000000000 ∧ (u + dj < wn - 1 → F6 u ≤ (20 - (wn : Int)) * 1000000000000)) → (∀ b : Nat → Int, sm (fun u => F6 u * b u) (wn - 1) = sm (fun u => F5 u * b u) (wn - 1) + sm (fun j => F5 w.toNat % m * lw (j + 1) * b (wn - 1 - 1 - j)) dj) → G X RX5 cX5_square mX5_square.rm N 0 0 114 [some (.ref (q)), some (.int (iZ (w))), some (.long (lZ ((F5 (w).toNat) % m))), none, some (.int (iZ (d)))] [] (hs h (q + 4) (aL 12 (F6))) := by
                      intro fu114
                      induction fu114 with
                      | zero => intro F6 d dj hm ed dk hB6 hS6; exfalso; omega
                      | succ fu114 ih114 =>
                        intro F6 d dj hms114 ed dk hB6 hS6
                        refine r_iload dX5_square_114 rfl ?_
                        refine r_aload_n dX5_square_116 rfl rfl ?_
                        refine gf_X5_24 dX5_square_117 (by omega) ((hs_n (by omega)).trans ho) rfl ?_
                        refine r_icmp_gt 150 dX5_square_120 (by decide) ⟨by omega, by omega⟩ ⟨by omega, by omega⟩ (fun c_120 => ?_) (fun c_120 => ?_)
                        · refine r_iinc (L2 := [_, _, _, none, _]) dX5_square_150 (nlt rfl) rfl rfl ?_
                          refine r_goto 90 dX5_square_153 (by decide) ?_
                          refine r_mask [true, true, false, false, false] (L2 := [_, _, none, none, none]) rfl ?_
                          exact ih90 (F6) (w + (-1)) ((wn - 1)) (by omega) (by omega) (by omega) (by omega) (fun u h8 h9 => by have := hB6 u h8 h9; omega) (by have e8 : wn = wn - 1 + 1 := (by omega); rw [e8] at hR5; refine hR5.down hrec (by omega) (top := F5 w.toNat % m) ?_ (fun b => ?_); (rw [ewn]; exact cg.md); (rw [hS6 b]; have e7 : dj = k := (by omega); rw [e7]; exact cg.rf))
                        · refine r_aload_n dX5_square_123 rfl rfl ?_
                          refine gf_X5_21 dX5_square_124 (by omega) ((hs_n (by omega)).trans ho) rfl ?_
                          refine r_iload_n dX5_square_127 rfl rfl ?_
                          refine r_iload dX5_square_128 rfl ?_
                          refine r_isub dX5_square_130 ?_
                          refine r_dup2 dX5_square_131 rfl rfl ?_
                          have ewd : (w - d).toNat = wn - 1 - 1 - dj := by omega
                          have edn : d.toNat = dj + 1 := by omega
                          have l9 := hlw d.toNat (by omega) (by omega)
                          have m132 := acc_b eb_109.1 eb_109.2 l9.1 l9.2 hm
                          refine r_laload dX5_square_132 (by omega) hs_e (by omega) (by omega) (by decide) ?_
                          refine r_lload_n dX5_square_133 rfl rfl ?_
                          refine r_aload_n dX5_square_134 rfl rfl ?_
                          refine gf_X5_9 dX5_square_135 (by omega) ((hs_n (by omega)).trans ho) rfl ?_
                          refine r_iload dX5_square_138 rfl ?_
                          refine r_laload dX5_square_140 (by omega) ((hs_n (by omega)).trans h1) (by omega) (by omega) (by decide) ?_
                          refine r_lmul dX5_square_141 ?_
                          refine r_ladd dX5_square_142 ?_
                          refine r_lastore dX5_square_143 (by omega) hs_e (by omega) (by omega) (by decide) ?_
                          refine g_heap (h2 := (hs h (q + 4) (aL 12 (uA (F6) (w - d).toNat ((F6 (w - d).toNat) + (((F5 (w).toNat) % m) * (lw (d).toNat))))))) hs_hs ?_
                          refine r_iinc (L2 := [_, _, _, none, _]) dX5_square_144 (nlt rfl) rfl rfl ?_
                          refine r_goto 114 dX5_square_147 (by decide) ?_
                          exact ih114 (uA (F6) (w - d).toNat ((F6 (w - d).toNat) + (((F5 (w).toNat) % m) * (lw (d).toNat)))) (d + 1) ((dj + 1)) (by omega) (by omega) (by omega) (fun u h8 h9 => by rw [ewd]; have h7 := hB6 u h8 h9; by_cases z : u = wn - 1 - 1 - dj; (subst z; rw [uA_e]; have h6 := h7.2.2 (by omega); omega); rw [uA_n z]; omega) (fun b => by rw [ewd, sm_uA (by omega), hS6 b, sm_s, edn, show F6 (wn - 1 - 1 - dj) + F5 w.toNat % m * lw (dj + 1) - F6 (wn - 1 - 1 - dj) = F5 w.toNat % m * lw (dj + 1) by omega]; omega)
                    exact lp114 (((k : Int) + 2 : Int) + 1).toNat (F5) (1) (0) (by omega) rfl (by omega) (fun u h8 h9 => by have := hB5 u h8 h9; omega) (fun b => by simp [sm])
              exact lp90 ((2 * (k : Int) + 1 : Int) + 1).toNat (F3) ((2 * (k : Int)) - 2) ((2 * k - 1)) (by omega) (by omega) (by omega) (by omega) (fun u h8 h9 => by have := hB u h8 h9; omega) (hrp.mul hrp (fun b => by rw [hS b]; have e9 : rn = k := (by omega); rw [e9]))
            · refine r_iconst (z := 0) dX5_square_35 ?_
              refine r_istore_n (L2 := [_, _, _, none, none]) dX5_square_36 rfl (nlt rfl) rfl ?_
              have lp37 : ∀ (fu37 : Nat) (F4 : Nat → Int) (c : Int) (cj : Nat), ((k : Int) + 1 - c) < (fu37 : Int) → (c = (cj : Int)) → (cj ≤ k) → (∀ u, u < 12 → u < 2 * k → 0 ≤ F4 u ∧ F4 u ≤ (rn + 1) * 1000000000000 ∧ (rn + cj ≤ u → F4 u ≤ rn * 1000000000000)) → (∀ b : Nat → Int, sm (fun u => F4 u * b u) (2 * k - 1) = sm (fun i => sm (fun j => P i * P j * b (i + j)) k) rn + sm (fun j => P rn * P j * b (rn + j)) cj) → G X RX5 cX5_square mX5_square.rm N 0 0 37 [some (.ref (q)), some (.int (iZ (r))), some (.int (iZ (c))), none, none] [] (hs h (q + 4) (aL 12 (F4))) := by
                intro fu37
                induction fu37 with
                | zero => intro F4 c cj hm ec ck hB4 hS4; exfalso; omega
                | succ fu37 ih37 =>
                  intro F4 c cj hms37 ec ck hB4 hS4
                  refine r_iload_n dX5_square_37 rfl rfl ?_
                  refine r_aload_n dX5_square_38 rfl rfl ?_
                  refine gf_X5_24 dX5_square_39 (by omega) ((hs_n (by omega)).trans ho) rfl ?_
                  refine r_icmp_ge 75 dX5_square_42 (by decide) ⟨by omega, by omega⟩ ⟨by omega, by omega⟩ (fun c_42 => ?_) (fun c_42 => ?_)
                  · refine r_iinc (L2 := [_, _, _, none, none]) dX5_square_75 (nlt rfl) rfl rfl ?_
                    refine r_goto 27 dX5_square_78 (by decide) ?_
                    refine r_mask [true, true, false, false, false] (L2 := [_, _, none, none, none]) rfl ?_
                    exact ih27 (F4) (r + 1) ((rn + 1)) (by omega) (by omega) (by omega) (fun u h8 h9 => by have := hB4 u h8 h9; omega) (fun b => by rw [hS4 b, sm_s]; have e9 : cj = k := (by omega); rw [e9])
                  · refine r_aload_n dX5_square_45 rfl rfl ?_
                    refine gf_X5_21 dX5_square_46 (by omega) ((hs_n (by omega)).trans ho) rfl ?_
                    refine r_iload_n dX5_square_49 rfl rfl ?_
                    refine r_iload_n dX5_square_50 rfl rfl ?_
                    refine r_iadd dX5_square_51 ?_
                    refine r_dup2 dX5_square_52 rfl rfl ?_
                    have err : r.toNat = rn := by omega
                    have ecc : c.toNat = cj := by omega
                    have erc : (r + c).toNat = rn + cj := by omega
                    have p1 := hP r.toNat (by omega)
                    have p2 := hP c.toNat (by omega)
                    have m53 := acc_b p1.1 p1.2 p2.1 p2.2 hm
                    have b53 := hB4 (r + c).toNat (by omega) (by omega)
                    refine r_laload dX5_square_53 (by omega) hs_e (by omega) (by omega) (by decide) ?_
                    refine r_aload_n dX5_square_54 rfl rfl ?_
                    refine gf_X5_18 dX5_square_55 (by omega) ((hs_n (by omega)).trans ho) rfl ?_
                    refine r_iload_n dX5_square_58 rfl rfl ?_
                    refine r_laload dX5_square_59 (by omega) ((hs_n (by omega)).trans h3) (by omega) (by omega) (by decide) ?_
                    refine r_aload_n dX5_square_60 rfl rfl ?_
                    refine gf_X5_18 dX5_square_61 (by omega) ((hs_n (by omega)).trans ho) rfl ?_
                    refine r_iload_n dX5_square_64 rfl rfl ?_
                    refine r_laload dX5_square_65 (by omega) ((hs_n (by omega)).trans h3) (by omega) (by omega) (by decide) ?_
                    refine r_lmul dX5_square_66 ?_
                    refine r_ladd dX5_square_67 ?_
                    refine r_lastore dX5_square_68 (by omega) hs_e (by omega) (by omega) (by decide) ?_
                    refine g_heap (h2 := (hs h (q + 4) (aL 12 (uA (F4) (r + c).toNat ((F4 (r + c).toNat) + ((P (r).toNat) * (P (c).toNat))))))) hs_hs ?_
                    refine r_iinc (L2 := [_, _, _, none, none]) dX5_square_69 (nlt rfl) rfl rfl ?_
                    refine r_goto 37 dX5_square_72 (by decide) ?_
                    exact ih37 (uA (F4) (r + c).toNat ((F4 (r + c).toNat) + ((P (r).toNat) * (P (c).toNat)))) (c + 1) ((cj + 1)) (by omega) (by omega) (by omega) (fun u h8 h9 => by rw [erc]; have h7 := hB4 u h8 h9; by_cases z : u = rn + cj; (subst z; rw [uA_e, err, ecc]; rw [err, ecc] at m53; have h6 := h7.2.2 (by omega); omega); rw [uA_n z]; omega) (fun b => by rw [erc, sm_uA (by omega), hS4 b, sm_s, err, ecc]; have e9 : ∀ x y z : Int, x + y - x = y := (by intros; omega); rw [show F4 (rn + cj) + P rn * P cj - F4 (rn + cj) = P rn * P cj by omega]; omega)
              exact lp37 (((k : Int) + 1 : Int) + 1).toNat (F3) (0) (0) (by omega) rfl (by omega) (fun u h8 h9 => by have := hB u h8 h9; omega) (fun b => by rw [hS b]; simp [sm])
        exact lp27 (((k : Int) + 1 : Int) + 1).toNat (F) (0) (0) (by omega) rfl (by omega) (fun u _ h9 => by rw [hF u (by omega)]; omega) (fun b => sm_zero (fun u hu => by rw [hF u (by omega), Int.zero_mul]))
      · refine r_aload_n dX5_square_12 rfl rfl ?_
        refine gf_X5_21 dX5_square_13 (by omega) ((hs_n (by omega)).trans ho) rfl ?_
        refine r_iload_n dX5_square_16 rfl rfl ?_
        refine r_lconst (z := 0) dX5_square_17 (by decide) ?_
        refine r_lastore dX5_square_18 (by omega) hs_e (by omega) (by omega) (by decide) ?_
        refine g_heap (h2 := (hs h (q + 4) (aL 12 (uA (F) (i).toNat (0))))) hs_hs ?_
        refine r_iinc (L2 := [_, _, none, none, none]) dX5_square_19 (nlt rfl) rfl rfl ?_
        refine r_goto 2 dX5_square_22 (by decide) ?_
        exact ih2 (uA (F) (i).toNat (0)) (i + 1) (by omega) (by omega) (by omega) (fun u hu => by by_cases z : u = i.toNat; (subst z; rw [uA_e]); rw [uA_n z]; exact hF u (by omega))
  refine g_heap (hs_id (c := aL 12 (pr)) h4).symm ?_
  exact lp2 ((2 * (k : Int) + 1 : Int) + 1).toNat (pr) (0) (by omega) (by decide) (by omega) (fun u hu => by omega)
set_option maxHeartbeats 2000000 in
set_option maxRecDepth 20000 in
theorem c_X5_place {N : Nat} {h : Hp} {Q : QP} {q k nn : Nat} {n m : Int} {lw sr P pr : Nat → Int} (ho : h q = REo q (k : Int) m) (h1 : h (q + 1) = aL 7 lw) (h2 : h (q + 2) = aL 6 sr) (h3 : h (q + 3) = aL 6 P) (h4 : h (q + 4) = aL 12 pr) (hN : q + 4 < N) (hk0 : 0 < k) (hk : k ≤ 6) (hm2 : 2 ≤ m) (hm : m ≤ 1000000) (hlw : ∀ j, 1 ≤ j → j ≤ k → 0 ≤ lw j ∧ lw j < m) (hsr : ∀ j, j < k → 0 ≤ sr j ∧ sr j < m) (hn : n = (nn : Int)) (hn1 : n < 2147483648) (hQ : ∀ P2 pr2 : Nat → Int, Q (some (.int (iZ (ex k lw sr nn % m)))) N (hs (hs h (q + 3) (aL 6 P2)) (q + 4) (aL 12 pr2))) : Runs mX5_place [.ref (q), .int (iZ (n))] N h Q := by
  obtain ⟨a, ha⟩ : ∃ a, a = ex k lw sr := ⟨_, rfl⟩
  have hrec : Rec m a lw k := by rw [ha]; exact ex_rec hk0
  refine run_start (own := RX5) rfl (by decide) (nle rfl) rfl (fun X hq hini => ?_)
  show G X RX5 cX5_place mX5_place.rm N 0 0 0 [some (.ref (q)), some (.int (iZ (n))), none, none, none] [] h
  refine r_iconst (z := 0) dX5_place_0 ?_
  refine r_istore_n (L2 := [_, _, _, none, none]) dX5_place_1 rfl (nlt rfl) rfl ?_
  have lp2 : ∀ (fu2 : Nat) (F : Nat → Int) (i : Int), ((k : Int) + 1 - i) < (fu2 : Int) → (0 ≤ i) → (i ≤ (k : Int)) → (∀ u : Nat, (u : Int) < i → F u = if u = 0 then 1 else 0) → G X RX5 cX5_place mX5_place.rm N 0 0 2 [some (.ref (q)), some (.int (iZ (n))), some (.int (iZ (i))), none, none] [] (hs h (q + 3) (aL 6 (F))) := by
    intro fu2
    induction fu2 with
    | zero => intro F i hm i0 i2 hF; exfalso; omega
    | succ fu2 ih2 =>
      intro F i hms2 i0 i2 hF
      refine r_iload_n dX5_place_2 rfl rfl ?_
      refine r_aload_n dX5_place_3 rfl rfl ?_
      refine gf_X5_24 dX5_place_4 (by omega) ((hs_n (by omega)).trans ho) rfl ?_
      refine r_icmp_ge 31 dX5_place_7 (by decide) ⟨by omega, by omega⟩ ⟨by omega, by omega⟩ (fun c_7 => ?_) (fun c_7 => ?_)
      · refine r_bipush (z := 30) dX5_place_31 (by decide) ?_
        refine r_istore_n (L2 := [_, _, _, none, none]) dX5_place_33 rfl (nlt rfl) rfl ?_
        have lp34 : ∀ (fu34 : Nat) (pr7 : Nat → Int) (P7 : Nat → Int) (b : Int) (bn : Nat) (e9 : Nat), (b + 2) < (fu34 : Int) → (b + 1 = (bn : Int)) → (bn ≤ 31) → (e9 = nn / 2 ^ bn) → (∀ j, j < k → 0 ≤ P7 j ∧ P7 j < m) → (Rp m a k P7 e9) → G X RX5 cX5_place mX5_place.rm N 0 0 34 [some (.ref (q)), some (.int (iZ (n))), some (.int (iZ (b))), none, none] [] (hs (hs h (q + 3) (aL 6 (P7))) (q + 4) (aL 12 (pr7))) := by
          intro fu34
          induction fu34 with
          | zero => intro pr7 P7 b bn e9 hm eb b31 ee hP7 hR7; exfalso; omega
          | succ fu34 ih34 =>
            intro pr7 P7 b bn e9 hms34 eb b31 ee hP7 hR7
            refine r_iload_n dX5_place_34 rfl rfl ?_
            refine r_if_lt 61 dX5_place_35 (by decide) ⟨by omega, by omega⟩ (fun c_35 => ?_) (fun c_35 => ?_)
            · refine r_lconst (z := 0) dX5_place_61 (by decide) ?_
              refine r_lstore_n (L2 := [_, _, _, none, none]) dX5_place_62 rfl (nlt rfl) rfl ?_
              refine r_iconst (z := 0) dX5_place_63 ?_
              refine r_istore (L2 := [_, _, _, none, _]) dX5_place_64 (nlt rfl) rfl ?_
              have lp66 : ∀ (fu66 : Nat) (sum : Int) (i : Int) (j : Nat), ((k : Int) + 1 - i) < (fu66 : Int) → (i = (j : Int)) → (j ≤ k) → (sum = sm (fun u => P7 u * sr u) j) → (0 ≤ sum) → (sum ≤ (j : Int) * 1000000000000) → G X RX5 cX5_place mX5_place.rm N 0 0 66 [some (.ref (q)), none, some (.long (lZ (sum))), none, some (.int (iZ (i)))] [] (hs (hs h (q + 3) (aL 6 (P7))) (q + 4) (aL 12 (pr7))) := by
                intro fu66
                induction fu66 with
                | zero => intro sum i j hm ei jk es s0 s1; exfalso; omega
                | succ fu66 ih66 =>
                  intro sum i j hms66 ei jk es s0 s1
                  refine r_iload dX5_place_66 rfl ?_
                  refine r_aload_n dX5_place_68 rfl rfl ?_
                  refine gf_X5_24 dX5_place_69 (by omega) ((hs_n (by omega)).trans ((hs_n (by omega)).trans ho)) rfl ?_
                  refine r_icmp_ge 99 dX5_place_72 (by decide) ⟨by omega, by omega⟩ ⟨by omega, by omega⟩ (fun c_72 => ?_) (fun c_72 => ?_)
                  · refine r_lload_n dX5_place_99 rfl rfl ?_
                    refine r_aload_n dX5_place_100 rfl rfl ?_
                    refine gf_X5_28 dX5_place_101 (by omega) ((hs_n (by omega)).trans ((hs_n (by omega)).trans ho)) rfl ?_
                    refine r_i2l dX5_place_104 ⟨by omega, by omega⟩ ?_
                    refine r_lremp dX5_place_105 ⟨by omega, by omega⟩ ⟨by omega, by omega⟩ (by omega) (by omega) ?_
                    have eb_105 := emod_bd (sum) (show 0 < m by omega)
                    refine r_l2i dX5_place_106 ?_
                    refine r_ireturn hq dX5_place_107 rfl rfl rfl ?_
                    have e9k : j = k := by omega
                    have e0 : e9 = nn := by rw [ee]; have : bn = 0 := (by omega); rw [this]; simp
                    rw [e0, ha] at hR7
                    have hf := hR7.fin.emod
                    rw [e9k] at es
                    rw [← es] at hf
                    rw [← hf]
                    exact hQ _ _
                  · refine r_lload_n dX5_place_75 rfl rfl ?_
                    refine r_aload_n dX5_place_76 rfl rfl ?_
                    refine gf_X5_18 dX5_place_77 (by omega) ((hs_n (by omega)).trans ((hs_n (by omega)).trans ho)) rfl ?_
                    refine r_iload dX5_place_80 rfl ?_
                    have ein : i.toNat = j := by omega
                    have p9 := hP7 i.toNat (by omega)
                    have s9 := hsr i.toNat (by omega)
                    have m9 := acc_b p9.1 p9.2 s9.1 s9.2 hm
                    refine r_laload dX5_place_82 (by omega) ((hs_n (by omega)).trans hs_e) (by omega) (by omega) (by decide) ?_
                    refine r_aload_n dX5_place_83 rfl rfl ?_
                    refine gf_X5_15 dX5_place_84 (by omega) ((hs_n (by omega)).trans ((hs_n (by omega)).trans ho)) rfl ?_
                    refine r_iload dX5_place_87 rfl ?_
                    refine r_laload dX5_place_89 (by omega) ((hs_n (by omega)).trans ((hs_n (by omega)).trans h2)) (by omega) (by omega) (by decide) ?_
                    refine r_lmul dX5_place_90 ?_
                    refine r_ladd dX5_place_91 ?_
                    refine r_lstore_n (L2 := [_, none, _, none, _]) dX5_place_92 rfl (nlt rfl) rfl ?_
                    refine r_iinc (L2 := [_, none, _, none, _]) dX5_place_93 (nlt rfl) rfl rfl ?_
                    refine r_goto 66 dX5_place_96 (by decide) ?_
                    exact ih66 (sum + ((P7 (i).toNat) * (sr (i).toNat))) (i + 1) ((j + 1)) (by omega) (by omega) (by omega) (by rw [sm_s, ← es, ein]) (by omega) (by omega)
              refine r_mask [true, false, true, false, true] (L2 := [_, none, _, none, _]) rfl ?_
              exact lp66 (((k : Int) + 1 : Int) + 1).toNat (0) (0) (0) (by omega) rfl (by omega) rfl (by decide) (by decide)
            · refine r_aload_n dX5_place_38 rfl rfl ?_
              refine r_callV (av := []) dX5_place_39 lkX5_square ml_X5_50 imX5_square seX5_square (by omega) (rfl : vwCl[5]? = _) ⟨_, ((hs_n (by omega)).trans ((hs_n (by omega)).trans ho))⟩ ⟨Nat.le_of_ble_eq_true rfl, Nat.le_of_ble_eq_true rfl⟩ rfl rfl (nle rfl) ⟨Nat.le_of_ble_eq_true rfl, Nat.le_of_ble_eq_true rfl⟩ (c_X5_square (q := q) (k := k) (n0 := e9) (m := m) (lw := lw) (sr := sr) (P := P7) (pr := pr7) (a := a) ((hs_n (by omega)).trans ((hs_n (by omega)).trans ho)) ((hs_n (by omega)).trans ((hs_n (by omega)).trans h1)) ((hs_n (by omega)).trans ((hs_n (by omega)).trans h2)) ((hs_n (by omega)).trans hs_e) hs_e (by omega) hk0 hk hm2 hm hlw hP7 hrec hR7 (fun P8 pr8 hP8 hR8 => ?_))
              refine g_heap (h2 := (hs (hs h (q + 3) (aL 6 (P8))) (q + 4) (aL 12 (pr8)))) ((congrArg (fun x9 => hs x9 (q + 3) (aL 6 (P8))) hs_hs).trans (hs_put (by omega) hs_hs)) ?_
              show G _ _ _ _ _ _ _ 42 _ _ _
              have ebb : b.toNat = bn - 1 := by omega
              have enb : n / 2 ^ b.toNat = ((nn / 2 ^ (bn - 1) : Nat) : Int) := by rw [hn, ebb]; rfl
              refine r_iload_n dX5_place_42 rfl rfl ?_
              refine r_iload_n dX5_place_43 rfl rfl ?_
              refine r_ishr (z := iZ (n / 2 ^ b.toNat)) dX5_place_44 (shr_n (by omega) hn1 (by omega) (by omega)) ?_
              refine r_iconst (z := 1) dX5_place_45 ?_
              refine r_iand (z := iZ (n / 2 ^ b.toNat % 2)) dX5_place_46 (and_1 (by rw [enb]; exact Int.natCast_nonneg _) (by rw [enb]; exact Int.lt_of_le_of_lt (Int.ofNat_le.mpr (Nat.div_le_self nn _)) (by omega))) ?_
              refine r_iconst (z := 1) dX5_place_47 ?_
              refine r_icmp_ne 55 dX5_place_48 (by decide) ⟨by omega, by omega⟩ ⟨by decide, by decide⟩ (fun c_48 => ?_) (fun c_48 => ?_)
              · refine r_iinc (L2 := [_, _, _, none, none]) dX5_place_55 (nlt rfl) rfl rfl ?_
                refine r_goto 34 dX5_place_58 (by decide) ?_
                exact ih34 (pr8) (P8) (b + (-1)) ((bn - 1)) ((e9 + e9)) (by omega) (by omega) (by omega) (by have e8 := pow_half (n := nn) (bn - 1); have e7 : bn - 1 + 1 = bn := (by omega); rw [e7, ← ee] at e8; rw [e8]; omega) hP8 hR8
              · refine r_aload_n dX5_place_51 rfl rfl ?_
                refine r_callV (av := []) dX5_place_52 lkX5_timesZ ml_X5_53 imX5_timesZ seX5_timesZ (by omega) (rfl : vwCl[5]? = _) ⟨_, ((hs_n (by omega)).trans ((hs_n (by omega)).trans ho))⟩ ⟨Nat.le_of_ble_eq_true rfl, Nat.le_of_ble_eq_true rfl⟩ rfl rfl (nle rfl) ⟨Nat.le_of_ble_eq_true rfl, Nat.le_of_ble_eq_true rfl⟩ (c_X5_timesZ (q := q) (k := k) (n0 := e9 + e9) (m := m) (lw := lw) (sr := sr) (P := P8) (pr := pr8) (a := a) ((hs_n (by omega)).trans ((hs_n (by omega)).trans ho)) ((hs_n (by omega)).trans ((hs_n (by omega)).trans h1)) ((hs_n (by omega)).trans ((hs_n (by omega)).trans h2)) ((hs_n (by omega)).trans hs_e) hs_e (by omega) hk0 hk hm2 hm hlw hP8 hrec hR8 (fun P9 hP9 hR9 => ?_))
                refine g_heap (h2 := (hs (hs h (q + 3) (aL 6 (P9))) (q + 4) (aL 12 (pr8)))) (hs_put (by omega) hs_hs) ?_
                show G _ _ _ _ _ _ _ 55 _ _ _
                refine r_iinc (L2 := [_, _, _, none, none]) dX5_place_55 (nlt rfl) rfl rfl ?_
                refine r_goto 34 dX5_place_58 (by decide) ?_
                exact ih34 (pr8) (P9) (b + (-1)) ((bn - 1)) ((e9 + e9 + 1)) (by omega) (by omega) (by omega) (by have e8 := pow_half (n := nn) (bn - 1); have e7 : bn - 1 + 1 = bn := (by omega); rw [e7, ← ee] at e8; rw [e8]; omega) hP9 hR9
        refine g_heap (hs_id (c := aL 12 (pr)) ((hs_n (by omega)).trans h4)).symm ?_
        exact lp34 ((33 : Int) + 1).toNat (pr) (F) (30) (31) (0) (by omega) (by decide) (by decide) (by have : nn < 2 ^ 31 := (by omega); exact (Nat.div_eq_of_lt this).symm) (fun j hj => by rw [hF j (by omega)]; by_cases z : j = 0; (rw [if_pos z]; omega); (rw [if_neg z]; omega)) (Rp.zero hk0 (by rw [hF 0 (by omega)]; rfl) (fun j h8 h9 => by rw [hF j (by omega), if_neg (by omega)]))
      · refine r_aload_n dX5_place_10 rfl rfl ?_
        refine gf_X5_18 dX5_place_11 (by omega) ((hs_n (by omega)).trans ho) rfl ?_
        refine r_iload_n dX5_place_14 rfl rfl ?_
        refine r_iload_n dX5_place_15 rfl rfl ?_
        refine r_if_ne 23 dX5_place_16 (by decide) ⟨by omega, by omega⟩ (fun c_16 => ?_) (fun c_16 => ?_)
        · refine r_lconst (z := 0) dX5_place_23 (by decide) ?_
          refine r_lastore dX5_place_24 (by omega) hs_e (by omega) (by omega) (by decide) ?_
          refine g_heap (h2 := (hs h (q + 3) (aL 6 (uA (F) (i).toNat (0))))) hs_hs ?_
          refine r_iinc (L2 := [_, _, _, none, none]) dX5_place_25 (nlt rfl) rfl rfl ?_
          refine r_goto 2 dX5_place_28 (by decide) ?_
          exact ih2 (uA (F) (i).toNat (0)) (i + 1) (by omega) (by omega) (by omega) (fun u hu => by by_cases z : u = i.toNat; (subst z; rw [uA_e, if_neg (by omega)]); rw [uA_n z]; exact hF u (by omega))
        · refine r_lconst (z := 1) dX5_place_19 (by decide) ?_
          refine r_goto 24 dX5_place_20 (by decide) ?_
          refine r_lastore dX5_place_24 (by omega) hs_e (by omega) (by omega) (by decide) ?_
          refine g_heap (h2 := (hs h (q + 3) (aL 6 (uA (F) (i).toNat (1))))) hs_hs ?_
          refine r_iinc (L2 := [_, _, _, none, none]) dX5_place_25 (nlt rfl) rfl rfl ?_
          refine r_goto 2 dX5_place_28 (by decide) ?_
          exact ih2 (uA (F) (i).toNat (1)) (i + 1) (by omega) (by omega) (by omega) (fun u hu => by by_cases z : u = i.toNat; (subst z; rw [uA_e, if_pos (by omega)]); rw [uA_n z]; exact hF u (by omega))
  refine g_heap (hs_id (c := aL 6 (P)) h3).symm ?_
  exact lp2 (((k : Int) + 1 : Int) + 1).toNat (P) (0) (by omega) (by decide) (by omega) (fun u hu => by omega)
set_option maxHeartbeats 2000000 in
set_option maxRecDepth 20000 in
theorem c_X5_placeOn {N : Nat} {h : Hp} {Q : QP} {q k nn r : Nat} {n m k0 m0 : Int} {lw sr P pr c s : Nat → Int} (ho : h q = REo q k0 m0) (h1 : h (q + 1) = aL 7 lw) (h2 : h (q + 2) = aL 6 sr) (h3 : h (q + 3) = aL 6 P) (h4 : h (q + 4) = aL 12 pr) (hN : q + 4 < N) (hk0 : 0 < k) (hk : k ≤ 6) (hm2 : 2 ≤ m) (hm : m ≤ 1000000) (hr : RowAt h r k c s) (hrN : r + 2 < N) (hrq : r + 2 < q ∨ q + 4 < r) (hcb : ∀ j, j < 7 → -100000 ≤ c j ∧ c j ≤ 100000) (hsb : ∀ j, j < 6 → -1000000 ≤ s j ∧ s j ≤ 1000000) (hn : n = (nn : Int)) (hn1 : n < 2147483648) (hQ : ∀ l2 s2 P2 pr2 : Nat → Int, Q (some (.int (iZ (ex k c s nn % m)))) N (hs (hs (hs (hs (hs h q (REo q (k : Int) m)) (q + 1) (aL 7 l2)) (q + 2) (aL 6 s2)) (q + 3) (aL 6 P2)) (q + 4) (aL 12 pr2))) : Runs mX5_placeOn [.ref (q), .ref (r), .int (iZ (n)), .int (iZ (m))] N h Q := by
  refine run_start (own := RX5) rfl (by decide) (nle rfl) rfl (fun X hq hini => ?_)
  show G X RX5 cX5_placeOn mX5_placeOn.rm N 0 0 0 [some (.ref (q)), some (.ref (r)), some (.int (iZ (n))), some (.int (iZ (m))), none] [] h
  refine r_aload_n dX5_placeOn_0 rfl rfl ?_
  refine r_aload_n dX5_placeOn_1 rfl rfl ?_
  refine gf_X5_31 dX5_placeOn_2 (by omega) hr.1 rfl ?_
  refine pf_X5_24 (fs2 := [_, _, _, _, _, _]) dX5_placeOn_5 (fun _ _ => rfl) (fun _ _ => rfl) (nlt rfl) (by omega) ho rfl ?_
  refine r_aload_n dX5_placeOn_8 rfl rfl ?_
  refine r_iload_n dX5_placeOn_9 rfl rfl ?_
  refine pf_X5_28 (fs2 := [_, _, _, _, _, _]) dX5_placeOn_10 (fun _ _ => rfl) (fun _ _ => rfl) (nlt rfl) (by omega) hs_e rfl ?_
  refine g_heap (h2 := (hs h (q) (ob 5 [.ref (q + 1), .ref (q + 2), .ref (q + 3), .ref (q + 4), .int (iZ ((k : Int))), .int (iZ (m))]))) hs_hs ?_
  refine r_iconst (z := 0) dX5_placeOn_13 ?_
  refine r_istore (L2 := [_, _, _, _, _]) dX5_placeOn_14 (nlt rfl) rfl ?_
  have lp16 : ∀ (fu16 : Nat) (l2 : Nat → Int) (s2 : Nat → Int) (i : Int) (j : Nat), ((k : Int) + 1 - i) < (fu16 : Int) → (i = (j : Int)) → (j ≤ k) → (∀ u, 1 ≤ u → u ≤ j → l2 u = c u % m) → (∀ u, u < j → s2 u = s u % m) → G X RX5 cX5_placeOn mX5_placeOn.rm N 0 0 16 [some (.ref (q)), some (.ref (r)), some (.int (iZ (n))), some (.int (iZ (m))), some (.int (iZ (i)))] [] (hs (hs (hs h (q) (ob 5 [.ref (q + 1), .ref (q + 2), .ref (q + 3), .ref (q + 4), .int (iZ ((k : Int))), .int (iZ (m))])) (q + 1) (aL 7 (l2))) (q + 2) (aL 6 (s2))) := by
    intro fu16
    induction fu16 with
    | zero => intro l2 s2 i j hm ei jk hl2 hs2; exfalso; omega
    | succ fu16 ih16 =>
      intro l2 s2 i j hms16 ei jk hl2 hs2
      refine r_iload dX5_placeOn_16 rfl ?_
      refine r_aload_n dX5_placeOn_18 rfl rfl ?_
      refine gf_X5_24 dX5_placeOn_19 (by omega) ((hs_n (by omega)).trans ((hs_n (by omega)).trans hs_e)) rfl ?_
      refine r_icmp_ge 79 dX5_placeOn_22 (by decide) ⟨by omega, by omega⟩ ⟨by omega, by omega⟩ (fun c_22 => ?_) (fun c_22 => ?_)
      · have jk2 : j = k := by omega
        have hlw9 : ∀ u, 1 ≤ u → u ≤ k → 0 ≤ l2 u ∧ l2 u < m := fun u h8 h9 => by rw [hl2 u h8 (by omega)]; exact emod_bd _ (by omega)
        have hsr9 : ∀ u, u < k → 0 ≤ s2 u ∧ s2 u < m := fun u h8 => by rw [hs2 u (by omega)]; exact emod_bd _ (by omega)
        refine r_aload_n dX5_placeOn_79 rfl rfl ?_
        refine r_iload_n dX5_placeOn_80 rfl rfl ?_
        refine r_callV (av := [.int (iZ (n))]) dX5_placeOn_81 lkX5_place ml_X5_42 imX5_place seX5_place (by omega) (rfl : vwCl[5]? = _) ⟨_, ((hs_n (by omega)).trans ((hs_n (by omega)).trans hs_e))⟩ ⟨Nat.le_of_ble_eq_true rfl, Nat.le_of_ble_eq_true rfl⟩ rfl rfl (nle rfl) ⟨Nat.le_of_ble_eq_true rfl, Nat.le_of_ble_eq_true rfl⟩ (c_X5_place (q := q) (k := k) (nn := nn) (n := n) (m := m) (lw := l2) (sr := s2) (P := P) (pr := pr) ((hs_n (by omega)).trans ((hs_n (by omega)).trans hs_e)) ((hs_n (by omega)).trans hs_e) hs_e ((hs_n (by omega)).trans ((hs_n (by omega)).trans ((hs_n (by omega)).trans h3))) ((hs_n (by omega)).trans ((hs_n (by omega)).trans ((hs_n (by omega)).trans h4))) (by omega) hk0 hk hm2 hm hlw9 hsr9 (by omega) (by omega) (fun P2 pr2 => ?_))
        show G _ _ _ _ _ _ _ 84 _ _ _
        refine r_ireturn hq dX5_placeOn_84 rfl rfl rfl ?_
        have hf := (ex_cg (m := m) (c := l2) (c2 := c) (s := s2) (s2 := s) (fun u h8 h9 => by rw [hl2 u h8 (by omega)]; exact cg.md) (fun u h8 => by rw [hs2 u (by omega)]; exact cg.md) hk0 nn).emod
        rw [hf]
        exact hQ _ _ _ _
      · have e1 : (i + 1).toNat = j + 1 := by omega
        have e2 : i.toNat = j := by omega
        refine r_aload_n dX5_placeOn_25 rfl rfl ?_
        refine gf_X5_9 dX5_placeOn_26 (by omega) ((hs_n (by omega)).trans ((hs_n (by omega)).trans hs_e)) rfl ?_
        refine r_iload dX5_placeOn_29 rfl ?_
        refine r_iconst (z := 1) dX5_placeOn_31 ?_
        refine r_iadd dX5_placeOn_32 ?_
        refine r_aload_n dX5_placeOn_33 rfl rfl ?_
        refine gf_X5_34 dX5_placeOn_34 (by omega) ((hs_n (by omega)).trans ((hs_n (by omega)).trans ((hs_n (by omega)).trans hr.1))) rfl ?_
        refine r_iload dX5_placeOn_37 rfl ?_
        refine r_iconst (z := 1) dX5_placeOn_39 ?_
        refine r_iadd dX5_placeOn_40 ?_
        refine r_laload dX5_placeOn_41 (by omega) ((hs_n (by omega)).trans ((hs_n (by omega)).trans ((hs_n (by omega)).trans hr.2.1))) (by omega) (by omega) (by decide) ?_
        have b_41 := hcb (i + 1).toNat (by omega)
        refine r_aload_n dX5_placeOn_42 rfl rfl ?_
        refine gf_X5_28 dX5_placeOn_43 (by omega) ((hs_n (by omega)).trans ((hs_n (by omega)).trans hs_e)) rfl ?_
        refine r_i2l dX5_placeOn_46 ⟨by omega, by omega⟩ ?_
        refine r_floorMod dX5_placeOn_47 ml_X5_35 stJ9_floorMod_f86c9 lkJ9_floorMod_f86c9.1 lkJ9_floorMod_f86c9.2.1 ⟨by decide, by decide⟩ (nle rfl) ⟨Nat.zero_le _, Nat.zero_le _⟩ ⟨by omega, by omega⟩ ⟨by omega, by omega⟩ (by omega) ?_
        have eb_47 := emod_bd (c (i + 1).toNat) (show 0 < m by omega)
        refine r_lastore dX5_placeOn_50 (by omega) ((hs_n (by omega)).trans hs_e) (by omega) (by omega) (by decide) ?_
        refine g_heap (h2 := (hs (hs (hs h (q) (ob 5 [.ref (q + 1), .ref (q + 2), .ref (q + 3), .ref (q + 4), .int (iZ ((k : Int))), .int (iZ (m))])) (q + 1) (aL 7 (uA (l2) (i + 1).toNat ((c (i + 1).toNat) % m)))) (q + 2) (aL 6 (s2)))) (hs_put (by omega) hs_hs) ?_
        refine r_aload_n dX5_placeOn_51 rfl rfl ?_
        refine gf_X5_15 dX5_placeOn_52 (by omega) ((hs_n (by omega)).trans ((hs_n (by omega)).trans hs_e)) rfl ?_
        refine r_iload dX5_placeOn_55 rfl ?_
        refine r_aload_n dX5_placeOn_57 rfl rfl ?_
        refine gf_X5_41 dX5_placeOn_58 (by omega) ((hs_n (by omega)).trans ((hs_n (by omega)).trans ((hs_n (by omega)).trans hr.1))) rfl ?_
        refine r_iload dX5_placeOn_61 rfl ?_
        refine r_laload dX5_placeOn_63 (by omega) ((hs_n (by omega)).trans ((hs_n (by omega)).trans ((hs_n (by omega)).trans hr.2.2))) (by omega) (by omega) (by decide) ?_
        have b_63 := hsb (i).toNat (by omega)
        refine r_aload_n dX5_placeOn_64 rfl rfl ?_
        refine gf_X5_28 dX5_placeOn_65 (by omega) ((hs_n (by omega)).trans ((hs_n (by omega)).trans hs_e)) rfl ?_
        refine r_i2l dX5_placeOn_68 ⟨by omega, by omega⟩ ?_
        refine r_floorMod dX5_placeOn_69 ml_X5_35 stJ9_floorMod_f86c9 lkJ9_floorMod_f86c9.1 lkJ9_floorMod_f86c9.2.1 ⟨by decide, by decide⟩ (nle rfl) ⟨Nat.zero_le _, Nat.zero_le _⟩ ⟨by omega, by omega⟩ ⟨by omega, by omega⟩ (by omega) ?_
        have eb_69 := emod_bd (s (i).toNat) (show 0 < m by omega)
        refine r_lastore dX5_placeOn_72 (by omega) hs_e (by omega) (by omega) (by decide) ?_
        refine g_heap (h2 := (hs (hs (hs h (q) (ob 5 [.ref (q + 1), .ref (q + 2), .ref (q + 3), .ref (q + 4), .int (iZ ((k : Int))), .int (iZ (m))])) (q + 1) (aL 7 (uA (l2) (i + 1).toNat ((c (i + 1).toNat) % m)))) (q + 2) (aL 6 (uA (s2) (i).toNat ((s (i).toNat) % m))))) hs_hs ?_
        refine r_iinc (L2 := [_, _, _, _, _]) dX5_placeOn_73 (nlt rfl) rfl rfl ?_
        refine r_goto 16 dX5_placeOn_76 (by decide) ?_
        exact ih16 (uA (l2) (i + 1).toNat ((c (i + 1).toNat) % m)) (uA (s2) (i).toNat ((s (i).toNat) % m)) (i + 1) ((j + 1)) (by omega) (by omega) (by omega) (fun u h8 h9 => by rw [e1]; by_cases z : u = j + 1; (subst z; rw [uA_e]); rw [uA_n z]; exact hl2 u h8 (by omega)) (fun u h8 => by rw [e2]; by_cases z : u = j; (subst z; rw [uA_e]); rw [uA_n z]; exact hs2 u (by omega))
  refine g_heap (hs_id (c := aL 7 (lw)) ((hs_n (by omega)).trans h1)).symm ?_
  refine g_heap (hs_id (c := aL 6 (sr)) ((hs_n (by omega)).trans ((hs_n (by omega)).trans h2))).symm ?_
  exact lp16 (((k : Int) + 1 : Int) + 1).toNat (lw) (sr) (0) (0) (by omega) rfl (by omega) (fun u h8 h9 => by omega) (fun u h8 => absurd h8 (Nat.not_lt_zero u))
/-- the law of the row that runs the other way, and its starts -/
def lbk (c : Nat → Int) (k : Nat) (ov m : Int) : Nat → Int := fun j => ov * ((-(c (k - j))) % m) % m
def sbk (s : Nat → Int) (k : Nat) : Nat → Int := fun j => s (k - 1 - j)
set_option maxHeartbeats 2000000 in
set_option maxRecDepth 20000 in
theorem c_X5_placeBack {N : Nat} {h : Hp} {Q : QP} {q k nn r : Nat} {n m k0 m0 : Int} {lw sr P pr c s : Nat → Int} (ho : h q = REo q k0 m0) (h1 : h (q + 1) = aL 7 lw) (h2 : h (q + 2) = aL 6 sr) (h3 : h (q + 3) = aL 6 P) (h4 : h (q + 4) = aL 12 pr) (hN : q + 4 < N) (hk0 : 0 < k) (hk : k ≤ 6) (hm2 : 2 ≤ m) (hm : m ≤ 1000000) (hr : RowAt h r k c s) (hrN : r + 2 < N) (hrq : r + 2 < q ∨ q + 4 < r) (hcb : ∀ j, j < 7 → -100000 ≤ c j ∧ c j ≤ 100000) (hsb : ∀ j, j < 6 → -1000000 ≤ s j ∧ s j ≤ 1000000) (hgcd : Int.gcd (c k) m = 1) (hn : n = (nn : Int)) (hn1 : n < 2000000000) (hQ : ∀ (ov : Int), IsInv (c k) m ov → ∀ l2 s2 P2 pr2 : Nat → Int, Q (some (.int (iZ (ex k (lbk c k ov m) (sbk s k) (k - 1 + nn) % m)))) N (hs (hs (hs (hs (hs h q (REo q (k : Int) m)) (q + 1) (aL 7 l2)) (q + 2) (aL 6 s2)) (q + 3) (aL 6 P2)) (q + 4) (aL 12 pr2))) : Runs mX5_placeBack [.ref (q), .ref (r), .int (iZ (n)), .int (iZ (m))] N h Q := by
  refine run_start (own := RX5) rfl (by decide) (nle rfl) rfl (fun X hq hini => ?_)
  show G X RX5 cX5_placeBack mX5_placeBack.rm N 0 0 0 [some (.ref (q)), some (.ref (r)), some (.int (iZ (n))), some (.int (iZ (m))), none, none, none, none, none] [] h
  refine r_aload_n dX5_placeBack_0 rfl rfl ?_
  refine r_aload_n dX5_placeBack_1 rfl rfl ?_
  refine gf_X5_31 dX5_placeBack_2 (by omega) hr.1 rfl ?_
  refine pf_X5_24 (fs2 := [_, _, _, _, _, _]) dX5_placeBack_5 (fun _ _ => rfl) (fun _ _ => rfl) (nlt rfl) (by omega) ho rfl ?_
  refine r_aload_n dX5_placeBack_8 rfl rfl ?_
  refine r_iload_n dX5_placeBack_9 rfl rfl ?_
  refine pf_X5_28 (fs2 := [_, _, _, _, _, _]) dX5_placeBack_10 (fun _ _ => rfl) (fun _ _ => rfl) (nlt rfl) (by omega) hs_e rfl ?_
  refine g_heap (h2 := (hs h (q) (ob 5 [.ref (q + 1), .ref (q + 2), .ref (q + 3), .ref (q + 4), .int (iZ ((k : Int))), .int (iZ (m))]))) hs_hs ?_
  refine r_aload_n dX5_placeBack_13 rfl rfl ?_
  refine gf_X5_34 dX5_placeBack_14 (by omega) ((hs_n (by omega)).trans hr.1) rfl ?_
  refine r_aload_n dX5_placeBack_17 rfl rfl ?_
  refine gf_X5_24 dX5_placeBack_18 (by omega) hs_e rfl ?_
  refine r_laload dX5_placeBack_21 (by omega) ((hs_n (by omega)).trans hr.2.1) (by omega) (by omega) (by decide) ?_
  have b_21 := hcb ((k : Int)).toNat (by omega)
  refine r_aload_n dX5_placeBack_22 rfl rfl ?_
  refine gf_X5_28 dX5_placeBack_23 (by omega) hs_e rfl ?_
  have eck : ((k : Int)).toNat = k := by omega
  have hgcd : Int.gcd (c ((k : Int)).toNat) m = 1 := by rw [eck]; exact hgcd
  refine r_callSN (av := [.long (lZ (c ((k : Int)).toNat)), .int (iZ (m))]) dX5_placeBack_26 lkX10_inverse nl_X5_46 stX10_inverse ⟨Nat.le_of_ble_eq_true rfl, Nat.le_of_ble_eq_true rfl⟩ rfl rfl (nle rfl) ⟨Nat.le_of_ble_eq_true rfl, Nat.le_of_ble_eq_true rfl⟩ (c_X10_inverse (a := c ((k : Int)).toNat) (m := m) (by omega) (by omega) hgcd (fun x26 hx26 => ?_))
  show G _ _ _ _ _ _ _ 29 _ _ _
  have x1 := hx26.1
  have x2 := hx26.2.1
  refine r_i2l dX5_placeBack_29 ⟨by omega, by omega⟩ ?_
  refine r_lstore (L2 := [_, _, _, _, _, none, none, none, none]) dX5_placeBack_30 (nlt rfl) rfl ?_
  refine r_iconst (z := 0) dX5_placeBack_32 ?_
  refine r_istore (L2 := [_, _, _, _, _, none, _, none, none]) dX5_placeBack_33 (nlt rfl) rfl ?_
  have lp35 : ∀ (fu35 : Nat) (l2 : Nat → Int) (s2 : Nat → Int) (i : Int) (j : Nat), ((k : Int) + 1 - i) < (fu35 : Int) → (i = (j : Int)) → (j ≤ k) → (∀ u, 1 ≤ u → u ≤ j → l2 u = lbk c k x26 m u) → (∀ u, u < j → s2 u = sbk s k u % m) → G X RX5 cX5_placeBack mX5_placeBack.rm N 0 0 35 [some (.ref (q)), some (.ref (r)), some (.int (iZ (n))), some (.int (iZ (m))), some (.long (lZ (x26))), none, some (.int (iZ (i))), none, none] [] (hs (hs (hs h (q) (ob 5 [.ref (q + 1), .ref (q + 2), .ref (q + 3), .ref (q + 4), .int (iZ ((k : Int))), .int (iZ (m))])) (q + 1) (aL 7 (l2))) (q + 2) (aL 6 (s2))) := by
    intro fu35
    induction fu35 with
    | zero => intro l2 s2 i j hm ei jk hl2 hs2; exfalso; omega
    | succ fu35 ih35 =>
      intro l2 s2 i j hms35 ei jk hl2 hs2
      refine r_iload dX5_placeBack_35 rfl ?_
      refine r_aload_n dX5_placeBack_37 rfl rfl ?_
      refine gf_X5_24 dX5_placeBack_38 (by omega) ((hs_n (by omega)).trans ((hs_n (by omega)).trans hs_e)) rfl ?_
      refine r_icmp_ge 124 dX5_placeBack_41 (by decide) ⟨by omega, by omega⟩ ⟨by omega, by omega⟩ (fun c_41 => ?_) (fun c_41 => ?_)
      · have hlw9 : ∀ u, 1 ≤ u → u ≤ k → 0 ≤ l2 u ∧ l2 u < m := fun u h8 h9 => by rw [hl2 u h8 (by omega)]; exact emod_bd _ (by omega)
        have hsr9 : ∀ u, u < k → 0 ≤ s2 u ∧ s2 u < m := fun u h8 => by rw [hs2 u (by omega)]; exact emod_bd _ (by omega)
        refine r_aload_n dX5_placeBack_124 rfl rfl ?_
        refine r_aload_n dX5_placeBack_125 rfl rfl ?_
        refine gf_X5_24 dX5_placeBack_126 (by omega) ((hs_n (by omega)).trans ((hs_n (by omega)).trans hs_e)) rfl ?_
        refine r_iconst (z := 1) dX5_placeBack_129 ?_
        refine r_isub dX5_placeBack_130 ?_
        refine r_iload_n dX5_placeBack_131 rfl rfl ?_
        refine r_iadd dX5_placeBack_132 ?_
        refine r_callV (av := [.int (iZ (((k : Int) - 1) + n))]) dX5_placeBack_133 lkX5_place ml_X5_42 imX5_place seX5_place (by omega) (rfl : vwCl[5]? = _) ⟨_, ((hs_n (by omega)).trans ((hs_n (by omega)).trans hs_e))⟩ ⟨Nat.le_of_ble_eq_true rfl, Nat.le_of_ble_eq_true rfl⟩ rfl rfl (nle rfl) ⟨Nat.le_of_ble_eq_true rfl, Nat.le_of_ble_eq_true rfl⟩ (c_X5_place (q := q) (k := k) (nn := (k - 1 + nn)) (n := ((k : Int) - 1) + n) (m := m) (lw := l2) (sr := s2) (P := P) (pr := pr) ((hs_n (by omega)).trans ((hs_n (by omega)).trans hs_e)) ((hs_n (by omega)).trans hs_e) hs_e ((hs_n (by omega)).trans ((hs_n (by omega)).trans ((hs_n (by omega)).trans h3))) ((hs_n (by omega)).trans ((hs_n (by omega)).trans ((hs_n (by omega)).trans h4))) (by omega) hk0 hk hm2 hm hlw9 hsr9 (by omega) (by omega) (fun P2 pr2 => ?_))
        show G _ _ _ _ _ _ _ 136 _ _ _
        refine r_ireturn hq dX5_placeBack_136 rfl rfl rfl ?_
        have hf := (ex_cg (m := m) (c := l2) (c2 := lbk c k x26 m) (s := s2) (s2 := sbk s k) (fun u h8 h9 => cg.of (hl2 u h8 (by omega))) (fun u h8 => by rw [hs2 u (by omega)]; exact cg.md) hk0 (k - 1 + nn)).emod
        rw [hf]
        rw [eck] at hx26
        exact hQ _ hx26 _ _ _ _
      · have e1 : (i + 1).toNat = j + 1 := by omega
        have e2 : i.toNat = j := by omega
        have e3 : ((k : Int) - 1 - i).toNat = k - (j + 1) := by omega
        have e4 : ((k : Int) - 1 - i).toNat = k - 1 - j := by omega
        refine r_aload_n dX5_placeBack_44 rfl rfl ?_
        refine gf_X5_34 dX5_placeBack_45 (by omega) ((hs_n (by omega)).trans ((hs_n (by omega)).trans ((hs_n (by omega)).trans hr.1))) rfl ?_
        refine r_aload_n dX5_placeBack_48 rfl rfl ?_
        refine gf_X5_24 dX5_placeBack_49 (by omega) ((hs_n (by omega)).trans ((hs_n (by omega)).trans hs_e)) rfl ?_
        refine r_iconst (z := 1) dX5_placeBack_52 ?_
        refine r_isub dX5_placeBack_53 ?_
        refine r_iload dX5_placeBack_54 rfl ?_
        refine r_isub dX5_placeBack_56 ?_
        refine r_laload dX5_placeBack_57 (by omega) ((hs_n (by omega)).trans ((hs_n (by omega)).trans ((hs_n (by omega)).trans hr.2.1))) (by omega) (by omega) (by decide) ?_
        have b_57 := hcb (((k : Int) - 1) - i).toNat (by omega)
        refine r_lneg dX5_placeBack_58 ?_
        refine r_aload_n dX5_placeBack_59 rfl rfl ?_
        refine gf_X5_28 dX5_placeBack_60 (by omega) ((hs_n (by omega)).trans ((hs_n (by omega)).trans hs_e)) rfl ?_
        refine r_i2l dX5_placeBack_63 ⟨by omega, by omega⟩ ?_
        refine r_floorMod dX5_placeBack_64 ml_X5_35 stJ9_floorMod_f86c9 lkJ9_floorMod_f86c9.1 lkJ9_floorMod_f86c9.2.1 ⟨by decide, by decide⟩ (nle rfl) ⟨Nat.zero_le _, Nat.zero_le _⟩ ⟨by omega, by omega⟩ ⟨by omega, by omega⟩ (by omega) ?_
        have eb_64 := emod_bd (-(c (((k : Int) - 1) - i).toNat)) (show 0 < m by omega)
        refine r_lstore (L2 := [_, _, _, _, _, none, _, _, none]) dX5_placeBack_67 (nlt rfl) rfl ?_
        refine r_aload_n dX5_placeBack_69 rfl rfl ?_
        refine gf_X5_9 dX5_placeBack_70 (by omega) ((hs_n (by omega)).trans ((hs_n (by omega)).trans hs_e)) rfl ?_
        refine r_iload dX5_placeBack_73 rfl ?_
        refine r_iconst (z := 1) dX5_placeBack_75 ?_
        refine r_iadd dX5_placeBack_76 ?_
        refine r_lload dX5_placeBack_77 rfl ?_
        refine r_lload dX5_placeBack_79 rfl ?_
        refine r_lmul dX5_placeBack_81 ?_
        have m81 := acc_b x1 x2 eb_64.1 eb_64.2 hm
        refine r_aload_n dX5_placeBack_82 rfl rfl ?_
        refine gf_X5_28 dX5_placeBack_83 (by omega) ((hs_n (by omega)).trans ((hs_n (by omega)).trans hs_e)) rfl ?_
        refine r_i2l dX5_placeBack_86 ⟨by omega, by omega⟩ ?_
        refine r_lremp dX5_placeBack_87 ⟨by omega, by omega⟩ ⟨by omega, by omega⟩ (by omega) (by omega) ?_
        have eb_87 := emod_bd (x26 * ((-(c (((k : Int) - 1) - i).toNat)) % m)) (show 0 < m by omega)
        refine r_lastore dX5_placeBack_88 (by omega) ((hs_n (by omega)).trans hs_e) (by omega) (by omega) (by decide) ?_
        refine g_heap (h2 := (hs (hs (hs h (q) (ob 5 [.ref (q + 1), .ref (q + 2), .ref (q + 3), .ref (q + 4), .int (iZ ((k : Int))), .int (iZ (m))])) (q + 1) (aL 7 (uA (l2) (i + 1).toNat ((x26 * ((-(c (((k : Int) - 1) - i).toNat)) % m)) % m)))) (q + 2) (aL 6 (s2)))) (hs_put (by omega) hs_hs) ?_
        refine r_aload_n dX5_placeBack_89 rfl rfl ?_
        refine gf_X5_15 dX5_placeBack_90 (by omega) ((hs_n (by omega)).trans ((hs_n (by omega)).trans hs_e)) rfl ?_
        refine r_iload dX5_placeBack_93 rfl ?_
        refine r_aload_n dX5_placeBack_95 rfl rfl ?_
        refine gf_X5_41 dX5_placeBack_96 (by omega) ((hs_n (by omega)).trans ((hs_n (by omega)).trans ((hs_n (by omega)).trans hr.1))) rfl ?_
        refine r_aload_n dX5_placeBack_99 rfl rfl ?_
        refine gf_X5_24 dX5_placeBack_100 (by omega) ((hs_n (by omega)).trans ((hs_n (by omega)).trans hs_e)) rfl ?_
        refine r_iconst (z := 1) dX5_placeBack_103 ?_
        refine r_isub dX5_placeBack_104 ?_
        refine r_iload dX5_placeBack_105 rfl ?_
        refine r_isub dX5_placeBack_107 ?_
        refine r_laload dX5_placeBack_108 (by omega) ((hs_n (by omega)).trans ((hs_n (by omega)).trans ((hs_n (by omega)).trans hr.2.2))) (by omega) (by omega) (by decide) ?_
        have b_108 := hsb (((k : Int) - 1) - i).toNat (by omega)
        refine r_aload_n dX5_placeBack_109 rfl rfl ?_
        refine gf_X5_28 dX5_placeBack_110 (by omega) ((hs_n (by omega)).trans ((hs_n (by omega)).trans hs_e)) rfl ?_
        refine r_i2l dX5_placeBack_113 ⟨by omega, by omega⟩ ?_
        refine r_floorMod dX5_placeBack_114 ml_X5_35 stJ9_floorMod_f86c9 lkJ9_floorMod_f86c9.1 lkJ9_floorMod_f86c9.2.1 ⟨by decide, by decide⟩ (nle rfl) ⟨Nat.zero_le _, Nat.zero_le _⟩ ⟨by omega, by omega⟩ ⟨by omega, by omega⟩ (by omega) ?_
        have eb_114 := emod_bd (s (((k : Int) - 1) - i).toNat) (show 0 < m by omega)
        refine r_lastore dX5_placeBack_117 (by omega) hs_e (by omega) (by omega) (by decide) ?_
        refine g_heap (h2 := (hs (hs (hs h (q) (ob 5 [.ref (q + 1), .ref (q + 2), .ref (q + 3), .ref (q + 4), .int (iZ ((k : Int))), .int (iZ (m))])) (q + 1) (aL 7 (uA (l2) (i + 1).toNat ((x26 * ((-(c (((k : Int) - 1) - i).toNat)) % m)) % m)))) (q + 2) (aL 6 (uA (s2) (i).toNat ((s (((k : Int) - 1) - i).toNat) % m))))) hs_hs ?_
        refine r_iinc (L2 := [_, _, _, _, _, none, _, _, none]) dX5_placeBack_118 (nlt rfl) rfl rfl ?_
        refine r_goto 35 dX5_placeBack_121 (by decide) ?_
        refine r_mask [true, true, true, true, true, false, true, false, false] (L2 := [_, _, _, _, _, none, _, none, none]) rfl ?_
        exact ih35 (uA (l2) (i + 1).toNat ((x26 * ((-(c (((k : Int) - 1) - i).toNat)) % m)) % m)) (uA (s2) (i).toNat ((s (((k : Int) - 1) - i).toNat) % m)) (i + 1) ((j + 1)) (by omega) (by omega) (by omega) (fun u h8 h9 => by rw [e1]; by_cases z : u = j + 1; (subst z; rw [uA_e, e3]; rfl); rw [uA_n z]; exact hl2 u h8 (by omega)) (fun u h8 => by rw [e2]; by_cases z : u = j; (subst z; rw [uA_e, e4]; rfl); rw [uA_n z]; exact hs2 u (by omega))
  refine g_heap (hs_id (c := aL 7 (lw)) ((hs_n (by omega)).trans h1)).symm ?_
  refine g_heap (hs_id (c := aL 6 (sr)) ((hs_n (by omega)).trans ((hs_n (by omega)).trans h2))).symm ?_
  exact lp35 (((k : Int) + 1 : Int) + 1).toNat (lw) (sr) (0) (0) (by omega) rfl (by omega) (fun u h8 h9 => by omega) (fun u h8 => absurd h8 (Nat.not_lt_zero u))
