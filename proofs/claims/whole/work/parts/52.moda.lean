theorem inv_sg2 (sg u v q : Int) : -(-sg * (u + q * v)) = sg * u - q * -(sg * v) := by
  rw [Int.neg_mul, Int.neg_neg, Int.mul_add, Int.mul_neg, Int.sub_neg, show sg * (q * v) = q * (sg * v) by rw [← Int.mul_assoc, Int.mul_comm sg q, Int.mul_assoc]]
set_option maxHeartbeats 4000000 in
set_option maxRecDepth 20000 in
theorem c_X11_inverse {N : Nat} {h : Hp} {Q : QP} {a m : Int} (ha : -1000000000 ≤ a ∧ a ≤ 1000000000) (hm : 2 ≤ m ∧ m ≤ 1000000) (hgcd : Int.gcd a m = 1) (hQ : ∀ x : Int, IsInv a m x → Q (some (.long (lZ x))) N h) : Runs mX11_inverse [.long (lZ (a)), .long (lZ (m))] N h Q := by
  have hgm : Int.gcd m (a % m) = 1 := by rw [gcd_step, hgcd]
  have ham : 1 ≤ a % m := by
    have h1 := Int.emod_nonneg a (show m ≠ 0 by omega)
    rcases Int.lt_or_eq_of_le h1 with h2 | h2
    · omega
    · rw [← h2, Int.gcd_zero_right] at hgm; omega
  refine run_start (own := RX11) rfl (by decide) (nle rfl) rfl (fun X hq hini => ?_)
  show G X RX11 cX11_inverse mX11_inverse.rm N 0 0 0 [some (.long (lZ (a))), none, some (.long (lZ (m))), none, none, none, none, none, none, none, none, none, none, none, none, none, none, none] [] h
  refine r_lload_n dX11_inverse_0 rfl rfl ?_
  refine r_lload_n dX11_inverse_1 rfl rfl ?_
  refine r_callS (av := [.long (lZ (a)), .long (lZ (m))]) dX11_inverse_2 lkX11_modulo ml_X11_156 stX11_modulo ⟨Nat.le_of_ble_eq_true rfl, Nat.le_of_ble_eq_true rfl⟩ rfl rfl (nle rfl) ⟨Nat.le_of_ble_eq_true rfl, Nat.le_of_ble_eq_true rfl⟩ (c_X11_modulo (x := a) (m := m) (by omega) (by omega) ?_)
  have em_2 := emod_bd (a) (show 0 < m by omega)
  show G _ _ _ _ _ _ _ 5 _ _ _
  refine r_lstore (L2 := [_, none, _, none, _, none, none, none, none, none, none, none, none, none, none, none, none, none]) dX11_inverse_5 (nlt rfl) rfl ?_
  refine r_lload_n dX11_inverse_7 rfl rfl ?_
  refine r_lstore (L2 := [_, none, _, none, _, none, _, none, none, none, none, none, none, none, none, none, none, none]) dX11_inverse_8 (nlt rfl) rfl ?_
  refine r_lconst (z := 1) dX11_inverse_10 (by decide) ?_
  refine r_lstore (L2 := [_, none, _, none, _, none, _, none, _, none, none, none, none, none, none, none, none, none]) dX11_inverse_11 (nlt rfl) rfl ?_
  refine r_lconst (z := 0) dX11_inverse_13 (by decide) ?_
  refine r_lstore (L2 := [_, none, _, none, _, none, _, none, _, none, _, none, none, none, none, none, none, none]) dX11_inverse_14 (nlt rfl) rfl ?_
  have lp16 : ∀ (fu16 : Nat) (g : Int) (l : Int) (tx_ : Int) (ty_ : Int) (sg : Int) (u : Int) (v : Int), (l + 1) < (fu16 : Int) → (1 ≤ g) → (g ≤ 1000000) → (0 ≤ l) → (l ≤ 1000000) → (Int.gcd g l = 1) → ((a * tx_) % m = g % m) → ((a * ty_) % m = l % m) → (tx_ = sg * u) → (ty_ = -(sg * v)) → (sg = 1 ∨ sg = -1) → (0 ≤ u) → (0 ≤ v) → (g * v + l * u = m) → (u ≤ 1000000) → (v ≤ 1000000) → G X RX11 cX11_inverse mX11_inverse.rm N 0 0 16 [some (.long (lZ (a))), none, some (.long (lZ (m))), none, some (.long (lZ (g))), none, some (.long (lZ (l))), none, some (.long (lZ (tx_))), none, some (.long (lZ (ty_))), none, none, none, none, none, none, none] [] h := by
    intro fu16
    induction fu16 with
    | zero => intro g l tx_ ty_ sg u v hm g1 gM l0 lM hg htx hty etx ety hsg u0 v0 hsum um vm; exfalso; omega
    | succ fu16 ih16 =>
      intro g l tx_ ty_ sg u v hms16 g1 gM l0 lM hg htx hty etx ety hsg u0 v0 hsum um vm
      refine r_lload dX11_inverse_16 rfl ?_
      refine r_lconst (z := 0) dX11_inverse_18 (by decide) ?_
      refine r_lcmp_eq 66 dX11_inverse_19 dX11_inverse_20 (by decide) ⟨by omega, by omega⟩ ⟨by decide, by decide⟩ (fun c_19 => ?_) (fun c_19 => ?_)
      · have txb : -1000000 ≤ tx_ ∧ tx_ ≤ 1000000 := by rw [etx]; rcases hsg with e | e <;> rw [e] <;> omega
        refine r_lload dX11_inverse_66 rfl ?_
        refine r_lload_n dX11_inverse_68 rfl rfl ?_
        refine r_callS (av := [.long (lZ (tx_)), .long (lZ (m))]) dX11_inverse_69 lkX11_modulo ml_X11_156 stX11_modulo ⟨Nat.le_of_ble_eq_true rfl, Nat.le_of_ble_eq_true rfl⟩ rfl rfl (nle rfl) ⟨Nat.le_of_ble_eq_true rfl, Nat.le_of_ble_eq_true rfl⟩ (c_X11_modulo (x := tx_) (m := m) (by omega) (by omega) ?_)
        have em_69 := emod_bd (tx_) (show 0 < m by omega)
        show G _ _ _ _ _ _ _ 72 _ _ _
        refine r_lreturn hq dX11_inverse_72 rfl rfl rfl ?_
        rw [c_19, Int.gcd_zero_right] at hg
        exact hQ _ (IsInv.of hm.1 (by omega : g = 1) htx)
      · have l1 : 0 < l := by omega
        have r1 := Int.emod_nonneg g (show l ≠ 0 by omega)
        have r2 := Int.emod_lt_of_pos g l1
        have q0 : 0 ≤ g / l := Int.ediv_nonneg (by omega) (by omega)
        have qM : g / l ≤ 1000000 := Int.le_trans (Int.ediv_le_self l (by omega)) gM
        have er : g - g / l * l = g % l := by rw [Int.emod_def, Int.mul_comm]
        have hv9 : 0 ≤ u + g / l * v := Int.add_nonneg u0 (Int.mul_nonneg q0 v0)
        have hs9 : l * (u + g / l * v) + g % l * v = m := inv_sum hsum
        have hvm : u + g / l * v ≤ 1000000 := by
          have h1 : 0 ≤ g % l * v := Int.mul_nonneg r1 v0
          have h2 : 1 * (u + g / l * v) ≤ l * (u + g / l * v) := Int.mul_le_mul_of_nonneg_right (by omega) hv9
          omega
        have tyb : -1000000 ≤ ty_ ∧ ty_ ≤ 1000000 := by rw [ety]; rcases hsg with e | e <;> rw [e] <;> omega
        refine r_lload dX11_inverse_23 rfl ?_
        refine r_lload dX11_inverse_25 rfl ?_
        refine r_ldivp dX11_inverse_27 ⟨by omega, by omega⟩ ⟨by omega, by omega⟩ (by omega) (by omega) ?_
        refine r_lstore (L2 := [_, none, _, none, _, none, _, none, _, none, _, none, _, none, none, none, none, none]) dX11_inverse_28 (nlt rfl) rfl ?_
        refine r_lload dX11_inverse_30 rfl ?_
        refine r_lload dX11_inverse_32 rfl ?_
        refine r_lremp dX11_inverse_34 ⟨by omega, by omega⟩ ⟨by omega, by omega⟩ (by omega) (by omega) ?_
        have eb_34 := emod_bd (g) (show 0 < l by omega)
        refine r_lstore (L2 := [_, none, _, none, _, none, _, none, _, none, _, none, _, none, _, none, none, none]) dX11_inverse_35 (nlt rfl) rfl ?_
        refine r_lload dX11_inverse_37 rfl ?_
        refine r_lstore (L2 := [_, none, _, none, _, none, _, none, _, none, _, none, _, none, _, none, none, none]) dX11_inverse_39 (nlt rfl) rfl ?_
        refine r_lload dX11_inverse_41 rfl ?_
        refine r_lstore (L2 := [_, none, _, none, _, none, _, none, _, none, _, none, _, none, _, none, none, none]) dX11_inverse_43 (nlt rfl) rfl ?_
        refine r_lload dX11_inverse_45 rfl ?_
        refine r_lload dX11_inverse_47 rfl ?_
        refine r_lload dX11_inverse_49 rfl ?_
        refine r_lmul dX11_inverse_51 ?_
        refine r_lsub dX11_inverse_52 ?_
        refine r_lstore (L2 := [_, none, _, none, _, none, _, none, _, none, _, none, _, none, _, none, _, none]) dX11_inverse_53 (nlt rfl) rfl ?_
        refine r_lload dX11_inverse_55 rfl ?_
        refine r_lstore (L2 := [_, none, _, none, _, none, _, none, _, none, _, none, _, none, _, none, _, none]) dX11_inverse_57 (nlt rfl) rfl ?_
        refine r_lload dX11_inverse_59 rfl ?_
        refine r_lstore (L2 := [_, none, _, none, _, none, _, none, _, none, _, none, _, none, _, none, _, none]) dX11_inverse_61 (nlt rfl) rfl ?_
        refine r_goto 16 dX11_inverse_63 (by decide) ?_
        refine r_mask [true, false, true, false, true, false, true, false, true, false, true, false, false, false, false, false, false, false] (L2 := [_, none, _, none, _, none, _, none, _, none, _, none, none, none, none, none, none, none]) rfl ?_
        exact ih16 (l) (g % l) (ty_) (tx_ - ((g / l) * ty_)) ((-sg)) (v) ((u + (g / l) * v)) (by omega) (by omega) (by omega) r1 (by omega) ((gcd_step g l).trans hg) hty (by have := emod_sub_mul (q := g / l) htx hty; rw [er] at this; exact this) (by rw [ety, Int.neg_mul]) (by rw [etx, ety, ← inv_sg2]) (by omega) v0 hv9 hs9 vm hvm
  exact lp16 ((1000001 : Int) + 1).toNat (a % m) (m) (1) (0) (1) (1) (0) (by omega) ham (by omega) (by omega) (by omega) (by rw [Int.gcd_comm]; exact hgm) (by rw [Int.mul_one]; exact (Int.emod_emod_of_dvd a (Int.dvd_refl m)).symm) (by rw [Int.mul_zero, Int.emod_self]; exact Int.zero_emod m) rfl rfl (Or.inl rfl) (by decide) (by decide) (by rw [Int.mul_zero, Int.mul_one, Int.zero_add]) (by decide) (by decide)
/-- the row that runs the other way, by rests -/
def bkR (k : Nat) (c s : Nat → Int) (ov m : Int) (n : Nat) : Int := rs k (lbk c k ov m) (sbk s k) m n
theorem bkR_next {k : Nat} {c s f : Nat → Int} {ov m v : Int} {t : Nat} (h0 : 0 < k) (hm : 2 ≤ m) (hc0 : c 0 = -1) (hf : ∀ i, i < k → f i = bkR k c s ov m (k - 1 + t - i)) (hv : cg m v (f (k - 1) - sm (fun j => c (j + 1) * f (k - 1 - (j + 1))) (k - 1))) : v * ov % m = bkR k c s ov m (t + k) := by
  unfold bkR
  rw [rs_rec h0]
  have e1 : sm (fun j => lbk c k ov m (j + 1) * rs k (lbk c k ov m) (sbk s k) m (t + k - 1 - j)) k = sm (fun j => lbk c k ov m (j + 1) * f j) k := sm_cong (fun j hj => by
    rw [hf j hj]
    show _ * _ = _ * rs k (lbk c k ov m) (sbk s k) m (k - 1 + t - j)
    rw [show t + k - 1 - j = k - 1 + t - j by omega])
  rw [e1]
  have e2 : cg m (sm (fun j => lbk c k ov m (j + 1) * f j) k) (sm (fun j => ov * (-(c (k - (j + 1)))) * f j) k) := cg.sm (fun j hj => cg.mul (cg.md.tr (cg.rf.mul cg.md)) cg.rf)
  have e3 : sm (fun j => ov * (-(c (k - (j + 1)))) * f j) k = ov * (f (k - 1) - sm (fun j => c (j + 1) * f (k - 1 - (j + 1))) (k - 1)) := by
    obtain ⟨q, rfl⟩ : ∃ q, k = q + 1 := ⟨k - 1, by omega⟩
    rw [sm_s, show q + 1 - (q + 1) = 0 by omega, hc0, show q + 1 - 1 = q by omega]
    have e4 : sm (fun j => ov * (-(c (q + 1 - (j + 1)))) * f j) q = -(ov * sm (fun j => c (j + 1) * f (q - (j + 1))) q) := by
      have rev : ∀ (n : Nat) (g : Nat → Int), sm g n = sm (fun j => g (n - 1 - j)) n := by
        intro n
        induction n with
        | zero => intro g; rfl
        | succ n ih =>
          intro g
          rw [sm_s, sm_head (fun j => g (n + 1 - 1 - j)) n, ih g, Int.add_comm]
          show g n + _ = g (n + 1 - 1 - 0) + _
          rw [show n + 1 - 1 - 0 = n by omega]
          congr 1
          exact sm_cong (fun j hj => by rw [show n + 1 - 1 - (j + 1) = n - 1 - j by omega])
      rw [rev q (fun j => c (j + 1) * f (q - (j + 1))), ← sm_mul, show -(sm (fun j => ov * (c (q - 1 - j + 1) * f (q - (q - 1 - j + 1)))) q) = (-1) * sm (fun j => ov * (c (q - 1 - j + 1) * f (q - (q - 1 - j + 1)))) q by omega, ← sm_mul]
      refine sm_cong (fun j hj => ?_)
      rw [show q + 1 - (j + 1) = q - j by omega, show q - 1 - j + 1 = q - j by omega, show q - (q - j) = j by omega, Int.mul_neg, Int.neg_mul, Int.mul_assoc]
      omega
    rw [e4, Int.mul_sub, show ov * -(-1) * f q = ov * f q by rw [show -(-1 : Int) = 1 from rfl, Int.mul_one]]
    omega
  refine cg.emod ?_
  rw [Int.mul_comm v ov]
  refine (cg.rf.mul hv).tr ((cg.of e3.symm).tr e2.sy)
set_option maxHeartbeats 8000000 in
set_option maxRecDepth 20000 in
theorem c_X11_back {N : Nat} {h : Hp} {Q : QP} {tb : Nat → Int} {ln : Nat} {K : Nat → Nat} {C S : Nat → Nat → Int} {p : Int} {vs : Nat → Int} {sz : Nat} {i n m : Int} (hI : MDI h tb ln K C S p vs sz) (hN : 146 ≤ N) (hi : rI i) (hn : rI n) (hm : rI m) (hQ : ∀ (r : Int) (h2 : Hp), SPback i n m K C S r → MDI h2 tb ln K C S p vs sz → OUTM h h2 → Q (some (.int (iZ r))) N h2) : Runs mX11_back [.ref (124), .int (iZ (i)), .int (iZ (n)), .int (iZ (m))] N h Q := by
  obtain ⟨at_, wr, va, em, ta, ro, dg, om, ml, ms, a130, a131, a132, a133, a134, a135, a136, a137, a138, a139, a140, a141, a142, a143, a144, a145, hm0, hom, hml, hms, hbt, hnv, h130, h131, h132, h133, h134, h135, h136, h137, h138, h139, h140, h141, h142, h143, h144, h145, hMR, hlN, hbb, hPr, hs40, hvb⟩ := id hI
  have hl0 : 0 ≤ (ln : Int) := by omega
  have hl : (ln : Int) ≤ 100 := by omega
  have hn1 := hn.1
  have hn2 := hn.2
  have hm1 := hm.1
  have hm2 := hm.2
  refine run_start (own := RX11) rfl (by decide) (nle rfl) rfl (fun X hq hini => ?_)
  show G X RX11 cX11_back mX11_back.rm N 0 0 0 [some (.ref (124)), some (.int (iZ (i))), some (.int (iZ (n))), some (.int (iZ (m))), none, none, none, none, none, none, none] [] h
  refine r_iload_n dX11_back_0 rfl rfl ?_
  refine r_callS (av := [.int (iZ (i))]) dX11_back_1 lkX11_isReg ml_X11_127 stX11_isReg ⟨Nat.le_of_ble_eq_true rfl, Nat.le_of_ble_eq_true rfl⟩ rfl rfl (nle rfl) ⟨Nat.le_of_ble_eq_true rfl, Nat.le_of_ble_eq_true rfl⟩ (c_X11_isReg (x := i) hi (fun b1 hb1 => ?_))
  show G _ _ _ _ _ _ _ 4 _ _ _
  refine r_if_eq 33 dX11_back_4 (by decide) (by rcases hb1 with ⟨y, _⟩ | ⟨y, _⟩ <;> exact ⟨by omega, by omega⟩) (fun c_4 => ?_) (fun c_4 => ?_)
  · refine r_iconst (z := -1) dX11_back_33 ?_
    refine r_ireturn hq dX11_back_34 rfl rfl rfl ?_
    exact hQ _ h (Or.inl ⟨by omega, rfl⟩) hI (fun _ _ => rfl)
  · refine r_iload_n dX11_back_7 rfl rfl ?_
    refine r_i2l dX11_back_8 ⟨by omega, by omega⟩ ?_
    refine r_lconst (z := 1) dX11_back_9 (by decide) ?_
    refine r_ldc2 (z := 1000000) dX11_back_10 kc_X11_121 ?_
    refine r_callS (av := [.long (lZ (n)), .long (lZ (1)), .long (lZ (1000000))]) dX11_back_13 lkX11_in ml_X11_80 stX11_in ⟨Nat.le_of_ble_eq_true rfl, Nat.le_of_ble_eq_true rfl⟩ rfl rfl (nle rfl) ⟨Nat.le_of_ble_eq_true rfl, Nat.le_of_ble_eq_true rfl⟩ (c_X11_in (x := n) (l := 1) (m := 1000000) ⟨by omega, by omega⟩ ⟨by decide, by decide⟩ ⟨by decide, by decide⟩ (fun b13 hb13 => ?_))
    show G _ _ _ _ _ _ _ 16 _ _ _
    refine r_if_eq 33 dX11_back_16 (by decide) (by rcases hb13 with ⟨y, _⟩ | ⟨y, _⟩ <;> exact ⟨by omega, by omega⟩) (fun c_16 => ?_) (fun c_16 => ?_)
    · refine r_iconst (z := -1) dX11_back_33 ?_
      refine r_ireturn hq dX11_back_34 rfl rfl rfl ?_
      exact hQ _ h (Or.inl ⟨by omega, rfl⟩) hI (fun _ _ => rfl)
    · refine r_iload_n dX11_back_19 rfl rfl ?_
      refine r_i2l dX11_back_20 ⟨by omega, by omega⟩ ?_
      refine r_ldc2 (z := 2) dX11_back_21 kc_X11_134 ?_
      refine r_ldc2 (z := 1000000) dX11_back_24 kc_X11_121 ?_
      refine r_callS (av := [.long (lZ (m)), .long (lZ (2)), .long (lZ (1000000))]) dX11_back_27 lkX11_in ml_X11_80 stX11_in ⟨Nat.le_of_ble_eq_true rfl, Nat.le_of_ble_eq_true rfl⟩ rfl rfl (nle rfl) ⟨Nat.le_of_ble_eq_true rfl, Nat.le_of_ble_eq_true rfl⟩ (c_X11_in (x := m) (l := 2) (m := 1000000) ⟨by omega, by omega⟩ ⟨by decide, by decide⟩ ⟨by decide, by decide⟩ (fun b27 hb27 => ?_))
      show G _ _ _ _ _ _ _ 30 _ _ _
      refine r_if_ne 35 dX11_back_30 (by decide) (by rcases hb27 with ⟨y, _⟩ | ⟨y, _⟩ <;> exact ⟨by omega, by omega⟩) (fun c_30 => ?_) (fun c_30 => ?_)
      · obtain ⟨k, c, s, ek, ec, es, hgk, hC0⟩ : ∃ (k : Nat) (c s : Nat → Int), k = K i.toNat ∧ c = C i.toNat ∧ s = S i.toNat ∧ RG om ml ms i.toNat k c s ∧ c 0 = -1 := ⟨_, _, _, rfl, rfl, rfl, (hMR i.toNat (by omega)).1, (hMR i.toNat (by omega)).2⟩
        obtain ⟨hg1, hg2, hg3, hg4, hg5⟩ := id hgk
        have e56 : ml (((6 * i) + (om i.toNat)) - 1).toNat = c k := by rw [show (((6 * i) + (om i.toNat)) - 1).toNat = 6 * i.toNat + k - 1 by omega]; exact (hg4 k hg2 (by omega)).1
        have cbk := (hg4 k hg2 (by omega)).2
        rw [← e56] at cbk
        refine r_aload_n dX11_back_35 rfl rfl ?_
        refine gf_X11_7 dX11_back_36 (by omega) hm0 rfl ?_
        refine r_iload_n dX11_back_39 rfl rfl ?_
        refine r_iaload dX11_back_40 (by omega) hom (by omega) (by omega) (by decide) ?_
        refine r_istore (L2 := [_, _, _, _, _, none, none, none, none, none, none]) dX11_back_41 (nlt rfl) rfl ?_
        refine r_aload_n dX11_back_43 rfl rfl ?_
        refine gf_X11_13 dX11_back_44 (by omega) hm0 rfl ?_
        refine r_bipush (z := 6) dX11_back_47 (by decide) ?_
        refine r_iload_n dX11_back_49 rfl rfl ?_
        refine r_imul dX11_back_50 ?_
        refine r_iload dX11_back_51 rfl ?_
        refine r_iadd dX11_back_53 ?_
        refine r_iconst (z := 1) dX11_back_54 ?_
        refine r_isub dX11_back_55 ?_
        refine r_laload dX11_back_56 (by omega) hml (by omega) (by omega) (by decide) ?_
        refine r_iload_n dX11_back_57 rfl rfl ?_
        refine r_i2l dX11_back_58 ⟨by omega, by omega⟩ ?_
        refine r_callS (av := [.long (lZ (ml (((6 * i) + (om (i).toNat)) - 1).toNat)), .long (lZ (m))]) dX11_back_59 lkX11_shared ml_X11_196 stX11_shared ⟨Nat.le_of_ble_eq_true rfl, Nat.le_of_ble_eq_true rfl⟩ rfl rfl (nle rfl) ⟨Nat.le_of_ble_eq_true rfl, Nat.le_of_ble_eq_true rfl⟩ (c_X11_shared (x := ml (((6 * i) + (om (i).toNat)) - 1).toNat) (y := m) (by omega) (by omega) ?_)
        show G _ _ _ _ _ _ _ 62 _ _ _
        obtain ⟨gg, hgg⟩ : ∃ g9 : Int, g9 = ((Int.gcd (ml (((6 * i) + (om i.toNat)) - 1).toNat) m : Nat) : Int) := ⟨_, rfl⟩
        rw [← hgg]
        have gb : 0 ≤ gg ∧ gg ≤ 1000000 := by
          rw [hgg]
          have h9 := Int.gcd_dvd_right (a := ml (((6 * i) + (om i.toNat)) - 1).toNat) (b := m)
          have h8 := Int.le_of_dvd (by omega) h9
          omega
        refine r_lconst (z := 1) dX11_back_62 (by decide) ?_
        refine r_lcmp_eq 70 dX11_back_63 dX11_back_64 (by decide) ⟨by omega, by omega⟩ ⟨by decide, by decide⟩ (fun c_63 => ?_) (fun c_63 => ?_)
        · have hgcd : Int.gcd (c k) m = 1 := by rw [← e56]; omega
          refine r_aload_n dX11_back_70 rfl rfl ?_
          refine gf_X11_13 dX11_back_71 (by omega) hm0 rfl ?_
          refine r_bipush (z := 6) dX11_back_74 (by decide) ?_
          refine r_iload_n dX11_back_76 rfl rfl ?_
          refine r_imul dX11_back_77 ?_
          refine r_iload dX11_back_78 rfl ?_
          refine r_iadd dX11_back_80 ?_
          refine r_iconst (z := 1) dX11_back_81 ?_
          refine r_isub dX11_back_82 ?_
          refine r_laload dX11_back_83 (by omega) hml (by omega) (by omega) (by decide) ?_
          refine r_iload_n dX11_back_84 rfl rfl ?_
          refine r_i2l dX11_back_85 ⟨by omega, by omega⟩ ?_
          refine r_callS (av := [.long (lZ (ml (((6 * i) + (om (i).toNat)) - 1).toNat)), .long (lZ (m))]) dX11_back_86 lkX11_inverse ml_X11_199 stX11_inverse ⟨Nat.le_of_ble_eq_true rfl, Nat.le_of_ble_eq_true rfl⟩ rfl rfl (nle rfl) ⟨Nat.le_of_ble_eq_true rfl, Nat.le_of_ble_eq_true rfl⟩ (c_X11_inverse (a := ml (((6 * i) + (om (i).toNat)) - 1).toNat) (m := m) (by omega) (by omega) (by rw [e56]; exact hgcd) (fun x86 hx86 => ?_))
          show G _ _ _ _ _ _ _ 89 _ _ _
          refine r_lstore (L2 := [_, _, _, _, _, _, none, none, none, none, none]) dX11_back_89 (nlt rfl) rfl ?_
          have hiv : IsInv (c k) m x86 := by rw [← e56]; exact hx86
          have xb1 := hx86.1
          have xb2 := hx86.2.1
          refine r_aload_n dX11_back_91 rfl rfl ?_
          refine r_aload_n dX11_back_92 rfl rfl ?_
          refine gf_X11_42 dX11_back_93 (by omega) hm0 rfl ?_
          refine r_iload_n dX11_back_96 rfl rfl ?_
          refine r_iload_n dX11_back_97 rfl rfl ?_
          refine r_callV (av := [.ref (134), .int (iZ (i)), .int (iZ (m))]) dX11_back_98 lkX11_begin ml_X11_168 imX11_begin seX11_begin (by omega) (rfl : vwCl[11]? = _) ⟨_, hm0⟩ ⟨Nat.le_of_ble_eq_true rfl, Nat.le_of_ble_eq_true rfl⟩ rfl rfl (nle rfl) ⟨Nat.le_of_ble_eq_true rfl, Nat.le_of_ble_eq_true rfl⟩ (c_X11_begin (r := i.toNat) (k := k) (c := c) (s := s) (u := 134) (om := om) (ml := ml) (ms := ms) (f := a134) (m := m) (ln := (ln : Int)) (pr := p) (nm := (sz : Int)) (at_ := at_) (wr := wr) (va := va) (em := em) (ta := ta) (ro := ro) (dg := dg) hm0 hN hom hml hms hgk (by omega) (by omega) (by omega) h134 (by omega) (by omega) (fun f98 hf98 => ?_))
          show G _ _ _ _ _ _ _ 101 _ _ _
          refine r_iconst (z := 0) dX11_back_101 ?_
          refine r_istore (L2 := [_, _, _, _, _, _, none, _, none, none, none]) dX11_back_102 (nlt rfl) rfl ?_
          have lp104 : ∀ (fu104 : Nat) (sl : Nat → Int) (t : Int) (tn : Nat), (n + 1 - t) < (fu104 : Int) → (t = (tn : Int)) → (t ≤ n) → (∀ u, u < k → sl u = bkR k c s x86 m (k - 1 + tn - u)) → G X RX11 cX11_back mX11_back.rm N 0 0 104 [some (.ref (124)), some (.int (iZ (i))), some (.int (iZ (n))), some (.int (iZ (m))), some (.int (iZ (om (i).toNat))), some (.long (lZ (x86))), none, some (.int (iZ (t))), none, none, none] [] (hs h (134) (aL 6 (sl))) := by
            intro fu104
            induction fu104 with
            | zero => intro sl t tn hm et tl hsl; exfalso; omega
            | succ fu104 ih104 =>
              intro sl t tn hms104 et tl hsl
              refine r_iload dX11_back_104 rfl ?_
              refine r_iload_n dX11_back_106 rfl rfl ?_
              refine r_icmp_ge 232 dX11_back_107 (by decide) ⟨by omega, by omega⟩ ⟨by omega, by omega⟩ (fun c_107 => ?_) (fun c_107 => ?_)
              · refine r_aload_n dX11_back_232 rfl rfl ?_
                refine gf_X11_42 dX11_back_233 (by omega) ((hs_n (by omega)).trans hm0) rfl ?_
                refine r_iconst (z := 0) dX11_back_236 ?_
                refine r_laload dX11_back_237 (by omega) hs_e (by omega) (by omega) (by decide) ?_
                refine r_l2i dX11_back_238 ?_
                refine r_ireturn hq dX11_back_239 rfl rfl rfl ?_
                have e237 : sl (0 : Int).toNat = bkR k c s x86 m (k - 1 + tn - 0) := hsl 0 hg2
                rw [e237, Nat.sub_zero, show tn = n.toNat by omega]
                refine hQ _ _ (Or.inr ⟨by omega, by omega, by omega, by omega, by omega, by omega, Or.inr ⟨by rw [← ek, ← ec]; exact hgcd, x86, by rw [← ek, ← ec]; exact hiv, by rw [← ek, ← ec, ← es]; rfl⟩⟩) ⟨_, _, _, _, _, _, _, _, _, _, _, _, _, _, _, _, _, _, _, _, _, _, _, _, _, _, ((hs_n (by omega)).trans hm0), ((hs_n (by omega)).trans hom), ((hs_n (by omega)).trans hml), ((hs_n (by omega)).trans hms), ((hs_n (by omega)).trans hbt), ((hs_n (by omega)).trans hnv), ((hs_n (by omega)).trans h130), ((hs_n (by omega)).trans h131), ((hs_n (by omega)).trans h132), ((hs_n (by omega)).trans h133), hs_e, ((hs_n (by omega)).trans h135), ((hs_n (by omega)).trans h136), ((hs_n (by omega)).trans h137), ((hs_n (by omega)).trans h138), ((hs_n (by omega)).trans h139), ((hs_n (by omega)).trans h140), ((hs_n (by omega)).trans h141), ((hs_n (by omega)).trans h142), ((hs_n (by omega)).trans h143), ((hs_n (by omega)).trans h144), ((hs_n (by omega)).trans h145), hMR, hlN, hbb, hPr, hs40, hvb⟩ (fun a9 h9 => ((hs_n (by omega)).trans rfl))
              · have slb : ∀ u, u < k → 0 ≤ sl u ∧ sl u < m := fun u hu => by rw [hsl u hu]; exact rs_in (by omega) _
                have e118 : sl (om i.toNat - 1).toNat = sl (k - 1) := by congr 1; omega
                have sb9 := slb (k - 1) (by omega)
                rw [← e118] at sb9
                refine r_aload_n dX11_back_110 rfl rfl ?_
                refine gf_X11_42 dX11_back_111 (by omega) ((hs_n (by omega)).trans hm0) rfl ?_
                refine r_iload dX11_back_114 rfl ?_
                refine r_iconst (z := 1) dX11_back_116 ?_
                refine r_isub dX11_back_117 ?_
                refine r_laload dX11_back_118 (by omega) hs_e (by omega) (by omega) (by decide) ?_
                refine r_lstore (L2 := [_, _, _, _, _, _, none, _, _, none, none]) dX11_back_119 (nlt rfl) rfl ?_
                refine r_iconst (z := 1) dX11_back_121 ?_
                refine r_istore (L2 := [_, _, _, _, _, _, none, _, _, none, _]) dX11_back_122 (nlt rfl) rfl ?_
                have lp124 : ∀ (fu124 : Nat) (v : Int) (q : Int) (jq : Nat), (7 - q) < (fu124 : Int) → (q = (jq : Int) + 1) → (jq + 1 ≤ k) → (0 ≤ v) → (v < m) → (cg m v (sl (k - 1) - sm (fun j => c (j + 1) * sl (k - 1 - (j + 1))) jq)) → G X RX11 cX11_back mX11_back.rm N 0 0 124 [some (.ref (124)), some (.int (iZ (i))), some (.int (iZ (n))), some (.int (iZ (m))), some (.int (iZ (om (i).toNat))), some (.long (lZ (x86))), none, some (.int (iZ (t))), some (.long (lZ (v))), none, some (.int (iZ (q)))] [] (hs h (134) (aL 6 (sl))) := by
                  intro fu124
                  induction fu124 with
                  | zero => intro v q jq hm eq1 jqk v0 vm hcv; exfalso; omega
                  | succ fu124 ih124 =>
                    intro v q jq hms124 eq1 jqk v0 vm hcv
                    refine r_iload dX11_back_124 rfl ?_
                    refine r_iload dX11_back_126 rfl ?_
                    refine r_icmp_ge 179 dX11_back_128 (by decide) ⟨by omega, by omega⟩ ⟨by omega, by omega⟩ (fun c_128 => ?_) (fun c_128 => ?_)
                    · have hv9 : cg m v (sl (k - 1) - sm (fun j => c (j + 1) * sl (k - 1 - (j + 1))) (k - 1)) := by rw [show k - 1 = jq by omega] at hcv ⊢; exact hcv
                      have hnext := bkR_next (ov := x86) hg2 (by omega) hC0 hsl hv9
                      refine r_iload dX11_back_179 rfl ?_
                      refine r_iconst (z := 1) dX11_back_181 ?_
                      refine r_isub dX11_back_182 ?_
                      refine r_istore (L2 := [_, _, _, _, _, _, none, _, _, none, _]) dX11_back_183 (nlt rfl) rfl ?_
                      have lp185 : ∀ (fu185 : Nat) (sl2 : Nat → Int) (w : Int) (jw : Nat), (w + 1) < (fu185 : Int) → (w = (jw : Int)) → (jw ≤ k - 1) → (∀ u, jw < u → u < k → sl2 u = sl (u - 1)) → (∀ u, u ≤ jw → sl2 u = sl u) → G X RX11 cX11_back mX11_back.rm N 0 0 185 [some (.ref (124)), some (.int (iZ (i))), some (.int (iZ (n))), some (.int (iZ (m))), some (.int (iZ (om (i).toNat))), some (.long (lZ (x86))), none, some (.int (iZ (t))), some (.long (lZ (v))), none, some (.int (iZ (w)))] [] (hs h (134) (aL 6 (sl2))) := by
                        intro fu185
                        induction fu185 with
                        | zero => intro sl2 w jw hm ew jwk hsh1 hsh2; exfalso; omega
                        | succ fu185 ih185 =>
                          intro sl2 w jw hms185 ew jwk hsh1 hsh2
                          refine r_iload dX11_back_185 rfl ?_
                          refine r_if_le 212 dX11_back_187 (by decide) ⟨by omega, by omega⟩ (fun c_187 => ?_) (fun c_187 => ?_)
                          · refine r_aload_n dX11_back_212 rfl rfl ?_
                            refine gf_X11_42 dX11_back_213 (by omega) ((hs_n (by omega)).trans hm0) rfl ?_
                            refine r_iconst (z := 0) dX11_back_216 ?_
                            refine r_lload dX11_back_217 rfl ?_
                            refine r_lload dX11_back_219 rfl ?_
                            have m221 := acc_b v0 vm xb1 xb2 (by omega)
                            refine r_lmul dX11_back_221 ?_
                            refine r_iload_n dX11_back_222 rfl rfl ?_
                            refine r_i2l dX11_back_223 ⟨by omega, by omega⟩ ?_
                            refine r_lremp dX11_back_224 ⟨by omega, by omega⟩ ⟨by omega, by omega⟩ (by omega) (by omega) ?_
                            have eb_224 := emod_bd (v * x86) (show 0 < m by omega)
                            refine r_lastore dX11_back_225 (by omega) hs_e (by omega) (by omega) (by decide) ?_
                            refine g_heap (h2 := (hs h (134) (aL 6 (uA (sl2) (0 : Int).toNat ((v * x86) % m))))) hs_hs ?_
                            refine r_iinc (L2 := [_, _, _, _, _, _, none, _, _, none, _]) dX11_back_226 (nlt rfl) rfl rfl ?_
                            refine r_goto 104 dX11_back_229 (by decide) ?_
                            refine r_mask [true, true, true, true, true, true, false, true, false, false, false] (L2 := [_, _, _, _, _, _, none, _, none, none, none]) rfl ?_
                            exact ih104 (uA (sl2) (0 : Int).toNat ((v * x86) % m)) (t + 1) ((tn + 1)) (by omega) (by omega) (by omega) (fun u hu => by by_cases z : u = 0; (rw [z]; show uA sl2 0 _ 0 = _; rw [uA_e, hnext, show k - 1 + (tn + 1) - 0 = tn + k by omega]); show uA sl2 0 _ u = _; rw [uA_n z, hsh1 u (by omega) (by omega), hsl _ (by omega), show k - 1 + tn - (u - 1) = k - 1 + (tn + 1) - u by omega])
                          · have e194 : w.toNat = jw := by omega
                            have e203 : (w - 1).toNat = jw - 1 := by omega
                            refine r_aload_n dX11_back_190 rfl rfl ?_
                            refine gf_X11_42 dX11_back_191 (by omega) ((hs_n (by omega)).trans hm0) rfl ?_
                            refine r_iload dX11_back_194 rfl ?_
                            refine r_aload_n dX11_back_196 rfl rfl ?_
                            refine gf_X11_42 dX11_back_197 (by omega) ((hs_n (by omega)).trans hm0) rfl ?_
                            refine r_iload dX11_back_200 rfl ?_
                            refine r_iconst (z := 1) dX11_back_202 ?_
                            refine r_isub dX11_back_203 ?_
                            refine r_laload dX11_back_204 (by omega) hs_e (by omega) (by omega) (by decide) ?_
                            refine r_lastore dX11_back_205 (by omega) hs_e (by omega) (by omega) (by decide) ?_
                            refine g_heap (h2 := (hs h (134) (aL 6 (uA (sl2) (w).toNat (sl2 (w - 1).toNat))))) hs_hs ?_
                            refine r_iinc (L2 := [_, _, _, _, _, _, none, _, _, none, _]) dX11_back_206 (nlt rfl) rfl rfl ?_
                            refine r_goto 185 dX11_back_209 (by decide) ?_
                            exact ih185 (uA (sl2) (w).toNat (sl2 (w - 1).toNat)) (w + (-1)) ((jw - 1)) (by omega) (by omega) (by omega) (fun u a b => by rw [e194, e203]; by_cases z : u = jw; (rw [z, uA_e]; exact hsh2 _ (by omega)); rw [uA_n z]; exact hsh1 u (by omega) b) (fun u a => by rw [e194, uA_n (by omega)]; exact hsh2 u (by omega))
                      exact lp185 ((8 : Int) + 1).toNat (sl) ((om (i).toNat) - 1) ((k - 1)) (by omega) (by omega) (Nat.le_refl _) (fun u a b => by omega) (fun u _ => rfl)
                    · have e146 : ml (((6 * i) + q) - 1).toNat = c (jq + 1) := by rw [show (((6 * i) + q) - 1).toNat = 6 * i.toNat + (jq + 1) - 1 by omega]; exact (hg4 (jq + 1) (by omega) (by omega)).1
                      have cb := (hg4 (jq + 1) (by omega) (by omega)).2
                      rw [← e146] at cb
                      have e163 : sl ((om i.toNat - 1) - q).toNat = sl (k - 1 - (jq + 1)) := by congr 1; omega
                      have sb8 := slb (k - 1 - (jq + 1)) (by omega)
                      rw [← e163] at sb8
                      refine r_lload dX11_back_131 rfl ?_
                      refine r_aload_n dX11_back_133 rfl rfl ?_
                      refine gf_X11_13 dX11_back_134 (by omega) ((hs_n (by omega)).trans hm0) rfl ?_
                      refine r_bipush (z := 6) dX11_back_137 (by decide) ?_
                      refine r_iload_n dX11_back_139 rfl rfl ?_
                      refine r_imul dX11_back_140 ?_
                      refine r_iload dX11_back_141 rfl ?_
                      refine r_iadd dX11_back_143 ?_
                      refine r_iconst (z := 1) dX11_back_144 ?_
                      refine r_isub dX11_back_145 ?_
                      refine r_laload dX11_back_146 (by omega) ((hs_n (by omega)).trans hml) (by omega) (by omega) (by decide) ?_
                      refine r_iload_n dX11_back_147 rfl rfl ?_
                      refine r_i2l dX11_back_148 ⟨by omega, by omega⟩ ?_
                      refine r_callS (av := [.long (lZ (ml (((6 * i) + q) - 1).toNat)), .long (lZ (m))]) dX11_back_149 lkX11_modulo ml_X11_156 stX11_modulo ⟨Nat.le_of_ble_eq_true rfl, Nat.le_of_ble_eq_true rfl⟩ rfl rfl (nle rfl) ⟨Nat.le_of_ble_eq_true rfl, Nat.le_of_ble_eq_true rfl⟩ (c_X11_modulo (x := ml (((6 * i) + q) - 1).toNat) (m := m) (by omega) (by omega) ?_)
                      have em_149 := emod_bd (ml (((6 * i) + q) - 1).toNat) (show 0 < m by omega)
                      show G _ _ _ _ _ _ _ 152 _ _ _
                      refine r_aload_n dX11_back_152 rfl rfl ?_
                      refine gf_X11_42 dX11_back_153 (by omega) ((hs_n (by omega)).trans hm0) rfl ?_
                      refine r_iload dX11_back_156 rfl ?_
                      refine r_iconst (z := 1) dX11_back_158 ?_
                      refine r_isub dX11_back_159 ?_
                      refine r_iload dX11_back_160 rfl ?_
                      refine r_isub dX11_back_162 ?_
                      refine r_laload dX11_back_163 (by omega) hs_e (by omega) (by omega) (by decide) ?_
                      have m164 := acc_b em_149.1 em_149.2 sb8.1 sb8.2 (by omega)
                      refine r_lmul dX11_back_164 ?_
                      refine r_lsub dX11_back_165 ?_
                      refine r_iload_n dX11_back_166 rfl rfl ?_
                      refine r_i2l dX11_back_167 ⟨by omega, by omega⟩ ?_
                      refine r_callS (av := [.long (lZ (v - (((ml (((6 * i) + q) - 1).toNat) % m) * (sl (((om (i).toNat) - 1) - q).toNat)))), .long (lZ (m))]) dX11_back_168 lkX11_modulo ml_X11_156 stX11_modulo ⟨Nat.le_of_ble_eq_true rfl, Nat.le_of_ble_eq_true rfl⟩ rfl rfl (nle rfl) ⟨Nat.le_of_ble_eq_true rfl, Nat.le_of_ble_eq_true rfl⟩ (c_X11_modulo (x := v - (((ml (((6 * i) + q) - 1).toNat) % m) * (sl (((om (i).toNat) - 1) - q).toNat))) (m := m) (by omega) (by omega) ?_)
                      have em_168 := emod_bd (v - (((ml (((6 * i) + q) - 1).toNat) % m) * (sl (((om (i).toNat) - 1) - q).toNat))) (show 0 < m by omega)
                      show G _ _ _ _ _ _ _ 171 _ _ _
                      refine r_lstore (L2 := [_, _, _, _, _, _, none, _, _, none, _]) dX11_back_171 (nlt rfl) rfl ?_
                      refine r_iinc (L2 := [_, _, _, _, _, _, none, _, _, none, _]) dX11_back_173 (nlt rfl) rfl rfl ?_
                      refine r_goto 124 dX11_back_176 (by decide) ?_
                      exact ih124 ((v - (((ml (((6 * i) + q) - 1).toNat) % m) * (sl (((om (i).toNat) - 1) - q).toNat))) % m) (q + 1) ((jq + 1)) (by omega) (by omega) (by omega) (by omega) (by omega) (cg.md.tr (by rw [sm_s, e163, e146]; exact ((hcv.sub (cg.md.mul cg.rf)).tr (cg.of (by omega)))))
                exact lp124 ((7 : Int) + 1).toNat (sl ((om (i).toNat) - 1).toNat) (1) (0) (by omega) rfl (by omega) (by omega) (by omega) (by rw [e118]; exact cg.of (by show _ = _ - (0 : Int); omega))
          exact lp104 ((n + 1 : Int) + 1).toNat (f98) (0) (0) (by omega) rfl (by omega) (fun u hu => by rw [hf98 u hu]; unfold bkR rs; rw [ex_lt (by omega), ex_lt (by omega)]; show s u % m = s (k - 1 - (k - 1 + 0 - u)) % m; rw [show k - 1 - (k - 1 + 0 - u) = u by omega])
        · refine r_bipush (z := -2) dX11_back_67 (by decide) ?_
          refine r_ireturn hq dX11_back_69 rfl rfl rfl ?_
          exact hQ _ h (Or.inr ⟨by omega, by omega, by omega, by omega, by omega, by omega, Or.inl ⟨by rw [← ek, ← ec, ← e56]; omega, rfl⟩⟩) hI (fun _ _ => rfl)
      · refine r_iconst (z := -1) dX11_back_33 ?_
        refine r_ireturn hq dX11_back_34 rfl rfl rfl ?_
        exact hQ _ h (Or.inl ⟨by omega, rfl⟩) hI (fun _ _ => rfl)
set_option maxHeartbeats 2000000 in
set_option maxRecDepth 20000 in
theorem c_X11_layCode {N : Nat} {h : Hp} {Q : QP} {ln pr nm at_ wr va em ta ro dg : Int} {ml : Nat → Int} {k : Nat} {ci ki p : Int} (hm0 : h 124 = MOo ln pr nm at_ wr va em ta ro dg) (hN : 146 ≤ N) (hml : h 126 = aL 42 ml) (hki : ki = (k : Int)) (hk0 : 0 < k) (hk : k ≤ 6) (hp2 : 2 ≤ p) (hp : p ≤ 97) (hc0 : 0 ≤ ci) (hc1 : ci ≤ 1000000) (hQ : ∀ ml2 : Nat → Int, (∀ j, j < 36 → ml2 j = ml j) → (∀ j, 1 ≤ j → j ≤ k → ml2 (36 + j - 1) = lwd k p ci j) → Q none N (hs h 126 (aL 42 ml2))) : Runs mX11_layCode [.ref (124), .int (iZ (ci)), .int (iZ (ki)), .int (iZ (p))] N h Q := by
  refine run_start (own := RX11) rfl (by decide) (nle rfl) rfl (fun X hq hini => ?_)
  show G X RX11 cX11_layCode mX11_layCode.rm N 0 0 0 [some (.ref (124)), some (.int (iZ (ci))), some (.int (iZ (ki))), some (.int (iZ (p))), none, none] [] h
  refine r_iload_n dX11_layCode_0 rfl rfl ?_
  refine r_istore (L2 := [_, _, _, _, _, none]) dX11_layCode_1 (nlt rfl) rfl ?_
  refine r_iload_n dX11_layCode_3 rfl rfl ?_
  refine r_iconst (z := 1) dX11_layCode_4 ?_
  refine r_isub dX11_layCode_5 ?_
  refine r_istore (L2 := [_, _, _, _, _, _]) dX11_layCode_6 (nlt rfl) rfl ?_
  have lp8 : ∀ (fu8 : Nat) (ml1 : Nat → Int) (lf : Int) (i : Int) (j : Nat), (i + 2) < (fu8 : Int) → (i + 1 + (j : Int) = (k : Int)) → (j ≤ k) → (lf = lft p ci j) → (∀ t, t < 36 → ml1 t = ml t) → (∀ t, k - j < t → t ≤ k → ml1 (36 + t - 1) = lwd k p ci t) → G X RX11 cX11_layCode mX11_layCode.rm N 0 0 8 [some (.ref (124)), none, none, some (.int (iZ (p))), some (.int (iZ (lf))), some (.int (iZ (i)))] [] (hs h (126) (aL 42 (ml1))) := by
    intro fu8
    induction fu8 with
    | zero => intro ml1 lf i j hm ei jk elf hm1 hm2; exfalso; omega
    | succ fu8 ih8 =>
      intro ml1 lf i j hms8 ei jk elf hm1 hm2
      have lb9 := lft_in hp2 hc0 j
      rw [← elf] at lb9
      refine r_iload dX11_layCode_8 rfl ?_
      refine r_if_lt 40 dX11_layCode_10 (by decide) ⟨by omega, by omega⟩ (fun c_10 => ?_) (fun c_10 => ?_)
      · refine r_return hq dX11_layCode_40 rfl rfl rfl ?_
        exact hQ ml1 hm1 (fun t a b => hm2 t (by omega) b)
      · have e27 : (36 + i).toNat = 36 + (k - 1 - j) := by omega
        refine r_aload_n dX11_layCode_13 rfl rfl ?_
        refine gf_X11_13 dX11_layCode_14 (by omega) ((hs_n (by omega)).trans hm0) rfl ?_
        refine r_bipush (z := 36) dX11_layCode_17 (by decide) ?_
        refine r_iload dX11_layCode_19 rfl ?_
        refine r_iadd dX11_layCode_21 ?_
        refine r_iload dX11_layCode_22 rfl ?_
        refine r_iload_n dX11_layCode_24 rfl rfl ?_
        refine r_iremp dX11_layCode_25 ⟨by omega, by omega⟩ ⟨by omega, by omega⟩ (by omega) (by omega) ?_
        have eb_25 := emod_bd (lf) (show 0 < p by omega)
        refine r_i2l dX11_layCode_26 ⟨by omega, by omega⟩ ?_
        refine r_lastore dX11_layCode_27 (by omega) hs_e (by omega) (by omega) (by decide) ?_
        refine g_heap (h2 := (hs h (126) (aL 42 (uA (ml1) (36 + i).toNat (lf % p))))) hs_hs ?_
        refine r_iload dX11_layCode_28 rfl ?_
        refine r_iload_n dX11_layCode_30 rfl rfl ?_
        refine r_idivp dX11_layCode_31 ⟨by omega, by omega⟩ ⟨by omega, by omega⟩ (by omega) (by omega) ?_
        refine r_istore (L2 := [_, none, none, _, _, _]) dX11_layCode_32 (nlt rfl) rfl ?_
        refine r_iinc (L2 := [_, none, none, _, _, _]) dX11_layCode_34 (nlt rfl) rfl rfl ?_
        refine r_goto 8 dX11_layCode_37 (by decide) ?_
        exact ih8 (uA (ml1) (36 + i).toNat (lf % p)) (lf / p) (i + (-1)) ((j + 1)) (by omega) (by omega) (by omega) (by rw [elf]; rfl) (fun t ht => by rw [e27, uA_n (by omega)]; exact hm1 t ht) (fun t a b => by rw [e27]; by_cases z : t = k - j; (rw [z, show 36 + (k - j) - 1 = 36 + (k - 1 - j) by omega, uA_e, elf]; unfold lwd; rw [show k - (k - j) = j by omega]); rw [uA_n (by omega)]; exact hm2 t (by omega) b)
  refine r_mask [true, false, false, true, true, true] (L2 := [_, none, none, _, _, _]) rfl ?_
  refine g_heap (hs_id (c := aL 42 (ml)) hml).symm ?_
  exact lp8 (((k : Int) + 1 : Int) + 1).toNat (ml) (ci) (ki - 1) (0) (by omega) (by omega) (by omega) rfl (fun t _ => rfl) (fun t a b => by omega)
