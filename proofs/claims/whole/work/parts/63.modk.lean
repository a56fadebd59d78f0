section PT
variable {pn : Nat} (hpn : PrmN pn)
abbrev TT (d a : Nat) : PZ (pn : Int) := lvP hpn (trf pn d a) d
def PH (L : List (PZ (pn : Int))) (d D : Nat) (l : PZ (pn : Int)) (m g u : Nat) : Prop := ∃ A B, L.Perm (A ++ B) ∧ resL pzS A m g u ∧ lfP hpn l B ∧ (∀ x ∈ A, x ∉ B) ∧ (∀ x ∈ A, pzS x ≤ d) ∧ (grB hpn d B ∨ (D < 2 * (d - 1) ∧ 2 ≤ d ∧ grB hpn (d - 1) B))
def PCd (L : List (PZ (pn : Int))) (d a : Nat) (l : PZ (pn : Int)) (m g u : Nat) : Prop := ∃ A B, L.Perm (A ++ B) ∧ resL pzS A m g u ∧ lfP hpn l B ∧ (∀ x ∈ A, pzS x ≤ d ∨ ∃ a2, a2 < a ∧ x = TT hpn d a2) ∧ grB hpn d B ∧ ∀ a2, a2 < a → TT hpn d a2 ∉ B
def PDd (L : List (PZ (pn : Int))) (d a : Nat) (l : PZ (pn : Int)) (fi : Int) (m g u : Nat) : Prop := ∃ A B, L.Perm (A ++ B) ∧ resL pzS A m g u ∧ lfP hpn l B ∧ (∀ x ∈ A, pzS x ≤ d ∨ ∃ a2, a2 ≤ a ∧ x = TT hpn d a2) ∧ grB hpn d B ∧ (∀ a2, a2 < a → TT hpn d a2 ∉ B) ∧ (fi = 1 → TT hpn d a ∉ A) ∧ (fi = 0 → TT hpn d a ∈ A)
theorem TT_s (d a : Nat) : pzS (TT hpn d a) = d + 1 := lvP_sz hpn (fun i _ => trf_b hpn d a i) rfl
theorem TT_m (d a : Nat) : pzMon (TT hpn d a) := lvP_mon hpn (fun i _ => trf_b hpn d a i) rfl
variable {hpn} {L : List (PZ (pn : Int))} {d a D m g u : Nat} {l q : PZ (pn : Int)} {fi : Int}
theorem PH.start (h : PH hpn L d D l m g u) (h2 : 2 * d ≤ D) : PCd hpn L d 0 l m g u := by
  obtain ⟨A, B, p1, p2, p3, p4, p5, p6⟩ := h
  refine ⟨A, B, p1, p2, p3, fun x hx => Or.inl (p5 x hx), ?_, fun a2 w => absurd w (Nat.not_lt_zero a2)⟩
  rcases p6 with y | ⟨y, _⟩
  · exact y
  · omega
theorem PCd.go (h : PCd hpn L d a l m g u) (ha : a < pn ^ d) : PDd hpn L d a l 1 m g u := by
  obtain ⟨A, B, p1, p2, p3, p4, p5, p6⟩ := h
  refine ⟨A, B, p1, p2, p3, fun x hx => ?_, p5, p6, fun _ w => ?_, fun w => absurd w (by decide)⟩
  · rcases p4 x hx with y | ⟨a2, y1, y2⟩
    · exact Or.inl y
    · exact Or.inr ⟨a2, by omega, y2⟩
  · rcases p4 _ w with y | ⟨a2, y1, y2⟩
    · rw [TT_s] at y; omega
    · have := trf_inj hpn ha (show a2 < pn ^ d by omega) y2
      omega
theorem PDd.hit (h : PDd hpn L d a l fi m g u) (hfi : fi = 0 ∨ fi = 1) (hd : 1 ≤ d) (e : l = pzMul (hp0 hpn) q (TT hpn d a)) : PDd hpn L d a q 0 (m + 1) d (if fi = 1 then u + 1 else u) := by
  obtain ⟨A, B, p1, p2, p3, p4, p5, p6, p7, p8⟩ := h
  have hm : TT hpn d a ∈ B := tr_in hpn hd p5 p3 (TT_m hpn d a) (TT_s hpn d a) ⟨q, e.trans (pzMul_comm (hp0 hpn) _ _)⟩
  obtain ⟨B1, B2, e2⟩ := List.append_of_mem hm
  have pp : B.Perm (TT hpn d a :: (B1 ++ B2)) := by rw [e2]; exact List.perm_middle
  have hr := p2.put (d := d) (t := TT hpn d a) (fun f hf => by
    rcases p4 f hf with y | ⟨a2, _, y2⟩
    · omega
    · rw [y2, TT_s]; omega) (TT_s hpn d a)
  refine ⟨A ++ [TT hpn d a], B1 ++ B2, ?_, ?_, ?_, fun x hx => ?_, fun f hf => ?_, fun a2 ha2 w => ?_, fun w => absurd w (by decide), fun _ => List.mem_append_right _ (List.mem_singleton.mpr rfl)⟩
  · refine p1.trans ?_
    rw [List.append_assoc]
    exact List.Perm.append_left A pp
  · rcases hfi with y | y
    · rw [if_neg (by omega)]; exact hr.2 (p8 y)
    · rw [if_pos y]; exact hr.1 (p7 y)
  · exact lf_out1 hpn (p5 _ hm).1 (@lftR.pm _ (pzRing (hp0 hpn)) _ _ _ p3 pp) e
  · rcases List.mem_append.mp hx with y | y
    · exact p4 x y
    · exact Or.inr ⟨a, Nat.le_refl a, List.mem_singleton.mp y⟩
  · exact p5 f (pp.mem_iff.mpr (List.mem_cons_of_mem _ hf))
  · exact p6 a2 ha2 (pp.mem_iff.mpr (List.mem_cons_of_mem _ w))
theorem PDd.done (h : PDd hpn L d a l fi m g u) (he : ¬ dvP hpn (TT hpn d a) l ∨ pzS l < d + 1) : PCd hpn L d (a + 1) l m g u := by
  obtain ⟨A, B, p1, p2, p3, p4, p5, p6, p7, p8⟩ := h
  have hn : TT hpn d a ∉ B := fun w => by
    rcases he with y | y
    · exact y (in_tr hpn p3 w)
    · have := lf_nil hpn (k := 0) p5 p3 y
      rw [this] at w
      exact absurd w List.not_mem_nil
  refine ⟨A, B, p1, p2, p3, fun x hx => ?_, p5, fun a2 ha2 => ?_⟩
  · rcases p4 x hx with y | ⟨a2, y1, y2⟩
    · exact Or.inl y
    · exact Or.inr ⟨a2, by omega, y2⟩
  · by_cases z : a2 = a
    · rw [z]; exact hn
    · exact p6 a2 (by omega)
theorem PCd.dis {A9 B9 : List (PZ (pn : Int))} (p4 : ∀ x ∈ A9, pzS x ≤ d ∨ ∃ a2, a2 < a ∧ x = TT hpn d a2) (p5 : grB hpn d B9) (p6 : ∀ a2, a2 < a → TT hpn d a2 ∉ B9) : (∀ x ∈ A9, x ∉ B9) ∧ ∀ x ∈ A9, pzS x ≤ d + 1 :=
  ⟨fun x hx w => by
    rcases p4 x hx with y | ⟨a2, y1, y2⟩
    · have := (p5 x w).2.2; omega
    · rw [y2] at w; exact p6 a2 y1 w, fun x hx => by
    rcases p4 x hx with y | ⟨a2, y1, y2⟩
    · omega
    · rw [y2, TT_s]; omega⟩
theorem PCd.full (h : PCd hpn L d (pn ^ d) l m g u) : PH hpn L (d + 1) D l m g u := by
  obtain ⟨A, B, p1, p2, p3, p4, p5, p6⟩ := h
  have hd := PCd.dis p4 p5 p6
  refine ⟨A, B, p1, p2, p3, hd.1, hd.2, Or.inl (fun f hf => ?_)⟩
  have h1 := p5 f hf
  refine ⟨h1.1, h1.2.1, ?_⟩
  by_cases z : pzS f = d + 1
  · obtain ⟨a, ha, e⟩ := trf_all hpn h1.2.1 z
    rw [e] at hf
    exact absurd hf (p6 a ha)
  · have := h1.2.2; omega
theorem PCd.early (h : PCd hpn L d a l m g u) (h2 : D < 2 * d) (hd1 : 1 ≤ d) : PH hpn L (d + 1) D l m g u := by
  obtain ⟨A, B, p1, p2, p3, p4, p5, p6⟩ := h
  have hd := PCd.dis p4 p5 p6
  exact ⟨A, B, p1, p2, p3, hd.1, hd.2, Or.inr ⟨h2, by omega, p5⟩⟩
theorem PH.fin (h : PH hpn L d D l m g u) (hs : pzS l = D + 1) (h2 : D < 2 * d) (hd : 1 ≤ d) : (D = 0 → resL pzS L m g u) ∧ (0 < D → resL pzS L (m + 1) (max g D) (u + 1)) := by
  obtain ⟨A, B, p1, p2, p3, p4, p5, p6⟩ := h
  have h1 : (D = 0 → B = []) ∧ (0 < D → ∃ x, B = [x] ∧ pzS x = D + 1) := by
    rcases p6 with y | ⟨y1, y2, y3⟩
    · exact one_left hpn hd y p3 hs h2
    · exact one_left hpn (by omega) y3 p3 hs y1
  refine ⟨fun w => ?_, fun w => ?_⟩
  · rw [h1.1 w, List.append_nil] at p1
    exact p2.pm p1.symm
  · obtain ⟨x, e, hx⟩ := h1.2 w
    rw [e] at p1 p4
    exact (p2.last hx (fun y => p4 x y (List.mem_singleton.mpr rfl))).pm p1.symm
def PV (p k : Int) (lf : Nat → Int) (dg many un gr : Int) : Prop := 0 ≤ dg ∧ 0 ≤ many ∧ many + dg ≤ k ∧ 0 ≤ un ∧ un ≤ many ∧ 0 ≤ gr ∧ gr ≤ 6 ∧ lf 0 = 1 ∧ ∀ i : Nat, i ≤ dg.toNat → 0 ≤ lf i ∧ lf i < p
theorem pw_b {n e E : Nat} (h : n ≤ 97) (he : e ≤ E) : n ^ e ≤ 97 ^ E := Nat.le_trans (Nat.pow_le_pow_left h e) (Nat.pow_le_pow_right (by decide) he)
theorem lv_law {k : Nat} {c lf : Nat → Int} (hc0 : c 0 = -1) (h0 : lf 0 = 1) (hk : k ≤ 6) (h : ∀ t, 1 ≤ t → t ≤ k → lf t = (-(c t)) % (pn : Int)) (hpn : PrmN pn) : lvP hpn lf k = pzT (hp0 hpn) (plaw (pn : Int) k c) := pz_ext (fun i => by
  refine (pzM_cg i).tr ((cg.of ?_).tr (pzM_cg i).sy)
  show (if i ≤ k then lf (k - i) else 0) = if i ≤ 12 then plaw (pn : Int) k c i else 0
  unfold plaw
  have := hpn.1
  by_cases z : i ≤ k
  · rw [if_pos z, if_pos (by omega), if_pos z]
    by_cases y : k - i = 0
    · rw [y, h0, hc0]
      show (1 : Int) = 1 % (pn : Int)
      rw [Int.emod_eq_of_lt (by omega) (by omega)]
    · exact h _ (by omega) (by omega)
  · rw [if_neg z, if_neg z]
    split <;> rfl)
end PT
set_option maxHeartbeats 16000000 in
set_option maxRecDepth 20000 in
theorem c_X11_parted {N : Nat} {h : Hp} {Q : QP} {tb : Nat → Int} {ln : Nat} {K : Nat → Nat} {C S : Nat → Nat → Int} {p pp : Int} {vs : Nat → Int} {sz : Nat} {i w : Int} (hI : MDI h tb ln K C S p vs sz) (hN : 146 ≤ N) (hi : rI i) (hp : rI pp) (hw : rI w) (hQ : ∀ (r : Int) (h2 : Hp), SPparted i pp w K C r → MDI h2 tb ln K C S p vs sz → OUTM h h2 → Q (some (.int (iZ r))) N h2) : Runs mX11_parted [.ref (124), .int (iZ (i)), .int (iZ (pp)), .int (iZ (w))] N h Q := by
  obtain ⟨at_, wr, va, em, ta, ro, dg, om, ml, ms, a130, a131, a132, a133, a134, a135, a136, a137, a138, a139, a140, a141, a142, a143, a144, a145, hm0, hom, hml, hms, hbt, hnv, h130, h131, h132, h133, h134, h135, h136, h137, h138, h139, h140, h141, h142, h143, h144, h145, hMR, hlN, hbb, hPr, hs40, hvb⟩ := id hI
  have hl0 : 0 ≤ (ln : Int) := by omega
  have hl : (ln : Int) ≤ 100 := by omega
  have hw1 := hw.1
  have hw2 := hw.2
  have hpp1 := hp.1
  have hpp2 := hp.2
  refine run_start (own := RX11) rfl (by decide) (nle rfl) rfl (fun X hq hini => ?_)
  show G X RX11 cX11_parted mX11_parted.rm N 0 0 0 [some (.ref (124)), some (.int (iZ (i))), some (.int (iZ (pp))), some (.int (iZ (w))), none, none, none, none, none, none, none, none, none] [] h
  refine r_iload_n dX11_parted_0 rfl rfl ?_
  refine r_callS (av := [.int (iZ (i))]) dX11_parted_1 lkX11_isReg ml_X11_127 stX11_isReg ⟨Nat.le_of_ble_eq_true rfl, Nat.le_of_ble_eq_true rfl⟩ rfl rfl (nle rfl) ⟨Nat.le_of_ble_eq_true rfl, Nat.le_of_ble_eq_true rfl⟩ (c_X11_isReg (x := i) hi (fun b1 hb1 => ?_))
  show G _ _ _ _ _ _ _ 4 _ _ _
  refine r_if_eq 26 dX11_parted_4 (by decide) (by rcases hb1 with ⟨y, _⟩ | ⟨y, _⟩ <;> exact ⟨by omega, by omega⟩) (fun c_4 => ?_) (fun c_4 => ?_)
  · refine r_iconst (z := -1) dX11_parted_26 ?_
    refine r_ireturn hq dX11_parted_27 rfl rfl rfl ?_
    exact hQ _ h (Or.inl ⟨by rcases hb1 with ⟨_, y⟩ | ⟨_, y⟩ <;> (try omega) <;> (rintro ⟨y1, y2, y3, y4, y5⟩; first | omega | (rcases hb8 with ⟨z, _⟩ | ⟨_, z⟩; omega; exact z y3)), rfl⟩) hI (fun _ _ => rfl)
  · refine r_iload_n dX11_parted_7 rfl rfl ?_
    refine r_callS (av := [.int (iZ (pp))]) dX11_parted_8 lkX11_isPrime ml_X11_204 stX11_isPrime ⟨Nat.le_of_ble_eq_true rfl, Nat.le_of_ble_eq_true rfl⟩ rfl rfl (nle rfl) ⟨Nat.le_of_ble_eq_true rfl, Nat.le_of_ble_eq_true rfl⟩ (c_X11_isPrime (p := pp) hp (fun b8 hb8 => ?_))
    show G _ _ _ _ _ _ _ 11 _ _ _
    refine r_if_eq 26 dX11_parted_11 (by decide) (by rcases hb8 with ⟨y, _⟩ | ⟨y, _⟩ <;> exact ⟨by omega, by omega⟩) (fun c_11 => ?_) (fun c_11 => ?_)
    · refine r_iconst (z := -1) dX11_parted_26 ?_
      refine r_ireturn hq dX11_parted_27 rfl rfl rfl ?_
      exact hQ _ h (Or.inl ⟨by rcases hb1 with ⟨_, y⟩ | ⟨_, y⟩ <;> (try omega) <;> (rintro ⟨y1, y2, y3, y4, y5⟩; first | omega | (rcases hb8 with ⟨z, _⟩ | ⟨_, z⟩; omega; exact z y3)), rfl⟩) hI (fun _ _ => rfl)
    · refine r_iload_n dX11_parted_14 rfl rfl ?_
      refine r_i2l dX11_parted_15 ⟨by omega, by omega⟩ ?_
      refine r_lconst (z := 0) dX11_parted_16 (by decide) ?_
      refine r_ldc2 (z := 2) dX11_parted_17 kc_X11_134 ?_
      refine r_callS (av := [.long (lZ (w)), .long (lZ (0)), .long (lZ (2))]) dX11_parted_20 lkX11_in ml_X11_80 stX11_in ⟨Nat.le_of_ble_eq_true rfl, Nat.le_of_ble_eq_true rfl⟩ rfl rfl (nle rfl) ⟨Nat.le_of_ble_eq_true rfl, Nat.le_of_ble_eq_true rfl⟩ (c_X11_in (x := w) (l := 0) (m := 2) ⟨by omega, by omega⟩ ⟨by decide, by decide⟩ ⟨by decide, by decide⟩ (fun b20 hb20 => ?_))
      show G _ _ _ _ _ _ _ 23 _ _ _
      refine r_if_ne 28 dX11_parted_23 (by decide) ⟨by omega, by omega⟩ (fun c_23 => ?_) (fun c_23 => ?_)
      · obtain ⟨k, c, s, ek, ec, es, hg, hC0⟩ : ∃ (k : Nat) (c s : Nat → Int), k = K i.toNat ∧ c = C i.toNat ∧ s = S i.toNat ∧ RG om ml ms i.toNat k c s ∧ c 0 = -1 := ⟨_, _, _, rfl, rfl, rfl, (hMR i.toNat (by omega)).1, (hMR i.toNat (by omega)).2⟩
        obtain ⟨hg1, hk1, hk6, hg4, hg5⟩ := id hg
        have hpr : Prm pp := by
          rcases hb8 with ⟨_, y⟩ | ⟨y, _⟩
          · exact y
          · exact absurd y c_11
        obtain ⟨pn, hpp, hpn⟩ := prm_n hpr
        have hp2 := hpr.1
        have hp97 := hpr.2.1
        refine r_aload_n dX11_parted_28 rfl rfl ?_
        refine gf_X11_7 dX11_parted_29 (by omega) hm0 rfl ?_
        refine r_iload_n dX11_parted_32 rfl rfl ?_
        refine r_iaload dX11_parted_33 (by omega) hom (by omega) (by omega) (by decide) ?_
        refine r_istore (L2 := [_, _, _, _, _, none, none, none, none, none, none, none, none]) dX11_parted_34 (nlt rfl) rfl ?_
        rw [show om i.toNat = (k : Int) from hg1]
        refine r_aload_n dX11_parted_36 rfl rfl ?_
        refine gf_X11_13 dX11_parted_37 (by omega) hm0 rfl ?_
        refine r_bipush (z := 6) dX11_parted_40 (by decide) ?_
        refine r_iload_n dX11_parted_42 rfl rfl ?_
        refine r_imul dX11_parted_43 ?_
        refine r_iload dX11_parted_44 rfl ?_
        refine r_iadd dX11_parted_46 ?_
        refine r_iconst (z := 1) dX11_parted_47 ?_
        refine r_isub dX11_parted_48 ?_
        refine r_laload dX11_parted_49 (by omega) hml (by omega) (by omega) (by decide) ?_
        have e49 : ml (((6 * i) + (k : Int)) - 1).toNat = c k := by rw [show (((6 * i) + (k : Int)) - 1).toNat = 6 * i.toNat + k - 1 by omega]; exact (hg4 k hk1 (Nat.le_refl k)).1
        have cb := (hg4 k hk1 (Nat.le_refl k)).2
        have htm : (c k).tmod pp = 0 ↔ c k % pp = 0 := ⟨fun h => Int.emod_eq_zero_of_dvd (Int.dvd_of_tmod_eq_zero h), fun h => Int.tmod_eq_zero_of_dvd (Int.dvd_of_emod_eq_zero h)⟩
        have tfx := tmod_fix (x := c k) (y := pp) (by omega)
        have emb := emod_bd (c k) (show 0 < pp by omega)
        have tmb : -100000 ≤ (c k).tmod pp ∧ (c k).tmod pp ≤ 100000 := by
          split at tfx <;> omega
        have htmc := htm
        rw [← e49] at htm tmb cb
        refine r_iload_n dX11_parted_50 rfl rfl ?_
        refine r_i2l dX11_parted_51 ⟨by omega, by omega⟩ ?_
        refine r_lrem dX11_parted_52 ⟨by omega, by omega⟩ ⟨by omega, by omega⟩ (by omega) (by omega) ?_
        refine r_lconst (z := 0) dX11_parted_53 (by decide) ?_
        refine r_lcmp_ne 61 dX11_parted_54 dX11_parted_55 (by decide) ⟨by omega, by omega⟩ ⟨by decide, by decide⟩ (fun c_54 => ?_) (fun c_54 => ?_)
        · refine r_aload_n dX11_parted_61 rfl rfl ?_
          refine r_iload dX11_parted_62 rfl ?_
          refine pf_X11_292 (fs2 := [_, _, _, _, _, _, _, _, _, _, _, _, _, _, _, _, _, _, _, _, _, _, _, _, _, _, _, _, _, _, _]) dX11_parted_64 (fun _ _ => rfl) (fun _ _ => rfl) (nlt rfl) (by omega) hm0 rfl ?_
          refine r_aload_n dX11_parted_67 rfl rfl ?_
          refine gf_X11_69 dX11_parted_68 (by omega) hs_e rfl ?_
          refine r_iconst (z := 0) dX11_parted_71 ?_
          refine r_lconst (z := 1) dX11_parted_72 (by decide) ?_
          refine r_lastore dX11_parted_73 (by omega) ((hs_n (by omega)).trans h143) (by omega) (by omega) (by decide) ?_
          refine r_iconst (z := 1) dX11_parted_74 ?_
          refine r_istore (L2 := [_, _, _, _, _, _, none, none, none, none, none, none, none]) dX11_parted_75 (nlt rfl) rfl ?_
          have lp77 : ∀ (fu77 : Nat) (lf0 : Nat → Int) (j : Int) (q : Nat), (9 - j) < (fu77 : Int) → (j = (q : Int)) → (1 ≤ q) → (q ≤ k + 1) → (lf0 0 = 1) → (∀ t, 1 ≤ t → t < q → lf0 t = (-(c t)) % pp) → G X RX11 cX11_parted mX11_parted.rm N 0 0 77 [some (.ref (124)), some (.int (iZ (i))), some (.int (iZ (pp))), some (.int (iZ (w))), some (.int (iZ ((k : Int)))), some (.int (iZ (j))), none, none, none, none, none, none, none] [] (hs (hs h (124) (MOo ((ln : Int)) (p) ((sz : Int)) (at_) (wr) (va) (em) (ta) (ro) ((k : Int)))) (143) (aL 7 (lf0))) := by
            intro fu77
            induction fu77 with
            | zero => intro lf0 j q hm ej q1 qk hl0 hlt; exfalso; omega
            | succ fu77 ih77 =>
              intro lf0 j q hms77 ej q1 qk hl0 hlt
              refine r_iload dX11_parted_77 rfl ?_
              refine r_iload dX11_parted_79 rfl ?_
              refine r_icmp_gt 117 dX11_parted_81 (by decide) ⟨by omega, by omega⟩ ⟨by omega, by omega⟩ (fun c_81 => ?_) (fun c_81 => ?_)
              · refine r_iconst (z := 0) dX11_parted_117 ?_
                refine r_istore (L2 := [_, _, _, _, _, _, none, none, none, none, none, none, none]) dX11_parted_118 (nlt rfl) rfl ?_
                refine r_iconst (z := 0) dX11_parted_120 ?_
                refine r_istore (L2 := [_, _, _, _, _, _, _, none, none, none, none, none, none]) dX11_parted_121 (nlt rfl) rfl ?_
                refine r_iconst (z := 0) dX11_parted_123 ?_
                refine r_istore (L2 := [_, _, _, _, _, _, _, _, none, none, none, none, none]) dX11_parted_124 (nlt rfl) rfl ?_
                refine r_iconst (z := 1) dX11_parted_126 ?_
                refine r_istore (L2 := [_, _, _, _, _, _, _, _, _, none, none, none, none]) dX11_parted_127 (nlt rfl) rfl ?_
                refine r_iconst (z := 1) dX11_parted_129 ?_
                refine r_istore (L2 := [_, _, _, _, _, _, _, _, _, _, none, none, none]) dX11_parted_130 (nlt rfl) rfl ?_
                have hlL := lv_law (k := k) (c := c) (lf := lf0) hC0 hl0 hk6 (fun t a b => by rw [← hpp]; exact hlt t a (by omega)) hpn
                have hLP := LP0_spec hpn (k := k) (c := c) hk6 hC0
                have hPH0 : PH hpn (LP0 hpn k c) 1 k (lvP hpn lf0 k) 0 0 0 := ⟨[], (LP0 hpn k c), List.Perm.refl _, resL.nil, by rw [hlL]; exact hLP.2, fun x hx => absurd hx List.not_mem_nil, fun x hx => absurd hx List.not_mem_nil, Or.inl hLP.1⟩
                have lp132 : ∀ (fu132 : Nat) (lf : Nat → Int) (tr : Nat → Int) (wk : Nat → Int) (dg1 : Int) (many : Int) (un : Int) (gr : Int) (pw : Int) (di : Int), (6 - di) < (fu132 : Int) → (PV pp (k : Int) lf dg1 many un gr) → (1 ≤ di) → (di ≤ 5) → (pw = ((pn ^ (di.toNat - 1) : Nat) : Int)) → (PH hpn (LP0 hpn k c) di.toNat dg1.toNat (lvP hpn lf dg1.toNat) many.toNat gr.toNat un.toNat) → G X RX11 cX11_parted mX11_parted.rm N 0 0 132 [some (.ref (124)), none, some (.int (iZ (pp))), some (.int (iZ (w))), none, some (.int (iZ (many))), some (.int (iZ (un))), some (.int (iZ (gr))), some (.int (iZ (pw))), some (.int (iZ (di))), none, none, none] [] (hs (hs (hs (hs h (124) (MOo ((ln : Int)) (p) ((sz : Int)) (at_) (wr) (va) (em) (ta) (ro) (dg1))) (143) (aL 7 (lf))) (144) (aL 4 (tr))) (145) (aL 7 (wk))) := by
                  intro fu132
                  induction fu132 with
                  | zero => intro lf tr wk dg1 many un gr pw di hm hPV di1 di5 hpw hPH; exfalso; omega
                  | succ fu132 ih132 =>
                    intro lf tr wk dg1 many un gr pw di hms132 hPV di1 di5 hpw hPH
                    obtain ⟨v1, v2, v3, v4, v5, v6, v7, v8, v9⟩ := id hPV
                    refine r_iconst (z := 2) dX11_parted_132 ?_
                    refine r_iload dX11_parted_133 rfl ?_
                    refine r_imul dX11_parted_135 ?_
                    refine r_aload_n dX11_parted_136 rfl rfl ?_
                    refine gf_X11_292 dX11_parted_137 (by omega) ((hs_n (by omega)).trans ((hs_n (by omega)).trans ((hs_n (by omega)).trans hs_e))) rfl ?_
                    refine r_icmp_gt 276 dX11_parted_140 (by decide) ⟨by omega, by omega⟩ ⟨by omega, by omega⟩ (fun c_140 => ?_) (fun c_140 => ?_)
                    · obtain ⟨v1, v2, v3, v4, v5, v6, v7, v8, v9⟩ := id hPV
                      have hls := lvP_sz hpn (f := lf) (D := dg1.toNat) (fun i9 h9 => by rw [← hpp]; exact v9 i9 h9) v8
                      have hfin := hPH.fin hls (by omega) (by omega)
                      refine r_aload_n dX11_parted_276 rfl rfl ?_
                      refine gf_X11_292 dX11_parted_277 (by omega) ((hs_n (by omega)).trans ((hs_n (by omega)).trans ((hs_n (by omega)).trans hs_e))) rfl ?_
                      refine r_if_le 309 dX11_parted_280 (by decide) ⟨by omega, by omega⟩ (fun c_280 => ?_) (fun c_280 => ?_)
                      · refine r_iload_n dX11_parted_309 rfl rfl ?_
                        refine r_if_ne 318 dX11_parted_310 (by decide) hw (fun c_310 => ?_) (fun c_310 => ?_)
                        · refine r_iload_n dX11_parted_318 rfl rfl ?_
                          refine r_iconst (z := 1) dX11_parted_319 ?_
                          refine r_icmp_ne 328 dX11_parted_320 (by decide) hw ⟨by decide, by decide⟩ (fun c_320 => ?_) (fun c_320 => ?_)
                          · refine r_iload dX11_parted_328 rfl ?_
                            refine r_ireturn hq dX11_parted_330 rfl rfl rfl ?_
                            refine hQ _ _ (Or.inr ⟨by omega, by omega, hpr, by omega, by omega, Or.inr ⟨by rw [← ek, ← ec]; exact fun w9 => c_54 (by rw [e49]; exact htmc.mpr w9), pn, hpn, hpp, _, _, _, by rw [← ek, ← ec]; exact hfin.1 (by omega), ?_⟩⟩) ⟨_, _, _, _, _, _, _, _, _, _, _, _, _, _, _, _, _, _, _, _, _, _, _, _, _, _, ((hs_n (by omega)).trans ((hs_n (by omega)).trans ((hs_n (by omega)).trans hs_e))), ((hs_n (by omega)).trans ((hs_n (by omega)).trans ((hs_n (by omega)).trans ((hs_n (by omega)).trans hom)))), ((hs_n (by omega)).trans ((hs_n (by omega)).trans ((hs_n (by omega)).trans ((hs_n (by omega)).trans hml)))), ((hs_n (by omega)).trans ((hs_n (by omega)).trans ((hs_n (by omega)).trans ((hs_n (by omega)).trans hms)))), ((hs_n (by omega)).trans ((hs_n (by omega)).trans ((hs_n (by omega)).trans ((hs_n (by omega)).trans hbt)))), ((hs_n (by omega)).trans ((hs_n (by omega)).trans ((hs_n (by omega)).trans ((hs_n (by omega)).trans hnv)))), ((hs_n (by omega)).trans ((hs_n (by omega)).trans ((hs_n (by omega)).trans ((hs_n (by omega)).trans h130)))), ((hs_n (by omega)).trans ((hs_n (by omega)).trans ((hs_n (by omega)).trans ((hs_n (by omega)).trans h131)))), ((hs_n (by omega)).trans ((hs_n (by omega)).trans ((hs_n (by omega)).trans ((hs_n (by omega)).trans h132)))), ((hs_n (by omega)).trans ((hs_n (by omega)).trans ((hs_n (by omega)).trans ((hs_n (by omega)).trans h133)))), ((hs_n (by omega)).trans ((hs_n (by omega)).trans ((hs_n (by omega)).trans ((hs_n (by omega)).trans h134)))), ((hs_n (by omega)).trans ((hs_n (by omega)).trans ((hs_n (by omega)).trans ((hs_n (by omega)).trans h135)))), ((hs_n (by omega)).trans ((hs_n (by omega)).trans ((hs_n (by omega)).trans ((hs_n (by omega)).trans h136)))), ((hs_n (by omega)).trans ((hs_n (by omega)).trans ((hs_n (by omega)).trans ((hs_n (by omega)).trans h137)))), ((hs_n (by omega)).trans ((hs_n (by omega)).trans ((hs_n (by omega)).trans ((hs_n (by omega)).trans h138)))), ((hs_n (by omega)).trans ((hs_n (by omega)).trans ((hs_n (by omega)).trans ((hs_n (by omega)).trans h139)))), ((hs_n (by omega)).trans ((hs_n (by omega)).trans ((hs_n (by omega)).trans ((hs_n (by omega)).trans h140)))), ((hs_n (by omega)).trans ((hs_n (by omega)).trans ((hs_n (by omega)).trans ((hs_n (by omega)).trans h141)))), ((hs_n (by omega)).trans ((hs_n (by omega)).trans ((hs_n (by omega)).trans ((hs_n (by omega)).trans h142)))), ((hs_n (by omega)).trans ((hs_n (by omega)).trans hs_e)), ((hs_n (by omega)).trans hs_e), hs_e, hMR, hlN, hbb, hPr, hs40, hvb⟩ (fun a9 h9 => ((hs_n (by omega)).trans ((hs_n (by omega)).trans ((hs_n (by omega)).trans ((hs_n (by omega)).trans rfl)))))
                            rw [if_neg (by omega), if_neg (by omega)]; omega
                          · refine r_iload dX11_parted_323 rfl ?_
                            refine r_goto 330 dX11_parted_325 (by decide) ?_
                            refine r_ireturn hq dX11_parted_330 rfl rfl rfl ?_
                            refine hQ _ _ (Or.inr ⟨by omega, by omega, hpr, by omega, by omega, Or.inr ⟨by rw [← ek, ← ec]; exact fun w9 => c_54 (by rw [e49]; exact htmc.mpr w9), pn, hpn, hpp, _, _, _, by rw [← ek, ← ec]; exact hfin.1 (by omega), ?_⟩⟩) ⟨_, _, _, _, _, _, _, _, _, _, _, _, _, _, _, _, _, _, _, _, _, _, _, _, _, _, ((hs_n (by omega)).trans ((hs_n (by omega)).trans ((hs_n (by omega)).trans hs_e))), ((hs_n (by omega)).trans ((hs_n (by omega)).trans ((hs_n (by omega)).trans ((hs_n (by omega)).trans hom)))), ((hs_n (by omega)).trans ((hs_n (by omega)).trans ((hs_n (by omega)).trans ((hs_n (by omega)).trans hml)))), ((hs_n (by omega)).trans ((hs_n (by omega)).trans ((hs_n (by omega)).trans ((hs_n (by omega)).trans hms)))), ((hs_n (by omega)).trans ((hs_n (by omega)).trans ((hs_n (by omega)).trans ((hs_n (by omega)).trans hbt)))), ((hs_n (by omega)).trans ((hs_n (by omega)).trans ((hs_n (by omega)).trans ((hs_n (by omega)).trans hnv)))), ((hs_n (by omega)).trans ((hs_n (by omega)).trans ((hs_n (by omega)).trans ((hs_n (by omega)).trans h130)))), ((hs_n (by omega)).trans ((hs_n (by omega)).trans ((hs_n (by omega)).trans ((hs_n (by omega)).trans h131)))), ((hs_n (by omega)).trans ((hs_n (by omega)).trans ((hs_n (by omega)).trans ((hs_n (by omega)).trans h132)))), ((hs_n (by omega)).trans ((hs_n (by omega)).trans ((hs_n (by omega)).trans ((hs_n (by omega)).trans h133)))), ((hs_n (by omega)).trans ((hs_n (by omega)).trans ((hs_n (by omega)).trans ((hs_n (by omega)).trans h134)))), ((hs_n (by omega)).trans ((hs_n (by omega)).trans ((hs_n (by omega)).trans ((hs_n (by omega)).trans h135)))), ((hs_n (by omega)).trans ((hs_n (by omega)).trans ((hs_n (by omega)).trans ((hs_n (by omega)).trans h136)))), ((hs_n (by omega)).trans ((hs_n (by omega)).trans ((hs_n (by omega)).trans ((hs_n (by omega)).trans h137)))), ((hs_n (by omega)).trans ((hs_n (by omega)).trans ((hs_n (by omega)).trans ((hs_n (by omega)).trans h138)))), ((hs_n (by omega)).trans ((hs_n (by omega)).trans ((hs_n (by omega)).trans ((hs_n (by omega)).trans h139)))), ((hs_n (by omega)).trans ((hs_n (by omega)).trans ((hs_n (by omega)).trans ((hs_n (by omega)).trans h140)))), ((hs_n (by omega)).trans ((hs_n (by omega)).trans ((hs_n (by omega)).trans ((hs_n (by omega)).trans h141)))), ((hs_n (by omega)).trans ((hs_n (by omega)).trans ((hs_n (by omega)).trans ((hs_n (by omega)).trans h142)))), ((hs_n (by omega)).trans ((hs_n (by omega)).trans hs_e)), ((hs_n (by omega)).trans hs_e), hs_e, hMR, hlN, hbb, hPr, hs40, hvb⟩ (fun a9 h9 => ((hs_n (by omega)).trans ((hs_n (by omega)).trans ((hs_n (by omega)).trans ((hs_n (by omega)).trans rfl)))))
                            rw [if_neg (by omega), if_pos (by omega)]; omega
                        · refine r_iload dX11_parted_313 rfl ?_
                          refine r_goto 330 dX11_parted_315 (by decide) ?_
                          refine r_ireturn hq dX11_parted_330 rfl rfl rfl ?_
                          refine hQ _ _ (Or.inr ⟨by omega, by omega, hpr, by omega, by omega, Or.inr ⟨by rw [← ek, ← ec]; exact fun w9 => c_54 (by rw [e49]; exact htmc.mpr w9), pn, hpn, hpp, _, _, _, by rw [← ek, ← ec]; exact hfin.1 (by omega), ?_⟩⟩) ⟨_, _, _, _, _, _, _, _, _, _, _, _, _, _, _, _, _, _, _, _, _, _, _, _, _, _, ((hs_n (by omega)).trans ((hs_n (by omega)).trans ((hs_n (by omega)).trans hs_e))), ((hs_n (by omega)).trans ((hs_n (by omega)).trans ((hs_n (by omega)).trans ((hs_n (by omega)).trans hom)))), ((hs_n (by omega)).trans ((hs_n (by omega)).trans ((hs_n (by omega)).trans ((hs_n (by omega)).trans hml)))), ((hs_n (by omega)).trans ((hs_n (by omega)).trans ((hs_n (by omega)).trans ((hs_n (by omega)).trans hms)))), ((hs_n (by omega)).trans ((hs_n (by omega)).trans ((hs_n (by omega)).trans ((hs_n (by omega)).trans hbt)))), ((hs_n (by omega)).trans ((hs_n (by omega)).trans ((hs_n (by omega)).trans ((hs_n (by omega)).trans hnv)))), ((hs_n (by omega)).trans ((hs_n (by omega)).trans ((hs_n (by omega)).trans ((hs_n (by omega)).trans h130)))), ((hs_n (by omega)).trans ((hs_n (by omega)).trans ((hs_n (by omega)).trans ((hs_n (by omega)).trans h131)))), ((hs_n (by omega)).trans ((hs_n (by omega)).trans ((hs_n (by omega)).trans ((hs_n (by omega)).trans h132)))), ((hs_n (by omega)).trans ((hs_n (by omega)).trans ((hs_n (by omega)).trans ((hs_n (by omega)).trans h133)))), ((hs_n (by omega)).trans ((hs_n (by omega)).trans ((hs_n (by omega)).trans ((hs_n (by omega)).trans h134)))), ((hs_n (by omega)).trans ((hs_n (by omega)).trans ((hs_n (by omega)).trans ((hs_n (by omega)).trans h135)))), ((hs_n (by omega)).trans ((hs_n (by omega)).trans ((hs_n (by omega)).trans ((hs_n (by omega)).trans h136)))), ((hs_n (by omega)).trans ((hs_n (by omega)).trans ((hs_n (by omega)).trans ((hs_n (by omega)).trans h137)))), ((hs_n (by omega)).trans ((hs_n (by omega)).trans ((hs_n (by omega)).trans ((hs_n (by omega)).trans h138)))), ((hs_n (by omega)).trans ((hs_n (by omega)).trans ((hs_n (by omega)).trans ((hs_n (by omega)).trans h139)))), ((hs_n (by omega)).trans ((hs_n (by omega)).trans ((hs_n (by omega)).trans ((hs_n (by omega)).trans h140)))), ((hs_n (by omega)).trans ((hs_n (by omega)).trans ((hs_n (by omega)).trans ((hs_n (by omega)).trans h141)))), ((hs_n (by omega)).trans ((hs_n (by omega)).trans ((hs_n (by omega)).trans ((hs_n (by omega)).trans h142)))), ((hs_n (by omega)).trans ((hs_n (by omega)).trans hs_e)), ((hs_n (by omega)).trans hs_e), hs_e, hMR, hlN, hbb, hPr, hs40, hvb⟩ (fun a9 h9 => ((hs_n (by omega)).trans ((hs_n (by omega)).trans ((hs_n (by omega)).trans ((hs_n (by omega)).trans rfl)))))
                          rw [if_pos (by omega)]; omega
                      · refine r_iinc (L2 := [_, none, _, _, none, _, _, _, _, _, none, none, none]) dX11_parted_283 (nlt rfl) rfl rfl ?_
                        refine r_iinc (L2 := [_, none, _, _, none, _, _, _, _, _, none, none, none]) dX11_parted_286 (nlt rfl) rfl rfl ?_
                        refine r_aload_n dX11_parted_289 rfl rfl ?_
                        refine gf_X11_292 dX11_parted_290 (by omega) ((hs_n (by omega)).trans ((hs_n (by omega)).trans ((hs_n (by omega)).trans hs_e))) rfl ?_
                        refine r_iload dX11_parted_293 rfl ?_
                        refine r_icmp_le 305 dX11_parted_295 (by decide) ⟨by omega, by omega⟩ ⟨by omega, by omega⟩ (fun c_295 => ?_) (fun c_295 => ?_)
                        · refine r_iload dX11_parted_305 rfl ?_
                          refine r_istore (L2 := [_, none, _, _, none, _, _, _, _, _, none, none, none]) dX11_parted_307 (nlt rfl) rfl ?_
                          refine r_iload_n dX11_parted_309 rfl rfl ?_
                          refine r_if_ne 318 dX11_parted_310 (by decide) hw (fun c_310 => ?_) (fun c_310 => ?_)
                          · refine r_iload_n dX11_parted_318 rfl rfl ?_
                            refine r_iconst (z := 1) dX11_parted_319 ?_
                            refine r_icmp_ne 328 dX11_parted_320 (by decide) hw ⟨by decide, by decide⟩ (fun c_320 => ?_) (fun c_320 => ?_)
                            · refine r_iload dX11_parted_328 rfl ?_
                              refine r_ireturn hq dX11_parted_330 rfl rfl rfl ?_
                              refine hQ _ _ (Or.inr ⟨by omega, by omega, hpr, by omega, by omega, Or.inr ⟨by rw [← ek, ← ec]; exact fun w9 => c_54 (by rw [e49]; exact htmc.mpr w9), pn, hpn, hpp, _, _, _, by rw [← ek, ← ec]; exact hfin.2 (by omega), ?_⟩⟩) ⟨_, _, _, _, _, _, _, _, _, _, _, _, _, _, _, _, _, _, _, _, _, _, _, _, _, _, ((hs_n (by omega)).trans ((hs_n (by omega)).trans ((hs_n (by omega)).trans hs_e))), ((hs_n (by omega)).trans ((hs_n (by omega)).trans ((hs_n (by omega)).trans ((hs_n (by omega)).trans hom)))), ((hs_n (by omega)).trans ((hs_n (by omega)).trans ((hs_n (by omega)).trans ((hs_n (by omega)).trans hml)))), ((hs_n (by omega)).trans ((hs_n (by omega)).trans ((hs_n (by omega)).trans ((hs_n (by omega)).trans hms)))), ((hs_n (by omega)).trans ((hs_n (by omega)).trans ((hs_n (by omega)).trans ((hs_n (by omega)).trans hbt)))), ((hs_n (by omega)).trans ((hs_n (by omega)).trans ((hs_n (by omega)).trans ((hs_n (by omega)).trans hnv)))), ((hs_n (by omega)).trans ((hs_n (by omega)).trans ((hs_n (by omega)).trans ((hs_n (by omega)).trans h130)))), ((hs_n (by omega)).trans ((hs_n (by omega)).trans ((hs_n (by omega)).trans ((hs_n (by omega)).trans h131)))), ((hs_n (by omega)).trans ((hs_n (by omega)).trans ((hs_n (by omega)).trans ((hs_n (by omega)).trans h132)))), ((hs_n (by omega)).trans ((hs_n (by omega)).trans ((hs_n (by omega)).trans ((hs_n (by omega)).trans h133)))), ((hs_n (by omega)).trans ((hs_n (by omega)).trans ((hs_n (by omega)).trans ((hs_n (by omega)).trans h134)))), ((hs_n (by omega)).trans ((hs_n (by omega)).trans ((hs_n (by omega)).trans ((hs_n (by omega)).trans h135)))), ((hs_n (by omega)).trans ((hs_n (by omega)).trans ((hs_n (by omega)).trans ((hs_n (by omega)).trans h136)))), ((hs_n (by omega)).trans ((hs_n (by omega)).trans ((hs_n (by omega)).trans ((hs_n (by omega)).trans h137)))), ((hs_n (by omega)).trans ((hs_n (by omega)).trans ((hs_n (by omega)).trans ((hs_n (by omega)).trans h138)))), ((hs_n (by omega)).trans ((hs_n (by omega)).trans ((hs_n (by omega)).trans ((hs_n (by omega)).trans h139)))), ((hs_n (by omega)).trans ((hs_n (by omega)).trans ((hs_n (by omega)).trans ((hs_n (by omega)).trans h140)))), ((hs_n (by omega)).trans ((hs_n (by omega)).trans ((hs_n (by omega)).trans ((hs_n (by omega)).trans h141)))), ((hs_n (by omega)).trans ((hs_n (by omega)).trans ((hs_n (by omega)).trans ((hs_n (by omega)).trans h142)))), ((hs_n (by omega)).trans ((hs_n (by omega)).trans hs_e)), ((hs_n (by omega)).trans hs_e), hs_e, hMR, hlN, hbb, hPr, hs40, hvb⟩ (fun a9 h9 => ((hs_n (by omega)).trans ((hs_n (by omega)).trans ((hs_n (by omega)).trans ((hs_n (by omega)).trans rfl)))))
                              rw [if_neg (by omega), if_neg (by omega)]; omega
                            · refine r_iload dX11_parted_323 rfl ?_
                              refine r_goto 330 dX11_parted_325 (by decide) ?_
                              refine r_ireturn hq dX11_parted_330 rfl rfl rfl ?_
                              refine hQ _ _ (Or.inr ⟨by omega, by omega, hpr, by omega, by omega, Or.inr ⟨by rw [← ek, ← ec]; exact fun w9 => c_54 (by rw [e49]; exact htmc.mpr w9), pn, hpn, hpp, _, _, _, by rw [← ek, ← ec]; exact hfin.2 (by omega), ?_⟩⟩) ⟨_, _, _, _, _, _, _, _, _, _, _, _, _, _, _, _, _, _, _, _, _, _, _, _, _, _, ((hs_n (by omega)).trans ((hs_n (by omega)).trans ((hs_n (by omega)).trans hs_e))), ((hs_n (by omega)).trans ((hs_n (by omega)).trans ((hs_n (by omega)).trans ((hs_n (by omega)).trans hom)))), ((hs_n (by omega)).trans ((hs_n (by omega)).trans ((hs_n (by omega)).trans ((hs_n (by omega)).trans hml)))), ((hs_n (by omega)).trans ((hs_n (by omega)).trans ((hs_n (by omega)).trans ((hs_n (by omega)).trans hms)))), ((hs_n (by omega)).trans ((hs_n (by omega)).trans ((hs_n (by omega)).trans ((hs_n (by omega)).trans hbt)))), ((hs_n (by omega)).trans ((hs_n (by omega)).trans ((hs_n (by omega)).trans ((hs_n (by omega)).trans hnv)))), ((hs_n (by omega)).trans ((hs_n (by omega)).trans ((hs_n (by omega)).trans ((hs_n (by omega)).trans h130)))), ((hs_n (by omega)).trans ((hs_n (by omega)).trans ((hs_n (by omega)).trans ((hs_n (by omega)).trans h131)))), ((hs_n (by omega)).trans ((hs_n (by omega)).trans ((hs_n (by omega)).trans ((hs_n (by omega)).trans h132)))), ((hs_n (by omega)).trans ((hs_n (by omega)).trans ((hs_n (by omega)).trans ((hs_n (by omega)).trans h133)))), ((hs_n (by omega)).trans ((hs_n (by omega)).trans ((hs_n (by omega)).trans ((hs_n (by omega)).trans h134)))), ((hs_n (by omega)).trans ((hs_n (by omega)).trans ((hs_n (by omega)).trans ((hs_n (by omega)).trans h135)))), ((hs_n (by omega)).trans ((hs_n (by omega)).trans ((hs_n (by omega)).trans ((hs_n (by omega)).trans h136)))), ((hs_n (by omega)).trans ((hs_n (by omega)).trans ((hs_n (by omega)).trans ((hs_n (by omega)).trans h137)))), ((hs_n (by omega)).trans ((hs_n (by omega)).trans ((hs_n (by omega)).trans ((hs_n (by omega)).trans h138)))), ((hs_n (by omega)).trans ((hs_n (by omega)).trans ((hs_n (by omega)).trans ((hs_n (by omega)).trans h139)))), ((hs_n (by omega)).trans ((hs_n (by omega)).trans ((hs_n (by omega)).trans ((hs_n (by omega)).trans h140)))), ((hs_n (by omega)).trans ((hs_n (by omega)).trans ((hs_n (by omega)).trans ((hs_n (by omega)).trans h141)))), ((hs_n (by omega)).trans ((hs_n (by omega)).trans ((hs_n (by omega)).trans ((hs_n (by omega)).trans h142)))), ((hs_n (by omega)).trans ((hs_n (by omega)).trans hs_e)), ((hs_n (by omega)).trans hs_e), hs_e, hMR, hlN, hbb, hPr, hs40, hvb⟩ (fun a9 h9 => ((hs_n (by omega)).trans ((hs_n (by omega)).trans ((hs_n (by omega)).trans ((hs_n (by omega)).trans rfl)))))
                              rw [if_neg (by omega), if_pos (by omega)]; omega
                          · refine r_iload dX11_parted_313 rfl ?_
                            refine r_goto 330 dX11_parted_315 (by decide) ?_
                            refine r_ireturn hq dX11_parted_330 rfl rfl rfl ?_
                            refine hQ _ _ (Or.inr ⟨by omega, by omega, hpr, by omega, by omega, Or.inr ⟨by rw [← ek, ← ec]; exact fun w9 => c_54 (by rw [e49]; exact htmc.mpr w9), pn, hpn, hpp, _, _, _, by rw [← ek, ← ec]; exact hfin.2 (by omega), ?_⟩⟩) ⟨_, _, _, _, _, _, _, _, _, _, _, _, _, _, _, _, _, _, _, _, _, _, _, _, _, _, ((hs_n (by omega)).trans ((hs_n (by omega)).trans ((hs_n (by omega)).trans hs_e))), ((hs_n (by omega)).trans ((hs_n (by omega)).trans ((hs_n (by omega)).trans ((hs_n (by omega)).trans hom)))), ((hs_n (by omega)).trans ((hs_n (by omega)).trans ((hs_n (by omega)).trans ((hs_n (by omega)).trans hml)))), ((hs_n (by omega)).trans ((hs_n (by omega)).trans ((hs_n (by omega)).trans ((hs_n (by omega)).trans hms)))), ((hs_n (by omega)).trans ((hs_n (by omega)).trans ((hs_n (by omega)).trans ((hs_n (by omega)).trans hbt)))), ((hs_n (by omega)).trans ((hs_n (by omega)).trans ((hs_n (by omega)).trans ((hs_n (by omega)).trans hnv)))), ((hs_n (by omega)).trans ((hs_n (by omega)).trans ((hs_n (by omega)).trans ((hs_n (by omega)).trans h130)))), ((hs_n (by omega)).trans ((hs_n (by omega)).trans ((hs_n (by omega)).trans ((hs_n (by omega)).trans h131)))), ((hs_n (by omega)).trans ((hs_n (by omega)).trans ((hs_n (by omega)).trans ((hs_n (by omega)).trans h132)))), ((hs_n (by omega)).trans ((hs_n (by omega)).trans ((hs_n (by omega)).trans ((hs_n (by omega)).trans h133)))), ((hs_n (by omega)).trans ((hs_n (by omega)).trans ((hs_n (by omega)).trans ((hs_n (by omega)).trans h134)))), ((hs_n (by omega)).trans ((hs_n (by omega)).trans ((hs_n (by omega)).trans ((hs_n (by omega)).trans h135)))), ((hs_n (by omega)).trans ((hs_n (by omega)).trans ((hs_n (by omega)).trans ((hs_n (by omega)).trans h136)))), ((hs_n (by omega)).trans ((hs_n (by omega)).trans ((hs_n (by omega)).trans ((hs_n (by omega)).trans h137)))), ((hs_n (by omega)).trans ((hs_n (by omega)).trans ((hs_n (by omega)).trans ((hs_n (by omega)).trans h138)))), ((hs_n (by omega)).trans ((hs_n (by omega)).trans ((hs_n (by omega)).trans ((hs_n (by omega)).trans h139)))), ((hs_n (by omega)).trans ((hs_n (by omega)).trans ((hs_n (by omega)).trans ((hs_n (by omega)).trans h140)))), ((hs_n (by omega)).trans ((hs_n (by omega)).trans ((hs_n (by omega)).trans ((hs_n (by omega)).trans h141)))), ((hs_n (by omega)).trans ((hs_n (by omega)).trans ((hs_n (by omega)).trans ((hs_n (by omega)).trans h142)))), ((hs_n (by omega)).trans ((hs_n (by omega)).trans hs_e)), ((hs_n (by omega)).trans hs_e), hs_e, hMR, hlN, hbb, hPr, hs40, hvb⟩ (fun a9 h9 => ((hs_n (by omega)).trans ((hs_n (by omega)).trans ((hs_n (by omega)).trans ((hs_n (by omega)).trans rfl)))))
                            rw [if_pos (by omega)]; omega
                        · refine r_aload_n dX11_parted_298 rfl rfl ?_
                          refine gf_X11_292 dX11_parted_299 (by omega) ((hs_n (by omega)).trans ((hs_n (by omega)).trans ((hs_n (by omega)).trans hs_e))) rfl ?_
                          refine r_goto 307 dX11_parted_302 (by decide) ?_
                          refine r_istore (L2 := [_, none, _, _, none, _, _, _, _, _, none, none, none]) dX11_parted_307 (nlt rfl) rfl ?_
                          refine r_iload_n dX11_parted_309 rfl rfl ?_
                          refine r_if_ne 318 dX11_parted_310 (by decide) hw (fun c_310 => ?_) (fun c_310 => ?_)
                          · refine r_iload_n dX11_parted_318 rfl rfl ?_
                            refine r_iconst (z := 1) dX11_parted_319 ?_
                            refine r_icmp_ne 328 dX11_parted_320 (by decide) hw ⟨by decide, by decide⟩ (fun c_320 => ?_) (fun c_320 => ?_)
                            · refine r_iload dX11_parted_328 rfl ?_
                              refine r_ireturn hq dX11_parted_330 rfl rfl rfl ?_
                              refine hQ _ _ (Or.inr ⟨by omega, by omega, hpr, by omega, by omega, Or.inr ⟨by rw [← ek, ← ec]; exact fun w9 => c_54 (by rw [e49]; exact htmc.mpr w9), pn, hpn, hpp, _, _, _, by rw [← ek, ← ec]; exact hfin.2 (by omega), ?_⟩⟩) ⟨_, _, _, _, _, _, _, _, _, _, _, _, _, _, _, _, _, _, _, _, _, _, _, _, _, _, ((hs_n (by omega)).trans ((hs_n (by omega)).trans ((hs_n (by omega)).trans hs_e))), ((hs_n (by omega)).trans ((hs_n (by omega)).trans ((hs_n (by omega)).trans ((hs_n (by omega)).trans hom)))), ((hs_n (by omega)).trans ((hs_n (by omega)).trans ((hs_n (by omega)).trans ((hs_n (by omega)).trans hml)))), ((hs_n (by omega)).trans ((hs_n (by omega)).trans ((hs_n (by omega)).trans ((hs_n (by omega)).trans hms)))), ((hs_n (by omega)).trans ((hs_n (by omega)).trans ((hs_n (by omega)).trans ((hs_n (by omega)).trans hbt)))), ((hs_n (by omega)).trans ((hs_n (by omega)).trans ((hs_n (by omega)).trans ((hs_n (by omega)).trans hnv)))), ((hs_n (by omega)).trans ((hs_n (by omega)).trans ((hs_n (by omega)).trans ((hs_n (by omega)).trans h130)))), ((hs_n (by omega)).trans ((hs_n (by omega)).trans ((hs_n (by omega)).trans ((hs_n (by omega)).trans h131)))), ((hs_n (by omega)).trans ((hs_n (by omega)).trans ((hs_n (by omega)).trans ((hs_n (by omega)).trans h132)))), ((hs_n (by omega)).trans ((hs_n (by omega)).trans ((hs_n (by omega)).trans ((hs_n (by omega)).trans h133)))), ((hs_n (by omega)).trans ((hs_n (by omega)).trans ((hs_n (by omega)).trans ((hs_n (by omega)).trans h134)))), ((hs_n (by omega)).trans ((hs_n (by omega)).trans ((hs_n (by omega)).trans ((hs_n (by omega)).trans h135)))), ((hs_n (by omega)).trans ((hs_n (by omega)).trans ((hs_n (by omega)).trans ((hs_n (by omega)).trans h136)))), ((hs_n (by omega)).trans ((hs_n (by omega)).trans ((hs_n (by omega)).trans ((hs_n (by omega)).trans h137)))), ((hs_n (by omega)).trans ((hs_n (by omega)).trans ((hs_n (by omega)).trans ((hs_n (by omega)).trans h138)))), ((hs_n (by omega)).trans ((hs_n (by omega)).trans ((hs_n (by omega)).trans ((hs_n (by omega)).trans h139)))), ((hs_n (by omega)).trans ((hs_n (by omega)).trans ((hs_n (by omega)).trans ((hs_n (by omega)).trans h140)))), ((hs_n (by omega)).trans ((hs_n (by omega)).trans ((hs_n (by omega)).trans ((hs_n (by omega)).trans h141)))), ((hs_n (by omega)).trans ((hs_n (by omega)).trans ((hs_n (by omega)).trans ((hs_n (by omega)).trans h142)))), ((hs_n (by omega)).trans ((hs_n (by omega)).trans hs_e)), ((hs_n (by omega)).trans hs_e), hs_e, hMR, hlN, hbb, hPr, hs40, hvb⟩ (fun a9 h9 => ((hs_n (by omega)).trans ((hs_n (by omega)).trans ((hs_n (by omega)).trans ((hs_n (by omega)).trans rfl)))))
                              rw [if_neg (by omega), if_neg (by omega)]; omega
                            · refine r_iload dX11_parted_323 rfl ?_
                              refine r_goto 330 dX11_parted_325 (by decide) ?_
                              refine r_ireturn hq dX11_parted_330 rfl rfl rfl ?_
                              refine hQ _ _ (Or.inr ⟨by omega, by omega, hpr, by omega, by omega, Or.inr ⟨by rw [← ek, ← ec]; exact fun w9 => c_54 (by rw [e49]; exact htmc.mpr w9), pn, hpn, hpp, _, _, _, by rw [← ek, ← ec]; exact hfin.2 (by omega), ?_⟩⟩) ⟨_, _, _, _, _, _, _, _, _, _, _, _, _, _, _, _, _, _, _, _, _, _, _, _, _, _, ((hs_n (by omega)).trans ((hs_n (by omega)).trans ((hs_n (by omega)).trans hs_e))), ((hs_n (by omega)).trans ((hs_n (by omega)).trans ((hs_n (by omega)).trans ((hs_n (by omega)).trans hom)))), ((hs_n (by omega)).trans ((hs_n (by omega)).trans ((hs_n (by omega)).trans ((hs_n (by omega)).trans hml)))), ((hs_n (by omega)).trans ((hs_n (by omega)).trans ((hs_n (by omega)).trans ((hs_n (by omega)).trans hms)))), ((hs_n (by omega)).trans ((hs_n (by omega)).trans ((hs_n (by omega)).trans ((hs_n (by omega)).trans hbt)))), ((hs_n (by omega)).trans ((hs_n (by omega)).trans ((hs_n (by omega)).trans ((hs_n (by omega)).trans hnv)))), ((hs_n (by omega)).trans ((hs_n (by omega)).trans ((hs_n (by omega)).trans ((hs_n (by omega)).trans h130)))), ((hs_n (by omega)).trans ((hs_n (by omega)).trans ((hs_n (by omega)).trans ((hs_n (by omega)).trans h131)))), ((hs_n (by omega)).trans ((hs_n (by omega)).trans ((hs_n (by omega)).trans ((hs_n (by omega)).trans h132)))), ((hs_n (by omega)).trans ((hs_n (by omega)).trans ((hs_n (by omega)).trans ((hs_n (by omega)).trans h133)))), ((hs_n (by omega)).trans ((hs_n (by omega)).trans ((hs_n (by omega)).trans ((hs_n (by omega)).trans h134)))), ((hs_n (by omega)).trans ((hs_n (by omega)).trans ((hs_n (by omega)).trans ((hs_n (by omega)).trans h135)))), ((hs_n (by omega)).trans ((hs_n (by omega)).trans ((hs_n (by omega)).trans ((hs_n (by omega)).trans h136)))), ((hs_n (by omega)).trans ((hs_n (by omega)).trans ((hs_n (by omega)).trans ((hs_n (by omega)).trans h137)))), ((hs_n (by omega)).trans ((hs_n (by omega)).trans ((hs_n (by omega)).trans ((hs_n (by omega)).trans h138)))), ((hs_n (by omega)).trans ((hs_n (by omega)).trans ((hs_n (by omega)).trans ((hs_n (by omega)).trans h139)))), ((hs_n (by omega)).trans ((hs_n (by omega)).trans ((hs_n (by omega)).trans ((hs_n (by omega)).trans h140)))), ((hs_n (by omega)).trans ((hs_n (by omega)).trans ((hs_n (by omega)).trans ((hs_n (by omega)).trans h141)))), ((hs_n (by omega)).trans ((hs_n (by omega)).trans ((hs_n (by omega)).trans ((hs_n (by omega)).trans h142)))), ((hs_n (by omega)).trans ((hs_n (by omega)).trans hs_e)), ((hs_n (by omega)).trans hs_e), hs_e, hMR, hlN, hbb, hPr, hs40, hvb⟩ (fun a9 h9 => ((hs_n (by omega)).trans ((hs_n (by omega)).trans ((hs_n (by omega)).trans ((hs_n (by omega)).trans rfl)))))
                              rw [if_neg (by omega), if_pos (by omega)]; omega
                          · refine r_iload dX11_parted_313 rfl ?_
                            refine r_goto 330 dX11_parted_315 (by decide) ?_
                            refine r_ireturn hq dX11_parted_330 rfl rfl rfl ?_
                            refine hQ _ _ (Or.inr ⟨by omega, by omega, hpr, by omega, by omega, Or.inr ⟨by rw [← ek, ← ec]; exact fun w9 => c_54 (by rw [e49]; exact htmc.mpr w9), pn, hpn, hpp, _, _, _, by rw [← ek, ← ec]; exact hfin.2 (by omega), ?_⟩⟩) ⟨_, _, _, _, _, _, _, _, _, _, _, _, _, _, _, _, _, _, _, _, _, _, _, _, _, _, ((hs_n (by omega)).trans ((hs_n (by omega)).trans ((hs_n (by omega)).trans hs_e))), ((hs_n (by omega)).trans ((hs_n (by omega)).trans ((hs_n (by omega)).trans ((hs_n (by omega)).trans hom)))), ((hs_n (by omega)).trans ((hs_n (by omega)).trans ((hs_n (by omega)).trans ((hs_n (by omega)).trans hml)))), ((hs_n (by omega)).trans ((hs_n (by omega)).trans ((hs_n (by omega)).trans ((hs_n (by omega)).trans hms)))), ((hs_n (by omega)).trans ((hs_n (by omega)).trans ((hs_n (by omega)).trans ((hs_n (by omega)).trans hbt)))), ((hs_n (by omega)).trans ((hs_n (by omega)).trans ((hs_n (by omega)).trans ((hs_n (by omega)).trans hnv)))), ((hs_n (by omega)).trans ((hs_n (by omega)).trans ((hs_n (by omega)).trans ((hs_n (by omega)).trans h130)))), ((hs_n (by omega)).trans ((hs_n (by omega)).trans ((hs_n (by omega)).trans ((hs_n (by omega)).trans h131)))), ((hs_n (by omega)).trans ((hs_n (by omega)).trans ((hs_n (by omega)).trans ((hs_n (by omega)).trans h132)))), ((hs_n (by omega)).trans ((hs_n (by omega)).trans ((hs_n (by omega)).trans ((hs_n (by omega)).trans h133)))), ((hs_n (by omega)).trans ((hs_n (by omega)).trans ((hs_n (by omega)).trans ((hs_n (by omega)).trans h134)))), ((hs_n (by omega)).trans ((hs_n (by omega)).trans ((hs_n (by omega)).trans ((hs_n (by omega)).trans h135)))), ((hs_n (by omega)).trans ((hs_n (by omega)).trans ((hs_n (by omega)).trans ((hs_n (by omega)).trans h136)))), ((hs_n (by omega)).trans ((hs_n (by omega)).trans ((hs_n (by omega)).trans ((hs_n (by omega)).trans h137)))), ((hs_n (by omega)).trans ((hs_n (by omega)).trans ((hs_n (by omega)).trans ((hs_n (by omega)).trans h138)))), ((hs_n (by omega)).trans ((hs_n (by omega)).trans ((hs_n (by omega)).trans ((hs_n (by omega)).trans h139)))), ((hs_n (by omega)).trans ((hs_n (by omega)).trans ((hs_n (by omega)).trans ((hs_n (by omega)).trans h140)))), ((hs_n (by omega)).trans ((hs_n (by omega)).trans ((hs_n (by omega)).trans ((hs_n (by omega)).trans h141)))), ((hs_n (by omega)).trans ((hs_n (by omega)).trans ((hs_n (by omega)).trans ((hs_n (by omega)).trans h142)))), ((hs_n (by omega)).trans ((hs_n (by omega)).trans hs_e)), ((hs_n (by omega)).trans hs_e), hs_e, hMR, hlN, hbb, hPr, hs40, hvb⟩ (fun a9 h9 => ((hs_n (by omega)).trans ((hs_n (by omega)).trans ((hs_n (by omega)).trans ((hs_n (by omega)).trans rfl)))))
                            rw [if_pos (by omega)]; omega
                    · have pwb := pw_b (n := pn) (e := di.toNat - 1) (E := 2) (by omega) (by omega)
                      have m146 := mulb (A := 9409) (B := 97) (a := pw) (b := pp) (C := 912673) (by omega) (by rw [hpw]; exact Int.ofNat_le.mpr (show pn ^ (di.toNat - 1) ≤ 9409 from pwb)) (by omega) (by omega) (by decide)
                      refine r_iload dX11_parted_143 rfl ?_
                      refine r_iload_n dX11_parted_145 rfl rfl ?_
                      refine r_imul dX11_parted_146 ?_
                      refine r_istore (L2 := [_, none, _, _, none, _, _, _, _, _, none, none, none]) dX11_parted_147 (nlt rfl) rfl ?_
                      obtain ⟨pw2, hpw2⟩ : ∃ x : Int, x = pw * pp := ⟨_, rfl⟩
                      rw [← hpw2]
                      have hpw3 : pw2 = ((pn ^ di.toNat : Nat) : Int) := by rw [hpw2, hpw, hpp, ← Int.natCast_mul, ← Nat.pow_succ, show (di.toNat - 1).succ = di.toNat by omega]
                      rw [← hpw2] at m146
                      have hpw0 : 0 < pn ^ di.toNat := Nat.pow_pos (by omega)
                      refine r_iconst (z := 0) dX11_parted_149 ?_
                      refine r_istore (L2 := [_, none, _, _, none, _, _, _, _, _, _, none, none]) dX11_parted_150 (nlt rfl) rfl ?_
                      have lp152 : ∀ (fu152 : Nat) (lf2 : Nat → Int) (tr2 : Nat → Int) (wk2 : Nat → Int) (dg2 : Int) (many2 : Int) (un2 : Int) (gr2 : Int) (code : Int), (pw2 - code) < (fu152 : Int) → (PV pp (k : Int) lf2 dg2 many2 un2 gr2) → (0 ≤ code) → (code ≤ pw2) → (PCd hpn (LP0 hpn k c) di.toNat code.toNat (lvP hpn lf2 dg2.toNat) many2.toNat gr2.toNat un2.toNat) → G X RX11 cX11_parted mX11_parted.rm N 0 0 152 [some (.ref (124)), none, some (.int (iZ (pp))), some (.int (iZ (w))), none, some (.int (iZ (many2))), some (.int (iZ (un2))), some (.int (iZ (gr2))), some (.int (iZ (pw2))), some (.int (iZ (di))), some (.int (iZ (code))), none, none] [] (hs (hs (hs (hs h (124) (MOo ((ln : Int)) (p) ((sz : Int)) (at_) (wr) (va) (em) (ta) (ro) (dg2))) (143) (aL 7 (lf2))) (144) (aL 4 (tr2))) (145) (aL 7 (wk2))) := by
                        intro fu152
                        induction fu152 with
                        | zero => intro lf2 tr2 wk2 dg2 many2 un2 gr2 code hm hPV2 cd0 cd1 hPC; exfalso; omega
                        | succ fu152 ih152 =>
                          intro lf2 tr2 wk2 dg2 many2 un2 gr2 code hms152 hPV2 cd0 cd1 hPC
                          have pwP : 0 ≤ pw2 ∧ pw2 ≤ 912673 := by omega
                          obtain ⟨v1, v2, v3, v4, v5, v6, v7, v8, v9⟩ := id hPV2
                          refine r_iload dX11_parted_152 rfl ?_
                          refine r_iload dX11_parted_154 rfl ?_
                          refine r_icmp_ge 270 dX11_parted_156 (by decide) ⟨by omega, by omega⟩ ⟨by omega, by omega⟩ (fun c_156 => ?_) (fun c_156 => ?_)
                          · refine r_iinc (L2 := [_, none, _, _, none, _, _, _, _, _, _, none, none]) dX11_parted_270 (nlt rfl) rfl rfl ?_
                            refine r_goto 132 dX11_parted_273 (by decide) ?_
                            refine r_mask [true, false, true, true, false, true, true, true, true, true, false, false, false] (L2 := [_, none, _, _, none, _, _, _, _, _, none, none, none]) rfl ?_
                            exact ih132 (lf2) (tr2) (wk2) (dg2) (many2) (un2) (gr2) (pw2) (di + 1) (by omega) hPV2 (by omega) (by omega) (by rw [hpw3]; congr 2; omega) (by rw [show (di + 1).toNat = di.toNat + 1 by omega]; exact PCd.full (by rw [show code.toNat = pn ^ di.toNat by omega] at hPC; exact hPC))
                          · refine r_iconst (z := 2) dX11_parted_159 ?_
                            refine r_iload dX11_parted_160 rfl ?_
                            refine r_imul dX11_parted_162 ?_
                            refine r_aload_n dX11_parted_163 rfl rfl ?_
                            refine gf_X11_292 dX11_parted_164 (by omega) ((hs_n (by omega)).trans ((hs_n (by omega)).trans ((hs_n (by omega)).trans hs_e))) rfl ?_
                            refine r_icmp_gt 270 dX11_parted_167 (by decide) ⟨by omega, by omega⟩ ⟨by omega, by omega⟩ (fun c_167 => ?_) (fun c_167 => ?_)
                            · refine r_iinc (L2 := [_, none, _, _, none, _, _, _, _, _, _, none, none]) dX11_parted_270 (nlt rfl) rfl rfl ?_
                              refine r_goto 132 dX11_parted_273 (by decide) ?_
                              refine r_mask [true, false, true, true, false, true, true, true, true, true, false, false, false] (L2 := [_, none, _, _, none, _, _, _, _, _, none, none, none]) rfl ?_
                              exact ih132 (lf2) (tr2) (wk2) (dg2) (many2) (un2) (gr2) (pw2) (di + 1) (by omega) hPV2 (by omega) (by omega) (by rw [hpw3]; congr 2; omega) (by rw [show (di + 1).toNat = di.toNat + 1 by omega]; exact hPC.early (by omega) (by omega))
                            · refine r_aload_n dX11_parted_170 rfl rfl ?_
                              refine gf_X11_72 dX11_parted_171 (by omega) ((hs_n (by omega)).trans ((hs_n (by omega)).trans ((hs_n (by omega)).trans hs_e))) rfl ?_
                              refine r_iconst (z := 0) dX11_parted_174 ?_
                              refine r_lconst (z := 1) dX11_parted_175 (by decide) ?_
                              refine r_lastore dX11_parted_176 (by omega) ((hs_n (by omega)).trans hs_e) (by omega) (by omega) (by decide) ?_
                              refine g_heap (h2 := (hs (hs (hs (hs h (124) (MOo ((ln : Int)) (p) ((sz : Int)) (at_) (wr) (va) (em) (ta) (ro) (dg2))) (143) (aL 7 (lf2))) (144) (aL 4 (uA (tr2) (0 : Int).toNat (1)))) (145) (aL 7 (wk2)))) (hs_put (by omega) hs_hs) ?_
                              refine r_iload dX11_parted_177 rfl ?_
                              refine r_istore (L2 := [_, none, _, _, none, _, _, _, _, _, _, _, none]) dX11_parted_179 (nlt rfl) rfl ?_
                              refine r_iload dX11_parted_181 rfl ?_
                              refine r_istore (L2 := [_, none, _, _, none, _, _, _, _, _, _, _, _]) dX11_parted_183 (nlt rfl) rfl ?_
                              have lp185 : ∀ (fu185 : Nat) (tr3 : Nat → Int) (rest : Int) (place : Int) (pl : Nat), (place) < (fu185 : Int) → (place = (pl : Int)) → (pl ≤ di.toNat) → (rest = ((code.toNat / pn ^ (di.toNat - pl) : Nat) : Int)) → (rest ≤ 1000000) → (tr3 0 = 1) → (∀ i9, pl < i9 → i9 ≤ di.toNat → tr3 i9 = ((code.toNat / pn ^ (di.toNat - i9) % pn : Nat) : Int)) → G X RX11 cX11_parted mX11_parted.rm N 0 0 185 [some (.ref (124)), none, some (.int (iZ (pp))), some (.int (iZ (w))), none, some (.int (iZ (many2))), some (.int (iZ (un2))), some (.int (iZ (gr2))), some (.int (iZ (pw2))), some (.int (iZ (di))), some (.int (iZ (code))), some (.int (iZ (rest))), some (.int (iZ (place)))] [] (hs (hs (hs (hs h (124) (MOo ((ln : Int)) (p) ((sz : Int)) (at_) (wr) (va) (em) (ta) (ro) (dg2))) (143) (aL 7 (lf2))) (144) (aL 4 (tr3))) (145) (aL 7 (wk2))) := by
                                intro fu185
                                induction fu185 with
                                | zero => intro tr3 rest place pl hm epl pld erest restm ht0 ht3; exfalso; omega
                                | succ fu185 ih185 =>
                                  intro tr3 rest place pl hms185 epl pld erest restm ht0 ht3
                                  refine r_iload dX11_parted_185 rfl ?_
                                  refine r_if_le 214 dX11_parted_187 (by decide) ⟨by omega, by omega⟩ (fun c_187 => ?_) (fun c_187 => ?_)
                                  · have hpl0 : pl = 0 := by omega
                                    rw [hpl0] at ht3
                                    have htr : ∀ i9, i9 ≤ di.toNat → tr3 i9 = trf pn di.toNat code.toNat i9 := fun i9 h9 => by
                                      unfold trf
                                      by_cases z : i9 = 0
                                      · rw [z, if_pos rfl]; exact ht0
                                      · rw [if_neg z, if_pos h9]; exact ht3 i9 (by omega) h9
                                    have htb : ∀ i9, i9 ≤ di.toNat → 0 ≤ tr3 i9 ∧ tr3 i9 < pp := fun i9 h9 => by rw [htr i9 h9, hpp]; exact trf_b hpn _ _ _
                                    have hTT : lvP hpn tr3 di.toNat = TT hpn di.toNat code.toNat := lvP_cong hpn htr
                                    have cpn : code.toNat < pn ^ di.toNat := by omega
                                    refine r_iconst (z := 1) dX11_parted_214 ?_
                                    refine r_istore (L2 := [_, none, _, _, none, _, _, _, _, _, _, _, _]) dX11_parted_215 (nlt rfl) rfl ?_
                                    have lp217 : ∀ (fu217 : Nat) (lf3 : Nat → Int) (wk3 : Nat → Int) (dg3 : Int) (many3 : Int) (un3 : Int) (gr3 : Int) (fi : Int), (dg3) < (fu217 : Int) → (0 ≤ dg3) → (PV pp (k : Int) lf3 dg3 many3 un3 gr3) → (fi = 0 ∨ fi = 1) → (PDd hpn (LP0 hpn k c) di.toNat code.toNat (lvP hpn lf3 dg3.toNat) fi many3.toNat gr3.toNat un3.toNat) → G X RX11 cX11_parted mX11_parted.rm N 0 0 217 [some (.ref (124)), none, some (.int (iZ (pp))), some (.int (iZ (w))), none, some (.int (iZ (many3))), some (.int (iZ (un3))), some (.int (iZ (gr3))), some (.int (iZ (pw2))), some (.int (iZ (di))), some (.int (iZ (code))), none, some (.int (iZ (fi)))] [] (hs (hs (hs (hs h (124) (MOo ((ln : Int)) (p) ((sz : Int)) (at_) (wr) (va) (em) (ta) (ro) (dg3))) (143) (aL 7 (lf3))) (144) (aL 4 (tr3))) (145) (aL 7 (wk3))) := by
                                      intro fu217
                                      induction fu217 with
                                      | zero => intro lf3 wk3 dg3 many3 un3 gr3 fi hm dp3 hPV3 fi01 hPD; exfalso; omega
                                      | succ fu217 ih217 =>
                                        intro lf3 wk3 dg3 many3 un3 gr3 fi hms217 dp3 hPV3 fi01 hPD
                                        obtain ⟨v1, v2, v3, v4, v5, v6, v7, v8, v9⟩ := id hPV3
                                        refine r_iload dX11_parted_217 rfl ?_
                                        refine r_aload_n dX11_parted_219 rfl rfl ?_
                                        refine gf_X11_292 dX11_parted_220 (by omega) ((hs_n (by omega)).trans ((hs_n (by omega)).trans ((hs_n (by omega)).trans hs_e))) rfl ?_
                                        refine r_icmp_gt 264 dX11_parted_223 (by decide) ⟨by omega, by omega⟩ ⟨by omega, by omega⟩ (fun c_223 => ?_) (fun c_223 => ?_)
                                        · obtain ⟨v1, v2, v3, v4, v5, v6, v7, v8, v9⟩ := id hPV3
                                          have hls := lvP_sz hpn (f := lf3) (D := dg3.toNat) (fun i9 h9 => by rw [← hpp]; exact v9 i9 h9) v8
                                          have hPC9 := hPD.done (Or.inr (by rw [hls]; omega))
                                          refine r_iinc (L2 := [_, none, _, _, none, _, _, _, _, _, _, none, _]) dX11_parted_264 (nlt rfl) rfl rfl ?_
                                          refine r_goto 152 dX11_parted_267 (by decide) ?_
                                          refine r_mask [true, false, true, true, false, true, true, true, true, true, true, false, false] (L2 := [_, none, _, _, none, _, _, _, _, _, _, none, none]) rfl ?_
                                          exact ih152 (lf3) (tr3) (wk3) (dg3) (many3) (un3) (gr3) (code + 1) (by omega) hPV3 (by omega) (by omega) (by rw [show (code + 1).toNat = code.toNat + 1 by omega]; exact hPC9)
                                        · refine r_aload_n dX11_parted_226 rfl rfl ?_
                                          refine r_iload dX11_parted_227 rfl ?_
                                          refine r_iload_n dX11_parted_229 rfl rfl ?_
                                          refine r_callV (av := [.int (iZ (di)), .int (iZ (pp))]) dX11_parted_230 lkX11_goesIn ml_X11_295 imX11_goesIn seX11_goesIn (by omega) (rfl : vwCl[11]? = _) ⟨_, ((hs_n (by omega)).trans ((hs_n (by omega)).trans ((hs_n (by omega)).trans hs_e)))⟩ ⟨Nat.le_of_ble_eq_true rfl, Nat.le_of_ble_eq_true rfl⟩ rfl rfl (nle rfl) ⟨Nat.le_of_ble_eq_true rfl, Nat.le_of_ble_eq_true rfl⟩ (c_X11_goesIn (f := lf3) (g := tr3) (w0 := wk3) (D := (dg3).toNat) (d := di.toNat) (pn := pn) ((hs_n (by omega)).trans ((hs_n (by omega)).trans ((hs_n (by omega)).trans hs_e))) hN (by omega) ((hs_n (by omega)).trans ((hs_n (by omega)).trans hs_e)) ((hs_n (by omega)).trans hs_e) hs_e (by omega) (by omega) (by omega) (by omega) (by omega) hpn hpp (by omega) (fun i9 h9 => v9 i9 h9) v8 htb ht0 (fun b230 dgx fx wx hG => ?_))
                                          refine g_heap (h2 := (hs (hs (hs (hs h (124) (MOo ((ln : Int)) (p) ((sz : Int)) (at_) (wr) (va) (em) (ta) (ro) (dgx))) (143) (aL 7 (fx))) (144) (aL 4 (tr3))) (145) (aL 7 (wx)))) ((congrArg (fun x9 => hs x9 (143) (aL 7 (fx))) ((congrArg (fun x9 => hs x9 (124) (MOo ((ln : Int)) (p) ((sz : Int)) (at_) (wr) (va) (em) (ta) (ro) (dgx))) hs_hs).trans (hs_put (by omega) (hs_put (by omega) (hs_put (by omega) hs_hs))))).trans (hs_put (by omega) (hs_put (by omega) hs_hs))) ?_
                                          show G _ _ _ _ _ _ _ 233 _ _ _
                                          refine r_if_eq 264 dX11_parted_233 (by decide) (by rcases hG with ⟨y, _⟩ | ⟨y, _⟩ <;> exact ⟨by omega, by omega⟩) (fun c_233 => ?_) (fun c_233 => ?_)
                                          · obtain ⟨hb230, hE1, hE2, hE3⟩ : b230 = 0 ∧ dgx = ((dg3.toNat : Nat) : Int) ∧ fx = lf3 ∧ ¬ dvP hpn (lvP hpn tr3 di.toNat) (lvP hpn lf3 dg3.toNat) := by
                                              rcases hG with y | ⟨y, _⟩
                                              · exact y
                                              · omega
                                            rw [hTT] at hE3
                                            have hdx : dgx = dg3 := by omega
                                            have hPC9 := hPD.done (Or.inl hE3)
                                            rw [← hdx, ← hE2] at hPV3 hPC9
                                            refine r_iinc (L2 := [_, none, _, _, none, _, _, _, _, _, _, none, _]) dX11_parted_264 (nlt rfl) rfl rfl ?_
                                            refine r_goto 152 dX11_parted_267 (by decide) ?_
                                            refine r_mask [true, false, true, true, false, true, true, true, true, true, true, false, false] (L2 := [_, none, _, _, none, _, _, _, _, _, _, none, none]) rfl ?_
                                            exact ih152 (fx) (tr3) (wx) (dgx) (many3) (un3) (gr3) (code + 1) (by omega) hPV3 (by omega) (by omega) (by rw [show (code + 1).toNat = code.toNat + 1 by omega]; exact hPC9)
                                          · obtain ⟨hb230, E9, hE1, hE2, hE3, hE4, hE5⟩ := hG.resolve_left (fun y => c_233 y.1)
                                            rw [hTT] at hE5
                                            rw [show E9 = dgx.toNat by omega] at hE4 hE5
                                            refine r_iinc (L2 := [_, none, _, _, none, _, _, _, _, _, _, none, _]) dX11_parted_236 (nlt rfl) rfl rfl ?_
                                            refine r_iload dX11_parted_239 rfl ?_
                                            refine r_iload dX11_parted_241 rfl ?_
                                            refine r_if_eq 250 dX11_parted_243 (by decide) ⟨by omega, by omega⟩ (fun c_243 => ?_) (fun c_243 => ?_)
                                            · refine r_iconst (z := 0) dX11_parted_250 ?_
                                              refine r_iadd dX11_parted_251 ?_
                                              refine r_istore (L2 := [_, none, _, _, none, _, _, _, _, _, _, none, _]) dX11_parted_252 (nlt rfl) rfl ?_
                                              refine r_iconst (z := 0) dX11_parted_254 ?_
                                              refine r_istore (L2 := [_, none, _, _, none, _, _, _, _, _, _, none, _]) dX11_parted_255 (nlt rfl) rfl ?_
                                              refine r_iload dX11_parted_257 rfl ?_
                                              refine r_istore (L2 := [_, none, _, _, none, _, _, _, _, _, _, none, _]) dX11_parted_259 (nlt rfl) rfl ?_
                                              refine r_goto 217 dX11_parted_261 (by decide) ?_
                                              exact ih217 (fx) (wx) (dgx) (many3 + 1) (un3 + 0) (di) (0) (by omega) (by omega) ⟨by omega, by omega, by omega, by omega, by omega, by omega, by omega, hE3, fun i9 h9 => by rw [hpp]; exact hE4 i9 h9⟩ (Or.inl rfl) (by
                                                have h9 := hPD.hit fi01 (by omega) hE5
                                                rw [if_neg (by omega)] at h9
                                                rw [show (many3 + 1).toNat = many3.toNat + 1 by omega, show (un3 + 0).toNat = un3.toNat by omega]
                                                exact h9)
                                            · refine r_iconst (z := 1) dX11_parted_246 ?_
                                              refine r_goto 251 dX11_parted_247 (by decide) ?_
                                              refine r_iadd dX11_parted_251 ?_
                                              refine r_istore (L2 := [_, none, _, _, none, _, _, _, _, _, _, none, _]) dX11_parted_252 (nlt rfl) rfl ?_
                                              refine r_iconst (z := 0) dX11_parted_254 ?_
                                              refine r_istore (L2 := [_, none, _, _, none, _, _, _, _, _, _, none, _]) dX11_parted_255 (nlt rfl) rfl ?_
                                              refine r_iload dX11_parted_257 rfl ?_
                                              refine r_istore (L2 := [_, none, _, _, none, _, _, _, _, _, _, none, _]) dX11_parted_259 (nlt rfl) rfl ?_
                                              refine r_goto 217 dX11_parted_261 (by decide) ?_
                                              exact ih217 (fx) (wx) (dgx) (many3 + 1) (un3 + 1) (di) (0) (by omega) (by omega) ⟨by omega, by omega, by omega, by omega, by omega, by omega, by omega, hE3, fun i9 h9 => by rw [hpp]; exact hE4 i9 h9⟩ (Or.inl rfl) (by
                                                have h9 := hPD.hit fi01 (by omega) hE5
                                                rw [if_pos (by omega)] at h9
                                                rw [show (many3 + 1).toNat = many3.toNat + 1 by omega, show (un3 + 1).toNat = un3.toNat + 1 by omega]
                                                exact h9)
                                    refine r_mask [true, false, true, true, false, true, true, true, true, true, true, false, true] (L2 := [_, none, _, _, none, _, _, _, _, _, _, none, _]) rfl ?_
                                    exact lp217 ((7 : Int) + 1).toNat (lf2) (wk2) (dg2) (many2) (un2) (gr2) (1) (by omega) v1 hPV2 (Or.inr rfl) (hPC.go cpn)
                                  · have rb9 : 0 ≤ rest := by rw [erest]; exact Int.natCast_nonneg _
                                    have rm9 := emod_bd rest (show 0 < pp by omega)
                                    have rd9 : 0 ≤ rest / pp ∧ rest / pp ≤ rest := ⟨Int.ediv_nonneg rb9 (by omega), Int.ediv_le_self _ rb9⟩
                                    refine r_aload_n dX11_parted_190 rfl rfl ?_
                                    refine gf_X11_72 dX11_parted_191 (by omega) ((hs_n (by omega)).trans ((hs_n (by omega)).trans ((hs_n (by omega)).trans hs_e))) rfl ?_
                                    refine r_iload dX11_parted_194 rfl ?_
                                    refine r_iload dX11_parted_196 rfl ?_
                                    refine r_iload_n dX11_parted_198 rfl rfl ?_
                                    refine r_iremp dX11_parted_199 ⟨by omega, by omega⟩ ⟨by omega, by omega⟩ (by omega) (by omega) ?_
                                    have eb_199 := emod_bd (rest) (show 0 < pp by omega)
                                    refine r_i2l dX11_parted_200 ⟨by omega, by omega⟩ ?_
                                    refine r_lastore dX11_parted_201 (by omega) ((hs_n (by omega)).trans hs_e) (by omega) (by omega) (by decide) ?_
                                    refine g_heap (h2 := (hs (hs (hs (hs h (124) (MOo ((ln : Int)) (p) ((sz : Int)) (at_) (wr) (va) (em) (ta) (ro) (dg2))) (143) (aL 7 (lf2))) (144) (aL 4 (uA (tr3) (place).toNat (rest % pp)))) (145) (aL 7 (wk2)))) (hs_put (by omega) hs_hs) ?_
                                    refine r_iload dX11_parted_202 rfl ?_
                                    refine r_iload_n dX11_parted_204 rfl rfl ?_
                                    refine r_idivp dX11_parted_205 ⟨by omega, by omega⟩ ⟨by omega, by omega⟩ (by omega) (by omega) ?_
                                    refine r_istore (L2 := [_, none, _, _, none, _, _, _, _, _, _, _, _]) dX11_parted_206 (nlt rfl) rfl ?_
                                    refine r_iinc (L2 := [_, none, _, _, none, _, _, _, _, _, _, _, _]) dX11_parted_208 (nlt rfl) rfl rfl ?_
                                    refine r_goto 185 dX11_parted_211 (by decide) ?_
                                    exact ih185 (uA (tr3) (place).toNat (rest % pp)) (rest / pp) (place + (-1)) ((pl - 1)) (by omega) (by omega) (by omega) (by rw [erest, hpp, ← Int.natCast_ediv, Nat.div_div_eq_div_mul, ← Nat.pow_succ, show (di.toNat - pl).succ = di.toNat - (pl - 1) by omega]) (by omega) (by rw [uA_n (by omega)]; exact ht0) (fun i9 a b => by rw [show place.toNat = pl by omega]; by_cases z : i9 = pl; (rw [z, uA_e, erest, hpp, ← Int.natCast_emod]); rw [uA_n z]; exact ht3 i9 (by omega) b)
                              exact lp185 ((5 : Int) + 1).toNat (uA (tr2) (0 : Int).toNat (1)) (code) (di) (di.toNat) (by omega) (by omega) (Nat.le_refl _) (by rw [Nat.sub_self, Nat.pow_zero, Nat.div_one]; omega) (by omega) uA_e (fun i9 a b => by omega)
                      exact lp152 ((pw2 : Int) + 1).toNat (lf) (tr) (wk) (dg1) (many) (un) (gr) (0) (by omega) hPV (by decide) (by omega) (hPH.start (by omega))
                refine r_mask [true, false, true, true, false, true, true, true, true, true, false, false, false] (L2 := [_, none, _, _, none, _, _, _, _, _, none, none, none]) rfl ?_
                refine g_heap (hs_id (c := aL 4 (a144)) ((hs_n (by omega)).trans ((hs_n (by omega)).trans h144))).symm ?_
                refine g_heap (hs_id (c := aL 7 (a145)) ((hs_n (by omega)).trans ((hs_n (by omega)).trans ((hs_n (by omega)).trans h145)))).symm ?_
                exact lp132 ((6 : Int) + 1).toNat (lf0) (a144) (a145) ((k : Int)) (0) (0) (0) (1) (1) (by omega) ⟨by omega, by decide, by omega, by decide, by decide, by decide, by decide, hl0, fun i9 h9 => by by_cases z : i9 = 0; (rw [z, hl0]; omega); rw [hlt i9 (by omega) (by omega)]; exact emod_bd _ (by omega)⟩ (by decide) (by decide) rfl hPH0
              · have e103 : ml (((6 * i) + j) - 1).toNat = c q := by rw [show (((6 * i) + j) - 1).toNat = 6 * i.toNat + q - 1 by omega]; exact (hg4 q q1 (by omega)).1
                have cb9 := (hg4 q q1 (by omega)).2
                rw [← e103] at cb9
                refine r_aload_n dX11_parted_84 rfl rfl ?_
                refine gf_X11_69 dX11_parted_85 (by omega) ((hs_n (by omega)).trans hs_e) rfl ?_
                refine r_iload dX11_parted_88 rfl ?_
                refine r_aload_n dX11_parted_90 rfl rfl ?_
                refine gf_X11_13 dX11_parted_91 (by omega) ((hs_n (by omega)).trans hs_e) rfl ?_
                refine r_bipush (z := 6) dX11_parted_94 (by decide) ?_
                refine r_iload_n dX11_parted_96 rfl rfl ?_
                refine r_imul dX11_parted_97 ?_
                refine r_iload dX11_parted_98 rfl ?_
                refine r_iadd dX11_parted_100 ?_
                refine r_iconst (z := 1) dX11_parted_101 ?_
                refine r_isub dX11_parted_102 ?_
                refine r_laload dX11_parted_103 (by omega) ((hs_n (by omega)).trans ((hs_n (by omega)).trans hml)) (by omega) (by omega) (by decide) ?_
                refine r_lneg dX11_parted_104 ?_
                refine r_iload_n dX11_parted_105 rfl rfl ?_
                refine r_i2l dX11_parted_106 ⟨by omega, by omega⟩ ?_
                refine r_callS (av := [.long (lZ (-(ml (((6 * i) + j) - 1).toNat))), .long (lZ (pp))]) dX11_parted_107 lkX11_modulo ml_X11_156 stX11_modulo ⟨Nat.le_of_ble_eq_true rfl, Nat.le_of_ble_eq_true rfl⟩ rfl rfl (nle rfl) ⟨Nat.le_of_ble_eq_true rfl, Nat.le_of_ble_eq_true rfl⟩ (c_X11_modulo (x := -(ml (((6 * i) + j) - 1).toNat)) (m := pp) (by omega) (by omega) ?_)
                have em_107 := emod_bd (-(ml (((6 * i) + j) - 1).toNat)) (show 0 < pp by omega)
                show G _ _ _ _ _ _ _ 110 _ _ _
                refine r_lastore dX11_parted_110 (by omega) hs_e (by omega) (by omega) (by decide) ?_
                refine g_heap (h2 := (hs (hs h (124) (MOo ((ln : Int)) (p) ((sz : Int)) (at_) (wr) (va) (em) (ta) (ro) ((k : Int)))) (143) (aL 7 (uA (lf0) (j).toNat ((-(ml (((6 * i) + j) - 1).toNat)) % pp))))) hs_hs ?_
                refine r_iinc (L2 := [_, _, _, _, _, _, none, none, none, none, none, none, none]) dX11_parted_111 (nlt rfl) rfl rfl ?_
                refine r_goto 77 dX11_parted_114 (by decide) ?_
                exact ih77 (uA (lf0) (j).toNat ((-(ml (((6 * i) + j) - 1).toNat)) % pp)) (j + 1) ((q + 1)) (by omega) (by omega) (by omega) (by omega) (by rw [uA_n (by omega)]; exact hl0) (fun t a b => by rw [show j.toNat = q by omega]; by_cases z : t = q; (rw [z, uA_e, e103]); rw [uA_n z]; exact hlt t a (by omega))
          exact lp77 ((9 : Int) + 1).toNat (uA (a143) (0 : Int).toNat (1)) (1) (1) (by omega) rfl (Nat.le_refl _) (by omega) uA_e (fun t a b => by omega)
        · refine r_bipush (z := -2) dX11_parted_58 (by decide) ?_
          refine r_ireturn hq dX11_parted_60 rfl rfl rfl ?_
          exact hQ _ h (Or.inr ⟨by omega, by omega, hpr, by omega, by omega, Or.inl ⟨by rw [← ek, ← ec]; exact htmc.mp (by rw [← e49]; exact c_54), rfl⟩⟩) hI (fun _ _ => rfl)
      · refine r_iconst (z := -1) dX11_parted_26 ?_
        refine r_ireturn hq dX11_parted_27 rfl rfl rfl ?_
        exact hQ _ h (Or.inl ⟨by rcases hb1 with ⟨_, y⟩ | ⟨_, y⟩ <;> (try omega) <;> (rintro ⟨y1, y2, y3, y4, y5⟩; first | omega | (rcases hb8 with ⟨z, _⟩ | ⟨_, z⟩; omega; exact z y3)), rfl⟩) hI (fun _ _ => rfl)
