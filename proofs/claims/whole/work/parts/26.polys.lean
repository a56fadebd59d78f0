abbrev POo (r : Nat) (dg : Int) : ACell := ob 4 [.ref (r + 1), .int (iZ dg)]
set_option maxHeartbeats 2000000 in
set_option maxRecDepth 20000 in
theorem c_X4_clear {N : Nat} {h : Hp} {Q : QP} {r : Nat} {dg : Int} {f : Nat → Int} (ho : h r = POo r dg) (hf : h (r + 1) = aI 13 f) (hN : r + 1 < N) (hz : Z13 f) (hQ : Q none N (hs (hs h (r + 1) (aI 13 (fun _ => 0))) r (POo r (-1)))) : Runs mX4_clear [.ref (r)] N h Q := by
  refine run_start (own := RX4) rfl (by decide) (nle rfl) rfl (fun X hq hini => ?_)
  show G X RX4 cX4_clear mX4_clear.rm N 0 0 0 [some (.ref (r)), none] [] h
  refine r_iconst (z := 0) dX4_clear_0 ?_
  refine r_istore_n (L2 := [_, _]) dX4_clear_1 rfl (nlt rfl) rfl ?_
  have lp2 : ∀ (fu2 : Nat) (f1 : Nat → Int) (i : Int) (j : Nat), (14 - i) < (fu2 : Int) → (i = (j : Int)) → (j ≤ 13) → (∀ t, t < j → f1 t = 0) → (∀ t, 12 < t → f1 t = 0) → G X RX4 cX4_clear mX4_clear.rm N 0 0 2 [some (.ref (r)), some (.int (iZ (i)))] [] (hs h (r + 1) (aI 13 (f1))) := by
    intro fu2
    induction fu2 with
    | zero => intro f1 i j hm ei j1 hf1 hf2; exfalso; omega
    | succ fu2 ih2 =>
      intro f1 i j hms2 ei j1 hf1 hf2
      refine r_iload_n dX4_clear_2 rfl rfl ?_
      refine r_bipush (z := 12) dX4_clear_3 (by decide) ?_
      refine r_icmp_gt 21 dX4_clear_5 (by decide) ⟨by omega, by omega⟩ ⟨by decide, by decide⟩ (fun c_5 => ?_) (fun c_5 => ?_)
      · refine r_aload_n dX4_clear_21 rfl rfl ?_
        refine r_iconst (z := -1) dX4_clear_22 ?_
        refine pf_X4_15 (fs2 := [_, _]) dX4_clear_23 (fun _ _ => rfl) (fun _ _ => rfl) (nlt rfl) (by omega) ((hs_n (by omega)).trans ho) rfl ?_
        refine r_return hq dX4_clear_26 rfl rfl rfl ?_
        have e9 : f1 = fun _ => 0 := funext (fun t => by by_cases z : t < j; (exact hf1 t z); exact hf2 t (by omega))
        rw [e9]
        exact hQ
      · have ein : i.toNat = j := by omega
        refine r_aload_n dX4_clear_8 rfl rfl ?_
        refine gf_X4_11 dX4_clear_9 (by omega) ((hs_n (by omega)).trans ho) rfl ?_
        refine r_iload_n dX4_clear_12 rfl rfl ?_
        refine r_iconst (z := 0) dX4_clear_13 ?_
        refine r_iastore dX4_clear_14 (by omega) hs_e (by omega) (by omega) (by decide) ?_
        refine g_heap (h2 := (hs h (r + 1) (aI 13 (uA (f1) (i).toNat (0))))) hs_hs ?_
        refine r_iinc (L2 := [_, _]) dX4_clear_15 (nlt rfl) rfl rfl ?_
        refine r_goto 2 dX4_clear_18 (by decide) ?_
        exact ih2 (uA (f1) (i).toNat (0)) (i + 1) ((j + 1)) (by omega) (by omega) (by omega) (fun t a => by rw [ein]; by_cases z : t = j; (rw [z, uA_e]); rw [uA_n z]; exact hf1 t (by omega)) (fun t a => by rw [ein, uA_n (by omega)]; exact hf2 t a)
  refine g_heap (hs_id (c := aI 13 (f)) hf).symm ?_
  exact lp2 ((14 : Int) + 1).toNat (f) (0) (0) (by omega) rfl (by decide) (fun t a => absurd a (Nat.not_lt_zero t)) hz
set_option maxHeartbeats 2000000 in
set_option maxRecDepth 20000 in
theorem c_X4_findDegree {N : Nat} {h : Hp} {Q : QP} {r : Nat} {dg p fr : Int} {f : Nat → Int} (ho : h r = POo r dg) (hf : h (r + 1) = aI 13 f) (hN : r + 1 < N) (hfr1 : -1 ≤ fr) (hfr2 : fr ≤ 12) (hz : ∀ i : Nat, fr < (i : Int) → f i = 0) (hb : ∀ i : Nat, 0 ≤ f i ∧ f i < p) (hp97 : p ≤ 97) (hQ : ∀ d2 : Int, d2 ≤ fr → POK p f d2 → Q none N (hs h r (POo r d2))) : Runs mX4_findDegree [.ref (r), .int (iZ (fr))] N h Q := by
  refine run_start (own := RX4) rfl (by decide) (nle rfl) rfl (fun X hq hini => ?_)
  show G X RX4 cX4_findDegree mX4_findDegree.rm N 0 0 0 [some (.ref (r)), some (.int (iZ (fr)))] [] h
  refine r_aload_n dX4_findDegree_0 rfl rfl ?_
  refine r_iload_n dX4_findDegree_1 rfl rfl ?_
  refine pf_X4_15 (fs2 := [_, _]) dX4_findDegree_2 (fun _ _ => rfl) (fun _ _ => rfl) (nlt rfl) (by omega) ho rfl ?_
  have lp5 : ∀ (fu5 : Nat) (d : Int), (d + 2) < (fu5 : Int) → (-1 ≤ d) → (d ≤ fr) → (∀ i : Nat, d < (i : Int) → f i = 0) → G X RX4 cX4_findDegree mX4_findDegree.rm N 0 0 5 [some (.ref (r)), none] [] (hs h (r) (ob 4 [.ref (r + 1), .int (iZ (d))])) := by
    intro fu5
    induction fu5 with
    | zero => intro d hm d0 d1 hd; exfalso; omega
    | succ fu5 ih5 =>
      intro d hms5 d0 d1 hd
      refine r_aload_n dX4_findDegree_5 rfl rfl ?_
      refine gf_X4_15 dX4_findDegree_6 (by omega) hs_e rfl ?_
      refine r_if_lt 37 dX4_findDegree_9 (by decide) ⟨by omega, by omega⟩ (fun c_9 => ?_) (fun c_9 => ?_)
      · refine r_return hq dX4_findDegree_37 rfl rfl rfl ?_
        exact hQ d d1 ⟨d0, by omega, hd, hb, fun w => by exfalso; omega⟩
      · refine r_aload_n dX4_findDegree_12 rfl rfl ?_
        refine gf_X4_11 dX4_findDegree_13 (by omega) hs_e rfl ?_
        refine r_aload_n dX4_findDegree_16 rfl rfl ?_
        refine gf_X4_15 dX4_findDegree_17 (by omega) hs_e rfl ?_
        have fb := hb d.toNat
        refine r_iaload dX4_findDegree_20 (by omega) ((hs_n (by omega)).trans hf) (by omega) (by omega) (by decide) ?_
        refine r_if_ne 37 dX4_findDegree_21 (by decide) ⟨by omega, by omega⟩ (fun c_21 => ?_) (fun c_21 => ?_)
        · refine r_return hq dX4_findDegree_37 rfl rfl rfl ?_
          exact hQ d d1 ⟨d0, by omega, hd, hb, fun _ => c_21⟩
        · refine r_aload_n dX4_findDegree_24 rfl rfl ?_
          refine r_dup dX4_findDegree_25 rfl ?_
          refine gf_X4_15 dX4_findDegree_26 (by omega) hs_e rfl ?_
          refine r_iconst (z := 1) dX4_findDegree_29 ?_
          refine r_isub dX4_findDegree_30 ?_
          refine pf_X4_15 (fs2 := [_, _]) dX4_findDegree_31 (fun _ _ => rfl) (fun _ _ => rfl) (nlt rfl) (by omega) hs_e rfl ?_
          refine g_heap (h2 := (hs h (r) (ob 4 [.ref (r + 1), .int (iZ (d - 1))]))) hs_hs ?_
          refine r_goto 5 dX4_findDegree_34 (by decide) ?_
          exact ih5 (d - 1) (by omega) (by omega) (by omega) (fun i a => by by_cases z : (i : Int) = d; (have e9 : i = d.toNat := (by omega); rw [e9]; exact c_21); exact hd i (by omega))
  refine r_mask [true, false] (L2 := [_, none]) rfl ?_
  exact lp5 ((15 : Int) + 1).toNat (fr) (by omega) hfr1 (Int.le_refl _) hz
set_option maxHeartbeats 2000000 in
set_option maxRecDepth 20000 in
theorem c_X4_become {N : Nat} {h : Hp} {Q : QP} {r v : Nat} {dg dv : Int} {f g : Nat → Int} (ho : h r = POo r dg) (hf : h (r + 1) = aI 13 f) (hN : r + 1 < N) (hov : h v = POo v dv) (hfv : h (v + 1) = aI 13 g) (hNv : v + 1 < N) (hrv : r + 1 < v ∨ v + 1 < r) (hz : Z13 f) (hzg : Z13 g) (hQ : Q none N (hs (hs h (r + 1) (aI 13 g)) r (POo r dv))) : Runs mX4_become [.ref (r), .ref (v)] N h Q := by
  refine run_start (own := RX4) rfl (by decide) (nle rfl) rfl (fun X hq hini => ?_)
  show G X RX4 cX4_become mX4_become.rm N 0 0 0 [some (.ref (r)), some (.ref (v))] [] h
  refine r_aload_n dX4_become_0 rfl rfl ?_
  refine gf_X4_11 dX4_become_1 (by omega) hov rfl ?_
  refine r_iconst (z := 0) dX4_become_4 ?_
  refine r_aload_n dX4_become_5 rfl rfl ?_
  refine gf_X4_11 dX4_become_6 (by omega) ho rfl ?_
  refine r_iconst (z := 0) dX4_become_9 ?_
  refine r_aload_n dX4_become_10 rfl rfl ?_
  refine gf_X4_11 dX4_become_11 (by omega) ho rfl ?_
  refine r_arrlen (M := 13) dX4_become_14 (by omega) hf (nlt rfl) rfl ?_
  show G _ _ _ _ _ _ _ _ _ (.int (iZ (13)) :: _) _
  refine r_copyI dX4_become_15 ml_X4_19 jna_copy jst_copy jin_System (by omega) (by omega) hfv hf (by omega) (by omega) (by omega) (by omega) (by omega) (by decide) (by decide) ⟨by decide, by decide⟩ (nle rfl) ?_
  refine r_aload_n dX4_become_18 rfl rfl ?_
  refine r_aload_n dX4_become_19 rfl rfl ?_
  refine gf_X4_15 dX4_become_20 (by omega) ((hs_n (by omega)).trans hov) rfl ?_
  refine pf_X4_15 (fs2 := [_, _]) dX4_become_23 (fun _ _ => rfl) (fun _ _ => rfl) (nlt rfl) (by omega) ((hs_n (by omega)).trans ho) rfl ?_
  refine r_return hq dX4_become_26 rfl rfl rfl ?_
  have e9 : cpy g f (0 : Int).toNat (0 : Int).toNat (13 : Int).toNat = g := funext (fun t => by unfold cpy; by_cases z : (0 : Int).toNat ≤ t ∧ t < (0 : Int).toNat + (13 : Int).toNat; (rw [if_pos z]; congr 1; show 0 + (t - 0) = t; omega); have w : 12 < t := (by have z1 : ¬ (0 ≤ t ∧ t < 0 + 13) := z; omega); rw [if_neg z, hz t w, hzg t w])
  rw [e9]
  exact hQ
set_option maxHeartbeats 2000000 in
set_option maxRecDepth 20000 in
theorem c_X4_becomeOne {N : Nat} {h : Hp} {Q : QP} {r : Nat} {dg : Int} {f : Nat → Int} (ho : h r = POo r dg) (hf : h (r + 1) = aI 13 f) (hN : r + 1 < N) (hz : Z13 f) (hQ : Q none N (hs (hs h (r + 1) (aI 13 pone)) r (POo r 0))) : Runs mX4_becomeOne [.ref (r)] N h Q := by
  refine run_start (own := RX4) rfl (by decide) (nle rfl) rfl (fun X hq hini => ?_)
  show G X RX4 cX4_becomeOne mX4_becomeOne.rm N 0 0 0 [some (.ref (r))] [] h
  refine r_aload_n dX4_becomeOne_0 rfl rfl ?_
  refine r_callV (av := []) dX4_becomeOne_1 lkX4_clear ml_X4_25 imX4_clear seX4_clear (by omega) (rfl : vwCl[4]? = _) ⟨_, ho⟩ ⟨Nat.le_of_ble_eq_true rfl, Nat.le_of_ble_eq_true rfl⟩ rfl rfl (nle rfl) ⟨Nat.le_of_ble_eq_true rfl, Nat.le_of_ble_eq_true rfl⟩ (c_X4_clear (r := r) (dg := dg) (f := f) ho hf (by omega) hz ?_)
  show G _ _ _ _ _ _ _ 4 _ _ _
  refine r_aload_n dX4_becomeOne_4 rfl rfl ?_
  refine gf_X4_11 dX4_becomeOne_5 (by omega) hs_e rfl ?_
  refine r_iconst (z := 0) dX4_becomeOne_8 ?_
  refine r_iconst (z := 1) dX4_becomeOne_9 ?_
  refine r_iastore dX4_becomeOne_10 (by omega) ((hs_n (by omega)).trans hs_e) (by omega) (by omega) (by decide) ?_
  refine g_heap (h2 := (hs (hs h (r + 1) (aI 13 (uA (fun _ => 0) (0).toNat (1)))) (r) (ob 4 [.ref (r + 1), .int (iZ ((-1)))]))) (hs_put (by omega) hs_hs) ?_
  refine r_aload_n dX4_becomeOne_11 rfl rfl ?_
  refine r_iconst (z := 0) dX4_becomeOne_12 ?_
  refine pf_X4_15 (fs2 := [_, _]) dX4_becomeOne_13 (fun _ _ => rfl) (fun _ _ => rfl) (nlt rfl) (by omega) hs_e rfl ?_
  refine g_heap (h2 := (hs (hs h (r + 1) (aI 13 (uA (fun _ => 0) (0).toNat (1)))) (r) (ob 4 [.ref (r + 1), .int (iZ (0))]))) hs_hs ?_
  refine r_return hq dX4_becomeOne_16 rfl rfl rfl ?_
  have e9 : uA (fun _ => 0) (0 : Int).toNat 1 = pone := rfl
  rw [e9]
  exact hQ
set_option maxHeartbeats 2000000 in
set_option maxRecDepth 20000 in
theorem c_X4_becomeZ {N : Nat} {h : Hp} {Q : QP} {r : Nat} {dg : Int} {f : Nat → Int} (ho : h r = POo r dg) (hf : h (r + 1) = aI 13 f) (hN : r + 1 < N) (hz : Z13 f) (hQ : Q none N (hs (hs h (r + 1) (aI 13 pz)) r (POo r 1))) : Runs mX4_becomeZ [.ref (r)] N h Q := by
  refine run_start (own := RX4) rfl (by decide) (nle rfl) rfl (fun X hq hini => ?_)
  show G X RX4 cX4_becomeZ mX4_becomeZ.rm N 0 0 0 [some (.ref (r))] [] h
  refine r_aload_n dX4_becomeZ_0 rfl rfl ?_
  refine r_callV (av := []) dX4_becomeZ_1 lkX4_clear ml_X4_25 imX4_clear seX4_clear (by omega) (rfl : vwCl[4]? = _) ⟨_, ho⟩ ⟨Nat.le_of_ble_eq_true rfl, Nat.le_of_ble_eq_true rfl⟩ rfl rfl (nle rfl) ⟨Nat.le_of_ble_eq_true rfl, Nat.le_of_ble_eq_true rfl⟩ (c_X4_clear (r := r) (dg := dg) (f := f) ho hf (by omega) hz ?_)
  show G _ _ _ _ _ _ _ 4 _ _ _
  refine r_aload_n dX4_becomeZ_4 rfl rfl ?_
  refine gf_X4_11 dX4_becomeZ_5 (by omega) hs_e rfl ?_
  refine r_iconst (z := 1) dX4_becomeZ_8 ?_
  refine r_iconst (z := 1) dX4_becomeZ_9 ?_
  refine r_iastore dX4_becomeZ_10 (by omega) ((hs_n (by omega)).trans hs_e) (by omega) (by omega) (by decide) ?_
  refine g_heap (h2 := (hs (hs h (r + 1) (aI 13 (uA (fun _ => 0) (1).toNat (1)))) (r) (ob 4 [.ref (r + 1), .int (iZ ((-1)))]))) (hs_put (by omega) hs_hs) ?_
  refine r_aload_n dX4_becomeZ_11 rfl rfl ?_
  refine r_iconst (z := 1) dX4_becomeZ_12 ?_
  refine pf_X4_15 (fs2 := [_, _]) dX4_becomeZ_13 (fun _ _ => rfl) (fun _ _ => rfl) (nlt rfl) (by omega) hs_e rfl ?_
  refine g_heap (h2 := (hs (hs h (r + 1) (aI 13 (uA (fun _ => 0) (1).toNat (1)))) (r) (ob 4 [.ref (r + 1), .int (iZ (1))]))) hs_hs ?_
  refine r_return hq dX4_becomeZ_16 rfl rfl rfl ?_
  have e9 : uA (fun _ => 0) (1 : Int).toNat 1 = pz := rfl
  rw [e9]
  exact hQ
set_option maxHeartbeats 2000000 in
set_option maxRecDepth 20000 in
theorem c_X4_becomeLaw {N : Nat} {h : Hp} {Q : QP} {r x k : Nat} {dg p : Int} {f c s : Nat → Int} (ho : h r = POo r dg) (hf : h (r + 1) = aI 13 f) (hN : r + 1 < N) (hz : Z13 f) (hr : RowAt h x k c s) (hxN : x + 2 < N) (hxr : x + 2 < r ∨ r + 1 < x) (hk0 : 0 < k) (hk : k ≤ 6) (hcb : ∀ j, j < 7 → -100000 ≤ c j ∧ c j ≤ 100000) (hp2 : 2 ≤ p) (hp97 : p ≤ 97) (hQ : Q none N (hs (hs h (r + 1) (aI 13 (plaw p k c))) r (POo r (k : Int)))) : Runs mX4_becomeLaw [.ref (r), .ref (x), .int (iZ (p))] N h Q := by
  refine run_start (own := RX4) rfl (by decide) (nle rfl) rfl (fun X hq hini => ?_)
  show G X RX4 cX4_becomeLaw mX4_becomeLaw.rm N 0 0 0 [some (.ref (r)), some (.ref (x)), some (.int (iZ (p))), none] [] h
  refine r_aload_n dX4_becomeLaw_0 rfl rfl ?_
  refine r_callV (av := []) dX4_becomeLaw_1 lkX4_clear ml_X4_25 imX4_clear seX4_clear (by omega) (rfl : vwCl[4]? = _) ⟨_, ho⟩ ⟨Nat.le_of_ble_eq_true rfl, Nat.le_of_ble_eq_true rfl⟩ rfl rfl (nle rfl) ⟨Nat.le_of_ble_eq_true rfl, Nat.le_of_ble_eq_true rfl⟩ (c_X4_clear (r := r) (dg := dg) (f := f) ho hf (by omega) hz ?_)
  show G _ _ _ _ _ _ _ 4 _ _ _
  refine r_iconst (z := 0) dX4_becomeLaw_4 ?_
  refine r_istore_n (L2 := [_, _, _, _]) dX4_becomeLaw_5 rfl (nlt rfl) rfl ?_
  have lp6 : ∀ (fu6 : Nat) (f1 : Nat → Int) (i : Int) (j : Nat), (8 - i) < (fu6 : Int) → (i = (j : Int)) → (j ≤ k + 1) → (∀ t, f1 t = if t ≤ k ∧ k < t + j then (-(c (k - t))) % p else 0) → G X RX4 cX4_becomeLaw mX4_becomeLaw.rm N 0 0 6 [some (.ref (r)), some (.ref (x)), some (.int (iZ (p))), some (.int (iZ (i)))] [] (hs (hs h (r + 1) (aI 13 (f1))) (r) (ob 4 [.ref (r + 1), .int (iZ ((-1)))])) := by
    intro fu6
    induction fu6 with
    | zero => intro f1 i j hm ei j1 hf1; exfalso; omega
    | succ fu6 ih6 =>
      intro f1 i j hms6 ei j1 hf1
      refine r_iload_n dX4_becomeLaw_6 rfl rfl ?_
      refine r_aload_n dX4_becomeLaw_7 rfl rfl ?_
      refine gf_X4_28 dX4_becomeLaw_8 (by omega) ((hs_n (by omega)).trans ((hs_n (by omega)).trans hr.1)) rfl ?_
      refine r_icmp_gt 44 dX4_becomeLaw_11 (by decide) ⟨by omega, by omega⟩ ⟨by omega, by omega⟩ (fun c_11 => ?_) (fun c_11 => ?_)
      · refine r_aload_n dX4_becomeLaw_44 rfl rfl ?_
        refine r_aload_n dX4_becomeLaw_45 rfl rfl ?_
        refine gf_X4_28 dX4_becomeLaw_46 (by omega) ((hs_n (by omega)).trans ((hs_n (by omega)).trans hr.1)) rfl ?_
        refine pf_X4_15 (fs2 := [_, _]) dX4_becomeLaw_49 (fun _ _ => rfl) (fun _ _ => rfl) (nlt rfl) (by omega) hs_e rfl ?_
        refine g_heap (h2 := (hs (hs h (r + 1) (aI 13 (f1))) (r) (ob 4 [.ref (r + 1), .int (iZ ((k : Int)))]))) hs_hs ?_
        refine r_return hq dX4_becomeLaw_52 rfl rfl rfl ?_
        have j9 : j = k + 1 := by omega
        have e9 : f1 = plaw p k c := funext (fun t => by rw [hf1 t]; unfold plaw; by_cases w : t ≤ k; (rw [if_pos w, if_pos (by omega)]); rw [if_neg w, if_neg (by omega)])
        rw [e9]
        exact hQ
      · have ein : ((k : Int) - i).toNat = k - j := by omega
        have cb := hcb i.toNat (by omega)
        have ekj : c i.toNat = c (k - (k - j)) := by congr 1; omega
        refine r_aload_n dX4_becomeLaw_14 rfl rfl ?_
        refine gf_X4_11 dX4_becomeLaw_15 (by omega) hs_e rfl ?_
        refine r_aload_n dX4_becomeLaw_18 rfl rfl ?_
        refine gf_X4_28 dX4_becomeLaw_19 (by omega) ((hs_n (by omega)).trans ((hs_n (by omega)).trans hr.1)) rfl ?_
        refine r_iload_n dX4_becomeLaw_22 rfl rfl ?_
        refine r_isub dX4_becomeLaw_23 ?_
        refine r_aload_n dX4_becomeLaw_24 rfl rfl ?_
        refine gf_X4_33 dX4_becomeLaw_25 (by omega) ((hs_n (by omega)).trans ((hs_n (by omega)).trans hr.1)) rfl ?_
        refine r_iload_n dX4_becomeLaw_28 rfl rfl ?_
        refine r_laload dX4_becomeLaw_29 (by omega) ((hs_n (by omega)).trans ((hs_n (by omega)).trans hr.2.1)) (by omega) (by omega) (by decide) ?_
        refine r_lneg dX4_becomeLaw_30 ?_
        refine r_iload_n dX4_becomeLaw_31 rfl rfl ?_
        refine r_i2l dX4_becomeLaw_32 ⟨by omega, by omega⟩ ?_
        refine r_floorMod dX4_becomeLaw_33 ml_X4_37 stJ9_floorMod_f86c9 lkJ9_floorMod_f86c9.1 lkJ9_floorMod_f86c9.2.1 ⟨by decide, by decide⟩ (nle rfl) ⟨Nat.zero_le _, Nat.zero_le _⟩ ⟨by omega, by omega⟩ ⟨by omega, by omega⟩ (by omega) ?_
        have eb_33 := emod_bd (-(c (i).toNat)) (show 0 < p by omega)
        refine r_l2i dX4_becomeLaw_36 ?_
        refine r_iastore dX4_becomeLaw_37 (by omega) ((hs_n (by omega)).trans hs_e) (by omega) (by omega) (by decide) ?_
        refine g_heap (h2 := (hs (hs h (r + 1) (aI 13 (uA (f1) ((k : Int) - i).toNat ((-(c (i).toNat)) % p)))) (r) (ob 4 [.ref (r + 1), .int (iZ ((-1)))]))) (hs_put (by omega) hs_hs) ?_
        refine r_iinc (L2 := [_, _, _, _]) dX4_becomeLaw_38 (nlt rfl) rfl rfl ?_
        refine r_goto 6 dX4_becomeLaw_41 (by decide) ?_
        exact ih6 (uA (f1) ((k : Int) - i).toNat ((-(c (i).toNat)) % p)) (i + 1) ((j + 1)) (by omega) (by omega) (by omega) (fun t => by rw [ein]; by_cases z : t = k - j; (rw [z, uA_e, if_pos (by omega), ekj]); rw [uA_n z, hf1 t]; by_cases w : t ≤ k ∧ k < t + j; (rw [if_pos w, if_pos (by omega)]); rw [if_neg w, if_neg (by omega)])
  exact lp6 ((8 : Int) + 1).toNat (fun _ => 0) (0) (0) (by omega) rfl (by omega) (fun t => by rw [if_neg (by omega)])
theorem uA_b {p : Int} {f : Nat → Int} {i : Nat} {x : Int} (hb : ∀ i : Nat, 0 ≤ f i ∧ f i < p) (hx : 0 ≤ x ∧ x < p) : ∀ j : Nat, 0 ≤ uA f i x j ∧ uA f i x j < p := fun j => by
  by_cases z : j = i
  · rw [z, uA_e]; exact hx
  · rw [uA_n z]; exact hb j
set_option maxHeartbeats 2000000 in
set_option maxRecDepth 20000 in
theorem c_X4_lessZ {N : Nat} {h : Hp} {Q : QP} {r : Nat} {dg p : Int} {f : Nat → Int} (ho : h r = POo r dg) (hf : h (r + 1) = aI 13 f) (hN : r + 1 < N) (hP : POK p f dg) (hp2 : 2 ≤ p) (hp97 : p ≤ 97) (hQ : ∀ d2 : Int, d2 ≤ max dg 1 → POK p (uA f 1 ((f 1 + p - 1) % p)) d2 → Q none N (hs (hs h (r + 1) (aI 13 (uA f 1 ((f 1 + p - 1) % p)))) r (POo r d2))) : Runs mX4_lessZ [.ref (r), .int (iZ (p))] N h Q := by
  obtain ⟨g1, g2, g3, g4, g5⟩ := hP
  have f1b := g4 1
  have f1c : 0 ≤ f (1 : Int).toNat ∧ f (1 : Int).toNat < p := f1b
  refine run_start (own := RX4) rfl (by decide) (nle rfl) rfl (fun X hq hini => ?_)
  show G X RX4 cX4_lessZ mX4_lessZ.rm N 0 0 0 [some (.ref (r)), some (.int (iZ (p)))] [] h
  refine r_aload_n dX4_lessZ_0 rfl rfl ?_
  refine gf_X4_11 dX4_lessZ_1 (by omega) ho rfl ?_
  refine r_iconst (z := 1) dX4_lessZ_4 ?_
  refine r_aload_n dX4_lessZ_5 rfl rfl ?_
  refine gf_X4_11 dX4_lessZ_6 (by omega) ho rfl ?_
  refine r_iconst (z := 1) dX4_lessZ_9 ?_
  refine r_iaload dX4_lessZ_10 (by omega) hf (by omega) (by omega) (by decide) ?_
  refine r_iload_n dX4_lessZ_11 rfl rfl ?_
  refine r_iadd dX4_lessZ_12 ?_
  refine r_iconst (z := 1) dX4_lessZ_13 ?_
  refine r_isub dX4_lessZ_14 ?_
  refine r_iload_n dX4_lessZ_15 rfl rfl ?_
  refine r_iremp dX4_lessZ_16 ⟨by omega, by omega⟩ ⟨by omega, by omega⟩ (by omega) (by omega) ?_
  have eb_16 := emod_bd (((f (1).toNat) + p) - 1) (show 0 < p by omega)
  refine r_iastore dX4_lessZ_17 (by omega) hf (by omega) (by omega) (by decide) ?_
  refine r_aload_n dX4_lessZ_18 rfl rfl ?_
  refine r_aload_n dX4_lessZ_19 rfl rfl ?_
  refine gf_X4_15 dX4_lessZ_20 (by omega) ((hs_n (by omega)).trans ho) rfl ?_
  refine r_iconst (z := 1) dX4_lessZ_23 ?_
  refine r_max dX4_lessZ_24 ml_X4_43 jst_max jin_Math jcd_max ⟨by decide, by decide⟩ (nle rfl) ⟨Nat.zero_le _, Nat.zero_le _⟩ ⟨by omega, by omega⟩ ⟨by decide, by decide⟩ ?_
  refine r_callV (av := [.int (iZ (max dg 1))]) dX4_lessZ_27 lkX4_findDegree ml_X4_47 imX4_findDegree seX4_findDegree (by omega) (rfl : vwCl[4]? = _) ⟨_, ((hs_n (by omega)).trans ho)⟩ ⟨Nat.le_of_ble_eq_true rfl, Nat.le_of_ble_eq_true rfl⟩ rfl rfl (nle rfl) ⟨Nat.le_of_ble_eq_true rfl, Nat.le_of_ble_eq_true rfl⟩ (c_X4_findDegree (r := r) (dg := dg) (p := p) (fr := max dg 1) (f := uA (f) (1).toNat ((((f (1).toNat) + p) - 1) % p)) ((hs_n (by omega)).trans ho) hs_e (by omega) (by omega) (by omega) (fun i hi => by have e1 : (1 : Int).toNat = 1 := rfl; rw [e1, uA_n (by omega)]; exact g3 i (by omega)) (uA_b g4 ⟨eb_16.1, eb_16.2⟩) hp97 (fun d27 hd27 hP27 => ?_))
  show G _ _ _ _ _ _ _ 30 _ _ _
  refine r_return hq dX4_lessZ_30 rfl rfl rfl ?_
  exact hQ d27 hd27 hP27
set_option maxHeartbeats 2000000 in
set_option maxRecDepth 20000 in
theorem c_X4_becomeProduct {N : Nat} {h : Hp} {Q : QP} {r a b : Nat} {dg da db p : Int} {f fa fb : Nat → Int} (ho : h r = POo r dg) (hf : h (r + 1) = aI 13 f) (hN : r + 1 < N) (hz : Z13 f) (hoa : h a = POo a da) (hfa : h (a + 1) = aI 13 fa) (hNa : a + 1 < N) (hra : r + 1 < a ∨ a + 1 < r) (hob : h b = POo b db) (hfb : h (b + 1) = aI 13 fb) (hNb : b + 1 < N) (hrb : r + 1 < b ∨ b + 1 < r) (hPa : POK p fa da) (hPb : POK p fb db) (hda : da ≤ 6) (hdb : db ≤ 6) (hp2 : 2 ≤ p) (hp97 : p ≤ 97) (hQ : ∀ (d2 : Int) (f2 : Nat → Int), POK p f2 d2 → (∀ n, n ≤ 12 → cg p (f2 n) (conv fa fb n)) → Q none N (hs (hs h (r + 1) (aI 13 f2)) r (POo r d2))) : Runs mX4_becomeProduct [.ref (r), .ref (a), .ref (b), .int (iZ (p))] N h Q := by
  have ga := hPa.1
  have gb := hPb.1
  refine run_start (own := RX4) rfl (by decide) (nle rfl) rfl (fun X hq hini => ?_)
  show G X RX4 cX4_becomeProduct mX4_becomeProduct.rm N 0 0 0 [some (.ref (r)), some (.ref (a)), some (.ref (b)), some (.int (iZ (p))), none, none] [] h
  refine r_aload_n dX4_becomeProduct_0 rfl rfl ?_
  refine r_callV (av := []) dX4_becomeProduct_1 lkX4_clear ml_X4_25 imX4_clear seX4_clear (by omega) (rfl : vwCl[4]? = _) ⟨_, ho⟩ ⟨Nat.le_of_ble_eq_true rfl, Nat.le_of_ble_eq_true rfl⟩ rfl rfl (nle rfl) ⟨Nat.le_of_ble_eq_true rfl, Nat.le_of_ble_eq_true rfl⟩ (c_X4_clear (r := r) (dg := dg) (f := f) ho hf (by omega) hz ?_)
  show G _ _ _ _ _ _ _ 4 _ _ _
  refine r_iconst (z := 0) dX4_becomeProduct_4 ?_
  refine r_istore (L2 := [_, _, _, _, _, none]) dX4_becomeProduct_5 (nlt rfl) rfl ?_
  have lp7 : ∀ (fu7 : Nat) (f1 : Nat → Int) (i : Int) (u : Nat), (15 - i) < (fu7 : Int) → (i = (u : Int)) → (i ≤ da + 1) → (∀ n : Nat, 0 ≤ f1 n ∧ f1 n < p) → (∀ n, 12 < n → f1 n = 0) → (∀ n, cg p (f1 n) (cvp fa fb u n)) → G X RX4 cX4_becomeProduct mX4_becomeProduct.rm N 0 0 7 [some (.ref (r)), some (.ref (a)), some (.ref (b)), some (.int (iZ (p))), some (.int (iZ (i))), none] [] (hs (hs h (r + 1) (aI 13 (f1))) (r) (ob 4 [.ref (r + 1), .int (iZ ((-1)))])) := by
    intro fu7
    induction fu7 with
    | zero => intro f1 i u hm ei u1 hb1 hz1 hc1; exfalso; omega
    | succ fu7 ih7 =>
      intro f1 i u hms7 ei u1 hb1 hz1 hc1
      refine r_iload dX4_becomeProduct_7 rfl ?_
      refine r_aload_n dX4_becomeProduct_9 rfl rfl ?_
      refine gf_X4_15 dX4_becomeProduct_10 (by omega) ((hs_n (by omega)).trans ((hs_n (by omega)).trans hoa)) rfl ?_
      refine r_icmp_gt 78 dX4_becomeProduct_13 (by decide) ⟨by omega, by omega⟩ ⟨by omega, by omega⟩ (fun c_13 => ?_) (fun c_13 => ?_)
      · refine r_aload_n dX4_becomeProduct_78 rfl rfl ?_
        refine r_bipush (z := 12) dX4_becomeProduct_79 (by decide) ?_
        refine r_callV (av := [.int (iZ (12))]) dX4_becomeProduct_81 lkX4_findDegree ml_X4_47 imX4_findDegree seX4_findDegree (by omega) (rfl : vwCl[4]? = _) ⟨_, hs_e⟩ ⟨Nat.le_of_ble_eq_true rfl, Nat.le_of_ble_eq_true rfl⟩ rfl rfl (nle rfl) ⟨Nat.le_of_ble_eq_true rfl, Nat.le_of_ble_eq_true rfl⟩ (c_X4_findDegree (r := r) (dg := (-1)) (p := p) (fr := 12) (f := f1) hs_e ((hs_n (by omega)).trans hs_e) (by omega) (by omega) (by omega) (fun i hi => hz1 i (by omega)) hb1 hp97 (fun d81 hd81 hP81 => ?_))
        refine g_heap (h2 := (hs (hs h (r + 1) (aI 13 (f1))) (r) (ob 4 [.ref (r + 1), .int (iZ (d81))]))) hs_hs ?_
        show G _ _ _ _ _ _ _ 84 _ _ _
        refine r_return hq dX4_becomeProduct_84 rfl rfl rfl ?_
        exact hQ d81 f1 hP81 (fun n _ => (hc1 n).tr (cg.of (cvp_conv (fun t ht => hPa.2.2.1 t (by omega)))))
      · refine r_iconst (z := 0) dX4_becomeProduct_16 ?_
        refine r_istore (L2 := [_, _, _, _, _, _]) dX4_becomeProduct_17 (nlt rfl) rfl ?_
        have lp19 : ∀ (fu19 : Nat) (f2 : Nat → Int) (j : Int) (v : Nat), (15 - j) < (fu19 : Int) → (j = (v : Int)) → (j ≤ db + 1) → (∀ n : Nat, 0 ≤ f2 n ∧ f2 n < p) → (∀ n, 12 < n → f2 n = 0) → (∀ n, cg p (f2 n) (cvp fa fb u n + if u ≤ n ∧ n < u + v then fa u * fb (n - u) else 0)) → G X RX4 cX4_becomeProduct mX4_becomeProduct.rm N 0 0 19 [some (.ref (r)), some (.ref (a)), some (.ref (b)), some (.int (iZ (p))), some (.int (iZ (i))), some (.int (iZ (j)))] [] (hs (hs h (r + 1) (aI 13 (f2))) (r) (ob 4 [.ref (r + 1), .int (iZ ((-1)))])) := by
          intro fu19
          induction fu19 with
          | zero => intro f2 j v hm ej v1 hb2 hz2 hc2; exfalso; omega
          | succ fu19 ih19 =>
            intro f2 j v hms19 ej v1 hb2 hz2 hc2
            refine r_iload dX4_becomeProduct_19 rfl ?_
            refine r_aload_n dX4_becomeProduct_21 rfl rfl ?_
            refine gf_X4_15 dX4_becomeProduct_22 (by omega) ((hs_n (by omega)).trans ((hs_n (by omega)).trans hob)) rfl ?_
            refine r_icmp_gt 72 dX4_becomeProduct_25 (by decide) ⟨by omega, by omega⟩ ⟨by omega, by omega⟩ (fun c_25 => ?_) (fun c_25 => ?_)
            · refine r_iinc (L2 := [_, _, _, _, _, _]) dX4_becomeProduct_72 (nlt rfl) rfl rfl ?_
              refine r_goto 7 dX4_becomeProduct_75 (by decide) ?_
              refine r_mask [true, true, true, true, true, false] (L2 := [_, _, _, _, _, none]) rfl ?_
              exact ih7 (f2) (i + 1) ((u + 1)) (by omega) (by omega) (by omega) hb2 hz2 (fun n => by
                refine (hc2 n).tr (cg.of ?_)
                show _ = cvp fa fb u n + (if u ≤ n then fa u * fb (n - u) else 0)
                by_cases z : u ≤ n
                · rw [if_pos z]
                  by_cases w : n < u + v
                  · rw [if_pos ⟨z, w⟩]
                  · rw [if_neg (fun y => w y.2), hPb.2.2.1 (n - u) (by omega), Int.mul_zero]
                · rw [if_neg z, if_neg (fun y => z y.1)])
            · have eij : (i + j).toNat = u + v := by omega
              have fb9 := hb2 (i + j).toNat
              refine r_aload_n dX4_becomeProduct_28 rfl rfl ?_
              refine gf_X4_11 dX4_becomeProduct_29 (by omega) hs_e rfl ?_
              refine r_iload dX4_becomeProduct_32 rfl ?_
              refine r_iload dX4_becomeProduct_34 rfl ?_
              refine r_iadd dX4_becomeProduct_36 ?_
              refine r_aload_n dX4_becomeProduct_37 rfl rfl ?_
              refine gf_X4_11 dX4_becomeProduct_38 (by omega) hs_e rfl ?_
              refine r_iload dX4_becomeProduct_41 rfl ?_
              refine r_iload dX4_becomeProduct_43 rfl ?_
              refine r_iadd dX4_becomeProduct_45 ?_
              refine r_iaload dX4_becomeProduct_46 (by omega) ((hs_n (by omega)).trans hs_e) (by omega) (by omega) (by decide) ?_
              refine r_aload_n dX4_becomeProduct_47 rfl rfl ?_
              refine gf_X4_11 dX4_becomeProduct_48 (by omega) ((hs_n (by omega)).trans ((hs_n (by omega)).trans hoa)) rfl ?_
              refine r_iload dX4_becomeProduct_51 rfl ?_
              have e1 : fa i.toNat = fa u := by congr 1; omega
              have ab := hPa.2.2.2.1 u
              rw [← e1] at ab
              refine r_iaload dX4_becomeProduct_53 (by omega) ((hs_n (by omega)).trans ((hs_n (by omega)).trans hfa)) (by omega) (by omega) (by decide) ?_
              refine r_aload_n dX4_becomeProduct_54 rfl rfl ?_
              refine gf_X4_11 dX4_becomeProduct_55 (by omega) ((hs_n (by omega)).trans ((hs_n (by omega)).trans hob)) rfl ?_
              refine r_iload dX4_becomeProduct_58 rfl ?_
              refine r_iaload dX4_becomeProduct_60 (by omega) ((hs_n (by omega)).trans ((hs_n (by omega)).trans hfb)) (by omega) (by omega) (by decide) ?_
              have e2 : fb j.toNat = fb v := by congr 1; omega
              have bb := hPb.2.2.2.1 v
              rw [← e2] at bb
              have m61 := mulb (A := 97) (B := 97) (a := fa i.toNat) (b := fb j.toNat) (C := 9409) (by omega) (by omega) (by omega) (by omega) (by decide)
              have m62 := Int.mul_nonneg ab.1 bb.1
              refine r_imul dX4_becomeProduct_61 ?_
              refine r_iadd dX4_becomeProduct_62 ?_
              refine r_iload_n dX4_becomeProduct_63 rfl rfl ?_
              refine r_iremp dX4_becomeProduct_64 ⟨by omega, by omega⟩ ⟨by omega, by omega⟩ (by omega) (by omega) ?_
              have eb_64 := emod_bd ((f2 (i + j).toNat) + ((fa (i).toNat) * (fb (j).toNat))) (show 0 < p by omega)
              refine r_iastore dX4_becomeProduct_65 (by omega) ((hs_n (by omega)).trans hs_e) (by omega) (by omega) (by decide) ?_
              refine g_heap (h2 := (hs (hs h (r + 1) (aI 13 (uA (f2) (i + j).toNat (((f2 (i + j).toNat) + ((fa (i).toNat) * (fb (j).toNat))) % p)))) (r) (ob 4 [.ref (r + 1), .int (iZ ((-1)))]))) (hs_put (by omega) hs_hs) ?_
              refine r_iinc (L2 := [_, _, _, _, _, _]) dX4_becomeProduct_66 (nlt rfl) rfl rfl ?_
              refine r_goto 19 dX4_becomeProduct_69 (by decide) ?_
              exact ih19 (uA (f2) (i + j).toNat (((f2 (i + j).toNat) + ((fa (i).toNat) * (fb (j).toNat))) % p)) (j + 1) ((v + 1)) (by omega) (by omega) (by omega) (uA_b hb2 eb_64) (fun n a => by rw [eij, uA_n (by omega)]; exact hz2 n a) (fun n => by
                by_cases z : n = u + v
                · rw [z, eij, uA_e, if_pos ⟨by omega, by omega⟩, e1, e2]
                  have h9 := hc2 (u + v)
                  rw [if_neg (by omega), Int.add_zero] at h9
                  refine cg.md.tr (h9.add (cg.of ?_))
                  congr 2; omega
                · rw [eij, uA_n z]
                  refine (hc2 n).tr (cg.of ?_)
                  by_cases w : u ≤ n ∧ n < u + v
                  · rw [if_pos w, if_pos ⟨w.1, by omega⟩]
                  · rw [if_neg w, if_neg (by omega)])
        exact lp19 ((15 : Int) + 1).toNat (f1) (0) (0) (by omega) rfl (by omega) hb1 hz1 (fun n => by rw [if_neg (by omega), Int.add_zero]; exact hc1 n)
  exact lp7 ((15 : Int) + 1).toNat (fun _ => 0) (0) (0) (by omega) rfl (by omega) (fun n => ⟨Int.le_refl 0, by show (0 : Int) < p; omega⟩) (fun n a => rfl) (fun n => cg.rf)
