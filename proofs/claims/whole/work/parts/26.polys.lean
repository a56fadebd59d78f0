abbrev POo (r : Nat) (dg : Int) : ACell := ob 4 [.ref (r + 1), .int (iZ dg)]
set_option maxHeartbeats 2000000 in
set_option maxRecDepth 20000 in
theorem c_X4_clear {N : Nat} {h : Hp} {Q : QP} {r : Nat} {dg : Int} {f : Nat → Int} (ho : h r = POo r dg) (hf : h (r + 1) = aI 13 f) (hN : r + 1 < N) (hz : Z13 f) (hQ : Q none N (hs (hs h (r + 1) (aI 13 (fun _ => 0))) r (POo r (-1)))) : Runs mX4_clear [.ref (r)] N h Q := by
  refine run_start (own := RX4) rfl (by decide) (nle rfl) rfl (fun X hq hini => ?_)
  show G X RX4 cX4_clear mX4_clear.rm N 0 0 0 [some (.ref (r)), none] [] h
  refine r_iconst (z := 0) dX4_clear_0 ?_
  refine r_istore_n (L2 := [_, _]) dX4_clear_1 rfl (nlt rfl) rfl ?_
  have lp2 : ∀ (fu2 : Nat) (f1 : Nat → Int) (i : Int) (j : Nat), (14 - i) < (fu2 : Int) → (i = (j : Int)) → (j ≤ 13) → (∀ t, t < j → f1 t = 0) → (∀ t, 12 < t → f1 t = 0) → G X RX4 cX4_clear mX4_clear.rm N 0 0 2 [some (.ref (r)), some (.int (iZ (i)))] [] (hs h (r + 1) (aI 13 (f1))) := by
    intro fu2
    induction fu2 with
    | zero => intro f1 i j hm ei j1 hf1 hf2; exfalso; omega
    | succ fu2 ih2 =>
      intro f1 i j hms2 ei j1 hf1 hf2
      refine r_iload_n dX4_clear_2 rfl rfl ?_
      refine r_bipush (z := 12) dX4_clear_3 (by decide) ?_
      refine r_icmp_gt 21 dX4_clear_5 (by decide) ⟨by omega, by omega⟩ ⟨by decide, by decide⟩ (fun c_5 => ?_) (fun c_5 => ?_)
      · refine r_aload_n dX4_clear_21 rfl rfl ?_
        refine r_iconst (z := -1) dX4_clear_22 ?_
        refine pf_X4_15 (fs2 := [_, _]) dX4_clear_23 (fun _ _ => rfl) (fun _ _ => rfl) (nlt rfl) (by omega) ((hs_n (by omega)).trans ho) rfl ?_
        refine r_return hq dX4_clear_26 rfl rfl rfl ?_
        have e9 : f1 = fun _ => 0 := funext (fun t => by by_cases z : t < j; (exact hf1 t z); exact hf2 t (by omega))
        rw [e9]
        exact hQ
      · have ein : i.toNat = j := by omega
        refine r_aload_n dX4_clear_8 rfl rfl ?_
        refine gf_X4_11 dX4_clear_9 (by omega) ((hs_n (by omega)).trans ho) rfl ?_
        refine r_iload_n dX4_clear_12 rfl rfl ?_
        refine r_iconst (z := 0) dX4_clear_13 ?_
        refine r_iastore dX4_clear_14 (by omega) hs_e (by omega) (by omega) (by decide) ?_
        refine g_heap (h2 := (hs h (r + 1) (aI 13 (uA (f1) (i).toNat (0))))) hs_hs ?_
        refine r_iinc (L2 := [_, _]) dX4_clear_15 (nlt rfl) rfl rfl ?_
        refine r_goto 2 dX4_clear_18 (by decide) ?_
        exact ih2 (uA (f1) (i).toNat (0)) (i + 1) ((j + 1)) (by omega) (by omega) (by omega) (fun t a => by rw [ein]; by_cases z : t = j; (rw [z, uA_e]); rw [uA_n z]; exact hf1 t (by omega)) (fun t a => by rw [ein, uA_n (by omega)]; exact hf2 t a)
  refine g_heap (hs_id (c := aI 13 (f)) hf).symm ?_
  exact lp2 ((14 : Int) + 1).toNat (f) (0) (0) (by omega) rfl (by decide) (fun t a => absurd a (Nat.not_lt_zero t)) hz
set_option maxHeartbeats 2000000 in
set_option maxRecDepth 20000 in
theorem c_X4_findDegree {N : Nat} {h : Hp} {Q : QP} {r : Nat} {dg p fr : Int} {f : Nat → Int} (ho : h r = POo r dg) (hf : h (r + 1) = aI 13 f) (hN : r + 1 < N) (hfr1 : -1 ≤ fr) (hfr2 : fr ≤ 12) (hz : ∀ i : Nat, fr < (i : Int) → f i = 0) (hb : ∀ i : Nat, 0 ≤ f i ∧ f i < p) (hp97 : p ≤ 97) (hQ : ∀ d2 : Int, d2 ≤ fr → POK p f d2 → Q none N (hs h r (POo r d2))) : Runs mX4_findDegree [.ref (r), .int (iZ (fr))] N h Q := by
  refine run_start (own := RX4) rfl (by decide) (nle rfl) rfl (fun X hq hini => ?_)
  show G X RX4 cX4_findDegree mX4_findDegree.rm N 0 0 0 [some (.ref (r)), some (.int (iZ (fr)))] [] h
  refine r_aload_n dX4_findDegree_0 rfl rfl ?_
  refine r_iload_n dX4_findDegree_1 rfl rfl ?_
  refine pf_X4_15 (fs2 := [_, _]) dX4_findDegree_2 (fun _ _ => rfl) (fun _ _ => rfl) (nlt rfl) (by omega) ho rfl ?_
  have lp5 : ∀ (fu5 : Nat) (d : Int), (d + 2) < (fu5 : Int) → (-1 ≤ d) → (d ≤ fr) → (∀ i : Nat, d < (i : Int) → f i = 0) → G X RX4 cX4_findDegree mX4_findDegree.rm N 0 0 5 [some (.ref (r)), none] [] (hs h (r) (ob 4 [.ref (r + 1), .int (iZ (d))])) := by
    intro fu5
    induction fu5 with
    | zero => intro d hm d0 d1 hd; exfalso; omega
    | succ fu5 ih5 =>
      intro d hms5 d0 d1 hd
      refine r_aload_n dX4_findDegree_5 rfl rfl ?_
      refine gf_X4_15 dX4_findDegree_6 (by omega) hs_e rfl ?_
      refine r_if_lt 37 dX4_findDegree_9 (by decide) ⟨by omega, by omega⟩ (fun c_9 => ?_) (fun c_9 => ?_)
      · refine r_return hq dX4_findDegree_37 rfl rfl rfl ?_
        exact hQ d d1 ⟨d0, by omega, hd, hb, fun w => by exfalso; omega⟩
      · refine r_aload_n dX4_findDegree_12 rfl rfl ?_
        refine gf_X4_11 dX4_findDegree_13 (by omega) hs_e rfl ?_
        refine r_aload_n dX4_findDegree_16 rfl rfl ?_
        refine gf_X4_15 dX4_findDegree_17 (by omega) hs_e rfl ?_
        have fb := hb d.toNat
        refine r_iaload dX4_findDegree_20 (by omega) ((hs_n (by omega)).trans hf) (by omega) (by omega) (by decide) ?_
        refine r_if_ne 37 dX4_findDegree_21 (by decide) ⟨by omega, by omega⟩ (fun c_21 => ?_) (fun c_21 => ?_)
        · refine r_return hq dX4_findDegree_37 rfl rfl rfl ?_
          exact hQ d d1 ⟨d0, by omega, hd, hb, fun _ => c_21⟩
        · refine r_aload_n dX4_findDegree_24 rfl rfl ?_
          refine r_dup dX4_findDegree_25 rfl ?_
          refine gf_X4_15 dX4_findDegree_26 (by omega) hs_e rfl ?_
          refine r_iconst (z := 1) dX4_findDegree_29 ?_
          refine r_isub dX4_findDegree_30 ?_
          refine pf_X4_15 (fs2 := [_, _]) dX4_findDegree_31 (fun _ _ => rfl) (fun _ _ => rfl) (nlt rfl) (by omega) hs_e rfl ?_
          refine g_heap (h2 := (hs h (r) (ob 4 [.ref (r + 1), .int (iZ (d - 1))]))) hs_hs ?_
          refine r_goto 5 dX4_findDegree_34 (by decide) ?_
          exact ih5 (d - 1) (by omega) (by omega) (by omega) (fun i a => by by_cases z : (i : Int) = d; (have e9 : i = d.toNat := (by omega); rw [e9]; exact c_21); exact hd i (by omega))
  refine r_mask [true, false] (L2 := [_, none]) rfl ?_
  exact lp5 ((15 : Int) + 1).toNat (fr) (by omega) hfr1 (Int.le_refl _) hz
set_option maxHeartbeats 2000000 in
set_option maxRecDepth 20000 in
theorem c_X4_become {N : Nat} {h : Hp} {Q : QP} {r v : Nat} {dg dv : Int} {f g : Nat → Int} (ho : h r = POo r dg) (hf : h (r + 1) = aI 13 f) (hN : r + 1 < N) (hov : h v = POo v dv) (hfv : h (v + 1) = aI 13 g) (hNv : v + 1 < N) (hrv : r + 1 < v ∨ v + 1 < r) (hz : Z13 f) (hzg : Z13 g) (hQ : Q none N (hs (hs h (r + 1) (aI 13 g)) r (POo r dv))) : Runs mX4_become [.ref (r), .ref (v)] N h Q := by
  refine run_start (own := RX4) rfl (by decide) (nle rfl) rfl (fun X hq hini => ?_)
  show G X RX4 cX4_become mX4_become.rm N 0 0 0 [some (.ref (r)), some (.ref (v))] [] h
  refine r_aload_n dX4_become_0 rfl rfl ?_
  refine gf_X4_11 dX4_become_1 (by omega) hov rfl ?_
  refine r_iconst (z := 0) dX4_become_4 ?_
  refine r_aload_n dX4_become_5 rfl rfl ?_
  refine gf_X4_11 dX4_become_6 (by omega) ho rfl ?_
  refine r_iconst (z := 0) dX4_become_9 ?_
  refine r_aload_n dX4_become_10 rfl rfl ?_
  refine gf_X4_11 dX4_become_11 (by omega) ho rfl ?_
  refine r_arrlen (M := 13) dX4_become_14 (by omega) hf (nlt rfl) rfl ?_
  show G _ _ _ _ _ _ _ _ _ (.int (iZ (13)) :: _) _
  refine r_copyI dX4_become_15 ml_X4_19 jna_copy jst_copy jin_System (by omega) (by omega) hfv hf (by omega) (by omega) (by omega) (by omega) (by omega) (by decide) (by decide) ⟨by decide, by decide⟩ (nle rfl) ?_
  refine r_aload_n dX4_become_18 rfl rfl ?_
  refine r_aload_n dX4_become_19 rfl rfl ?_
  refine gf_X4_15 dX4_become_20 (by omega) ((hs_n (by omega)).trans hov) rfl ?_
  refine pf_X4_15 (fs2 := [_, _]) dX4_become_23 (fun _ _ => rfl) (fun _ _ => rfl) (nlt rfl) (by omega) ((hs_n (by omega)).trans ho) rfl ?_
  refine r_return hq dX4_become_26 rfl rfl rfl ?_
  have e9 : cpy g f (0 : Int).toNat (0 : Int).toNat (13 : Int).toNat = g := funext (fun t => by unfold cpy; by_cases z : (0 : Int).toNat ≤ t ∧ t < (0 : Int).toNat + (13 : Int).toNat; (rw [if_pos z]; congr 1; show 0 + (t - 0) = t; omega); have w : 12 < t := (by have z1 : ¬ (0 ≤ t ∧ t < 0 + 13) := z; omega); rw [if_neg z, hz t w, hzg t w])
  rw [e9]
  exact hQ
set_option maxHeartbeats 2000000 in
set_option maxRecDepth 20000 in
theorem c_X4_becomeOne {N : Nat} {h : Hp} {Q : QP} {r : Nat} {dg : Int} {f : Nat → Int} (ho : h r = POo r dg) (hf : h (r + 1) = aI 13 f) (hN : r + 1 < N) (hz : Z13 f) (hQ : Q none N (hs (hs h (r + 1) (aI 13 pone)) r (POo r 0))) : Runs mX4_becomeOne [.ref (r)] N h Q := by
  refine run_start (own := RX4) rfl (by decide) (nle rfl) rfl (fun X hq hini => ?_)
  show G X RX4 cX4_becomeOne mX4_becomeOne.rm N 0 0 0 [some (.ref (r))] [] h
  refine r_aload_n dX4_becomeOne_0 rfl rfl ?_
  refine r_callV (av := []) dX4_becomeOne_1 lkX4_clear ml_X4_25 imX4_clear seX4_clear (by omega) (rfl : vwCl[4]? = _) ⟨_, ho⟩ ⟨Nat.le_of_ble_eq_true rfl, Nat.le_of_ble_eq_true rfl⟩ rfl rfl (nle rfl) ⟨Nat.le_of_ble_eq_true rfl, Nat.le_of_ble_eq_true rfl⟩ (c_X4_clear (r := r) (dg := dg) (f := f) ho hf (by omega) hz ?_)
  show G _ _ _ _ _ _ _ 4 _ _ _
  refine r_aload_n dX4_becomeOne_4 rfl rfl ?_
  refine gf_X4_11 dX4_becomeOne_5 (by omega) hs_e rfl ?_
  refine r_iconst (z := 0) dX4_becomeOne_8 ?_
  refine r_iconst (z := 1) dX4_becomeOne_9 ?_
  refine r_iastore dX4_becomeOne_10 (by omega) ((hs_n (by omega)).trans hs_e) (by omega) (by omega) (by decide) ?_
  refine g_heap (h2 := (hs (hs h (r + 1) (aI 13 (uA (fun _ => 0) (0 : Int).toNat (1)))) (r) (ob 4 [.ref (r + 1), .int (iZ ((-1)))]))) (hs_put (by omega) hs_hs) ?_
  refine r_aload_n dX4_becomeOne_11 rfl rfl ?_
  refine r_iconst (z := 0) dX4_becomeOne_12 ?_
  refine pf_X4_15 (fs2 := [_, _]) dX4_becomeOne_13 (fun _ _ => rfl) (fun _ _ => rfl) (nlt rfl) (by omega) hs_e rfl ?_
  refine g_heap (h2 := (hs (hs h (r + 1) (aI 13 (uA (fun _ => 0) (0 : Int).toNat (1)))) (r) (ob 4 [.ref (r + 1), .int (iZ (0))]))) hs_hs ?_
  refine r_return hq dX4_becomeOne_16 rfl rfl rfl ?_
  have e9 : uA (fun _ => 0) (0 : Int).toNat 1 = pone := rfl
  rw [e9]
  exact hQ
set_option maxHeartbeats 2000000 in
set_option maxRecDepth 20000 in
theorem c_X4_becomeZ {N : Nat} {h : Hp} {Q : QP} {r : Nat} {dg : Int} {f : Nat → Int} (ho : h r = POo r dg) (hf : h (r + 1) = aI 13 f) (hN : r + 1 < N) (hz : Z13 f) (hQ : Q none N (hs (hs h (r + 1) (aI 13 pz)) r (POo r 1))) : Runs mX4_becomeZ [.ref (r)] N h Q := by
  refine run_start (own := RX4) rfl (by decide) (nle rfl) rfl (fun X hq hini => ?_)
  show G X RX4 cX4_becomeZ mX4_becomeZ.rm N 0 0 0 [some (.ref (r))] [] h
  refine r_aload_n dX4_becomeZ_0 rfl rfl ?_
  refine r_callV (av := []) dX4_becomeZ_1 lkX4_clear ml_X4_25 imX4_clear seX4_clear (by omega) (rfl : vwCl[4]? = _) ⟨_, ho⟩ ⟨Nat.le_of_ble_eq_true rfl, Nat.le_of_ble_eq_true rfl⟩ rfl rfl (nle rfl) ⟨Nat.le_of_ble_eq_true rfl, Nat.le_of_ble_eq_true rfl⟩ (c_X4_clear (r := r) (dg := dg) (f := f) ho hf (by omega) hz ?_)
  show G _ _ _ _ _ _ _ 4 _ _ _
  refine r_aload_n dX4_becomeZ_4 rfl rfl ?_
  refine gf_X4_11 dX4_becomeZ_5 (by omega) hs_e rfl ?_
  refine r_iconst (z := 1) dX4_becomeZ_8 ?_
  refine r_iconst (z := 1) dX4_becomeZ_9 ?_
  refine r_iastore dX4_becomeZ_10 (by omega) ((hs_n (by omega)).trans hs_e) (by omega) (by omega) (by decide) ?_
  refine g_heap (h2 := (hs (hs h (r + 1) (aI 13 (uA (fun _ => 0) (1 : Int).toNat (1)))) (r) (ob 4 [.ref (r + 1), .int (iZ ((-1)))]))) (hs_put (by omega) hs_hs) ?_
  refine r_aload_n dX4_becomeZ_11 rfl rfl ?_
  refine r_iconst (z := 1) dX4_becomeZ_12 ?_
  refine pf_X4_15 (fs2 := [_, _]) dX4_becomeZ_13 (fun _ _ => rfl) (fun _ _ => rfl) (nlt rfl) (by omega) hs_e rfl ?_
  refine g_heap (h2 := (hs (hs h (r + 1) (aI 13 (uA (fun _ => 0) (1 : Int).toNat (1)))) (r) (ob 4 [.ref (r + 1), .int (iZ (1))]))) hs_hs ?_
  refine r_return hq dX4_becomeZ_16 rfl rfl rfl ?_
  have e9 : uA (fun _ => 0) (1 : Int).toNat 1 = pz := rfl
  rw [e9]
  exact hQ
set_option maxHeartbeats 2000000 in
set_option maxRecDepth 20000 in
theorem c_X4_becomeLaw {N : Nat} {h : Hp} {Q : QP} {r x k : Nat} {dg p : Int} {f c s : Nat → Int} (ho : h r = POo r dg) (hf : h (r + 1) = aI 13 f) (hN : r + 1 < N) (hz : Z13 f) (hr : RowAt h x k c s) (hxN : x + 2 < N) (hxr : x + 2 < r ∨ r + 1 < x) (hk0 : 0 < k) (hk : k ≤ 6) (hcb : ∀ j, j < 7 → -100000 ≤ c j ∧ c j ≤ 100000) (hp2 : 2 ≤ p) (hp97 : p ≤ 97) (hQ : Q none N (hs (hs h (r + 1) (aI 13 (plaw p k c))) r (POo r (k : Int)))) : Runs mX4_becomeLaw [.ref (r), .ref (x), .int (iZ (p))] N h Q := by
  refine run_start (own := RX4) rfl (by decide) (nle rfl) rfl (fun X hq hini => ?_)
  show G X RX4 cX4_becomeLaw mX4_becomeLaw.rm N 0 0 0 [some (.ref (r)), some (.ref (x)), some (.int (iZ (p))), none] [] h
  refine r_aload_n dX4_becomeLaw_0 rfl rfl ?_
  refine r_callV (av := []) dX4_becomeLaw_1 lkX4_clear ml_X4_25 imX4_clear seX4_clear (by omega) (rfl : vwCl[4]? = _) ⟨_, ho⟩ ⟨Nat.le_of_ble_eq_true rfl, Nat.le_of_ble_eq_true rfl⟩ rfl rfl (nle rfl) ⟨Nat.le_of_ble_eq_true rfl, Nat.le_of_ble_eq_true rfl⟩ (c_X4_clear (r := r) (dg := dg) (f := f) ho hf (by omega) hz ?_)
  show G _ _ _ _ _ _ _ 4 _ _ _
  refine r_iconst (z := 0) dX4_becomeLaw_4 ?_
  refine r_istore_n (L2 := [_, _, _, _]) dX4_becomeLaw_5 rfl (nlt rfl) rfl ?_
  have lp6 : ∀ (fu6 : Nat) (f1 : Nat → Int) (i : Int) (j : Nat), (8 - i) < (fu6 : Int) → (i = (j : Int)) → (j ≤ k + 1) → (∀ t, f1 t = if t ≤ k ∧ k < t + j then (-(c (k - t))) % p else 0) → G X RX4 cX4_becomeLaw mX4_becomeLaw.rm N 0 0 6 [some (.ref (r)), some (.ref (x)), some (.int (iZ (p))), some (.int (iZ (i)))] [] (hs (hs h (r + 1) (aI 13 (f1))) (r) (ob 4 [.ref (r + 1), .int (iZ ((-1)))])) := by
    intro fu6
    induction fu6 with
    | zero => intro f1 i j hm ei j1 hf1; exfalso; omega
    | succ fu6 ih6 =>
      intro f1 i j hms6 ei j1 hf1
      refine r_iload_n dX4_becomeLaw_6 rfl rfl ?_
      refine r_aload_n dX4_becomeLaw_7 rfl rfl ?_
      refine gf_X4_28 dX4_becomeLaw_8 (by omega) ((hs_n (by omega)).trans ((hs_n (by omega)).trans hr.1)) rfl ?_
      refine r_icmp_gt 44 dX4_becomeLaw_11 (by decide) ⟨by omega, by omega⟩ ⟨by omega, by omega⟩ (fun c_11 => ?_) (fun c_11 => ?_)
      · refine r_aload_n dX4_becomeLaw_44 rfl rfl ?_
        refine r_aload_n dX4_becomeLaw_45 rfl rfl ?_
        refine gf_X4_28 dX4_becomeLaw_46 (by omega) ((hs_n (by omega)).trans ((hs_n (by omega)).trans hr.1)) rfl ?_
        refine pf_X4_15 (fs2 := [_, _]) dX4_becomeLaw_49 (fun _ _ => rfl) (fun _ _ => rfl) (nlt rfl) (by omega) hs_e rfl ?_
        refine g_heap (h2 := (hs (hs h (r + 1) (aI 13 (f1))) (r) (ob 4 [.ref (r + 1), .int (iZ ((k : Int)))]))) hs_hs ?_
        refine r_return hq dX4_becomeLaw_52 rfl rfl rfl ?_
        have j9 : j = k + 1 := by omega
        have e9 : f1 = plaw p k c := funext (fun t => by rw [hf1 t]; unfold plaw; by_cases w : t ≤ k; (rw [if_pos w, if_pos (by omega)]); rw [if_neg w, if_neg (by omega)])
        rw [e9]
        exact hQ
      · have ein : ((k : Int) - i).toNat = k - j := by omega
        have cb := hcb i.toNat (by omega)
        have ekj : c i.toNat = c (k - (k - j)) := by congr 1; omega
        refine r_aload_n dX4_becomeLaw_14 rfl rfl ?_
        refine gf_X4_11 dX4_becomeLaw_15 (by omega) hs_e rfl ?_
        refine r_aload_n dX4_becomeLaw_18 rfl rfl ?_
        refine gf_X4_28 dX4_becomeLaw_19 (by omega) ((hs_n (by omega)).trans ((hs_n (by omega)).trans hr.1)) rfl ?_
        refine r_iload_n dX4_becomeLaw_22 rfl rfl ?_
        refine r_isub dX4_becomeLaw_23 ?_
        refine r_aload_n dX4_becomeLaw_24 rfl rfl ?_
        refine gf_X4_33 dX4_becomeLaw_25 (by omega) ((hs_n (by omega)).trans ((hs_n (by omega)).trans hr.1)) rfl ?_
        refine r_iload_n dX4_becomeLaw_28 rfl rfl ?_
        refine r_laload dX4_becomeLaw_29 (by omega) ((hs_n (by omega)).trans ((hs_n (by omega)).trans hr.2.1)) (by omega) (by omega) (by decide) ?_
        refine r_lneg dX4_becomeLaw_30 ?_
        refine r_iload_n dX4_becomeLaw_31 rfl rfl ?_
        refine r_i2l dX4_becomeLaw_32 ⟨by omega, by omega⟩ ?_
        refine r_floorMod dX4_becomeLaw_33 ml_X4_37 stJ9_floorMod_f86c9 lkJ9_floorMod_f86c9.1 lkJ9_floorMod_f86c9.2.1 ⟨by decide, by decide⟩ (nle rfl) ⟨Nat.zero_le _, Nat.zero_le _⟩ ⟨by omega, by omega⟩ ⟨by omega, by omega⟩ (by omega) ?_
        have eb_33 := emod_bd (-(c (i).toNat)) (show 0 < p by omega)
        refine r_l2i dX4_becomeLaw_36 ?_
        refine r_iastore dX4_becomeLaw_37 (by omega) ((hs_n (by omega)).trans hs_e) (by omega) (by omega) (by decide) ?_
        refine g_heap (h2 := (hs (hs h (r + 1) (aI 13 (uA (f1) ((k : Int) - i).toNat ((-(c (i).toNat)) % p)))) (r) (ob 4 [.ref (r + 1), .int (iZ ((-1)))]))) (hs_put (by omega) hs_hs) ?_
        refine r_iinc (L2 := [_, _, _, _]) dX4_becomeLaw_38 (nlt rfl) rfl rfl ?_
        refine r_goto 6 dX4_becomeLaw_41 (by decide) ?_
        exact ih6 (uA (f1) ((k : Int) - i).toNat ((-(c (i).toNat)) % p)) (i + 1) ((j + 1)) (by omega) (by omega) (by omega) (fun t => by rw [ein]; by_cases z : t = k - j; (rw [z, uA_e, if_pos (by omega), ekj]); rw [uA_n z, hf1 t]; by_cases w : t ≤ k ∧ k < t + j; (rw [if_pos w, if_pos (by omega)]); rw [if_neg w, if_neg (by omega)])
  exact lp6 ((8 : Int) + 1).toNat (fun _ => 0) (0) (0) (by omega) rfl (by omega) (fun t => by rw [if_neg (by omega)])
theorem uA_b {p : Int} {f : Nat → Int} {i : Nat} {x : Int} (hb : ∀ i : Nat, 0 ≤ f i ∧ f i < p) (hx : 0 ≤ x ∧ x < p) : ∀ j : Nat, 0 ≤ uA f i x j ∧ uA f i x j < p := fun j => by
  by_cases z : j = i
  · rw [z, uA_e]; exact hx
  · rw [uA_n z]; exact hb j
set_option maxHeartbeats 2000000 in
set_option maxRecDepth 20000 in
theorem c_X4_lessZ {N : Nat} {h : Hp} {Q : QP} {r : Nat} {dg p : Int} {f : Nat → Int} (ho : h r = POo r dg) (hf : h (r + 1) = aI 13 f) (hN : r + 1 < N) (hP : POK p f dg) (hp2 : 2 ≤ p) (hp97 : p ≤ 97) (hQ : ∀ d2 : Int, d2 ≤ max dg 1 → POK p (uA f 1 ((f 1 + p - 1) % p)) d2 → Q none N (hs (hs h (r + 1) (aI 13 (uA f 1 ((f 1 + p - 1) % p)))) r (POo r d2))) : Runs mX4_lessZ [.ref (r), .int (iZ (p))] N h Q := by
  obtain ⟨g1, g2, g3, g4, g5⟩ := hP
  have f1b := g4 1
  have f1c : 0 ≤ f (1 : Int).toNat ∧ f (1 : Int).toNat < p := f1b
  refine run_start (own := RX4) rfl (by decide) (nle rfl) rfl (fun X hq hini => ?_)
  show G X RX4 cX4_lessZ mX4_lessZ.rm N 0 0 0 [some (.ref (r)), some (.int (iZ (p)))] [] h
  refine r_aload_n dX4_lessZ_0 rfl rfl ?_
  refine gf_X4_11 dX4_lessZ_1 (by omega) ho rfl ?_
  refine r_iconst (z := 1) dX4_lessZ_4 ?_
  refine r_aload_n dX4_lessZ_5 rfl rfl ?_
  refine gf_X4_11 dX4_lessZ_6 (by omega) ho rfl ?_
  refine r_iconst (z := 1) dX4_lessZ_9 ?_
  refine r_iaload dX4_lessZ_10 (by omega) hf (by omega) (by omega) (by decide) ?_
  refine r_iload_n dX4_lessZ_11 rfl rfl ?_
  refine r_iadd dX4_lessZ_12 ?_
  refine r_iconst (z := 1) dX4_lessZ_13 ?_
  refine r_isub dX4_lessZ_14 ?_
  refine r_iload_n dX4_lessZ_15 rfl rfl ?_
  refine r_iremp dX4_lessZ_16 ⟨by omega, by omega⟩ ⟨by omega, by omega⟩ (by omega) (by omega) ?_
  have eb_16 := emod_bd (((f (1 : Int).toNat) + p) - 1) (show 0 < p by omega)
  refine r_iastore dX4_lessZ_17 (by omega) hf (by omega) (by omega) (by decide) ?_
  refine r_aload_n dX4_lessZ_18 rfl rfl ?_
  refine r_aload_n dX4_lessZ_19 rfl rfl ?_
  refine gf_X4_15 dX4_lessZ_20 (by omega) ((hs_n (by omega)).trans ho) rfl ?_
  refine r_iconst (z := 1) dX4_lessZ_23 ?_
  refine r_max dX4_lessZ_24 ml_X4_43 jst_max jin_Math jcd_max ⟨by decide, by decide⟩ (nle rfl) ⟨Nat.zero_le _, Nat.zero_le _⟩ ⟨by omega, by omega⟩ ⟨by decide, by decide⟩ ?_
  refine r_callV (av := [.int (iZ (max dg 1))]) dX4_lessZ_27 lkX4_findDegree ml_X4_47 imX4_findDegree seX4_findDegree (by omega) (rfl : vwCl[4]? = _) ⟨_, ((hs_n (by omega)).trans ho)⟩ ⟨Nat.le_of_ble_eq_true rfl, Nat.le_of_ble_eq_true rfl⟩ rfl rfl (nle rfl) ⟨Nat.le_of_ble_eq_true rfl, Nat.le_of_ble_eq_true rfl⟩ (c_X4_findDegree (r := r) (dg := dg) (p := p) (fr := max dg 1) (f := uA (f) (1 : Int).toNat ((((f (1 : Int).toNat) + p) - 1) % p)) ((hs_n (by omega)).trans ho) hs_e (by omega) (by omega) (by omega) (fun i hi => by have e1 : (1 : Int).toNat = 1 := rfl; rw [e1, uA_n (by omega)]; exact g3 i (by omega)) (uA_b g4 ⟨eb_16.1, eb_16.2⟩) hp97 (fun d27 hd27 hP27 => ?_))
  show G _ _ _ _ _ _ _ 30 _ _ _
  refine r_return hq dX4_lessZ_30 rfl rfl rfl ?_
  exact hQ d27 hd27 hP27
set_option maxHeartbeats 2000000 in
set_option maxRecDepth 20000 in
theorem c_X4_becomeProduct {N : Nat} {h : Hp} {Q : QP} {r a b : Nat} {dg da db p : Int} {f fa fb : Nat → Int} (ho : h r = POo r dg) (hf : h (r + 1) = aI 13 f) (hN : r + 1 < N) (hz : Z13 f) (hoa : h a = POo a da) (hfa : h (a + 1) = aI 13 fa) (hNa : a + 1 < N) (hra : r + 1 < a ∨ a + 1 < r) (hob : h b = POo b db) (hfb : h (b + 1) = aI 13 fb) (hNb : b + 1 < N) (hrb : r + 1 < b ∨ b + 1 < r) (hPa : POK p fa da) (hPb : POK p fb db) (hda : da ≤ 6) (hdb : db ≤ 6) (hp2 : 2 ≤ p) (hp97 : p ≤ 97) (hQ : ∀ (d2 : Int) (f2 : Nat → Int), POK p f2 d2 → (∀ n, n ≤ 12 → cg p (f2 n) (conv fa fb n)) → Q none N (hs (hs h (r + 1) (aI 13 f2)) r (POo r d2))) : Runs mX4_becomeProduct [.ref (r), .ref (a), .ref (b), .int (iZ (p))] N h Q := by
  have ga := hPa.1
  have gb := hPb.1
  refine run_start (own := RX4) rfl (by decide) (nle rfl) rfl (fun X hq hini => ?_)
  show G X RX4 cX4_becomeProduct mX4_becomeProduct.rm N 0 0 0 [some (.ref (r)), some (.ref (a)), some (.ref (b)), some (.int (iZ (p))), none, none] [] h
  refine r_aload_n dX4_becomeProduct_0 rfl rfl ?_
  refine r_callV (av := []) dX4_becomeProduct_1 lkX4_clear ml_X4_25 imX4_clear seX4_clear (by omega) (rfl : vwCl[4]? = _) ⟨_, ho⟩ ⟨Nat.le_of_ble_eq_true rfl, Nat.le_of_ble_eq_true rfl⟩ rfl rfl (nle rfl) ⟨Nat.le_of_ble_eq_true rfl, Nat.le_of_ble_eq_true rfl⟩ (c_X4_clear (r := r) (dg := dg) (f := f) ho hf (by omega) hz ?_)
  show G _ _ _ _ _ _ _ 4 _ _ _
  refine r_iconst (z := 0) dX4_becomeProduct_4 ?_
  refine r_istore (L2 := [_, _, _, _, _, none]) dX4_becomeProduct_5 (nlt rfl) rfl ?_
  have lp7 : ∀ (fu7 : Nat) (f1 : Nat → Int) (i : Int) (u : Nat), (15 - i) < (fu7 : Int) → (i = (u : Int)) → (i ≤ da + 1) → (∀ n : Nat, 0 ≤ f1 n ∧ f1 n < p) → (∀ n, 12 < n → f1 n = 0) → (∀ n, cg p (f1 n) (cvp fa fb u n)) → G X RX4 cX4_becomeProduct mX4_becomeProduct.rm N 0 0 7 [some (.ref (r)), some (.ref (a)), some (.ref (b)), some (.int (iZ (p))), some (.int (iZ (i))), none] [] (hs (hs h (r + 1) (aI 13 (f1))) (r) (ob 4 [.ref (r + 1), .int (iZ ((-1)))])) := by
    intro fu7
    induction fu7 with
    | zero => intro f1 i u hm ei u1 hb1 hz1 hc1; exfalso; omega
    | succ fu7 ih7 =>
      intro f1 i u hms7 ei u1 hb1 hz1 hc1
      refine r_iload dX4_becomeProduct_7 rfl ?_
      refine r_aload_n dX4_becomeProduct_9 rfl rfl ?_
      refine gf_X4_15 dX4_becomeProduct_10 (by omega) ((hs_n (by omega)).trans ((hs_n (by omega)).trans hoa)) rfl ?_
      refine r_icmp_gt 78 dX4_becomeProduct_13 (by decide) ⟨by omega, by omega⟩ ⟨by omega, by omega⟩ (fun c_13 => ?_) (fun c_13 => ?_)
      · refine r_aload_n dX4_becomeProduct_78 rfl rfl ?_
        refine r_bipush (z := 12) dX4_becomeProduct_79 (by decide) ?_
        refine r_callV (av := [.int (iZ (12))]) dX4_becomeProduct_81 lkX4_findDegree ml_X4_47 imX4_findDegree seX4_findDegree (by omega) (rfl : vwCl[4]? = _) ⟨_, hs_e⟩ ⟨Nat.le_of_ble_eq_true rfl, Nat.le_of_ble_eq_true rfl⟩ rfl rfl (nle rfl) ⟨Nat.le_of_ble_eq_true rfl, Nat.le_of_ble_eq_true rfl⟩ (c_X4_findDegree (r := r) (dg := (-1)) (p := p) (fr := 12) (f := f1) hs_e ((hs_n (by omega)).trans hs_e) (by omega) (by omega) (by omega) (fun i hi => hz1 i (by omega)) hb1 hp97 (fun d81 hd81 hP81 => ?_))
        refine g_heap (h2 := (hs (hs h (r + 1) (aI 13 (f1))) (r) (ob 4 [.ref (r + 1), .int (iZ (d81))]))) hs_hs ?_
        show G _ _ _ _ _ _ _ 84 _ _ _
        refine r_return hq dX4_becomeProduct_84 rfl rfl rfl ?_
        exact hQ d81 f1 hP81 (fun n _ => (hc1 n).tr (cg.of (cvp_conv (fun t ht => hPa.2.2.1 t (by omega)))))
      · refine r_iconst (z := 0) dX4_becomeProduct_16 ?_
        refine r_istore (L2 := [_, _, _, _, _, _]) dX4_becomeProduct_17 (nlt rfl) rfl ?_
        have lp19 : ∀ (fu19 : Nat) (f2 : Nat → Int) (j : Int) (v : Nat), (15 - j) < (fu19 : Int) → (j = (v : Int)) → (j ≤ db + 1) → (∀ n : Nat, 0 ≤ f2 n ∧ f2 n < p) → (∀ n, 12 < n → f2 n = 0) → (∀ n, cg p (f2 n) (cvp fa fb u n + if u ≤ n ∧ n < u + v then fa u * fb (n - u) else 0)) → G X RX4 cX4_becomeProduct mX4_becomeProduct.rm N 0 0 19 [some (.ref (r)), some (.ref (a)), some (.ref (b)), some (.int (iZ (p))), some (.int (iZ (i))), some (.int (iZ (j)))] [] (hs (hs h (r + 1) (aI 13 (f2))) (r) (ob 4 [.ref (r + 1), .int (iZ ((-1)))])) := by
          intro fu19
          induction fu19 with
          | zero => intro f2 j v hm ej v1 hb2 hz2 hc2; exfalso; omega
          | succ fu19 ih19 =>
            intro f2 j v hms19 ej v1 hb2 hz2 hc2
            refine r_iload dX4_becomeProduct_19 rfl ?_
            refine r_aload_n dX4_becomeProduct_21 rfl rfl ?_
            refine gf_X4_15 dX4_becomeProduct_22 (by omega) ((hs_n (by omega)).trans ((hs_n (by omega)).trans hob)) rfl ?_
            refine r_icmp_gt 72 dX4_becomeProduct_25 (by decide) ⟨by omega, by omega⟩ ⟨by omega, by omega⟩ (fun c_25 => ?_) (fun c_25 => ?_)
            · refine r_iinc (L2 := [_, _, _, _, _, _]) dX4_becomeProduct_72 (nlt rfl) rfl rfl ?_
              refine r_goto 7 dX4_becomeProduct_75 (by decide) ?_
              refine r_mask [true, true, true, true, true, false] (L2 := [_, _, _, _, _, none]) rfl ?_
              exact ih7 (f2) (i + 1) ((u + 1)) (by omega) (by omega) (by omega) hb2 hz2 (fun n => by
                refine (hc2 n).tr (cg.of ?_)
                show _ = cvp fa fb u n + (if u ≤ n then fa u * fb (n - u) else 0)
                by_cases z : u ≤ n
                · rw [if_pos z]
                  by_cases w : n < u + v
                  · rw [if_pos ⟨z, w⟩]
                  · rw [if_neg (fun y => w y.2), hPb.2.2.1 (n - u) (by omega), Int.mul_zero]
                · rw [if_neg z, if_neg (fun y => z y.1)])
            · have eij : (i + j).toNat = u + v := by omega
              have fb9 := hb2 (i + j).toNat
              refine r_aload_n dX4_becomeProduct_28 rfl rfl ?_
              refine gf_X4_11 dX4_becomeProduct_29 (by omega) hs_e rfl ?_
              refine r_iload dX4_becomeProduct_32 rfl ?_
              refine r_iload dX4_becomeProduct_34 rfl ?_
              refine r_iadd dX4_becomeProduct_36 ?_
              refine r_aload_n dX4_becomeProduct_37 rfl rfl ?_
              refine gf_X4_11 dX4_becomeProduct_38 (by omega) hs_e rfl ?_
              refine r_iload dX4_becomeProduct_41 rfl ?_
              refine r_iload dX4_becomeProduct_43 rfl ?_
              refine r_iadd dX4_becomeProduct_45 ?_
              refine r_iaload dX4_becomeProduct_46 (by omega) ((hs_n (by omega)).trans hs_e) (by omega) (by omega) (by decide) ?_
              refine r_aload_n dX4_becomeProduct_47 rfl rfl ?_
              refine gf_X4_11 dX4_becomeProduct_48 (by omega) ((hs_n (by omega)).trans ((hs_n (by omega)).trans hoa)) rfl ?_
              refine r_iload dX4_becomeProduct_51 rfl ?_
              have e1 : fa i.toNat = fa u := by congr 1; omega
              have ab := hPa.2.2.2.1 u
              rw [← e1] at ab
              refine r_iaload dX4_becomeProduct_53 (by omega) ((hs_n (by omega)).trans ((hs_n (by omega)).trans hfa)) (by omega) (by omega) (by decide) ?_
              refine r_aload_n dX4_becomeProduct_54 rfl rfl ?_
              refine gf_X4_11 dX4_becomeProduct_55 (by omega) ((hs_n (by omega)).trans ((hs_n (by omega)).trans hob)) rfl ?_
              refine r_iload dX4_becomeProduct_58 rfl ?_
              refine r_iaload dX4_becomeProduct_60 (by omega) ((hs_n (by omega)).trans ((hs_n (by omega)).trans hfb)) (by omega) (by omega) (by decide) ?_
              have e2 : fb j.toNat = fb v := by congr 1; omega
              have bb := hPb.2.2.2.1 v
              rw [← e2] at bb
              have m61 := mulb (A := 97) (B := 97) (a := fa i.toNat) (b := fb j.toNat) (C := 9409) (by omega) (by omega) (by omega) (by omega) (by decide)
              have m62 := Int.mul_nonneg ab.1 bb.1
              refine r_imul dX4_becomeProduct_61 ?_
              refine r_iadd dX4_becomeProduct_62 ?_
              refine r_iload_n dX4_becomeProduct_63 rfl rfl ?_
              refine r_iremp dX4_becomeProduct_64 ⟨by omega, by omega⟩ ⟨by omega, by omega⟩ (by omega) (by omega) ?_
              have eb_64 := emod_bd ((f2 (i + j).toNat) + ((fa (i).toNat) * (fb (j).toNat))) (show 0 < p by omega)
              refine r_iastore dX4_becomeProduct_65 (by omega) ((hs_n (by omega)).trans hs_e) (by omega) (by omega) (by decide) ?_
              refine g_heap (h2 := (hs (hs h (r + 1) (aI 13 (uA (f2) (i + j).toNat (((f2 (i + j).toNat) + ((fa (i).toNat) * (fb (j).toNat))) % p)))) (r) (ob 4 [.ref (r + 1), .int (iZ ((-1)))]))) (hs_put (by omega) hs_hs) ?_
              refine r_iinc (L2 := [_, _, _, _, _, _]) dX4_becomeProduct_66 (nlt rfl) rfl rfl ?_
              refine r_goto 19 dX4_becomeProduct_69 (by decide) ?_
              exact ih19 (uA (f2) (i + j).toNat (((f2 (i + j).toNat) + ((fa (i).toNat) * (fb (j).toNat))) % p)) (j + 1) ((v + 1)) (by omega) (by omega) (by omega) (uA_b hb2 eb_64) (fun n a => by rw [eij, uA_n (by omega)]; exact hz2 n a) (fun n => by
                by_cases z : n = u + v
                · rw [z, eij, uA_e, if_pos ⟨by omega, by omega⟩, e1, e2]
                  have h9 := hc2 (u + v)
                  rw [if_neg (by omega), Int.add_zero] at h9
                  refine cg.md.tr (h9.add (cg.of ?_))
                  congr 2; omega
                · rw [eij, uA_n z]
                  refine (hc2 n).tr (cg.of ?_)
                  by_cases w : u ≤ n ∧ n < u + v
                  · rw [if_pos w, if_pos ⟨w.1, by omega⟩]
                  · rw [if_neg w, if_neg (by omega)])
        exact lp19 ((15 : Int) + 1).toNat (f1) (0) (0) (by omega) rfl (by omega) hb1 hz1 (fun n => by rw [if_neg (by omega), Int.add_zero]; exact hc1 n)
  exact lp7 ((15 : Int) + 1).toNat (fun _ => 0) (0) (0) (by omega) rfl (by omega) (fun n => ⟨Int.le_refl 0, by show (0 : Int) < p; omega⟩) (fun n a => rfl) (fun n => cg.rf)
theorem cg0v {p x : Int} (h : cg p x 0) (h0 : 0 ≤ x) (h1 : x < p) : x = 0 := by
  have := h.emod
  rw [Int.emod_eq_of_lt h0 h1, Int.zero_emod] at this
  exact this
theorem dvtop {p a x b : Int} (h : IsInv b p x) : cg p (a * x % p * b) a := by
  have h1 : cg p (b * x) 1 := cg.md.sy.tr (cg.of h.2.2)
  refine (cg.md.mul cg.rf).tr ((cg.of ?_).tr ((cg.rf.mul h1).tr (cg.of (Int.mul_one a))))
  rw [Int.mul_assoc, Int.mul_comm x b]
theorem dv_new {p : Int} {f g e1 f1 f2 : Nat → Int} {s : Nat} {T : Int} (he : e1 s = 0) (H : DIV p f g e1 f1) (h2 : ∀ n, cg p (f2 n) (f1 n - (if s ≤ n then T * g (n - s) else 0))) : DIV p f g (uA e1 s T) f2 := fun n => by
  refine (H n).tr ?_
  rw [conv_uA he n]
  have h3 := (cg.rf (m := p) (x := conv e1 g n + (if s ≤ n then T * g (n - s) else 0))).add (h2 n)
  exact (cg.of (by omega)).tr h3.sy
set_option maxHeartbeats 2000000 in
set_option maxRecDepth 20000 in
theorem c_X4_divideBy {N : Nat} {h : Hp} {Q : QP} {r v u : Nat} {dg dv du p : Int} {f g e : Nat → Int} (ho : h r = POo r dg) (hf : h (r + 1) = aI 13 f) (hN : r + 1 < N) (hov : h v = POo v dv) (hfv : h (v + 1) = aI 13 g) (hNv : v + 1 < N) (hrv : r + 1 < v ∨ v + 1 < r) (hou : h u = POo u du) (hfu : h (u + 1) = aI 13 e) (hNu : u + 1 < N) (hru : r + 1 < u ∨ u + 1 < r) (huv : v + 1 < u ∨ u + 1 < v) (hze : Z13 e) (hpr : Prm p) (hPf : POK p f dg) (hPg : POK p g dv) (hd0 : 0 ≤ dv) (hQ : ∀ (qf rf : Nat → Int) (dq dr : Int), POK p qf dq → POK p rf dr → dr < dv → dr ≤ dg → DIV p f g qf rf → Q none N (hs (hs (hs (hs h (u + 1) (aI 13 qf)) u (POo u dq)) (r + 1) (aI 13 rf)) r (POo r dr))) : Runs mX4_divideBy [.ref (r), .ref (v), .int (iZ (p)), .ref (u)] N h Q := by
  have hp2 := hpr.1
  have hp97 := hpr.2.1
  obtain ⟨f1a, f1b, f1c, f1d, f1e⟩ := hPf
  obtain ⟨g1a, g1b, g1c, g1d, g1e⟩ := hPg
  have gtop := g1e hd0
  have gb := g1d dv.toNat
  have hgcd := prm_gcd hpr (show 0 < g dv.toNat by omega) gb.2
  refine run_start (own := RX4) rfl (by decide) (nle rfl) rfl (fun X hq hini => ?_)
  show G X RX4 cX4_divideBy mX4_divideBy.rm N 0 0 0 [some (.ref (r)), some (.ref (v)), some (.int (iZ (p))), some (.ref (u)), none, none, none, none, none] [] h
  refine r_aload_n dX4_divideBy_0 rfl rfl ?_
  refine r_callV (av := []) dX4_divideBy_1 lkX4_clear ml_X4_25 imX4_clear seX4_clear (by omega) (rfl : vwCl[4]? = _) ⟨_, hou⟩ ⟨Nat.le_of_ble_eq_true rfl, Nat.le_of_ble_eq_true rfl⟩ rfl rfl (nle rfl) ⟨Nat.le_of_ble_eq_true rfl, Nat.le_of_ble_eq_true rfl⟩ (c_X4_clear (r := u) (dg := du) (f := e) hou hfu (by omega) hze ?_)
  show G _ _ _ _ _ _ _ 4 _ _ _
  refine r_aload_n dX4_divideBy_4 rfl rfl ?_
  refine gf_X4_15 dX4_divideBy_5 (by omega) ((hs_n (by omega)).trans ((hs_n (by omega)).trans hov)) rfl ?_
  refine r_if_ge 12 dX4_divideBy_8 (by decide) ⟨by omega, by omega⟩ (fun c_8 => ?_) (fun c_8 => by exfalso; omega)
  refine r_aload_n dX4_divideBy_12 rfl rfl ?_
  refine gf_X4_11 dX4_divideBy_13 (by omega) ((hs_n (by omega)).trans ((hs_n (by omega)).trans hov)) rfl ?_
  refine r_aload_n dX4_divideBy_16 rfl rfl ?_
  refine gf_X4_15 dX4_divideBy_17 (by omega) ((hs_n (by omega)).trans ((hs_n (by omega)).trans hov)) rfl ?_
  refine r_iaload dX4_divideBy_20 (by omega) ((hs_n (by omega)).trans ((hs_n (by omega)).trans hfv)) (by omega) (by omega) (by decide) ?_
  refine r_i2l dX4_divideBy_21 ⟨by omega, by omega⟩ ?_
  refine r_iload_n dX4_divideBy_22 rfl rfl ?_
  refine r_callSN (av := [.long (lZ (g (dv).toNat)), .int (iZ (p))]) dX4_divideBy_23 lkX10_inverse nl_X4_51 stX10_inverse ⟨Nat.le_of_ble_eq_true rfl, Nat.le_of_ble_eq_true rfl⟩ rfl rfl (nle rfl) ⟨Nat.le_of_ble_eq_true rfl, Nat.le_of_ble_eq_true rfl⟩ (c_X10_inverse (a := g (dv).toNat) (m := p) (by omega) (by omega) hgcd (fun x23 hx23 => ?_))
  show G _ _ _ _ _ _ _ 26 _ _ _
  have x23a := hx23.1
  have x23b := hx23.2.1
  refine r_istore (L2 := [_, _, _, _, _, none, none, none, none]) dX4_divideBy_26 (nlt rfl) rfl ?_
  refine r_aload_n dX4_divideBy_28 rfl rfl ?_
  refine gf_X4_15 dX4_divideBy_29 (by omega) ((hs_n (by omega)).trans ((hs_n (by omega)).trans ho)) rfl ?_
  refine r_aload_n dX4_divideBy_32 rfl rfl ?_
  refine gf_X4_15 dX4_divideBy_33 (by omega) ((hs_n (by omega)).trans ((hs_n (by omega)).trans hov)) rfl ?_
  refine r_isub dX4_divideBy_36 ?_
  refine r_istore (L2 := [_, _, _, _, _, _, none, none, none]) dX4_divideBy_37 (nlt rfl) rfl ?_
  have lp39 : ∀ (fu39 : Nat) (f1 : Nat → Int) (e1 : Nat → Int) (i : Int) (t : Nat), (max 0 (i + 2)) < (fu39 : Int) → ((t : Int) = max 0 (i + 1)) → (i ≤ dg - dv) → (-14 ≤ i) → (∀ n : Nat, 0 ≤ f1 n ∧ f1 n < p) → (∀ n : Nat, dg < (n : Int) → f1 n = 0) → (∀ n : Nat, (t : Int) + dv ≤ (n : Int) → f1 n = 0) → (∀ n : Nat, 0 ≤ e1 n ∧ e1 n < p) → (∀ n : Nat, n < t → e1 n = 0) → (∀ n : Nat, 12 < n → e1 n = 0) → (DIV p f g e1 f1) → G X RX4 cX4_divideBy mX4_divideBy.rm N 0 0 39 [some (.ref (r)), some (.ref (v)), some (.int (iZ (p))), some (.ref (u)), some (.int (iZ (x23))), some (.int (iZ (i))), none, none, none] [] (hs (hs (hs h (u + 1) (aI 13 (e1))) (u) (ob 4 [.ref (u + 1), .int (iZ ((-1)))])) (r + 1) (aI 13 (f1))) := by
    intro fu39
    induction fu39 with
    | zero => intro f1 e1 i t hm i1 i2 i14 i3 i4 i5 i6 i7 i8 i9; exfalso; omega
    | succ fu39 ih39 =>
      intro f1 e1 i t hms39 i1 i2 i14 i3 i4 i5 i6 i7 i8 i9
      refine r_iload dX4_divideBy_39 rfl ?_
      refine r_if_lt 137 dX4_divideBy_41 (by decide) ⟨by omega, by omega⟩ (fun c_41 => ?_) (fun c_41 => ?_)
      · refine r_aload_n dX4_divideBy_137 rfl rfl ?_
        refine r_bipush (z := 12) dX4_divideBy_138 (by decide) ?_
        refine r_callV (av := [.int (iZ (12))]) dX4_divideBy_140 lkX4_findDegree ml_X4_47 imX4_findDegree seX4_findDegree (by omega) (rfl : vwCl[4]? = _) ⟨_, ((hs_n (by omega)).trans hs_e)⟩ ⟨Nat.le_of_ble_eq_true rfl, Nat.le_of_ble_eq_true rfl⟩ rfl rfl (nle rfl) ⟨Nat.le_of_ble_eq_true rfl, Nat.le_of_ble_eq_true rfl⟩ (c_X4_findDegree (r := u) (dg := (-1)) (p := p) (fr := 12) (f := e1) ((hs_n (by omega)).trans hs_e) ((hs_n (by omega)).trans ((hs_n (by omega)).trans hs_e)) (by omega) (by omega) (by omega) (fun n hn => i8 n (by omega)) i6 hp97 (fun d140 hd140 hP140 => ?_))
        refine g_heap (h2 := (hs (hs (hs h (u + 1) (aI 13 (e1))) (u) (ob 4 [.ref (u + 1), .int (iZ (d140))])) (r + 1) (aI 13 (f1)))) (hs_put (by omega) hs_hs) ?_
        show G _ _ _ _ _ _ _ 143 _ _ _
        refine r_aload_n dX4_divideBy_143 rfl rfl ?_
        refine r_aload_n dX4_divideBy_144 rfl rfl ?_
        refine gf_X4_15 dX4_divideBy_145 (by omega) ((hs_n (by omega)).trans ((hs_n (by omega)).trans ((hs_n (by omega)).trans ho))) rfl ?_
        refine r_callV (av := [.int (iZ (dg))]) dX4_divideBy_148 lkX4_findDegree ml_X4_47 imX4_findDegree seX4_findDegree (by omega) (rfl : vwCl[4]? = _) ⟨_, ((hs_n (by omega)).trans ((hs_n (by omega)).trans ((hs_n (by omega)).trans ho)))⟩ ⟨Nat.le_of_ble_eq_true rfl, Nat.le_of_ble_eq_true rfl⟩ rfl rfl (nle rfl) ⟨Nat.le_of_ble_eq_true rfl, Nat.le_of_ble_eq_true rfl⟩ (c_X4_findDegree (r := r) (dg := dg) (p := p) (fr := dg) (f := f1) ((hs_n (by omega)).trans ((hs_n (by omega)).trans ((hs_n (by omega)).trans ho))) hs_e (by omega) (by omega) (by omega) i4 i3 hp97 (fun d148 hd148 hP148 => ?_))
        show G _ _ _ _ _ _ _ 151 _ _ _
        refine r_return hq dX4_divideBy_151 rfl rfl rfl ?_
        refine hQ e1 f1 d140 d148 hP140 hP148 ?_ hd148 i9
        refine Int.not_le.mp fun w => ?_
        have w2 := hP148.2.2.2.2 (by omega)
        exact w2 (i5 d148.toNat (by omega))
      · refine r_aload_n dX4_divideBy_44 rfl rfl ?_
        refine gf_X4_11 dX4_divideBy_45 (by omega) ((hs_n (by omega)).trans ((hs_n (by omega)).trans ((hs_n (by omega)).trans ho))) rfl ?_
        refine r_iload dX4_divideBy_48 rfl ?_
        refine r_aload_n dX4_divideBy_50 rfl rfl ?_
        refine gf_X4_15 dX4_divideBy_51 (by omega) ((hs_n (by omega)).trans ((hs_n (by omega)).trans ((hs_n (by omega)).trans hov))) rfl ?_
        refine r_iadd dX4_divideBy_54 ?_
        refine r_iaload dX4_divideBy_55 (by omega) hs_e (by omega) (by omega) (by decide) ?_
        have fb := i3 (i + dv).toNat
        have m58 := mulb (A := 97) (B := 97) (a := f1 (i + dv).toNat) (b := x23) (C := 9409) (by omega) (by omega) (by omega) (by omega) (by decide)
        have m59 := Int.mul_nonneg fb.1 x23a
        refine r_iload dX4_divideBy_56 rfl ?_
        refine r_imul dX4_divideBy_58 ?_
        refine r_iload_n dX4_divideBy_59 rfl rfl ?_
        refine r_iremp dX4_divideBy_60 ⟨by omega, by omega⟩ ⟨by omega, by omega⟩ (by omega) (by omega) ?_
        have eb_60 := emod_bd ((f1 (i + dv).toNat) * x23) (show 0 < p by omega)
        refine r_istore (L2 := [_, _, _, _, _, _, _, none, none]) dX4_divideBy_61 (nlt rfl) rfl ?_
        refine r_aload_n dX4_divideBy_63 rfl rfl ?_
        refine gf_X4_11 dX4_divideBy_64 (by omega) ((hs_n (by omega)).trans hs_e) rfl ?_
        refine r_iload dX4_divideBy_67 rfl ?_
        refine r_iload dX4_divideBy_69 rfl ?_
        refine r_iastore dX4_divideBy_71 (by omega) ((hs_n (by omega)).trans ((hs_n (by omega)).trans hs_e)) (by omega) (by omega) (by decide) ?_
        refine g_heap (h2 := (hs (hs (hs h (u + 1) (aI 13 (uA (e1) (i).toNat (((f1 (i + dv).toNat) * x23) % p)))) (u) (ob 4 [.ref (u + 1), .int (iZ ((-1)))])) (r + 1) (aI 13 (f1)))) (hs_put (by omega) (hs_put (by omega) hs_hs)) ?_
        refine r_iconst (z := 0) dX4_divideBy_72 ?_
        refine r_istore (L2 := [_, _, _, _, _, _, _, _, none]) dX4_divideBy_73 (nlt rfl) rfl ?_
        have lp75 : ∀ (fu75 : Nat) (f2 : Nat → Int) (j : Int) (b : Nat), (15 - j) < (fu75 : Int) → (j = (b : Int)) → ((b : Int) ≤ dv + 1) → (∀ n : Nat, 0 ≤ f2 n ∧ f2 n < p) → (∀ n : Nat, dg < (n : Int) → f2 n = 0) → (∀ n : Nat, cg p (f2 n) (f1 n - (if i.toNat ≤ n ∧ n < i.toNat + b then (f1 (i + dv).toNat * x23 % p) * g (n - i.toNat) else 0))) → G X RX4 cX4_divideBy mX4_divideBy.rm N 0 0 75 [some (.ref (r)), some (.ref (v)), some (.int (iZ (p))), some (.ref (u)), some (.int (iZ (x23))), some (.int (iZ (i))), some (.int (iZ (((f1 (i + dv).toNat) * x23) % p))), some (.int (iZ (j))), none] [] (hs (hs (hs h (u + 1) (aI 13 (uA (e1) (i).toNat (((f1 (i + dv).toNat) * x23) % p)))) (u) (ob 4 [.ref (u + 1), .int (iZ ((-1)))])) (r + 1) (aI 13 (f2))) := by
          intro fu75
          induction fu75 with
          | zero => intro f2 j b hm k1 k2 k3 k4 k5; exfalso; omega
          | succ fu75 ih75 =>
            intro f2 j b hms75 k1 k2 k3 k4 k5
            refine r_iload dX4_divideBy_75 rfl ?_
            refine r_aload_n dX4_divideBy_77 rfl rfl ?_
            refine gf_X4_15 dX4_divideBy_78 (by omega) ((hs_n (by omega)).trans ((hs_n (by omega)).trans ((hs_n (by omega)).trans hov))) rfl ?_
            refine r_icmp_gt 131 dX4_divideBy_81 (by decide) ⟨by omega, by omega⟩ ⟨by omega, by omega⟩ (fun c_81 => ?_) (fun c_81 => ?_)
            · have hf2 : ∀ n, cg p (f2 n) (f1 n - (if i.toNat ≤ n then (f1 (i + dv).toNat * x23 % p) * g (n - i.toNat) else 0)) := fun n => by
                refine (k5 n).tr (cg.of ?_)
                by_cases w : i.toNat ≤ n
                · by_cases w2 : n < i.toNat + b
                  · rw [if_pos ⟨w, w2⟩, if_pos w]
                  · rw [if_neg (fun z => w2 z.2), if_pos w, g1c (n - i.toNat) (by omega), Int.mul_zero]
                · rw [if_neg (fun z => w z.1), if_neg w]
              have ktop : f2 (i.toNat + dv.toNat) = 0 := by
                refine cg0v ((hf2 _).tr ?_) (k3 _).1 (k3 _).2
                rw [if_pos (by omega), show i.toNat + dv.toNat - i.toNat = dv.toNat by omega, show i.toNat + dv.toNat = (i + dv).toNat by omega]
                exact (cg.rf.sub (dvtop hx23)).tr (cg.of (by omega))
              refine r_iinc (L2 := [_, _, _, _, _, _, _, _, none]) dX4_divideBy_131 (nlt rfl) rfl rfl ?_
              refine r_goto 39 dX4_divideBy_134 (by decide) ?_
              refine r_mask [true, true, true, true, true, true, false, false, false] (L2 := [_, _, _, _, _, _, none, none, none]) rfl ?_
              exact ih39 (f2) (uA (e1) (i).toNat (((f1 (i + dv).toNat) * x23) % p)) (i + (-1)) ((t - 1)) (by omega) (by omega) (by omega) (by omega) k3 k4 (fun n hn => by
                by_cases z : n = i.toNat + dv.toNat
                · rw [z]; exact ktop
                · refine cg0v ((hf2 n).tr (cg.of ?_)) (k3 n).1 (k3 n).2
                  rw [i5 n (by omega), g1c (n - i.toNat) (by omega), Int.mul_zero]; split <;> rfl) (uA_b i6 eb_60) (fun n hn => by rw [uA_n (by omega)]; exact i7 n (by omega)) (fun n hn => by rw [uA_n (by omega)]; exact i8 n hn) (dv_new (i7 i.toNat (by omega)) i9 hf2)
            · refine r_iload dX4_divideBy_84 rfl ?_
              refine r_aload_n dX4_divideBy_86 rfl rfl ?_
              refine gf_X4_11 dX4_divideBy_87 (by omega) ((hs_n (by omega)).trans ((hs_n (by omega)).trans ((hs_n (by omega)).trans hov))) rfl ?_
              refine r_iload dX4_divideBy_90 rfl ?_
              refine r_iaload dX4_divideBy_92 (by omega) ((hs_n (by omega)).trans ((hs_n (by omega)).trans ((hs_n (by omega)).trans hfv))) (by omega) (by omega) (by decide) ?_
              have gj := g1d j.toNat
              have m93 := mulb (A := 97) (B := 97) (a := (f1 (i + dv).toNat * x23 % p)) (b := g j.toNat) (C := 9409) (by omega) (by omega) (by omega) (by omega) (by decide)
              have m94 := Int.mul_nonneg eb_60.1 gj.1
              refine r_imul dX4_divideBy_93 ?_
              refine r_iload_n dX4_divideBy_94 rfl rfl ?_
              refine r_iremp dX4_divideBy_95 ⟨by omega, by omega⟩ ⟨by omega, by omega⟩ (by omega) (by omega) ?_
              have eb_95 := emod_bd ((((f1 (i + dv).toNat) * x23) % p) * (g (j).toNat)) (show 0 < p by omega)
              refine r_istore (L2 := [_, _, _, _, _, _, _, _, _]) dX4_divideBy_96 (nlt rfl) rfl ?_
              refine r_aload_n dX4_divideBy_98 rfl rfl ?_
              refine gf_X4_11 dX4_divideBy_99 (by omega) ((hs_n (by omega)).trans ((hs_n (by omega)).trans ((hs_n (by omega)).trans ho))) rfl ?_
              refine r_iload dX4_divideBy_102 rfl ?_
              refine r_iload dX4_divideBy_104 rfl ?_
              refine r_iadd dX4_divideBy_106 ?_
              refine r_aload_n dX4_divideBy_107 rfl rfl ?_
              refine gf_X4_11 dX4_divideBy_108 (by omega) ((hs_n (by omega)).trans ((hs_n (by omega)).trans ((hs_n (by omega)).trans ho))) rfl ?_
              refine r_iload dX4_divideBy_111 rfl ?_
              refine r_iload dX4_divideBy_113 rfl ?_
              refine r_iadd dX4_divideBy_115 ?_
              refine r_iaload dX4_divideBy_116 (by omega) hs_e (by omega) (by omega) (by decide) ?_
              have fij := k3 (i + j).toNat
              have eij : (i + j).toNat = i.toNat + b := by omega
              refine r_iload_n dX4_divideBy_117 rfl rfl ?_
              refine r_iadd dX4_divideBy_118 ?_
              refine r_iload dX4_divideBy_119 rfl ?_
              refine r_isub dX4_divideBy_121 ?_
              refine r_iload_n dX4_divideBy_122 rfl rfl ?_
              refine r_iremp dX4_divideBy_123 ⟨by omega, by omega⟩ ⟨by omega, by omega⟩ (by omega) (by omega) ?_
              have eb_123 := emod_bd (((f2 (i + j).toNat) + p) - (((((f1 (i + dv).toNat) * x23) % p) * (g (j).toNat)) % p)) (show 0 < p by omega)
              refine r_iastore dX4_divideBy_124 (by omega) hs_e (by omega) (by omega) (by decide) ?_
              refine g_heap (h2 := (hs (hs (hs h (u + 1) (aI 13 (uA (e1) (i).toNat (((f1 (i + dv).toNat) * x23) % p)))) (u) (ob 4 [.ref (u + 1), .int (iZ ((-1)))])) (r + 1) (aI 13 (uA (f2) (i + j).toNat ((((f2 (i + j).toNat) + p) - (((((f1 (i + dv).toNat) * x23) % p) * (g (j).toNat)) % p)) % p))))) hs_hs ?_
              refine r_iinc (L2 := [_, _, _, _, _, _, _, _, _]) dX4_divideBy_125 (nlt rfl) rfl rfl ?_
              refine r_goto 75 dX4_divideBy_128 (by decide) ?_
              refine r_mask [true, true, true, true, true, true, true, true, false] (L2 := [_, _, _, _, _, _, _, _, none]) rfl ?_
              exact ih75 (uA (f2) (i + j).toNat ((((f2 (i + j).toNat) + p) - (((((f1 (i + dv).toNat) * x23) % p) * (g (j).toNat)) % p)) % p)) (j + 1) ((b + 1)) (by omega) (by omega) (by omega) (uA_b k3 eb_123) (fun n hn => by rw [uA_n (by omega)]; exact k4 n hn) (fun n => by
                by_cases z : n = i.toNat + b
                · rw [z, eij, uA_e, if_pos ⟨by omega, by omega⟩]
                  have h9 := k5 (i.toNat + b)
                  rw [if_neg (by omega), Int.sub_zero] at h9
                  have h8 := (h9.add (cg.rf (x := p))).sub (cg.md (m := p) (x := (f1 (i + dv).toNat * x23 % p) * g j.toNat))
                  have h7 : cg p (f1 (i.toNat + b) + p - (f1 (i + dv).toNat * x23 % p) * g j.toNat) (f1 (i.toNat + b) - (f1 (i + dv).toNat * x23 % p) * g j.toNat) := by show p ∣ _; exact ⟨1, by omega⟩
                  refine cg.md.tr (h8.tr (h7.tr (cg.of ?_)))
                  rw [show i.toNat + b - i.toNat = j.toNat by omega]
                · rw [eij, uA_n z]
                  refine (k5 n).tr (cg.of ?_)
                  by_cases w : i.toNat ≤ n ∧ n < i.toNat + b
                  · rw [if_pos w, if_pos ⟨w.1, by omega⟩]
                  · rw [if_neg w, if_neg (by omega)])
        exact lp75 ((15 : Int) + 1).toNat (f1) (0) (0) (by omega) rfl (by omega) i3 i4 (fun n => by rw [if_neg (by omega), Int.sub_zero]; exact cg.rf)
  refine g_heap (hs_id (c := aI 13 (f)) ((hs_n (by omega)).trans ((hs_n (by omega)).trans hf))).symm ?_
  exact lp39 ((max 0 (dg - dv + 2) : Int) + 1).toNat (f) (fun _ => 0) (dg - dv) ((dg - dv + 1).toNat) (by omega) (by omega) (by omega) (by omega) f1d f1c (fun n hn => f1c n (by omega)) (fun n => ⟨Int.le_refl 0, by show (0 : Int) < p; omega⟩) (fun n _ => rfl) (fun n _ => rfl) (fun n => by rw [show conv (fun _ => 0) g n = 0 from sm_nil (fun j _ => Int.zero_mul _), Int.zero_add]; exact cg.rf)
