theorem cl_L_7 : Cond.classLink RL 7 RX10 ∈ TS := TS_in (List.mem_of_getElem? (i := 80) (by decide +kernel)) (by decide +kernel)
theorem cl_L_10 : Cond.classLink RL 10 RX11 ∈ TS := TS_in (List.mem_of_getElem? (i := 836) (by decide +kernel)) (by decide +kernel)
set_option maxHeartbeats 4000000 in
set_option maxRecDepth 20000 in
theorem law_start {X : Ctx} {L : Nat} {xs : Nat → Int32} {h : Hp} (hX : SCR X L xs) (hL : L ≤ 3072) (HE : ∀ Ls h, G X RL cL_law room_1 146 146 9789 916 Ls [.int (iZ 1)] h) : G X RL cL_law room_1 0 0 0 0 [some (.ref BIG), none, none, none] [] h := by
  refine r_new [.null, .null, .null, .null, .null, .null, .null, .null, .null, .null] dL_law_0 (rfl : vwCl[10]? = _) inTX10 tyX10_ok cl_L_7 is_X10 ini_X10 df_X10 (by show _ ≤ 100000; decide) ⟨Nat.le_of_ble_eq_true rfl, Nat.le_of_ble_eq_true rfl⟩ ?_
  refine g_cnt (N1 := 1) (k1 := 1) (n1 := 10) rfl rfl rfl ?_
  refine r_dup dL_law_3 rfl ?_
  refine r_callI (av := []) dL_law_4 lkX10_init ml_L_9 imX10_init rfl rfl (by omega) ⟨Nat.le_of_ble_eq_true rfl, Nat.le_of_ble_eq_true rfl⟩ rfl rfl (nle rfl) ⟨Nat.le_of_ble_eq_true rfl, Nat.le_of_ble_eq_true rfl⟩ (c_X10_init hs_e (fun h1 hC1 => ?_))
  refine g_cnt (N1 := 124) (k1 := 124) (n1 := 5536) rfl rfl rfl ?_
  show G _ _ _ _ _ _ _ 7 _ _ _
  refine r_astore_n (L2 := [_, _, none, none]) dL_law_7 rfl (nlt rfl) rfl ?_
  refine r_new [.null, .null, .null, .int (iZ (0)), .null, .int (iZ (0)), .int (iZ (0)), .null, .int (iZ (0)), .int (iZ (0)), .long (lZ (0)), .int (iZ (0)), .null, .null, .null, .null, .null, .null, .int (iZ (0)), .int (iZ (0)), .null, .null, .null, .null, .null, .null, .null, .int (iZ (0)), .null, .null, .null] dL_law_8 (rfl : vwCl[11]? = _) inTX11 tyX11_ok cl_L_10 is_X11 ini_X11 df_X11 (by show _ ≤ 100000; decide) ⟨Nat.le_of_ble_eq_true rfl, Nat.le_of_ble_eq_true rfl⟩ ?_
  refine g_cnt (N1 := 125) (k1 := 125) (n1 := 5567) rfl rfl rfl ?_
  refine r_dup dL_law_11 rfl ?_
  refine r_callI (av := []) dL_law_12 lkX11_init ml_L_12 imX11_init rfl rfl (by omega) ⟨Nat.le_of_ble_eq_true rfl, Nat.le_of_ble_eq_true rfl⟩ rfl rfl (nle rfl) ⟨Nat.le_of_ble_eq_true rfl, Nat.le_of_ble_eq_true rfl⟩ (c_X11_init hs_e (fun h2 hM2 ho2 => ?_))
  have hC2 := (hC1.cg (fun a9 h9 => hs_n (by omega))).cg (OUTM.ci ho2)
  refine g_cnt (N1 := 146) (k1 := 146) (n1 := 9789) rfl rfl rfl ?_
  show G _ _ _ _ _ _ _ 15 _ _ _
  refine r_astore_n (L2 := [_, _, _, none]) dL_law_15 rfl (nlt rfl) rfl ?_
  refine r_iconst (z := 0) dL_law_16 ?_
  refine r_istore_n (L2 := [_, _, _, _]) dL_law_17 rfl (nlt rfl) rfl ?_
  exact law_loop hX hL HE (L + 7) _ _ _ _ _ _ _ _ _ 0 (by omega) (by omega) (by omega) hC2 hM2
