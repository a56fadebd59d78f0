theorem g_cnt {X : Ctx} {own : String} {cc : ByteArray} {R : Room} {N N1 k k1 n n1 pc : Nat} {L : List (Option Value)} {S : List Value} {h : Hp} (e1 : N = N1) (e2 : k = k1) (e3 : n = n1) (K : G X own cc R N1 k1 n1 pc L S h) : G X own cc R N k n pc L S h := by subst e1; subst e2; subst e3; exact K
def row0 : Nat → Int := uA (uA (fun _ => 0) 0 (-1)) 1 1
theorem df_X7 : ∀ (B b j : Nat), j < 3 → defaultValue (tyX7 j) = vp_V (([.int (iZ (0)), .null, .null] : List Value).map (cv B b)) j := by
  intro B b j hj
  rcases (show j = 0 ∨ j = 1 ∨ j = 2 by omega) with rfl | rfl | rfl <;> rfl
theorem df_X9 : ∀ (B b j : Nat), j < 6 → defaultValue (tyX9 j) = vp_V (([.null, .null, .int (iZ (0)), .int (iZ (0)), .long (lZ (0)), .long (lZ (0))] : List Value).map (cv B b)) j := by
  intro B b j hj
  rcases (show j = 0 ∨ j = 1 ∨ j = 2 ∨ j = 3 ∨ j = 4 ∨ j = 5 by omega) with rfl | rfl | rfl | rfl | rfl | rfl <;> rfl
theorem df_X8 : ∀ (B b j : Nat), j < 5 → defaultValue (tyX8 j) = vp_V (([.null, .int (iZ (0)), .null, .int (iZ (0)), .int (iZ (0))] : List Value).map (cv B b)) j := by
  intro B b j hj
  rcases (show j = 0 ∨ j = 1 ∨ j = 2 ∨ j = 3 ∨ j = 4 by omega) with rfl | rfl | rfl | rfl | rfl <;> rfl
theorem df_X2 : ∀ (B b j : Nat), j < 8 → defaultValue (tyX2 j) = vp_V (([.null, .int (iZ (0)), .int (iZ (0)), .int (iZ (0)), .null, .null, .null, .null] : List Value).map (cv B b)) j := by
  intro B b j hj
  rcases (show j = 0 ∨ j = 1 ∨ j = 2 ∨ j = 3 ∨ j = 4 ∨ j = 5 ∨ j = 6 ∨ j = 7 by omega) with rfl | rfl | rfl | rfl | rfl | rfl | rfl | rfl <;> rfl
theorem df_X5 : ∀ (B b j : Nat), j < 6 → defaultValue (tyX5 j) = vp_V (([.null, .null, .null, .null, .int (iZ (0)), .int (iZ (0))] : List Value).map (cv B b)) j := by
  intro B b j hj
  rcases (show j = 0 ∨ j = 1 ∨ j = 2 ∨ j = 3 ∨ j = 4 ∨ j = 5 by omega) with rfl | rfl | rfl | rfl | rfl | rfl <;> rfl
theorem df_X6 : ∀ (B b j : Nat), j < 5 → defaultValue (tyX6 j) = vp_V (([.null, .null, .null, .int (iZ (0)), .int (iZ (0))] : List Value).map (cv B b)) j := by
  intro B b j hj
  rcases (show j = 0 ∨ j = 1 ∨ j = 2 ∨ j = 3 ∨ j = 4 by omega) with rfl | rfl | rfl | rfl | rfl <;> rfl
theorem df_X0 : ∀ (B b j : Nat), j < 5 → defaultValue (tyX0 j) = vp_V (([.null, .null, .null, .int (iZ (0)), .int (iZ (0))] : List Value).map (cv B b)) j := by
  intro B b j hj
  rcases (show j = 0 ∨ j = 1 ∨ j = 2 ∨ j = 3 ∨ j = 4 by omega) with rfl | rfl | rfl | rfl | rfl <;> rfl
theorem df_X1 : ∀ (B b j : Nat), j < 6 → defaultValue (tyX1 j) = vp_V (([.null, .null, .null, .null, .null, .null] : List Value).map (cv B b)) j := by
  intro B b j hj
  rcases (show j = 0 ∨ j = 1 ∨ j = 2 ∨ j = 3 ∨ j = 4 ∨ j = 5 by omega) with rfl | rfl | rfl | rfl | rfl | rfl <;> rfl
theorem df_X4 : ∀ (B b j : Nat), j < 2 → defaultValue (tyX4 j) = vp_V (([.null, .int (iZ (0))] : List Value).map (cv B b)) j := by
  intro B b j hj
  rcases (show j = 0 ∨ j = 1 by omega) with rfl | rfl <;> rfl
theorem df_X3 : ∀ (B b j : Nat), j < 12 → defaultValue (tyX3 j) = vp_V (([.null, .null, .null, .null, .null, .null, .null, .null, .int (iZ (0)), .int (iZ (0)), .int (iZ (0)), .int (iZ (0))] : List Value).map (cv B b)) j := by
  intro B b j hj
  rcases (show j = 0 ∨ j = 1 ∨ j = 2 ∨ j = 3 ∨ j = 4 ∨ j = 5 ∨ j = 6 ∨ j = 7 ∨ j = 8 ∨ j = 9 ∨ j = 10 ∨ j = 11 by omega) with rfl | rfl | rfl | rfl | rfl | rfl | rfl | rfl | rfl | rfl | rfl | rfl <;> rfl
theorem df_X10 : ∀ (B b j : Nat), j < 10 → defaultValue (tyX10 j) = vp_V (([.null, .null, .null, .null, .null, .null, .null, .null, .null, .null] : List Value).map (cv B b)) j := by
  intro B b j hj
  rcases (show j = 0 ∨ j = 1 ∨ j = 2 ∨ j = 3 ∨ j = 4 ∨ j = 5 ∨ j = 6 ∨ j = 7 ∨ j = 8 ∨ j = 9 by omega) with rfl | rfl | rfl | rfl | rfl | rfl | rfl | rfl | rfl | rfl <;> rfl
theorem df_X11 : ∀ (B b j : Nat), j < 31 → defaultValue (tyX11 j) = vp_V (([.null, .null, .null, .int (iZ (0)), .null, .int (iZ (0)), .int (iZ (0)), .null, .int (iZ (0)), .int (iZ (0)), .long (lZ (0)), .int (iZ (0)), .null, .null, .null, .null, .null, .null, .int (iZ (0)), .int (iZ (0)), .null, .null, .null, .null, .null, .null, .null, .int (iZ (0)), .null, .null, .null] : List Value).map (cv B b)) j := by
  intro B b j hj
  rcases (show j = 0 ∨ j = 1 ∨ j = 2 ∨ j = 3 ∨ j = 4 ∨ j = 5 ∨ j = 6 ∨ j = 7 ∨ j = 8 ∨ j = 9 ∨ j = 10 ∨ j = 11 ∨ j = 12 ∨ j = 13 ∨ j = 14 ∨ j = 15 ∨ j = 16 ∨ j = 17 ∨ j = 18 ∨ j = 19 ∨ j = 20 ∨ j = 21 ∨ j = 22 ∨ j = 23 ∨ j = 24 ∨ j = 25 ∨ j = 26 ∨ j = 27 ∨ j = 28 ∨ j = 29 ∨ j = 30 by omega) with rfl | rfl | rfl | rfl | rfl | rfl | rfl | rfl | rfl | rfl | rfl | rfl | rfl | rfl | rfl | rfl | rfl | rfl | rfl | rfl | rfl | rfl | rfl | rfl | rfl | rfl | rfl | rfl | rfl | rfl | rfl <;> rfl
def FX7 (h : Hp) (q : Nat) : Prop := h q = ROo q 1 ∧ h (q + 1) = aL 7 row0 ∧ h (q + 2) = aL 6 (fun _ => 0)
theorem FX7.cg {h h2 : Hp} {q : Nat} (F : FX7 h q) (H : ∀ a, q ≤ a → a < q + 3 → h2 a = h a) : FX7 h2 q := by
  obtain ⟨x0, x1, x2⟩ := F
  exact ⟨(H _ (by omega) (by omega)).trans x0, (H _ (by omega) (by omega)).trans x1, (H _ (by omega) (by omega)).trans x2⟩
set_option maxHeartbeats 2000000 in
set_option maxRecDepth 20000 in
theorem c_X7_init {h : Hp} {Q : QP} {q : Nat} (hq0 : h q = ob 7 [.int (iZ (0)), .null, .null]) (hbig : q + 3 ≤ BIG) (hQ : ∀ h2 : Hp, (∀ a, a < q → h2 a = h a) → FX7 h2 q → Q none (q + 3) h2) : Runs mX7_init [.ref (q)] (q + 1) h Q := by
  have hbig9 : q + 3 ≤ 100000 := hbig
  refine run_start (own := RX7) rfl (by decide) (nle rfl) rfl (fun X hq hini => ?_)
  have hini := hini rfl
  show G X RX7 cX7_init mX7_init.rm (q + 1) 0 0 0 [some (.ref (q))] [] h
  refine r_aload_n dX7_init_0 rfl rfl ?_
  refine r_objinit dX7_init_1 ml_X7_3 jim_obj jcd_obj ⟨by decide, by decide⟩ (nle rfl) ?_
  refine r_aload_n dX7_init_4 rfl rfl ?_
  refine r_iconst (z := 1) dX7_init_5 ?_
  refine pf_X7_9 (fs2 := [_, _, _]) dX7_init_6 (fun _ _ => rfl) (fun _ _ => rfl) (nlt rfl) (by omega) hq0 rfl ?_
  refine r_aload_n dX7_init_9 rfl rfl ?_
  refine r_bipush (z := 7) dX7_init_10 (by decide) ?_
  refine r_newJ (M := 7) dX7_init_12 rfl rfl (by show _ ≤ 100000; omega) ⟨Nat.le_of_ble_eq_true rfl, Nat.le_of_ble_eq_true rfl⟩ ?_
  refine g_cnt (N1 := q + 2) (k1 := 1) (n1 := 7) rfl rfl rfl ?_
  refine pf_X7_15 (fs2 := [_, _, _]) dX7_init_14 hini (fun _ _ => rfl) (fun _ _ => rfl) (nlt rfl) (by omega) ((hs_n (by omega)).trans hs_e) rfl ?_
  refine g_heap (h2 := (hs (hs h (q) (ob 7 [.int (iZ (1)), .ref (q + 1), .null])) (q + 1) (aL 7 (fun _ => 0)))) (hs_put (by omega) hs_hs) ?_
  refine r_aload_n dX7_init_17 rfl rfl ?_
  refine r_bipush (z := 6) dX7_init_18 (by decide) ?_
  refine r_newJ (M := 6) dX7_init_20 rfl rfl (by show _ ≤ 100000; omega) ⟨Nat.le_of_ble_eq_true rfl, Nat.le_of_ble_eq_true rfl⟩ ?_
  refine g_cnt (N1 := q + 3) (k1 := 2) (n1 := 13) rfl rfl rfl ?_
  refine pf_X7_19 (fs2 := [_, _, _]) dX7_init_22 hini (fun _ _ => rfl) (fun _ _ => rfl) (nlt rfl) (by omega) ((hs_n (by omega)).trans ((hs_n (by omega)).trans hs_e)) rfl ?_
  refine g_heap (h2 := (hs (hs (hs h (q) (ob 7 [.int (iZ (1)), .ref (q + 1), .ref (q + 2)])) (q + 1) (aL 7 (fun _ => 0))) (q + 2) (aL 6 (fun _ => 0)))) (hs_put (by omega) (hs_put (by omega) hs_hs)) ?_
  refine r_aload_n dX7_init_25 rfl rfl ?_
  refine gf_X7_15 dX7_init_26 (by omega) ((hs_n (by omega)).trans ((hs_n (by omega)).trans hs_e)) rfl ?_
  refine r_iconst (z := 0) dX7_init_29 ?_
  refine r_ldc2 (z := -1) dX7_init_30 kc_X7_22 ?_
  refine r_lastore dX7_init_33 (by omega) ((hs_n (by omega)).trans hs_e) (by omega) (by omega) (by decide) ?_
  refine g_heap (h2 := (hs (hs (hs h (q) (ob 7 [.int (iZ (1)), .ref (q + 1), .ref (q + 2)])) (q + 1) (aL 7 (uA (fun _ => 0) (0 : Int).toNat ((-1))))) (q + 2) (aL 6 (fun _ => 0)))) (hs_put (by omega) hs_hs) ?_
  refine r_aload_n dX7_init_34 rfl rfl ?_
  refine gf_X7_15 dX7_init_35 (by omega) ((hs_n (by omega)).trans ((hs_n (by omega)).trans hs_e)) rfl ?_
  refine r_iconst (z := 1) dX7_init_38 ?_
  refine r_lconst (z := 1) dX7_init_39 (by decide) ?_
  refine r_lastore dX7_init_40 (by omega) ((hs_n (by omega)).trans hs_e) (by omega) (by omega) (by decide) ?_
  refine g_heap (h2 := (hs (hs (hs h (q) (ob 7 [.int (iZ (1)), .ref (q + 1), .ref (q + 2)])) (q + 1) (aL 7 (uA (uA (fun _ => 0) (0 : Int).toNat ((-1))) (1 : Int).toNat (1)))) (q + 2) (aL 6 (fun _ => 0)))) (hs_put (by omega) hs_hs) ?_
  refine r_return hq dX7_init_41 rfl rfl rfl ?_
  exact hQ _ (fun a9 h9 => ((hs_n (by omega)).trans ((hs_n (by omega)).trans ((hs_n (by omega)).trans rfl)))) ⟨((hs_n (by omega)).trans ((hs_n (by omega)).trans hs_e)), ((hs_n (by omega)).trans hs_e), hs_e⟩
def FX9 (h : Hp) (q : Nat) : Prop := h q = WKo q 1 2 1 0 ∧ h (q + 1) = aI 7 (fun _ => 0) ∧ h (q + 2) = aI 6 (fun _ => 0)
theorem FX9.cg {h h2 : Hp} {q : Nat} (F : FX9 h q) (H : ∀ a, q ≤ a → a < q + 3 → h2 a = h a) : FX9 h2 q := by
  obtain ⟨x0, x1, x2⟩ := F
  exact ⟨(H _ (by omega) (by omega)).trans x0, (H _ (by omega) (by omega)).trans x1, (H _ (by omega) (by omega)).trans x2⟩
set_option maxHeartbeats 2000000 in
set_option maxRecDepth 20000 in
theorem c_X9_init {h : Hp} {Q : QP} {q : Nat} (hq0 : h q = ob 9 [.null, .null, .int (iZ (0)), .int (iZ (0)), .long (lZ (0)), .long (lZ (0))]) (hbig : q + 3 ≤ BIG) (hQ : ∀ h2 : Hp, (∀ a, a < q → h2 a = h a) → FX9 h2 q → Q none (q + 3) h2) : Runs mX9_init [.ref (q)] (q + 1) h Q := by
  have hbig9 : q + 3 ≤ 100000 := hbig
  refine run_start (own := RX9) rfl (by decide) (nle rfl) rfl (fun X hq hini => ?_)
  have hini := hini rfl
  show G X RX9 cX9_init mX9_init.rm (q + 1) 0 0 0 [some (.ref (q))] [] h
  refine r_aload_n dX9_init_0 rfl rfl ?_
  refine r_objinit dX9_init_1 ml_X9_3 jim_obj jcd_obj ⟨by decide, by decide⟩ (nle rfl) ?_
  refine r_aload_n dX9_init_4 rfl rfl ?_
  refine r_bipush (z := 7) dX9_init_5 (by decide) ?_
  refine r_newI (M := 7) dX9_init_7 rfl rfl (by show _ ≤ 100000; omega) ⟨Nat.le_of_ble_eq_true rfl, Nat.le_of_ble_eq_true rfl⟩ ?_
  refine g_cnt (N1 := q + 2) (k1 := 1) (n1 := 7) rfl rfl rfl ?_
  refine pf_X9_9 (fs2 := [_, _, _, _, _, _]) dX9_init_9 hini (fun _ _ => rfl) (fun _ _ => rfl) (nlt rfl) (by omega) ((hs_n (by omega)).trans hq0) rfl ?_
  refine r_aload_n dX9_init_12 rfl rfl ?_
  refine r_bipush (z := 6) dX9_init_13 (by decide) ?_
  refine r_newI (M := 6) dX9_init_15 rfl rfl (by show _ ≤ 100000; omega) ⟨Nat.le_of_ble_eq_true rfl, Nat.le_of_ble_eq_true rfl⟩ ?_
  refine g_cnt (N1 := q + 3) (k1 := 2) (n1 := 13) rfl rfl rfl ?_
  refine pf_X9_15 (fs2 := [_, _, _, _, _, _]) dX9_init_17 hini (fun _ _ => rfl) (fun _ _ => rfl) (nlt rfl) (by omega) ((hs_n (by omega)).trans hs_e) rfl ?_
  refine g_heap (h2 := (hs (hs (hs h (q + 1) (aI 7 (fun _ => 0))) (q) (ob 9 [.ref (q + 1), .ref (q + 2), .int (iZ (0)), .int (iZ (0)), .long (lZ (0)), .long (lZ (0))])) (q + 2) (aI 6 (fun _ => 0)))) (hs_put (by omega) hs_hs) ?_
  refine r_aload_n dX9_init_20 rfl rfl ?_
  refine r_iconst (z := 1) dX9_init_21 ?_
  refine pf_X9_18 (fs2 := [_, _, _, _, _, _]) dX9_init_22 (fun _ _ => rfl) (fun _ _ => rfl) (nlt rfl) (by omega) ((hs_n (by omega)).trans hs_e) rfl ?_
  refine g_heap (h2 := (hs (hs (hs h (q + 1) (aI 7 (fun _ => 0))) (q) (ob 9 [.ref (q + 1), .ref (q + 2), .int (iZ (1)), .int (iZ (0)), .long (lZ (0)), .long (lZ (0))])) (q + 2) (aI 6 (fun _ => 0)))) (hs_put (by omega) hs_hs) ?_
  refine r_aload_n dX9_init_25 rfl rfl ?_
  refine r_iconst (z := 2) dX9_init_26 ?_
  refine pf_X9_22 (fs2 := [_, _, _, _, _, _]) dX9_init_27 (fun _ _ => rfl) (fun _ _ => rfl) (nlt rfl) (by omega) ((hs_n (by omega)).trans hs_e) rfl ?_
  refine g_heap (h2 := (hs (hs (hs h (q + 1) (aI 7 (fun _ => 0))) (q) (ob 9 [.ref (q + 1), .ref (q + 2), .int (iZ (1)), .int (iZ (2)), .long (lZ (0)), .long (lZ (0))])) (q + 2) (aI 6 (fun _ => 0)))) (hs_put (by omega) hs_hs) ?_
  refine r_aload_n dX9_init_30 rfl rfl ?_
  refine r_lconst (z := 1) dX9_init_31 (by decide) ?_
  refine pf_X9_25 (fs2 := [_, _, _, _, _, _]) dX9_init_32 (fun _ _ => rfl) (fun _ _ => rfl) (nlt rfl) (by omega) ((hs_n (by omega)).trans hs_e) rfl ?_
  refine g_heap (h2 := (hs (hs (hs h (q + 1) (aI 7 (fun _ => 0))) (q) (ob 9 [.ref (q + 1), .ref (q + 2), .int (iZ (1)), .int (iZ (2)), .long (lZ (1)), .long (lZ (0))])) (q + 2) (aI 6 (fun _ => 0)))) (hs_put (by omega) hs_hs) ?_
  refine r_aload_n dX9_init_35 rfl rfl ?_
  refine r_lconst (z := 0) dX9_init_36 (by decide) ?_
  refine pf_X9_29 (fs2 := [_, _, _, _, _, _]) dX9_init_37 (fun _ _ => rfl) (fun _ _ => rfl) (nlt rfl) (by omega) ((hs_n (by omega)).trans hs_e) rfl ?_
  refine g_heap (h2 := (hs (hs (hs h (q + 1) (aI 7 (fun _ => 0))) (q) (ob 9 [.ref (q + 1), .ref (q + 2), .int (iZ (1)), .int (iZ (2)), .long (lZ (1)), .long (lZ (0))])) (q + 2) (aI 6 (fun _ => 0)))) (hs_put (by omega) hs_hs) ?_
  refine r_return hq dX9_init_40 rfl rfl rfl ?_
  exact hQ _ (fun a9 h9 => ((hs_n (by omega)).trans ((hs_n (by omega)).trans ((hs_n (by omega)).trans rfl)))) ⟨((hs_n (by omega)).trans hs_e), ((hs_n (by omega)).trans ((hs_n (by omega)).trans hs_e)), hs_e⟩
def FX8 (h : Hp) (q : Nat) : Prop := h q = TXo q 0 0 0 ∧ h (q + 1) = aI 100 (fun _ => 0) ∧ FX7 h (q + 2)
theorem FX8.cg {h h2 : Hp} {q : Nat} (F : FX8 h q) (H : ∀ a, q ≤ a → a < q + 5 → h2 a = h a) : FX8 h2 q := by
  obtain ⟨x0, x1, x2⟩ := F
  exact ⟨(H _ (by omega) (by omega)).trans x0, (H _ (by omega) (by omega)).trans x1, x2.cg (fun a h8 h9 => H a (by omega) (by omega))⟩
set_option maxHeartbeats 2000000 in
set_option maxRecDepth 20000 in
theorem c_X8_init {h : Hp} {Q : QP} {q : Nat} (hq0 : h q = ob 8 [.null, .int (iZ (0)), .null, .int (iZ (0)), .int (iZ (0))]) (hbig : q + 5 ≤ BIG) (hQ : ∀ h2 : Hp, (∀ a, a < q → h2 a = h a) → FX8 h2 q → Q none (q + 5) h2) : Runs mX8_init [.ref (q)] (q + 1) h Q := by
  have hbig9 : q + 5 ≤ 100000 := hbig
  refine run_start (own := RX8) rfl (by decide) (nle rfl) rfl (fun X hq hini => ?_)
  have hini := hini rfl
  show G X RX8 cX8_init mX8_init.rm (q + 1) 0 0 0 [some (.ref (q))] [] h
  refine r_aload_n dX8_init_0 rfl rfl ?_
  refine r_objinit dX8_init_1 ml_X8_3 jim_obj jcd_obj ⟨by decide, by decide⟩ (nle rfl) ?_
  refine r_aload_n dX8_init_4 rfl rfl ?_
  refine r_bipush (z := 100) dX8_init_5 (by decide) ?_
  refine r_newI (M := 100) dX8_init_7 rfl rfl (by show _ ≤ 100000; omega) ⟨Nat.le_of_ble_eq_true rfl, Nat.le_of_ble_eq_true rfl⟩ ?_
  refine g_cnt (N1 := q + 2) (k1 := 1) (n1 := 100) rfl rfl rfl ?_
  refine pf_X8_9 (fs2 := [_, _, _, _, _]) dX8_init_9 hini (fun _ _ => rfl) (fun _ _ => rfl) (nlt rfl) (by omega) ((hs_n (by omega)).trans hq0) rfl ?_
  refine r_aload_n dX8_init_12 rfl rfl ?_
  refine r_iconst (z := 0) dX8_init_13 ?_
  refine pf_X8_15 (fs2 := [_, _, _, _, _]) dX8_init_14 (fun _ _ => rfl) (fun _ _ => rfl) (nlt rfl) (by omega) hs_e rfl ?_
  refine g_heap (h2 := (hs (hs h (q + 1) (aI 100 (fun _ => 0))) (q) (ob 8 [.ref (q + 1), .int (iZ (0)), .null, .int (iZ (0)), .int (iZ (0))]))) hs_hs ?_
  refine r_aload_n dX8_init_17 rfl rfl ?_
  refine r_new [.int (iZ (0)), .null, .null] dX8_init_18 (rfl : vwCl[7]? = _) inTX7 tyX7_ok cl_X8_19 is_X7 ini_X7 df_X7 (by show _ ≤ 100000; omega) ⟨Nat.le_of_ble_eq_true rfl, Nat.le_of_ble_eq_true rfl⟩ ?_
  refine g_cnt (N1 := q + 3) (k1 := 2) (n1 := 103) rfl rfl rfl ?_
  refine r_dup dX8_init_21 rfl ?_
  refine r_callI (av := []) dX8_init_22 lkX7_init ml_X8_21 imX7_init rfl rfl (by omega) ⟨Nat.le_of_ble_eq_true rfl, Nat.le_of_ble_eq_true rfl⟩ rfl rfl (nle rfl) ⟨Nat.le_of_ble_eq_true rfl, Nat.le_of_ble_eq_true rfl⟩ (c_X7_init (q := q + 2) hs_e (by show _ ≤ 100000; omega) (fun h22 ho22 hf22 => ?_))
  show G _ _ _ _ _ _ _ 25 _ _ _
  have kh22_0 : h22 (q) = ob 8 [.ref (q + 1), .int (iZ (0)), .null, .int (iZ (0)), .int (iZ (0))] := (ho22 _ (by omega)).trans ((hs_n (by omega)).trans hs_e)
  have kh22_1 : h22 (q + 1) = aI 100 (fun _ => 0) := (ho22 _ (by omega)).trans ((hs_n (by omega)).trans ((hs_n (by omega)).trans hs_e))
  have odh22 : ∀ a9, a9 < q → h22 a9 = h a9 := fun a9 h9 => (ho22 a9 (by omega)).trans ((hs_n (by omega)).trans ((hs_n (by omega)).trans ((hs_n (by omega)).trans rfl)))
  refine g_cnt (N1 := q + 5) (k1 := 4) (n1 := 116) rfl rfl rfl ?_
  show G _ _ _ _ _ _ _ 25 _ _ _
  refine pf_X8_22 (fs2 := [_, _, _, _, _]) dX8_init_25 hini (fun _ _ => rfl) (fun _ _ => rfl) (nlt rfl) (by omega) kh22_0 rfl ?_
  refine r_return hq dX8_init_28 rfl rfl rfl ?_
  exact hQ _ (fun a9 h9 => ((hs_n (by omega)).trans (odh22 a9 h9))) ⟨hs_e, ((hs_n (by omega)).trans kh22_1), hf22.cg (fun a9 h8 h9 => ((hs_n (by omega)).trans rfl))⟩
def FX2 (h : Hp) (q : Nat) : Prop := h q = NUo q 0 2 0 ∧ h (q + 1) = aI 40 (fun _ => 0) ∧ h (q + 2) = aI 41 (fun _ => 0) ∧ h (q + 3) = aR 3 40 (pR (q + 4) (fun i => i)) ∧ (∀ i, i < 40 → h (q + 4 + i) = aI 41 (fun _ => 0)) ∧ h (q + 44) = aI 40 (fun _ => 0) ∧ FX9 h (q + 45)
theorem FX2.cg {h h2 : Hp} {q : Nat} (F : FX2 h q) (H : ∀ a, q ≤ a → a < q + 48 → h2 a = h a) : FX2 h2 q := by
  obtain ⟨x0, x1, x2, x3, x4, x5, x6⟩ := F
  exact ⟨(H _ (by omega) (by omega)).trans x0, (H _ (by omega) (by omega)).trans x1, (H _ (by omega) (by omega)).trans x2, (H _ (by omega) (by omega)).trans x3, fun i hi => (H _ (by omega) (by omega)).trans (x4 i hi), (H _ (by omega) (by omega)).trans x5, x6.cg (fun a h8 h9 => H a (by omega) (by omega))⟩
set_option maxHeartbeats 2000000 in
set_option maxRecDepth 20000 in
theorem c_X2_init {h : Hp} {Q : QP} {q : Nat} (hq0 : h q = ob 2 [.null, .int (iZ (0)), .int (iZ (0)), .int (iZ (0)), .null, .null, .null, .null]) (hbig : q + 48 ≤ BIG) (hQ : ∀ h2 : Hp, (∀ a, a < q → h2 a = h a) → FX2 h2 q → Q none (q + 48) h2) : Runs mX2_init [.ref (q)] (q + 1) h Q := by
  have hbig9 : q + 48 ≤ 100000 := hbig
  refine run_start (own := RX2) rfl (by decide) (nle rfl) rfl (fun X hq hini => ?_)
  have hini := hini rfl
  show G X RX2 cX2_init mX2_init.rm (q + 1) 0 0 0 [some (.ref (q))] [] h
  refine r_aload_n dX2_init_0 rfl rfl ?_
  refine r_objinit dX2_init_1 ml_X2_3 jim_obj jcd_obj ⟨by decide, by decide⟩ (nle rfl) ?_
  refine r_aload_n dX2_init_4 rfl rfl ?_
  refine r_bipush (z := 40) dX2_init_5 (by decide) ?_
  refine r_newI (M := 40) dX2_init_7 rfl rfl (by show _ ≤ 100000; omega) ⟨Nat.le_of_ble_eq_true rfl, Nat.le_of_ble_eq_true rfl⟩ ?_
  refine g_cnt (N1 := q + 2) (k1 := 1) (n1 := 40) rfl rfl rfl ?_
  refine pf_X2_9 (fs2 := [_, _, _, _, _, _, _, _]) dX2_init_9 hini (fun _ _ => rfl) (fun _ _ => rfl) (nlt rfl) (by omega) ((hs_n (by omega)).trans hq0) rfl ?_
  refine r_aload_n dX2_init_12 rfl rfl ?_
  refine r_iconst (z := 0) dX2_init_13 ?_
  refine pf_X2_15 (fs2 := [_, _, _, _, _, _, _, _]) dX2_init_14 (fun _ _ => rfl) (fun _ _ => rfl) (nlt rfl) (by omega) hs_e rfl ?_
  refine g_heap (h2 := (hs (hs h (q + 1) (aI 40 (fun _ => 0))) (q) (ob 2 [.ref (q + 1), .int (iZ (0)), .int (iZ (0)), .int (iZ (0)), .null, .null, .null, .null]))) hs_hs ?_
  refine r_aload_n dX2_init_17 rfl rfl ?_
  refine r_iconst (z := 2) dX2_init_18 ?_
  refine pf_X2_19 (fs2 := [_, _, _, _, _, _, _, _]) dX2_init_19 (fun _ _ => rfl) (fun _ _ => rfl) (nlt rfl) (by omega) hs_e rfl ?_
  refine g_heap (h2 := (hs (hs h (q + 1) (aI 40 (fun _ => 0))) (q) (ob 2 [.ref (q + 1), .int (iZ (0)), .int (iZ (2)), .int (iZ (0)), .null, .null, .null, .null]))) hs_hs ?_
  refine r_aload_n dX2_init_22 rfl rfl ?_
  refine r_iconst (z := 0) dX2_init_23 ?_
  refine pf_X2_22 (fs2 := [_, _, _, _, _, _, _, _]) dX2_init_24 (fun _ _ => rfl) (fun _ _ => rfl) (nlt rfl) (by omega) hs_e rfl ?_
  refine g_heap (h2 := (hs (hs h (q + 1) (aI 40 (fun _ => 0))) (q) (ob 2 [.ref (q + 1), .int (iZ (0)), .int (iZ (2)), .int (iZ (0)), .null, .null, .null, .null]))) hs_hs ?_
  refine r_aload_n dX2_init_27 rfl rfl ?_
  refine r_bipush (z := 41) dX2_init_28 (by decide) ?_
  refine r_newI (M := 41) dX2_init_30 rfl rfl (by show _ ≤ 100000; omega) ⟨Nat.le_of_ble_eq_true rfl, Nat.le_of_ble_eq_true rfl⟩ ?_
  refine g_cnt (N1 := q + 3) (k1 := 2) (n1 := 81) rfl rfl rfl ?_
  refine pf_X2_25 (fs2 := [_, _, _, _, _, _, _, _]) dX2_init_32 hini (fun _ _ => rfl) (fun _ _ => rfl) (nlt rfl) (by omega) ((hs_n (by omega)).trans hs_e) rfl ?_
  refine g_heap (h2 := (hs (hs (hs h (q + 1) (aI 40 (fun _ => 0))) (q) (ob 2 [.ref (q + 1), .int (iZ (0)), .int (iZ (2)), .int (iZ (0)), .ref (q + 2), .null, .null, .null])) (q + 2) (aI 41 (fun _ => 0)))) (hs_put (by omega) hs_hs) ?_
  refine r_aload_n dX2_init_35 rfl rfl ?_
  refine r_bipush (z := 40) dX2_init_36 (by decide) ?_
  refine r_bipush (z := 41) dX2_init_38 (by decide) ?_
  refine r_mna dX2_init_40 cl_X2_28 (by show _ ≤ 100000; omega) ⟨Nat.le_of_ble_eq_true rfl, Nat.le_of_ble_eq_true rfl⟩ ?_
  refine g_cnt (N1 := q + 44) (k1 := 43) (n1 := 1761) rfl rfl rfl ?_
  obtain ⟨h40, he40⟩ : ∃ h9, h9 = mx (hs (hs (hs (hs h (q + 1) (aI 40 (fun _ => 0))) (q) (ob 2 [.ref (q + 1), .int (iZ (0)), .int (iZ (2)), .int (iZ (0)), .ref (q + 2), .null, .null, .null])) (q + 2) (aI 41 (fun _ => 0))) (q + 3) (aR 3 40 (pR (q + 3 + 1) (fun i => i)))) (q + 3 + 1) (fun _ _ => 0) := ⟨_, rfl⟩
  rw [← he40]
  have hmat : ∀ i, i < 40 → h40 (q + 3 + 1 + i) = aI 41 (fun _ => 0) := fun i hi => by rw [he40]; exact mx_in hi
  have kh40_0 : h40 (q) = ob 2 [.ref (q + 1), .int (iZ (0)), .int (iZ (2)), .int (iZ (0)), .ref (q + 2), .null, .null, .null] := (by rw [he40]; exact (mx_out (by omega)).trans ((hs_n (by omega)).trans ((hs_n (by omega)).trans hs_e)))
  have kh40_1 : h40 (q + 1) = aI 40 (fun _ => 0) := (by rw [he40]; exact (mx_out (by omega)).trans ((hs_n (by omega)).trans ((hs_n (by omega)).trans ((hs_n (by omega)).trans hs_e))))
  have kh40_2 : h40 (q + 2) = aI 41 (fun _ => 0) := (by rw [he40]; exact (mx_out (by omega)).trans ((hs_n (by omega)).trans hs_e))
  have kh40_3 : h40 (q + 3) = aR 3 40 (pR (q + 3 + 1) (fun i => i)) := (by rw [he40]; exact (mx_out (by omega)).trans hs_e)
  have odh40 : ∀ a9, a9 < q → h40 a9 = h a9 := fun a9 h9 => (by rw [he40]; exact (mx_out (by omega)).trans ((hs_n (by omega)).trans ((hs_n (by omega)).trans ((hs_n (by omega)).trans ((hs_n (by omega)).trans rfl)))))
  refine pf_X2_30 (fs2 := [_, _, _, _, _, _, _, _]) dX2_init_44 hini (fun _ _ => rfl) (fun _ _ => rfl) (nlt rfl) (by omega) kh40_0 rfl ?_
  refine r_aload_n dX2_init_47 rfl rfl ?_
  refine r_bipush (z := 40) dX2_init_48 (by decide) ?_
  refine r_newI (M := 40) dX2_init_50 rfl rfl (by show _ ≤ 100000; omega) ⟨Nat.le_of_ble_eq_true rfl, Nat.le_of_ble_eq_true rfl⟩ ?_
  refine g_cnt (N1 := q + 45) (k1 := 44) (n1 := 1801) rfl rfl rfl ?_
  refine pf_X2_33 (fs2 := [_, _, _, _, _, _, _, _]) dX2_init_52 hini (fun _ _ => rfl) (fun _ _ => rfl) (nlt rfl) (by omega) ((hs_n (by omega)).trans hs_e) rfl ?_
  refine g_heap (h2 := (hs (hs h40 (q) (ob 2 [.ref (q + 1), .int (iZ (0)), .int (iZ (2)), .int (iZ (0)), .ref (q + 2), .ref (q + 3), .ref (q + 44), .null])) (q + 44) (aI 40 (fun _ => 0)))) (hs_put (by omega) hs_hs) ?_
  refine r_aload_n dX2_init_55 rfl rfl ?_
  refine r_new [.null, .null, .int (iZ (0)), .int (iZ (0)), .long (lZ (0)), .long (lZ (0))] dX2_init_56 (rfl : vwCl[9]? = _) inTX9 tyX9_ok cl_X2_36 is_X9 ini_X9 df_X9 (by show _ ≤ 100000; omega) ⟨Nat.le_of_ble_eq_true rfl, Nat.le_of_ble_eq_true rfl⟩ ?_
  refine g_cnt (N1 := q + 46) (k1 := 45) (n1 := 1807) rfl rfl rfl ?_
  refine r_dup dX2_init_59 rfl ?_
  refine r_callIN (av := []) dX2_init_60 lkX9_init nl_X2_38 imX9_init rfl rfl (by omega) ⟨Nat.le_of_ble_eq_true rfl, Nat.le_of_ble_eq_true rfl⟩ rfl rfl (nle rfl) ⟨Nat.le_of_ble_eq_true rfl, Nat.le_of_ble_eq_true rfl⟩ (c_X9_init (q := q + 45) hs_e (by show _ ≤ 100000; omega) (fun h60 ho60 hf60 => ?_))
  show G _ _ _ _ _ _ _ 63 _ _ _
  have kh60_0 : h60 (q) = ob 2 [.ref (q + 1), .int (iZ (0)), .int (iZ (2)), .int (iZ (0)), .ref (q + 2), .ref (q + 3), .ref (q + 44), .null] := (ho60 _ (by omega)).trans ((hs_n (by omega)).trans ((hs_n (by omega)).trans hs_e))
  have kh60_1 : h60 (q + 1) = aI 40 (fun _ => 0) := (ho60 _ (by omega)).trans ((hs_n (by omega)).trans ((hs_n (by omega)).trans ((hs_n (by omega)).trans kh40_1)))
  have kh60_2 : h60 (q + 2) = aI 41 (fun _ => 0) := (ho60 _ (by omega)).trans ((hs_n (by omega)).trans ((hs_n (by omega)).trans ((hs_n (by omega)).trans kh40_2)))
  have kh60_3 : h60 (q + 3) = aR 3 40 (pR (q + 3 + 1) (fun i => i)) := (ho60 _ (by omega)).trans ((hs_n (by omega)).trans ((hs_n (by omega)).trans ((hs_n (by omega)).trans kh40_3)))
  have kh60_4 : h60 (q + 44) = aI 40 (fun _ => 0) := (ho60 _ (by omega)).trans ((hs_n (by omega)).trans hs_e)
  have mh60 : ∀ i, i < 40 → h60 (q + 3 + 1 + i) = aI 41 (fun _ => 0) := fun i hi => (ho60 _ (by omega)).trans ((hs_n (by omega)).trans ((hs_n (by omega)).trans ((hs_n (by omega)).trans (hmat i hi))))
  have odh60 : ∀ a9, a9 < q → h60 a9 = h a9 := fun a9 h9 => (ho60 a9 (by omega)).trans ((hs_n (by omega)).trans ((hs_n (by omega)).trans ((hs_n (by omega)).trans (odh40 a9 h9))))
  refine g_cnt (N1 := q + 48) (k1 := 47) (n1 := 1820) rfl rfl rfl ?_
  show G _ _ _ _ _ _ _ 63 _ _ _
  refine pf_X2_39 (fs2 := [_, _, _, _, _, _, _, _]) dX2_init_63 hini (fun _ _ => rfl) (fun _ _ => rfl) (nlt rfl) (by omega) kh60_0 rfl ?_
  refine r_return hq dX2_init_66 rfl rfl rfl ?_
  exact hQ _ (fun a9 h9 => ((hs_n (by omega)).trans (odh60 a9 h9))) ⟨hs_e, ((hs_n (by omega)).trans kh60_1), ((hs_n (by omega)).trans kh60_2), ((hs_n (by omega)).trans kh60_3), fun i hi => ((hs_n (by omega)).trans (mh60 i hi)), ((hs_n (by omega)).trans kh60_4), hf60.cg (fun a9 h8 h9 => ((hs_n (by omega)).trans rfl))⟩
def FX5 (h : Hp) (q : Nat) : Prop := h q = REo q 1 2 ∧ h (q + 1) = aL 7 (fun _ => 0) ∧ h (q + 2) = aL 6 (fun _ => 0) ∧ h (q + 3) = aL 6 (fun _ => 0) ∧ h (q + 4) = aL 12 (fun _ => 0)
theorem FX5.cg {h h2 : Hp} {q : Nat} (F : FX5 h q) (H : ∀ a, q ≤ a → a < q + 5 → h2 a = h a) : FX5 h2 q := by
  obtain ⟨x0, x1, x2, x3, x4⟩ := F
  exact ⟨(H _ (by omega) (by omega)).trans x0, (H _ (by omega) (by omega)).trans x1, (H _ (by omega) (by omega)).trans x2, (H _ (by omega) (by omega)).trans x3, (H _ (by omega) (by omega)).trans x4⟩
set_option maxHeartbeats 2000000 in
set_option maxRecDepth 20000 in
theorem c_X5_init {h : Hp} {Q : QP} {q : Nat} (hq0 : h q = ob 5 [.null, .null, .null, .null, .int (iZ (0)), .int (iZ (0))]) (hbig : q + 5 ≤ BIG) (hQ : ∀ h2 : Hp, (∀ a, a < q → h2 a = h a) → FX5 h2 q → Q none (q + 5) h2) : Runs mX5_init [.ref (q)] (q + 1) h Q := by
  have hbig9 : q + 5 ≤ 100000 := hbig
  refine run_start (own := RX5) rfl (by decide) (nle rfl) rfl (fun X hq hini => ?_)
  have hini := hini rfl
  show G X RX5 cX5_init mX5_init.rm (q + 1) 0 0 0 [some (.ref (q))] [] h
  refine r_aload_n dX5_init_0 rfl rfl ?_
  refine r_objinit dX5_init_1 ml_X5_3 jim_obj jcd_obj ⟨by decide, by decide⟩ (nle rfl) ?_
  refine r_aload_n dX5_init_4 rfl rfl ?_
  refine r_bipush (z := 7) dX5_init_5 (by decide) ?_
  refine r_newJ (M := 7) dX5_init_7 rfl rfl (by show _ ≤ 100000; omega) ⟨Nat.le_of_ble_eq_true rfl, Nat.le_of_ble_eq_true rfl⟩ ?_
  refine g_cnt (N1 := q + 2) (k1 := 1) (n1 := 7) rfl rfl rfl ?_
  refine pf_X5_9 (fs2 := [_, _, _, _, _, _]) dX5_init_9 hini (fun _ _ => rfl) (fun _ _ => rfl) (nlt rfl) (by omega) ((hs_n (by omega)).trans hq0) rfl ?_
  refine r_aload_n dX5_init_12 rfl rfl ?_
  refine r_bipush (z := 6) dX5_init_13 (by decide) ?_
  refine r_newJ (M := 6) dX5_init_15 rfl rfl (by show _ ≤ 100000; omega) ⟨Nat.le_of_ble_eq_true rfl, Nat.le_of_ble_eq_true rfl⟩ ?_
  refine g_cnt (N1 := q + 3) (k1 := 2) (n1 := 13) rfl rfl rfl ?_
  refine pf_X5_15 (fs2 := [_, _, _, _, _, _]) dX5_init_17 hini (fun _ _ => rfl) (fun _ _ => rfl) (nlt rfl) (by omega) ((hs_n (by omega)).trans hs_e) rfl ?_
  refine g_heap (h2 := (hs (hs (hs h (q + 1) (aL 7 (fun _ => 0))) (q) (ob 5 [.ref (q + 1), .ref (q + 2), .null, .null, .int (iZ (0)), .int (iZ (0))])) (q + 2) (aL 6 (fun _ => 0)))) (hs_put (by omega) hs_hs) ?_
  refine r_aload_n dX5_init_20 rfl rfl ?_
  refine r_bipush (z := 6) dX5_init_21 (by decide) ?_
  refine r_newJ (M := 6) dX5_init_23 rfl rfl (by show _ ≤ 100000; omega) ⟨Nat.le_of_ble_eq_true rfl, Nat.le_of_ble_eq_true rfl⟩ ?_
  refine g_cnt (N1 := q + 4) (k1 := 3) (n1 := 19) rfl rfl rfl ?_
  refine pf_X5_18 (fs2 := [_, _, _, _, _, _]) dX5_init_25 hini (fun _ _ => rfl) (fun _ _ => rfl) (nlt rfl) (by omega) ((hs_n (by omega)).trans ((hs_n (by omega)).trans hs_e)) rfl ?_
  refine g_heap (h2 := (hs (hs (hs (hs h (q + 1) (aL 7 (fun _ => 0))) (q) (ob 5 [.ref (q + 1), .ref (q + 2), .ref (q + 3), .null, .int (iZ (0)), .int (iZ (0))])) (q + 2) (aL 6 (fun _ => 0))) (q + 3) (aL 6 (fun _ => 0)))) (hs_put (by omega) (hs_put (by omega) hs_hs)) ?_
  refine r_aload_n dX5_init_28 rfl rfl ?_
  refine r_bipush (z := 12) dX5_init_29 (by decide) ?_
  refine r_newJ (M := 12) dX5_init_31 rfl rfl (by show _ ≤ 100000; omega) ⟨Nat.le_of_ble_eq_true rfl, Nat.le_of_ble_eq_true rfl⟩ ?_
  refine g_cnt (N1 := q + 5) (k1 := 4) (n1 := 31) rfl rfl rfl ?_
  refine pf_X5_21 (fs2 := [_, _, _, _, _, _]) dX5_init_33 hini (fun _ _ => rfl) (fun _ _ => rfl) (nlt rfl) (by omega) ((hs_n (by omega)).trans ((hs_n (by omega)).trans ((hs_n (by omega)).trans hs_e))) rfl ?_
  refine g_heap (h2 := (hs (hs (hs (hs (hs h (q + 1) (aL 7 (fun _ => 0))) (q) (ob 5 [.ref (q + 1), .ref (q + 2), .ref (q + 3), .ref (q + 4), .int (iZ (0)), .int (iZ (0))])) (q + 2) (aL 6 (fun _ => 0))) (q + 3) (aL 6 (fun _ => 0))) (q + 4) (aL 12 (fun _ => 0)))) (hs_put (by omega) (hs_put (by omega) (hs_put (by omega) hs_hs))) ?_
  refine r_aload_n dX5_init_36 rfl rfl ?_
  refine r_iconst (z := 1) dX5_init_37 ?_
  refine pf_X5_24 (fs2 := [_, _, _, _, _, _]) dX5_init_38 (fun _ _ => rfl) (fun _ _ => rfl) (nlt rfl) (by omega) ((hs_n (by omega)).trans ((hs_n (by omega)).trans ((hs_n (by omega)).trans hs_e))) rfl ?_
  refine g_heap (h2 := (hs (hs (hs (hs (hs h (q + 1) (aL 7 (fun _ => 0))) (q) (ob 5 [.ref (q + 1), .ref (q + 2), .ref (q + 3), .ref (q + 4), .int (iZ (1)), .int (iZ (0))])) (q + 2) (aL 6 (fun _ => 0))) (q + 3) (aL 6 (fun _ => 0))) (q + 4) (aL 12 (fun _ => 0)))) (hs_put (by omega) (hs_put (by omega) (hs_put (by omega) hs_hs))) ?_
  refine r_aload_n dX5_init_41 rfl rfl ?_
  refine r_iconst (z := 2) dX5_init_42 ?_
  refine pf_X5_28 (fs2 := [_, _, _, _, _, _]) dX5_init_43 (fun _ _ => rfl) (fun _ _ => rfl) (nlt rfl) (by omega) ((hs_n (by omega)).trans ((hs_n (by omega)).trans ((hs_n (by omega)).trans hs_e))) rfl ?_
  refine g_heap (h2 := (hs (hs (hs (hs (hs h (q + 1) (aL 7 (fun _ => 0))) (q) (ob 5 [.ref (q + 1), .ref (q + 2), .ref (q + 3), .ref (q + 4), .int (iZ (1)), .int (iZ (2))])) (q + 2) (aL 6 (fun _ => 0))) (q + 3) (aL 6 (fun _ => 0))) (q + 4) (aL 12 (fun _ => 0)))) (hs_put (by omega) (hs_put (by omega) (hs_put (by omega) hs_hs))) ?_
  refine r_return hq dX5_init_46 rfl rfl rfl ?_
  exact hQ _ (fun a9 h9 => ((hs_n (by omega)).trans ((hs_n (by omega)).trans ((hs_n (by omega)).trans ((hs_n (by omega)).trans ((hs_n (by omega)).trans rfl)))))) ⟨((hs_n (by omega)).trans ((hs_n (by omega)).trans ((hs_n (by omega)).trans hs_e))), ((hs_n (by omega)).trans ((hs_n (by omega)).trans ((hs_n (by omega)).trans ((hs_n (by omega)).trans hs_e)))), ((hs_n (by omega)).trans ((hs_n (by omega)).trans hs_e)), ((hs_n (by omega)).trans hs_e), hs_e⟩
def FX6 (h : Hp) (q : Nat) : Prop := h q = RDo q 0 1 ∧ FX9 h (q + 1) ∧ h (q + 4) = aL 55 (fun _ => 0) ∧ h (q + 5) = aL 64 (fun _ => 0)
theorem FX6.cg {h h2 : Hp} {q : Nat} (F : FX6 h q) (H : ∀ a, q ≤ a → a < q + 6 → h2 a = h a) : FX6 h2 q := by
  obtain ⟨x0, x1, x2, x3⟩ := F
  exact ⟨(H _ (by omega) (by omega)).trans x0, x1.cg (fun a h8 h9 => H a (by omega) (by omega)), (H _ (by omega) (by omega)).trans x2, (H _ (by omega) (by omega)).trans x3⟩
set_option maxHeartbeats 2000000 in
set_option maxRecDepth 20000 in
theorem c_X6_init {h : Hp} {Q : QP} {q : Nat} (hq0 : h q = ob 6 [.null, .null, .null, .int (iZ (0)), .int (iZ (0))]) (hbig : q + 6 ≤ BIG) (hQ : ∀ h2 : Hp, (∀ a, a < q → h2 a = h a) → FX6 h2 q → Q none (q + 6) h2) : Runs mX6_init [.ref (q)] (q + 1) h Q := by
  have hbig9 : q + 6 ≤ 100000 := hbig
  refine run_start (own := RX6) rfl (by decide) (nle rfl) rfl (fun X hq hini => ?_)
  have hini := hini rfl
  show G X RX6 cX6_init mX6_init.rm (q + 1) 0 0 0 [some (.ref (q))] [] h
  refine r_aload_n dX6_init_0 rfl rfl ?_
  refine r_objinit dX6_init_1 ml_X6_3 jim_obj jcd_obj ⟨by decide, by decide⟩ (nle rfl) ?_
  refine r_aload_n dX6_init_4 rfl rfl ?_
  refine r_new [.null, .null, .int (iZ (0)), .int (iZ (0)), .long (lZ (0)), .long (lZ (0))] dX6_init_5 (rfl : vwCl[9]? = _) inTX9 tyX9_ok cl_X6_9 is_X9 ini_X9 df_X9 (by show _ ≤ 100000; omega) ⟨Nat.le_of_ble_eq_true rfl, Nat.le_of_ble_eq_true rfl⟩ ?_
  refine g_cnt (N1 := q + 2) (k1 := 1) (n1 := 6) rfl rfl rfl ?_
  refine r_dup dX6_init_8 rfl ?_
  refine r_callIN (av := []) dX6_init_9 lkX9_init nl_X6_11 imX9_init rfl rfl (by omega) ⟨Nat.le_of_ble_eq_true rfl, Nat.le_of_ble_eq_true rfl⟩ rfl rfl (nle rfl) ⟨Nat.le_of_ble_eq_true rfl, Nat.le_of_ble_eq_true rfl⟩ (c_X9_init (q := q + 1) hs_e (by show _ ≤ 100000; omega) (fun h9 ho9 hf9 => ?_))
  show G _ _ _ _ _ _ _ 12 _ _ _
  have kh9_0 : h9 (q) = ob 6 [.null, .null, .null, .int (iZ (0)), .int (iZ (0))] := (ho9 _ (by omega)).trans ((hs_n (by omega)).trans hq0)
  have odh9 : ∀ a9, a9 < q → h9 a9 = h a9 := fun a9 h9 => (ho9 a9 (by omega)).trans ((hs_n (by omega)).trans rfl)
  refine g_cnt (N1 := q + 4) (k1 := 3) (n1 := 19) rfl rfl rfl ?_
  show G _ _ _ _ _ _ _ 12 _ _ _
  refine pf_X6_12 (fs2 := [_, _, _, _, _]) dX6_init_12 hini (fun _ _ => rfl) (fun _ _ => rfl) (nlt rfl) (by omega) kh9_0 rfl ?_
  refine r_aload_n dX6_init_15 rfl rfl ?_
  refine r_bipush (z := 55) dX6_init_16 (by decide) ?_
  refine r_newJ (M := 55) dX6_init_18 rfl rfl (by show _ ≤ 100000; omega) ⟨Nat.le_of_ble_eq_true rfl, Nat.le_of_ble_eq_true rfl⟩ ?_
  refine g_cnt (N1 := q + 5) (k1 := 4) (n1 := 74) rfl rfl rfl ?_
  refine pf_X6_18 (fs2 := [_, _, _, _, _]) dX6_init_20 hini (fun _ _ => rfl) (fun _ _ => rfl) (nlt rfl) (by omega) ((hs_n (by omega)).trans hs_e) rfl ?_
  refine g_heap (h2 := (hs (hs h9 (q) (ob 6 [.ref (q + 1), .ref (q + 4), .null, .int (iZ (0)), .int (iZ (0))])) (q + 4) (aL 55 (fun _ => 0)))) (hs_put (by omega) hs_hs) ?_
  refine r_aload_n dX6_init_23 rfl rfl ?_
  refine r_bipush (z := 64) dX6_init_24 (by decide) ?_
  refine r_newJ (M := 64) dX6_init_26 rfl rfl (by show _ ≤ 100000; omega) ⟨Nat.le_of_ble_eq_true rfl, Nat.le_of_ble_eq_true rfl⟩ ?_
  refine g_cnt (N1 := q + 6) (k1 := 5) (n1 := 138) rfl rfl rfl ?_
  refine pf_X6_22 (fs2 := [_, _, _, _, _]) dX6_init_28 hini (fun _ _ => rfl) (fun _ _ => rfl) (nlt rfl) (by omega) ((hs_n (by omega)).trans ((hs_n (by omega)).trans hs_e)) rfl ?_
  refine g_heap (h2 := (hs (hs (hs h9 (q) (ob 6 [.ref (q + 1), .ref (q + 4), .ref (q + 5), .int (iZ (0)), .int (iZ (0))])) (q + 4) (aL 55 (fun _ => 0))) (q + 5) (aL 64 (fun _ => 0)))) (hs_put (by omega) (hs_put (by omega) hs_hs)) ?_
  refine r_aload_n dX6_init_31 rfl rfl ?_
  refine r_iconst (z := 0) dX6_init_32 ?_
  refine pf_X6_25 (fs2 := [_, _, _, _, _]) dX6_init_33 (fun _ _ => rfl) (fun _ _ => rfl) (nlt rfl) (by omega) ((hs_n (by omega)).trans ((hs_n (by omega)).trans hs_e)) rfl ?_
  refine g_heap (h2 := (hs (hs (hs h9 (q) (ob 6 [.ref (q + 1), .ref (q + 4), .ref (q + 5), .int (iZ (0)), .int (iZ (0))])) (q + 4) (aL 55 (fun _ => 0))) (q + 5) (aL 64 (fun _ => 0)))) (hs_put (by omega) (hs_put (by omega) hs_hs)) ?_
  refine r_aload_n dX6_init_36 rfl rfl ?_
  refine r_iconst (z := 1) dX6_init_37 ?_
  refine pf_X6_29 (fs2 := [_, _, _, _, _]) dX6_init_38 (fun _ _ => rfl) (fun _ _ => rfl) (nlt rfl) (by omega) ((hs_n (by omega)).trans ((hs_n (by omega)).trans hs_e)) rfl ?_
  refine g_heap (h2 := (hs (hs (hs h9 (q) (ob 6 [.ref (q + 1), .ref (q + 4), .ref (q + 5), .int (iZ (0)), .int (iZ (1))])) (q + 4) (aL 55 (fun _ => 0))) (q + 5) (aL 64 (fun _ => 0)))) (hs_put (by omega) (hs_put (by omega) hs_hs)) ?_
  refine r_return hq dX6_init_41 rfl rfl rfl ?_
  exact hQ _ (fun a9 h9 => ((hs_n (by omega)).trans ((hs_n (by omega)).trans ((hs_n (by omega)).trans (odh9 a9 h9))))) ⟨((hs_n (by omega)).trans ((hs_n (by omega)).trans hs_e)), hf9.cg (fun a9 h8 h9 => ((hs_n (by omega)).trans ((hs_n (by omega)).trans ((hs_n (by omega)).trans rfl)))), ((hs_n (by omega)).trans hs_e), hs_e⟩
def FX0 (h : Hp) (q : Nat) : Prop := h q = LGo q 0 0 ∧ FX9 h (q + 1) ∧ FX7 h (q + 4) ∧ FX7 h (q + 7)
theorem FX0.cg {h h2 : Hp} {q : Nat} (F : FX0 h q) (H : ∀ a, q ≤ a → a < q + 10 → h2 a = h a) : FX0 h2 q := by
  obtain ⟨x0, x1, x2, x3⟩ := F
  exact ⟨(H _ (by omega) (by omega)).trans x0, x1.cg (fun a h8 h9 => H a (by omega) (by omega)), x2.cg (fun a h8 h9 => H a (by omega) (by omega)), x3.cg (fun a h8 h9 => H a (by omega) (by omega))⟩
set_option maxHeartbeats 2000000 in
set_option maxRecDepth 20000 in
theorem c_X0_init {h : Hp} {Q : QP} {q : Nat} (hq0 : h q = ob 0 [.null, .null, .null, .int (iZ (0)), .int (iZ (0))]) (hbig : q + 10 ≤ BIG) (hQ : ∀ h2 : Hp, (∀ a, a < q → h2 a = h a) → FX0 h2 q → Q none (q + 10) h2) : Runs mX0_init [.ref (q)] (q + 1) h Q := by
  have hbig9 : q + 10 ≤ 100000 := hbig
  refine run_start (own := RX0) rfl (by decide) (nle rfl) rfl (fun X hq hini => ?_)
  have hini := hini rfl
  show G X RX0 cX0_init mX0_init.rm (q + 1) 0 0 0 [some (.ref (q))] [] h
  refine r_aload_n dX0_init_0 rfl rfl ?_
  refine r_objinit dX0_init_1 ml_X0_1 jim_obj jcd_obj ⟨by decide, by decide⟩ (nle rfl) ?_
  refine r_aload_n dX0_init_4 rfl rfl ?_
  refine r_new [.null, .null, .int (iZ (0)), .int (iZ (0)), .long (lZ (0)), .long (lZ (0))] dX0_init_5 (rfl : vwCl[9]? = _) inTX9 tyX9_ok cl_X0_7 is_X9 ini_X9 df_X9 (by show _ ≤ 100000; omega) ⟨Nat.le_of_ble_eq_true rfl, Nat.le_of_ble_eq_true rfl⟩ ?_
  refine g_cnt (N1 := q + 2) (k1 := 1) (n1 := 6) rfl rfl rfl ?_
  refine r_dup dX0_init_8 rfl ?_
  refine r_callIN (av := []) dX0_init_9 lkX9_init nl_X0_9 imX9_init rfl rfl (by omega) ⟨Nat.le_of_ble_eq_true rfl, Nat.le_of_ble_eq_true rfl⟩ rfl rfl (nle rfl) ⟨Nat.le_of_ble_eq_true rfl, Nat.le_of_ble_eq_true rfl⟩ (c_X9_init (q := q + 1) hs_e (by show _ ≤ 100000; omega) (fun h9 ho9 hf9 => ?_))
  show G _ _ _ _ _ _ _ 12 _ _ _
  have kh9_0 : h9 (q) = ob 0 [.null, .null, .null, .int (iZ (0)), .int (iZ (0))] := (ho9 _ (by omega)).trans ((hs_n (by omega)).trans hq0)
  have odh9 : ∀ a9, a9 < q → h9 a9 = h a9 := fun a9 h9 => (ho9 a9 (by omega)).trans ((hs_n (by omega)).trans rfl)
  refine g_cnt (N1 := q + 4) (k1 := 3) (n1 := 19) rfl rfl rfl ?_
  show G _ _ _ _ _ _ _ 12 _ _ _
  refine pf_X0_10 (fs2 := [_, _, _, _, _]) dX0_init_12 hini (fun _ _ => rfl) (fun _ _ => rfl) (nlt rfl) (by omega) kh9_0 rfl ?_
  refine r_aload_n dX0_init_15 rfl rfl ?_
  refine r_new [.int (iZ (0)), .null, .null] dX0_init_16 (rfl : vwCl[7]? = _) inTX7 tyX7_ok cl_X0_16 is_X7 ini_X7 df_X7 (by show _ ≤ 100000; omega) ⟨Nat.le_of_ble_eq_true rfl, Nat.le_of_ble_eq_true rfl⟩ ?_
  refine g_cnt (N1 := q + 5) (k1 := 4) (n1 := 22) rfl rfl rfl ?_
  refine r_dup dX0_init_19 rfl ?_
  refine r_callI (av := []) dX0_init_20 lkX7_init ml_X0_18 imX7_init rfl rfl (by omega) ⟨Nat.le_of_ble_eq_true rfl, Nat.le_of_ble_eq_true rfl⟩ rfl rfl (nle rfl) ⟨Nat.le_of_ble_eq_true rfl, Nat.le_of_ble_eq_true rfl⟩ (c_X7_init (q := q + 4) hs_e (by show _ ≤ 100000; omega) (fun h20 ho20 hf20 => ?_))
  show G _ _ _ _ _ _ _ 23 _ _ _
  have kh20_0 : h20 (q) = ob 0 [.ref (q + 1), .null, .null, .int (iZ (0)), .int (iZ (0))] := (ho20 _ (by omega)).trans ((hs_n (by omega)).trans hs_e)
  have fh20_0 : FX9 h20 (q + 1) := hf9.cg (fun a9 h8 h9 => (ho20 a9 (by omega)).trans ((hs_n (by omega)).trans ((hs_n (by omega)).trans rfl)))
  have odh20 : ∀ a9, a9 < q → h20 a9 = h a9 := fun a9 h9 => (ho20 a9 (by omega)).trans ((hs_n (by omega)).trans ((hs_n (by omega)).trans (odh9 a9 h9)))
  refine g_cnt (N1 := q + 7) (k1 := 6) (n1 := 35) rfl rfl rfl ?_
  show G _ _ _ _ _ _ _ 23 _ _ _
  refine pf_X0_19 (fs2 := [_, _, _, _, _]) dX0_init_23 hini (fun _ _ => rfl) (fun _ _ => rfl) (nlt rfl) (by omega) kh20_0 rfl ?_
  refine r_aload_n dX0_init_26 rfl rfl ?_
  refine r_new [.int (iZ (0)), .null, .null] dX0_init_27 (rfl : vwCl[7]? = _) inTX7 tyX7_ok cl_X0_16 is_X7 ini_X7 df_X7 (by show _ ≤ 100000; omega) ⟨Nat.le_of_ble_eq_true rfl, Nat.le_of_ble_eq_true rfl⟩ ?_
  refine g_cnt (N1 := q + 8) (k1 := 7) (n1 := 38) rfl rfl rfl ?_
  refine r_dup dX0_init_30 rfl ?_
  refine r_callI (av := []) dX0_init_31 lkX7_init ml_X0_18 imX7_init rfl rfl (by omega) ⟨Nat.le_of_ble_eq_true rfl, Nat.le_of_ble_eq_true rfl⟩ rfl rfl (nle rfl) ⟨Nat.le_of_ble_eq_true rfl, Nat.le_of_ble_eq_true rfl⟩ (c_X7_init (q := q + 7) hs_e (by show _ ≤ 100000; omega) (fun h31 ho31 hf31 => ?_))
  show G _ _ _ _ _ _ _ 34 _ _ _
  have kh31_0 : h31 (q) = ob 0 [.ref (q + 1), .ref (q + 4), .null, .int (iZ (0)), .int (iZ (0))] := (ho31 _ (by omega)).trans ((hs_n (by omega)).trans hs_e)
  have fh31_0 : FX9 h31 (q + 1) := fh20_0.cg (fun a9 h8 h9 => (ho31 a9 (by omega)).trans ((hs_n (by omega)).trans ((hs_n (by omega)).trans rfl)))
  have fh31_1 : FX7 h31 (q + 4) := hf20.cg (fun a9 h8 h9 => (ho31 a9 (by omega)).trans ((hs_n (by omega)).trans ((hs_n (by omega)).trans rfl)))
  have odh31 : ∀ a9, a9 < q → h31 a9 = h a9 := fun a9 h9 => (ho31 a9 (by omega)).trans ((hs_n (by omega)).trans ((hs_n (by omega)).trans (odh20 a9 h9)))
  refine g_cnt (N1 := q + 10) (k1 := 9) (n1 := 51) rfl rfl rfl ?_
  show G _ _ _ _ _ _ _ 34 _ _ _
  refine pf_X0_23 (fs2 := [_, _, _, _, _]) dX0_init_34 hini (fun _ _ => rfl) (fun _ _ => rfl) (nlt rfl) (by omega) kh31_0 rfl ?_
  refine r_aload_n dX0_init_37 rfl rfl ?_
  refine r_iconst (z := 0) dX0_init_38 ?_
  refine pf_X0_26 (fs2 := [_, _, _, _, _]) dX0_init_39 (fun _ _ => rfl) (fun _ _ => rfl) (nlt rfl) (by omega) hs_e rfl ?_
  refine g_heap (h2 := (hs h31 (q) (ob 0 [.ref (q + 1), .ref (q + 4), .ref (q + 7), .int (iZ (0)), .int (iZ (0))]))) hs_hs ?_
  refine r_aload_n dX0_init_42 rfl rfl ?_
  refine r_iconst (z := 0) dX0_init_43 ?_
  refine pf_X0_30 (fs2 := [_, _, _, _, _]) dX0_init_44 (fun _ _ => rfl) (fun _ _ => rfl) (nlt rfl) (by omega) hs_e rfl ?_
  refine g_heap (h2 := (hs h31 (q) (ob 0 [.ref (q + 1), .ref (q + 4), .ref (q + 7), .int (iZ (0)), .int (iZ (0))]))) hs_hs ?_
  refine r_return hq dX0_init_47 rfl rfl rfl ?_
  exact hQ _ (fun a9 h9 => ((hs_n (by omega)).trans (odh31 a9 h9))) ⟨hs_e, fh31_0.cg (fun a9 h8 h9 => ((hs_n (by omega)).trans rfl)), fh31_1.cg (fun a9 h8 h9 => ((hs_n (by omega)).trans rfl)), hf31.cg (fun a9 h8 h9 => ((hs_n (by omega)).trans rfl))⟩
def FX1 (h : Hp) (q : Nat) : Prop := h q = MKo q ∧ FX7 h (q + 1) ∧ FX7 h (q + 4) ∧ h (q + 7) = aL 1006 (fun _ => 0) ∧ h (q + 8) = aL 6 (fun _ => 0) ∧ h (q + 9) = aL 37 (fun _ => 0) ∧ h (q + 10) = aL 7 (fun _ => 0)
theorem FX1.cg {h h2 : Hp} {q : Nat} (F : FX1 h q) (H : ∀ a, q ≤ a → a < q + 11 → h2 a = h a) : FX1 h2 q := by
  obtain ⟨x0, x1, x2, x3, x4, x5, x6⟩ := F
  exact ⟨(H _ (by omega) (by omega)).trans x0, x1.cg (fun a h8 h9 => H a (by omega) (by omega)), x2.cg (fun a h8 h9 => H a (by omega) (by omega)), (H _ (by omega) (by omega)).trans x3, (H _ (by omega) (by omega)).trans x4, (H _ (by omega) (by omega)).trans x5, (H _ (by omega) (by omega)).trans x6⟩
set_option maxHeartbeats 2000000 in
set_option maxRecDepth 20000 in
theorem c_X1_init {h : Hp} {Q : QP} {q : Nat} (hq0 : h q = ob 1 [.null, .null, .null, .null, .null, .null]) (hbig : q + 11 ≤ BIG) (hQ : ∀ h2 : Hp, (∀ a, a < q → h2 a = h a) → FX1 h2 q → Q none (q + 11) h2) : Runs mX1_init [.ref (q)] (q + 1) h Q := by
  have hbig9 : q + 11 ≤ 100000 := hbig
  refine run_start (own := RX1) rfl (by decide) (nle rfl) rfl (fun X hq hini => ?_)
  have hini := hini rfl
  show G X RX1 cX1_init mX1_init.rm (q + 1) 0 0 0 [some (.ref (q))] [] h
  refine r_aload_n dX1_init_0 rfl rfl ?_
  refine r_objinit dX1_init_1 ml_X1_3 jim_obj jcd_obj ⟨by decide, by decide⟩ (nle rfl) ?_
  refine r_aload_n dX1_init_4 rfl rfl ?_
  refine r_new [.int (iZ (0)), .null, .null] dX1_init_5 (rfl : vwCl[7]? = _) inTX7 tyX7_ok cl_X1_9 is_X7 ini_X7 df_X7 (by show _ ≤ 100000; omega) ⟨Nat.le_of_ble_eq_true rfl, Nat.le_of_ble_eq_true rfl⟩ ?_
  refine g_cnt (N1 := q + 2) (k1 := 1) (n1 := 3) rfl rfl rfl ?_
  refine r_dup dX1_init_8 rfl ?_
  refine r_callI (av := []) dX1_init_9 lkX7_init ml_X1_11 imX7_init rfl rfl (by omega) ⟨Nat.le_of_ble_eq_true rfl, Nat.le_of_ble_eq_true rfl⟩ rfl rfl (nle rfl) ⟨Nat.le_of_ble_eq_true rfl, Nat.le_of_ble_eq_true rfl⟩ (c_X7_init (q := q + 1) hs_e (by show _ ≤ 100000; omega) (fun h9 ho9 hf9 => ?_))
  show G _ _ _ _ _ _ _ 12 _ _ _
  have kh9_0 : h9 (q) = ob 1 [.null, .null, .null, .null, .null, .null] := (ho9 _ (by omega)).trans ((hs_n (by omega)).trans hq0)
  have odh9 : ∀ a9, a9 < q → h9 a9 = h a9 := fun a9 h9 => (ho9 a9 (by omega)).trans ((hs_n (by omega)).trans rfl)
  refine g_cnt (N1 := q + 4) (k1 := 3) (n1 := 16) rfl rfl rfl ?_
  show G _ _ _ _ _ _ _ 12 _ _ _
  refine pf_X1_12 (fs2 := [_, _, _, _, _, _]) dX1_init_12 hini (fun _ _ => rfl) (fun _ _ => rfl) (nlt rfl) (by omega) kh9_0 rfl ?_
  refine r_aload_n dX1_init_15 rfl rfl ?_
  refine r_new [.int (iZ (0)), .null, .null] dX1_init_16 (rfl : vwCl[7]? = _) inTX7 tyX7_ok cl_X1_9 is_X7 ini_X7 df_X7 (by show _ ≤ 100000; omega) ⟨Nat.le_of_ble_eq_true rfl, Nat.le_of_ble_eq_true rfl⟩ ?_
  refine g_cnt (N1 := q + 5) (k1 := 4) (n1 := 19) rfl rfl rfl ?_
  refine r_dup dX1_init_19 rfl ?_
  refine r_callI (av := []) dX1_init_20 lkX7_init ml_X1_11 imX7_init rfl rfl (by omega) ⟨Nat.le_of_ble_eq_true rfl, Nat.le_of_ble_eq_true rfl⟩ rfl rfl (nle rfl) ⟨Nat.le_of_ble_eq_true rfl, Nat.le_of_ble_eq_true rfl⟩ (c_X7_init (q := q + 4) hs_e (by show _ ≤ 100000; omega) (fun h20 ho20 hf20 => ?_))
  show G _ _ _ _ _ _ _ 23 _ _ _
  have kh20_0 : h20 (q) = ob 1 [.ref (q + 1), .null, .null, .null, .null, .null] := (ho20 _ (by omega)).trans ((hs_n (by omega)).trans hs_e)
  have fh20_0 : FX7 h20 (q + 1) := hf9.cg (fun a9 h8 h9 => (ho20 a9 (by omega)).trans ((hs_n (by omega)).trans ((hs_n (by omega)).trans rfl)))
  have odh20 : ∀ a9, a9 < q → h20 a9 = h a9 := fun a9 h9 => (ho20 a9 (by omega)).trans ((hs_n (by omega)).trans ((hs_n (by omega)).trans (odh9 a9 h9)))
  refine g_cnt (N1 := q + 7) (k1 := 6) (n1 := 32) rfl rfl rfl ?_
  show G _ _ _ _ _ _ _ 23 _ _ _
  refine pf_X1_18 (fs2 := [_, _, _, _, _, _]) dX1_init_23 hini (fun _ _ => rfl) (fun _ _ => rfl) (nlt rfl) (by omega) kh20_0 rfl ?_
  refine r_aload_n dX1_init_26 rfl rfl ?_
  refine r_sipush (z := 1006) dX1_init_27 (by decide) ?_
  refine r_newJ (M := 1006) dX1_init_30 rfl rfl (by show _ ≤ 100000; omega) ⟨Nat.le_of_ble_eq_true rfl, Nat.le_of_ble_eq_true rfl⟩ ?_
  refine g_cnt (N1 := q + 8) (k1 := 7) (n1 := 1038) rfl rfl rfl ?_
  refine pf_X1_21 (fs2 := [_, _, _, _, _, _]) dX1_init_32 hini (fun _ _ => rfl) (fun _ _ => rfl) (nlt rfl) (by omega) ((hs_n (by omega)).trans hs_e) rfl ?_
  refine g_heap (h2 := (hs (hs h20 (q) (ob 1 [.ref (q + 1), .ref (q + 4), .ref (q + 7), .null, .null, .null])) (q + 7) (aL 1006 (fun _ => 0)))) (hs_put (by omega) hs_hs) ?_
  refine r_aload_n dX1_init_35 rfl rfl ?_
  refine r_bipush (z := 6) dX1_init_36 (by decide) ?_
  refine r_newJ (M := 6) dX1_init_38 rfl rfl (by show _ ≤ 100000; omega) ⟨Nat.le_of_ble_eq_true rfl, Nat.le_of_ble_eq_true rfl⟩ ?_
  refine g_cnt (N1 := q + 9) (k1 := 8) (n1 := 1044) rfl rfl rfl ?_
  refine pf_X1_25 (fs2 := [_, _, _, _, _, _]) dX1_init_40 hini (fun _ _ => rfl) (fun _ _ => rfl) (nlt rfl) (by omega) ((hs_n (by omega)).trans ((hs_n (by omega)).trans hs_e)) rfl ?_
  refine g_heap (h2 := (hs (hs (hs h20 (q) (ob 1 [.ref (q + 1), .ref (q + 4), .ref (q + 7), .ref (q + 8), .null, .null])) (q + 7) (aL 1006 (fun _ => 0))) (q + 8) (aL 6 (fun _ => 0)))) (hs_put (by omega) (hs_put (by omega) hs_hs)) ?_
  refine r_aload_n dX1_init_43 rfl rfl ?_
  refine r_bipush (z := 37) dX1_init_44 (by decide) ?_
  refine r_newJ (M := 37) dX1_init_46 rfl rfl (by show _ ≤ 100000; omega) ⟨Nat.le_of_ble_eq_true rfl, Nat.le_of_ble_eq_true rfl⟩ ?_
  refine g_cnt (N1 := q + 10) (k1 := 9) (n1 := 1081) rfl rfl rfl ?_
  refine pf_X1_28 (fs2 := [_, _, _, _, _, _]) dX1_init_48 hini (fun _ _ => rfl) (fun _ _ => rfl) (nlt rfl) (by omega) ((hs_n (by omega)).trans ((hs_n (by omega)).trans ((hs_n (by omega)).trans hs_e))) rfl ?_
  refine g_heap (h2 := (hs (hs (hs (hs h20 (q) (ob 1 [.ref (q + 1), .ref (q + 4), .ref (q + 7), .ref (q + 8), .ref (q + 9), .null])) (q + 7) (aL 1006 (fun _ => 0))) (q + 8) (aL 6 (fun _ => 0))) (q + 9) (aL 37 (fun _ => 0)))) (hs_put (by omega) (hs_put (by omega) (hs_put (by omega) hs_hs))) ?_
  refine r_aload_n dX1_init_51 rfl rfl ?_
  refine r_bipush (z := 7) dX1_init_52 (by decide) ?_
  refine r_newJ (M := 7) dX1_init_54 rfl rfl (by show _ ≤ 100000; omega) ⟨Nat.le_of_ble_eq_true rfl, Nat.le_of_ble_eq_true rfl⟩ ?_
  refine g_cnt (N1 := q + 11) (k1 := 10) (n1 := 1088) rfl rfl rfl ?_
  refine pf_X1_31 (fs2 := [_, _, _, _, _, _]) dX1_init_56 hini (fun _ _ => rfl) (fun _ _ => rfl) (nlt rfl) (by omega) ((hs_n (by omega)).trans ((hs_n (by omega)).trans ((hs_n (by omega)).trans ((hs_n (by omega)).trans hs_e)))) rfl ?_
  refine g_heap (h2 := (hs (hs (hs (hs (hs h20 (q) (ob 1 [.ref (q + 1), .ref (q + 4), .ref (q + 7), .ref (q + 8), .ref (q + 9), .ref (q + 10)])) (q + 7) (aL 1006 (fun _ => 0))) (q + 8) (aL 6 (fun _ => 0))) (q + 9) (aL 37 (fun _ => 0))) (q + 10) (aL 7 (fun _ => 0)))) (hs_put (by omega) (hs_put (by omega) (hs_put (by omega) (hs_put (by omega) hs_hs)))) ?_
  refine r_return hq dX1_init_59 rfl rfl rfl ?_
  exact hQ _ (fun a9 h9 => ((hs_n (by omega)).trans ((hs_n (by omega)).trans ((hs_n (by omega)).trans ((hs_n (by omega)).trans ((hs_n (by omega)).trans (odh20 a9 h9))))))) ⟨((hs_n (by omega)).trans ((hs_n (by omega)).trans ((hs_n (by omega)).trans ((hs_n (by omega)).trans hs_e)))), fh20_0.cg (fun a9 h8 h9 => ((hs_n (by omega)).trans ((hs_n (by omega)).trans ((hs_n (by omega)).trans ((hs_n (by omega)).trans ((hs_n (by omega)).trans rfl)))))), hf20.cg (fun a9 h8 h9 => ((hs_n (by omega)).trans ((hs_n (by omega)).trans ((hs_n (by omega)).trans ((hs_n (by omega)).trans ((hs_n (by omega)).trans rfl)))))), ((hs_n (by omega)).trans ((hs_n (by omega)).trans ((hs_n (by omega)).trans hs_e))), ((hs_n (by omega)).trans ((hs_n (by omega)).trans hs_e)), ((hs_n (by omega)).trans hs_e), hs_e⟩
def FX4 (h : Hp) (q : Nat) : Prop := h q = POo q (-1) ∧ h (q + 1) = aI 13 (fun _ => 0)
theorem FX4.cg {h h2 : Hp} {q : Nat} (F : FX4 h q) (H : ∀ a, q ≤ a → a < q + 2 → h2 a = h a) : FX4 h2 q := by
  obtain ⟨x0, x1⟩ := F
  exact ⟨(H _ (by omega) (by omega)).trans x0, (H _ (by omega) (by omega)).trans x1⟩
set_option maxHeartbeats 2000000 in
set_option maxRecDepth 20000 in
theorem c_X4_init {h : Hp} {Q : QP} {q : Nat} (hq0 : h q = ob 4 [.null, .int (iZ (0))]) (hbig : q + 2 ≤ BIG) (hQ : ∀ h2 : Hp, (∀ a, a < q → h2 a = h a) → FX4 h2 q → Q none (q + 2) h2) : Runs mX4_init [.ref (q)] (q + 1) h Q := by
  have hbig9 : q + 2 ≤ 100000 := hbig
  refine run_start (own := RX4) rfl (by decide) (nle rfl) rfl (fun X hq hini => ?_)
  have hini := hini rfl
  show G X RX4 cX4_init mX4_init.rm (q + 1) 0 0 0 [some (.ref (q))] [] h
  refine r_aload_n dX4_init_0 rfl rfl ?_
  refine r_objinit dX4_init_1 ml_X4_3 jim_obj jcd_obj ⟨by decide, by decide⟩ (nle rfl) ?_
  refine r_aload_n dX4_init_4 rfl rfl ?_
  refine r_bipush (z := 13) dX4_init_5 (by decide) ?_
  refine r_newI (M := 13) dX4_init_7 rfl rfl (by show _ ≤ 100000; omega) ⟨Nat.le_of_ble_eq_true rfl, Nat.le_of_ble_eq_true rfl⟩ ?_
  refine g_cnt (N1 := q + 2) (k1 := 1) (n1 := 13) rfl rfl rfl ?_
  refine pf_X4_11 (fs2 := [_, _]) dX4_init_9 hini (fun _ _ => rfl) (fun _ _ => rfl) (nlt rfl) (by omega) ((hs_n (by omega)).trans hq0) rfl ?_
  refine r_aload_n dX4_init_12 rfl rfl ?_
  refine r_iconst (z := -1) dX4_init_13 ?_
  refine pf_X4_15 (fs2 := [_, _]) dX4_init_14 (fun _ _ => rfl) (fun _ _ => rfl) (nlt rfl) (by omega) hs_e rfl ?_
  refine g_heap (h2 := (hs (hs h (q + 1) (aI 13 (fun _ => 0))) (q) (ob 4 [.ref (q + 1), .int (iZ ((-1)))]))) hs_hs ?_
  refine r_return hq dX4_init_17 rfl rfl rfl ?_
  exact hQ _ (fun a9 h9 => ((hs_n (by omega)).trans ((hs_n (by omega)).trans rfl))) ⟨hs_e, ((hs_n (by omega)).trans hs_e)⟩
def FX3 (h : Hp) (q : Nat) : Prop := h q = PAo q 2 0 0 0 ∧ FX4 h (q + 1) ∧ FX4 h (q + 3) ∧ FX4 h (q + 5) ∧ FX4 h (q + 7) ∧ FX4 h (q + 9) ∧ FX4 h (q + 11) ∧ FX4 h (q + 13) ∧ FX4 h (q + 15)
theorem FX3.cg {h h2 : Hp} {q : Nat} (F : FX3 h q) (H : ∀ a, q ≤ a → a < q + 17 → h2 a = h a) : FX3 h2 q := by
  obtain ⟨x0, x1, x2, x3, x4, x5, x6, x7, x8⟩ := F
  exact ⟨(H _ (by omega) (by omega)).trans x0, x1.cg (fun a h8 h9 => H a (by omega) (by omega)), x2.cg (fun a h8 h9 => H a (by omega) (by omega)), x3.cg (fun a h8 h9 => H a (by omega) (by omega)), x4.cg (fun a h8 h9 => H a (by omega) (by omega)), x5.cg (fun a h8 h9 => H a (by omega) (by omega)), x6.cg (fun a h8 h9 => H a (by omega) (by omega)), x7.cg (fun a h8 h9 => H a (by omega) (by omega)), x8.cg (fun a h8 h9 => H a (by omega) (by omega))⟩
set_option maxHeartbeats 2000000 in
set_option maxRecDepth 20000 in
theorem c_X3_init {h : Hp} {Q : QP} {q : Nat} (hq0 : h q = ob 3 [.null, .null, .null, .null, .null, .null, .null, .null, .int (iZ (0)), .int (iZ (0)), .int (iZ (0)), .int (iZ (0))]) (hbig : q + 17 ≤ BIG) (hQ : ∀ h2 : Hp, (∀ a, a < q → h2 a = h a) → FX3 h2 q → Q none (q + 17) h2) : Runs mX3_init [.ref (q)] (q + 1) h Q := by
  have hbig9 : q + 17 ≤ 100000 := hbig
  refine run_start (own := RX3) rfl (by decide) (nle rfl) rfl (fun X hq hini => ?_)
  have hini := hini rfl
  show G X RX3 cX3_init mX3_init.rm (q + 1) 0 0 0 [some (.ref (q))] [] h
  refine r_aload_n dX3_init_0 rfl rfl ?_
  refine r_objinit dX3_init_1 ml_X3_3 jim_obj jcd_obj ⟨by decide, by decide⟩ (nle rfl) ?_
  refine r_aload_n dX3_init_4 rfl rfl ?_
  refine r_new [.null, .int (iZ (0))] dX3_init_5 (rfl : vwCl[4]? = _) inTX4 tyX4_ok cl_X3_9 is_X4 ini_X4 df_X4 (by show _ ≤ 100000; omega) ⟨Nat.le_of_ble_eq_true rfl, Nat.le_of_ble_eq_true rfl⟩ ?_
  refine g_cnt (N1 := q + 2) (k1 := 1) (n1 := 2) rfl rfl rfl ?_
  refine r_dup dX3_init_8 rfl ?_
  refine r_callIN (av := []) dX3_init_9 lkX4_init nl_X3_11 imX4_init rfl rfl (by omega) ⟨Nat.le_of_ble_eq_true rfl, Nat.le_of_ble_eq_true rfl⟩ rfl rfl (nle rfl) ⟨Nat.le_of_ble_eq_true rfl, Nat.le_of_ble_eq_true rfl⟩ (c_X4_init (q := q + 1) hs_e (by show _ ≤ 100000; omega) (fun h9 ho9 hf9 => ?_))
  show G _ _ _ _ _ _ _ 12 _ _ _
  have kh9_0 : h9 (q) = ob 3 [.null, .null, .null, .null, .null, .null, .null, .null, .int (iZ (0)), .int (iZ (0)), .int (iZ (0)), .int (iZ (0))] := (ho9 _ (by omega)).trans ((hs_n (by omega)).trans hq0)
  have odh9 : ∀ a9, a9 < q → h9 a9 = h a9 := fun a9 h9 => (ho9 a9 (by omega)).trans ((hs_n (by omega)).trans rfl)
  refine g_cnt (N1 := q + 3) (k1 := 2) (n1 := 15) rfl rfl rfl ?_
  show G _ _ _ _ _ _ _ 12 _ _ _
  refine pf_X3_12 (fs2 := [_, _, _, _, _, _, _, _, _, _, _, _]) dX3_init_12 hini (fun _ _ => rfl) (fun _ _ => rfl) (nlt rfl) (by omega) kh9_0 rfl ?_
  refine r_aload_n dX3_init_15 rfl rfl ?_
  refine r_new [.null, .int (iZ (0))] dX3_init_16 (rfl : vwCl[4]? = _) inTX4 tyX4_ok cl_X3_9 is_X4 ini_X4 df_X4 (by show _ ≤ 100000; omega) ⟨Nat.le_of_ble_eq_true rfl, Nat.le_of_ble_eq_true rfl⟩ ?_
  refine g_cnt (N1 := q + 4) (k1 := 3) (n1 := 17) rfl rfl rfl ?_
  refine r_dup dX3_init_19 rfl ?_
  refine r_callIN (av := []) dX3_init_20 lkX4_init nl_X3_11 imX4_init rfl rfl (by omega) ⟨Nat.le_of_ble_eq_true rfl, Nat.le_of_ble_eq_true rfl⟩ rfl rfl (nle rfl) ⟨Nat.le_of_ble_eq_true rfl, Nat.le_of_ble_eq_true rfl⟩ (c_X4_init (q := q + 3) hs_e (by show _ ≤ 100000; omega) (fun h20 ho20 hf20 => ?_))
  show G _ _ _ _ _ _ _ 23 _ _ _
  have kh20_0 : h20 (q) = ob 3 [.ref (q + 1), .null, .null, .null, .null, .null, .null, .null, .int (iZ (0)), .int (iZ (0)), .int (iZ (0)), .int (iZ (0))] := (ho20 _ (by omega)).trans ((hs_n (by omega)).trans hs_e)
  have fh20_0 : FX4 h20 (q + 1) := hf9.cg (fun a9 h8 h9 => (ho20 a9 (by omega)).trans ((hs_n (by omega)).trans ((hs_n (by omega)).trans rfl)))
  have odh20 : ∀ a9, a9 < q → h20 a9 = h a9 := fun a9 h9 => (ho20 a9 (by omega)).trans ((hs_n (by omega)).trans ((hs_n (by omega)).trans (odh9 a9 h9)))
  refine g_cnt (N1 := q + 5) (k1 := 4) (n1 := 30) rfl rfl rfl ?_
  show G _ _ _ _ _ _ _ 23 _ _ _
  refine pf_X3_18 (fs2 := [_, _, _, _, _, _, _, _, _, _, _, _]) dX3_init_23 hini (fun _ _ => rfl) (fun _ _ => rfl) (nlt rfl) (by omega) kh20_0 rfl ?_
  refine r_aload_n dX3_init_26 rfl rfl ?_
  refine r_new [.null, .int (iZ (0))] dX3_init_27 (rfl : vwCl[4]? = _) inTX4 tyX4_ok cl_X3_9 is_X4 ini_X4 df_X4 (by show _ ≤ 100000; omega) ⟨Nat.le_of_ble_eq_true rfl, Nat.le_of_ble_eq_true rfl⟩ ?_
  refine g_cnt (N1 := q + 6) (k1 := 5) (n1 := 32) rfl rfl rfl ?_
  refine r_dup dX3_init_30 rfl ?_
  refine r_callIN (av := []) dX3_init_31 lkX4_init nl_X3_11 imX4_init rfl rfl (by omega) ⟨Nat.le_of_ble_eq_true rfl, Nat.le_of_ble_eq_true rfl⟩ rfl rfl (nle rfl) ⟨Nat.le_of_ble_eq_true rfl, Nat.le_of_ble_eq_true rfl⟩ (c_X4_init (q := q + 5) hs_e (by show _ ≤ 100000; omega) (fun h31 ho31 hf31 => ?_))
  show G _ _ _ _ _ _ _ 34 _ _ _
  have kh31_0 : h31 (q) = ob 3 [.ref (q + 1), .ref (q + 3), .null, .null, .null, .null, .null, .null, .int (iZ (0)), .int (iZ (0)), .int (iZ (0)), .int (iZ (0))] := (ho31 _ (by omega)).trans ((hs_n (by omega)).trans hs_e)
  have fh31_0 : FX4 h31 (q + 1) := fh20_0.cg (fun a9 h8 h9 => (ho31 a9 (by omega)).trans ((hs_n (by omega)).trans ((hs_n (by omega)).trans rfl)))
  have fh31_1 : FX4 h31 (q + 3) := hf20.cg (fun a9 h8 h9 => (ho31 a9 (by omega)).trans ((hs_n (by omega)).trans ((hs_n (by omega)).trans rfl)))
  have odh31 : ∀ a9, a9 < q → h31 a9 = h a9 := fun a9 h9 => (ho31 a9 (by omega)).trans ((hs_n (by omega)).trans ((hs_n (by omega)).trans (odh20 a9 h9)))
  refine g_cnt (N1 := q + 7) (k1 := 6) (n1 := 45) rfl rfl rfl ?_
  show G _ _ _ _ _ _ _ 34 _ _ _
  refine pf_X3_21 (fs2 := [_, _, _, _, _, _, _, _, _, _, _, _]) dX3_init_34 hini (fun _ _ => rfl) (fun _ _ => rfl) (nlt rfl) (by omega) kh31_0 rfl ?_
  refine r_aload_n dX3_init_37 rfl rfl ?_
  refine r_new [.null, .int (iZ (0))] dX3_init_38 (rfl : vwCl[4]? = _) inTX4 tyX4_ok cl_X3_9 is_X4 ini_X4 df_X4 (by show _ ≤ 100000; omega) ⟨Nat.le_of_ble_eq_true rfl, Nat.le_of_ble_eq_true rfl⟩ ?_
  refine g_cnt (N1 := q + 8) (k1 := 7) (n1 := 47) rfl rfl rfl ?_
  refine r_dup dX3_init_41 rfl ?_
  refine r_callIN (av := []) dX3_init_42 lkX4_init nl_X3_11 imX4_init rfl rfl (by omega) ⟨Nat.le_of_ble_eq_true rfl, Nat.le_of_ble_eq_true rfl⟩ rfl rfl (nle rfl) ⟨Nat.le_of_ble_eq_true rfl, Nat.le_of_ble_eq_true rfl⟩ (c_X4_init (q := q + 7) hs_e (by show _ ≤ 100000; omega) (fun h42 ho42 hf42 => ?_))
  show G _ _ _ _ _ _ _ 45 _ _ _
  have kh42_0 : h42 (q) = ob 3 [.ref (q + 1), .ref (q + 3), .ref (q + 5), .null, .null, .null, .null, .null, .int (iZ (0)), .int (iZ (0)), .int (iZ (0)), .int (iZ (0))] := (ho42 _ (by omega)).trans ((hs_n (by omega)).trans hs_e)
  have fh42_0 : FX4 h42 (q + 1) := fh31_0.cg (fun a9 h8 h9 => (ho42 a9 (by omega)).trans ((hs_n (by omega)).trans ((hs_n (by omega)).trans rfl)))
  have fh42_1 : FX4 h42 (q + 3) := fh31_1.cg (fun a9 h8 h9 => (ho42 a9 (by omega)).trans ((hs_n (by omega)).trans ((hs_n (by omega)).trans rfl)))
  have fh42_2 : FX4 h42 (q + 5) := hf31.cg (fun a9 h8 h9 => (ho42 a9 (by omega)).trans ((hs_n (by omega)).trans ((hs_n (by omega)).trans rfl)))
  have odh42 : ∀ a9, a9 < q → h42 a9 = h a9 := fun a9 h9 => (ho42 a9 (by omega)).trans ((hs_n (by omega)).trans ((hs_n (by omega)).trans (odh31 a9 h9)))
  refine g_cnt (N1 := q + 9) (k1 := 8) (n1 := 60) rfl rfl rfl ?_
  show G _ _ _ _ _ _ _ 45 _ _ _
  refine pf_X3_24 (fs2 := [_, _, _, _, _, _, _, _, _, _, _, _]) dX3_init_45 hini (fun _ _ => rfl) (fun _ _ => rfl) (nlt rfl) (by omega) kh42_0 rfl ?_
  refine r_aload_n dX3_init_48 rfl rfl ?_
  refine r_new [.null, .int (iZ (0))] dX3_init_49 (rfl : vwCl[4]? = _) inTX4 tyX4_ok cl_X3_9 is_X4 ini_X4 df_X4 (by show _ ≤ 100000; omega) ⟨Nat.le_of_ble_eq_true rfl, Nat.le_of_ble_eq_true rfl⟩ ?_
  refine g_cnt (N1 := q + 10) (k1 := 9) (n1 := 62) rfl rfl rfl ?_
  refine r_dup dX3_init_52 rfl ?_
  refine r_callIN (av := []) dX3_init_53 lkX4_init nl_X3_11 imX4_init rfl rfl (by omega) ⟨Nat.le_of_ble_eq_true rfl, Nat.le_of_ble_eq_true rfl⟩ rfl rfl (nle rfl) ⟨Nat.le_of_ble_eq_true rfl, Nat.le_of_ble_eq_true rfl⟩ (c_X4_init (q := q + 9) hs_e (by show _ ≤ 100000; omega) (fun h53 ho53 hf53 => ?_))
  show G _ _ _ _ _ _ _ 56 _ _ _
  have kh53_0 : h53 (q) = ob 3 [.ref (q + 1), .ref (q + 3), .ref (q + 5), .ref (q + 7), .null, .null, .null, .null, .int (iZ (0)), .int (iZ (0)), .int (iZ (0)), .int (iZ (0))] := (ho53 _ (by omega)).trans ((hs_n (by omega)).trans hs_e)
  have fh53_0 : FX4 h53 (q + 1) := fh42_0.cg (fun a9 h8 h9 => (ho53 a9 (by omega)).trans ((hs_n (by omega)).trans ((hs_n (by omega)).trans rfl)))
  have fh53_1 : FX4 h53 (q + 3) := fh42_1.cg (fun a9 h8 h9 => (ho53 a9 (by omega)).trans ((hs_n (by omega)).trans ((hs_n (by omega)).trans rfl)))
  have fh53_2 : FX4 h53 (q + 5) := fh42_2.cg (fun a9 h8 h9 => (ho53 a9 (by omega)).trans ((hs_n (by omega)).trans ((hs_n (by omega)).trans rfl)))
  have fh53_3 : FX4 h53 (q + 7) := hf42.cg (fun a9 h8 h9 => (ho53 a9 (by omega)).trans ((hs_n (by omega)).trans ((hs_n (by omega)).trans rfl)))
  have odh53 : ∀ a9, a9 < q → h53 a9 = h a9 := fun a9 h9 => (ho53 a9 (by omega)).trans ((hs_n (by omega)).trans ((hs_n (by omega)).trans (odh42 a9 h9)))
  refine g_cnt (N1 := q + 11) (k1 := 10) (n1 := 75) rfl rfl rfl ?_
  show G _ _ _ _ _ _ _ 56 _ _ _
  refine pf_X3_27 (fs2 := [_, _, _, _, _, _, _, _, _, _, _, _]) dX3_init_56 hini (fun _ _ => rfl) (fun _ _ => rfl) (nlt rfl) (by omega) kh53_0 rfl ?_
  refine r_aload_n dX3_init_59 rfl rfl ?_
  refine r_new [.null, .int (iZ (0))] dX3_init_60 (rfl : vwCl[4]? = _) inTX4 tyX4_ok cl_X3_9 is_X4 ini_X4 df_X4 (by show _ ≤ 100000; omega) ⟨Nat.le_of_ble_eq_true rfl, Nat.le_of_ble_eq_true rfl⟩ ?_
  refine g_cnt (N1 := q + 12) (k1 := 11) (n1 := 77) rfl rfl rfl ?_
  refine r_dup dX3_init_63 rfl ?_
  refine r_callIN (av := []) dX3_init_64 lkX4_init nl_X3_11 imX4_init rfl rfl (by omega) ⟨Nat.le_of_ble_eq_true rfl, Nat.le_of_ble_eq_true rfl⟩ rfl rfl (nle rfl) ⟨Nat.le_of_ble_eq_true rfl, Nat.le_of_ble_eq_true rfl⟩ (c_X4_init (q := q + 11) hs_e (by show _ ≤ 100000; omega) (fun h64 ho64 hf64 => ?_))
  show G _ _ _ _ _ _ _ 67 _ _ _
  have kh64_0 : h64 (q) = ob 3 [.ref (q + 1), .ref (q + 3), .ref (q + 5), .ref (q + 7), .ref (q + 9), .null, .null, .null, .int (iZ (0)), .int (iZ (0)), .int (iZ (0)), .int (iZ (0))] := (ho64 _ (by omega)).trans ((hs_n (by omega)).trans hs_e)
  have fh64_0 : FX4 h64 (q + 1) := fh53_0.cg (fun a9 h8 h9 => (ho64 a9 (by omega)).trans ((hs_n (by omega)).trans ((hs_n (by omega)).trans rfl)))
  have fh64_1 : FX4 h64 (q + 3) := fh53_1.cg (fun a9 h8 h9 => (ho64 a9 (by omega)).trans ((hs_n (by omega)).trans ((hs_n (by omega)).trans rfl)))
  have fh64_2 : FX4 h64 (q + 5) := fh53_2.cg (fun a9 h8 h9 => (ho64 a9 (by omega)).trans ((hs_n (by omega)).trans ((hs_n (by omega)).trans rfl)))
  have fh64_3 : FX4 h64 (q + 7) := fh53_3.cg (fun a9 h8 h9 => (ho64 a9 (by omega)).trans ((hs_n (by omega)).trans ((hs_n (by omega)).trans rfl)))
  have fh64_4 : FX4 h64 (q + 9) := hf53.cg (fun a9 h8 h9 => (ho64 a9 (by omega)).trans ((hs_n (by omega)).trans ((hs_n (by omega)).trans rfl)))
  have odh64 : ∀ a9, a9 < q → h64 a9 = h a9 := fun a9 h9 => (ho64 a9 (by omega)).trans ((hs_n (by omega)).trans ((hs_n (by omega)).trans (odh53 a9 h9)))
  refine g_cnt (N1 := q + 13) (k1 := 12) (n1 := 90) rfl rfl rfl ?_
  show G _ _ _ _ _ _ _ 67 _ _ _
  refine pf_X3_30 (fs2 := [_, _, _, _, _, _, _, _, _, _, _, _]) dX3_init_67 hini (fun _ _ => rfl) (fun _ _ => rfl) (nlt rfl) (by omega) kh64_0 rfl ?_
  refine r_aload_n dX3_init_70 rfl rfl ?_
  refine r_new [.null, .int (iZ (0))] dX3_init_71 (rfl : vwCl[4]? = _) inTX4 tyX4_ok cl_X3_9 is_X4 ini_X4 df_X4 (by show _ ≤ 100000; omega) ⟨Nat.le_of_ble_eq_true rfl, Nat.le_of_ble_eq_true rfl⟩ ?_
  refine g_cnt (N1 := q + 14) (k1 := 13) (n1 := 92) rfl rfl rfl ?_
  refine r_dup dX3_init_74 rfl ?_
  refine r_callIN (av := []) dX3_init_75 lkX4_init nl_X3_11 imX4_init rfl rfl (by omega) ⟨Nat.le_of_ble_eq_true rfl, Nat.le_of_ble_eq_true rfl⟩ rfl rfl (nle rfl) ⟨Nat.le_of_ble_eq_true rfl, Nat.le_of_ble_eq_true rfl⟩ (c_X4_init (q := q + 13) hs_e (by show _ ≤ 100000; omega) (fun h75 ho75 hf75 => ?_))
  show G _ _ _ _ _ _ _ 78 _ _ _
  have kh75_0 : h75 (q) = ob 3 [.ref (q + 1), .ref (q + 3), .ref (q + 5), .ref (q + 7), .ref (q + 9), .ref (q + 11), .null, .null, .int (iZ (0)), .int (iZ (0)), .int (iZ (0)), .int (iZ (0))] := (ho75 _ (by omega)).trans ((hs_n (by omega)).trans hs_e)
  have fh75_0 : FX4 h75 (q + 1) := fh64_0.cg (fun a9 h8 h9 => (ho75 a9 (by omega)).trans ((hs_n (by omega)).trans ((hs_n (by omega)).trans rfl)))
  have fh75_1 : FX4 h75 (q + 3) := fh64_1.cg (fun a9 h8 h9 => (ho75 a9 (by omega)).trans ((hs_n (by omega)).trans ((hs_n (by omega)).trans rfl)))
  have fh75_2 : FX4 h75 (q + 5) := fh64_2.cg (fun a9 h8 h9 => (ho75 a9 (by omega)).trans ((hs_n (by omega)).trans ((hs_n (by omega)).trans rfl)))
  have fh75_3 : FX4 h75 (q + 7) := fh64_3.cg (fun a9 h8 h9 => (ho75 a9 (by omega)).trans ((hs_n (by omega)).trans ((hs_n (by omega)).trans rfl)))
  have fh75_4 : FX4 h75 (q + 9) := fh64_4.cg (fun a9 h8 h9 => (ho75 a9 (by omega)).trans ((hs_n (by omega)).trans ((hs_n (by omega)).trans rfl)))
  have fh75_5 : FX4 h75 (q + 11) := hf64.cg (fun a9 h8 h9 => (ho75 a9 (by omega)).trans ((hs_n (by omega)).trans ((hs_n (by omega)).trans rfl)))
  have odh75 : ∀ a9, a9 < q → h75 a9 = h a9 := fun a9 h9 => (ho75 a9 (by omega)).trans ((hs_n (by omega)).trans ((hs_n (by omega)).trans (odh64 a9 h9)))
  refine g_cnt (N1 := q + 15) (k1 := 14) (n1 := 105) rfl rfl rfl ?_
  show G _ _ _ _ _ _ _ 78 _ _ _
  refine pf_X3_33 (fs2 := [_, _, _, _, _, _, _, _, _, _, _, _]) dX3_init_78 hini (fun _ _ => rfl) (fun _ _ => rfl) (nlt rfl) (by omega) kh75_0 rfl ?_
  refine r_aload_n dX3_init_81 rfl rfl ?_
  refine r_new [.null, .int (iZ (0))] dX3_init_82 (rfl : vwCl[4]? = _) inTX4 tyX4_ok cl_X3_9 is_X4 ini_X4 df_X4 (by show _ ≤ 100000; omega) ⟨Nat.le_of_ble_eq_true rfl, Nat.le_of_ble_eq_true rfl⟩ ?_
  refine g_cnt (N1 := q + 16) (k1 := 15) (n1 := 107) rfl rfl rfl ?_
  refine r_dup dX3_init_85 rfl ?_
  refine r_callIN (av := []) dX3_init_86 lkX4_init nl_X3_11 imX4_init rfl rfl (by omega) ⟨Nat.le_of_ble_eq_true rfl, Nat.le_of_ble_eq_true rfl⟩ rfl rfl (nle rfl) ⟨Nat.le_of_ble_eq_true rfl, Nat.le_of_ble_eq_true rfl⟩ (c_X4_init (q := q + 15) hs_e (by show _ ≤ 100000; omega) (fun h86 ho86 hf86 => ?_))
  show G _ _ _ _ _ _ _ 89 _ _ _
  have kh86_0 : h86 (q) = ob 3 [.ref (q + 1), .ref (q + 3), .ref (q + 5), .ref (q + 7), .ref (q + 9), .ref (q + 11), .ref (q + 13), .null, .int (iZ (0)), .int (iZ (0)), .int (iZ (0)), .int (iZ (0))] := (ho86 _ (by omega)).trans ((hs_n (by omega)).trans hs_e)
  have fh86_0 : FX4 h86 (q + 1) := fh75_0.cg (fun a9 h8 h9 => (ho86 a9 (by omega)).trans ((hs_n (by omega)).trans ((hs_n (by omega)).trans rfl)))
  have fh86_1 : FX4 h86 (q + 3) := fh75_1.cg (fun a9 h8 h9 => (ho86 a9 (by omega)).trans ((hs_n (by omega)).trans ((hs_n (by omega)).trans rfl)))
  have fh86_2 : FX4 h86 (q + 5) := fh75_2.cg (fun a9 h8 h9 => (ho86 a9 (by omega)).trans ((hs_n (by omega)).trans ((hs_n (by omega)).trans rfl)))
  have fh86_3 : FX4 h86 (q + 7) := fh75_3.cg (fun a9 h8 h9 => (ho86 a9 (by omega)).trans ((hs_n (by omega)).trans ((hs_n (by omega)).trans rfl)))
  have fh86_4 : FX4 h86 (q + 9) := fh75_4.cg (fun a9 h8 h9 => (ho86 a9 (by omega)).trans ((hs_n (by omega)).trans ((hs_n (by omega)).trans rfl)))
  have fh86_5 : FX4 h86 (q + 11) := fh75_5.cg (fun a9 h8 h9 => (ho86 a9 (by omega)).trans ((hs_n (by omega)).trans ((hs_n (by omega)).trans rfl)))
  have fh86_6 : FX4 h86 (q + 13) := hf75.cg (fun a9 h8 h9 => (ho86 a9 (by omega)).trans ((hs_n (by omega)).trans ((hs_n (by omega)).trans rfl)))
  have odh86 : ∀ a9, a9 < q → h86 a9 = h a9 := fun a9 h9 => (ho86 a9 (by omega)).trans ((hs_n (by omega)).trans ((hs_n (by omega)).trans (odh75 a9 h9)))
  refine g_cnt (N1 := q + 17) (k1 := 16) (n1 := 120) rfl rfl rfl ?_
  show G _ _ _ _ _ _ _ 89 _ _ _
  refine pf_X3_36 (fs2 := [_, _, _, _, _, _, _, _, _, _, _, _]) dX3_init_89 hini (fun _ _ => rfl) (fun _ _ => rfl) (nlt rfl) (by omega) kh86_0 rfl ?_
  refine r_aload_n dX3_init_92 rfl rfl ?_
  refine r_iconst (z := 2) dX3_init_93 ?_
  refine pf_X3_39 (fs2 := [_, _, _, _, _, _, _, _, _, _, _, _]) dX3_init_94 (fun _ _ => rfl) (fun _ _ => rfl) (nlt rfl) (by omega) hs_e rfl ?_
  refine g_heap (h2 := (hs h86 (q) (ob 3 [.ref (q + 1), .ref (q + 3), .ref (q + 5), .ref (q + 7), .ref (q + 9), .ref (q + 11), .ref (q + 13), .ref (q + 15), .int (iZ (2)), .int (iZ (0)), .int (iZ (0)), .int (iZ (0))]))) hs_hs ?_
  refine r_aload_n dX3_init_97 rfl rfl ?_
  refine r_iconst (z := 0) dX3_init_98 ?_
  refine pf_X3_43 (fs2 := [_, _, _, _, _, _, _, _, _, _, _, _]) dX3_init_99 (fun _ _ => rfl) (fun _ _ => rfl) (nlt rfl) (by omega) hs_e rfl ?_
  refine g_heap (h2 := (hs h86 (q) (ob 3 [.ref (q + 1), .ref (q + 3), .ref (q + 5), .ref (q + 7), .ref (q + 9), .ref (q + 11), .ref (q + 13), .ref (q + 15), .int (iZ (2)), .int (iZ (0)), .int (iZ (0)), .int (iZ (0))]))) hs_hs ?_
  refine r_aload_n dX3_init_102 rfl rfl ?_
  refine r_iconst (z := 0) dX3_init_103 ?_
  refine pf_X3_46 (fs2 := [_, _, _, _, _, _, _, _, _, _, _, _]) dX3_init_104 (fun _ _ => rfl) (fun _ _ => rfl) (nlt rfl) (by omega) hs_e rfl ?_
  refine g_heap (h2 := (hs h86 (q) (ob 3 [.ref (q + 1), .ref (q + 3), .ref (q + 5), .ref (q + 7), .ref (q + 9), .ref (q + 11), .ref (q + 13), .ref (q + 15), .int (iZ (2)), .int (iZ (0)), .int (iZ (0)), .int (iZ (0))]))) hs_hs ?_
  refine r_aload_n dX3_init_107 rfl rfl ?_
  refine r_iconst (z := 0) dX3_init_108 ?_
  refine pf_X3_49 (fs2 := [_, _, _, _, _, _, _, _, _, _, _, _]) dX3_init_109 (fun _ _ => rfl) (fun _ _ => rfl) (nlt rfl) (by omega) hs_e rfl ?_
  refine g_heap (h2 := (hs h86 (q) (ob 3 [.ref (q + 1), .ref (q + 3), .ref (q + 5), .ref (q + 7), .ref (q + 9), .ref (q + 11), .ref (q + 13), .ref (q + 15), .int (iZ (2)), .int (iZ (0)), .int (iZ (0)), .int (iZ (0))]))) hs_hs ?_
  refine r_return hq dX3_init_112 rfl rfl rfl ?_
  exact hQ _ (fun a9 h9 => ((hs_n (by omega)).trans (odh86 a9 h9))) ⟨hs_e, fh86_0.cg (fun a9 h8 h9 => ((hs_n (by omega)).trans rfl)), fh86_1.cg (fun a9 h8 h9 => ((hs_n (by omega)).trans rfl)), fh86_2.cg (fun a9 h8 h9 => ((hs_n (by omega)).trans rfl)), fh86_3.cg (fun a9 h8 h9 => ((hs_n (by omega)).trans rfl)), fh86_4.cg (fun a9 h8 h9 => ((hs_n (by omega)).trans rfl)), fh86_5.cg (fun a9 h8 h9 => ((hs_n (by omega)).trans rfl)), fh86_6.cg (fun a9 h8 h9 => ((hs_n (by omega)).trans rfl)), hf86.cg (fun a9 h8 h9 => ((hs_n (by omega)).trans rfl))⟩
