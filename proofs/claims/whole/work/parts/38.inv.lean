/-- the class's object stands at 0; what it is made of, at 1 to 123 -/
abbrev OBo : ACell := ob 10 [.ref (1), .ref (6), .ref (7), .ref (55), .ref (60), .ref (66), .ref (76), .ref (87), .ref (104), .ref (105)]
def RB (k : Nat) (c s : Nat → Int) : Prop := 1 ≤ k ∧ k ≤ 6 ∧ (∀ j, j < 7 → -100000 ≤ c j ∧ c j ≤ 100000) ∧ (∀ j, j < 6 → -1000000 ≤ s j ∧ s j ≤ 1000000) ∧ c 0 = -1
def WKI (h : Hp) (w : Nat) : Prop := ∃ (k m t d : Int) (lw sw : Nat → Int), h w = WKo w k m t d ∧ h (w + 1) = aI 7 lw ∧ h (w + 2) = aI 6 sw
def OBI (h : Hp) : Prop := h 0 = OBo
def TXI (h : Hp) (tb : Nat → Int) (ln : Nat) : Prop := ∃ (k : Nat) (c s : Nat → Int) (nu be : Int), h 1 = TXo 1 (ln : Int) nu be ∧ h (1 + 1) = aI 100 tb ∧ RowAt h (1 + 2) k c s ∧ RB k c s ∧ ln ≤ 100 ∧ ∀ j, j < 100 → 0 ≤ tb j ∧ tb j ≤ 255
def RGI (h : Hp) (K : Nat → Nat) (C S : Nat → Nat → Int) : Prop := (∃ g, h 6 = aR 2 6 g ∧ ∀ i, i < 6 → g i = some (106 + 3 * i)) ∧ ∀ i, i < 6 → RowAt h (106 + 3 * i) (K i) (C i) (S i) ∧ RB (K i) (C i) (S i)
def NUI (h : Hp) (p : Int) (vs : Nat → Int) (sz : Nat) : Prop := ∃ (sp : Int) (g : Nat → Nat) (F : Nat → Nat → Int) (ld lw : Nat → Int), h 7 = NUo 7 (sz : Int) p sp ∧ h (7 + 1) = aI 40 vs ∧ h (7 + 2) = aI 41 lw ∧ h (7 + 3) = aR 3 40 (pR (7 + 4) g) ∧ (∀ i, i < 40 → h (7 + 4 + i) = aI 41 (F i)) ∧ (∀ i, i < 40 → g i < 40) ∧ (∀ i j, i < 40 → j < 40 → g i = g j → i = j) ∧ h (7 + 44) = aI 40 ld ∧ WKI h (7 + 45) ∧ sz ≤ 40 ∧ Prm p ∧ ∀ i, i < sz → 0 ≤ vs i ∧ vs i < p
def RSI (h : Hp) : Prop := ∃ (k m : Int) (lw sr P pr : Nat → Int), h 55 = REo 55 k m ∧ h (55 + 1) = aL 7 lw ∧ h (55 + 2) = aL 6 sr ∧ h (55 + 3) = aL 6 P ∧ h (55 + 4) = aL 12 pr
def RDI (h : Hp) : Prop := ∃ (ta tu : Int) (ea la : Nat → Int), h 60 = RDo 60 ta tu ∧ WKI h (60 + 1) ∧ h (60 + 4) = aL 55 ea ∧ h (60 + 5) = aL 64 la
def LGI (h : Hp) : Prop := ∃ (la tu : Int) (k k2 : Nat) (c s c2 s2 : Nat → Int), h 66 = LGo 66 la tu ∧ WKI h (66 + 1) ∧ RowAt h (66 + 4) k c s ∧ (∀ j, j < 7 → -100000 ≤ c j ∧ c j ≤ 100000) ∧ (∀ j, j < 6 → -1000000 ≤ s j ∧ s j ≤ 1000000) ∧ RowAt h (66 + 7) k2 c2 s2
def MKI (h : Hp) : Prop := ∃ (mo : Int) (ml ms oc os xn yn xp yp : Nat → Int), h 76 = MKo 76 ∧ h (76 + 1) = ROo (76 + 1) mo ∧ h (76 + 1 + 1) = aL 7 ml ∧ h (76 + 1 + 2) = aL 6 ms ∧ (∀ j, j < 7 → -100000 ≤ ml j ∧ ml j ≤ 100000) ∧ (∀ j, j < 6 → -1000000 ≤ ms j ∧ ms j ≤ 1000000) ∧ ml 0 = -1 ∧ RowAt h (76 + 4) 1 oc os ∧ oc 0 = -1 ∧ oc 1 = 1 ∧ (∀ j, j < 7 → -100000 ≤ oc j ∧ oc j ≤ 100000) ∧ h (76 + 7) = aL 1006 xn ∧ h (76 + 8) = aL 6 yn ∧ h (76 + 9) = aL 37 xp ∧ h (76 + 10) = aL 7 yp
def POI (h : Hp) (r : Nat) : Prop := ∃ (dg : Int) (f : Nat → Int), h r = POo r dg ∧ h (r + 1) = aI 13 f ∧ Z13 f
def PTI (h : Hp) : Prop := ∃ (p al gr un : Int), h 87 = ob 3 [.ref (87 + 1), .ref (87 + 3), .ref (87 + 5), .ref (87 + 7), .ref (87 + 9), .ref (87 + 11), .ref (87 + 13), .ref (87 + 15), .int (iZ p), .int (iZ al), .int (iZ gr), .int (iZ un)] ∧ POI h (87 + 1) ∧ POI h (87 + 3) ∧ POI h (87 + 5) ∧ POI h (87 + 7) ∧ POI h (87 + 9) ∧ POI h (87 + 11) ∧ POI h (87 + 13) ∧ POI h (87 + 15)
def EXI (h : Hp) : Prop := ∃ f g : Nat → Int, h 104 = aL 2001 f ∧ h 105 = aL 12 g
def CI (h : Hp) (tb : Nat → Int) (ln : Nat) (K : Nat → Nat) (C S : Nat → Nat → Int) (p : Int) (vs : Nat → Int) (sz : Nat) : Prop := OBI h ∧ TXI h tb ln ∧ RGI h K C S ∧ NUI h p vs sz ∧ RSI h ∧ RDI h ∧ LGI h ∧ MKI h ∧ PTI h ∧ EXI h
theorem RowAt.cg {h h2 : Hp} {r k : Nat} {c s : Nat → Int} (F : RowAt h r k c s) (H : ∀ a, r ≤ a → a < r + 3 → h2 a = h a) : RowAt h2 r k c s := ⟨(H _ (by omega) (by omega)).trans F.1, (H _ (by omega) (by omega)).trans F.2.1, (H _ (by omega) (by omega)).trans F.2.2⟩
theorem WKI.cg {h h2 : Hp} {w : Nat} (F : WKI h w) (H : ∀ a, w ≤ a → a < w + 3 → h2 a = h a) : WKI h2 w := by
  obtain ⟨k, m, t, d, lw, sw, a, b, c⟩ := F
  exact ⟨k, m, t, d, lw, sw, (H _ (by omega) (by omega)).trans a, (H _ (by omega) (by omega)).trans b, (H _ (by omega) (by omega)).trans c⟩
theorem OBI.cg {h h2 : Hp} (F : OBI h) (H : ∀ a, 0 ≤ a → a < 1 → h2 a = h a) : OBI h2 := (H 0 (by omega) (by omega)).trans F
theorem TXI.cg {h h2 : Hp} {tb : Nat → Int} {ln : Nat} (F : TXI h tb ln) (H : ∀ a, 1 ≤ a → a < 6 → h2 a = h a) : TXI h2 tb ln := by
  obtain ⟨k, c, s, nu, be, a1, a2, a3, a4⟩ := F
  exact ⟨k, c, s, nu, be, (H _ (by omega) (by omega)).trans a1, (H _ (by omega) (by omega)).trans a2, a3.cg (fun a h8 h9 => H a (by omega) (by omega)), a4⟩
theorem RGI.cg {h h2 : Hp} {K : Nat → Nat} {C S : Nat → Nat → Int} (F : RGI h K C S) (H0 : h2 6 = h 6) (H : ∀ a, 106 ≤ a → a < 124 → h2 a = h a) : RGI h2 K C S := by
  obtain ⟨⟨g, a1, a2⟩, a3⟩ := F
  exact ⟨⟨g, H0.trans a1, a2⟩, fun i hi => ⟨(a3 i hi).1.cg (fun a h8 h9 => H a (by omega) (by omega)), (a3 i hi).2⟩⟩
theorem NUI.cg {h h2 : Hp} {p : Int} {vs : Nat → Int} {sz : Nat} (F : NUI h p vs sz) (H : ∀ a, 7 ≤ a → a < 55 → h2 a = h a) : NUI h2 p vs sz := by
  obtain ⟨sp, g, F, ld, lw, a1, a2, a3, a4, a5, a6, a7, a8, a9, b1⟩ := F
  exact ⟨sp, g, F, ld, lw, (H _ (by omega) (by omega)).trans a1, (H _ (by omega) (by omega)).trans a2, (H _ (by omega) (by omega)).trans a3, (H _ (by omega) (by omega)).trans a4, fun i hi => (H _ (by omega) (by omega)).trans (a5 i hi), a6, a7, (H _ (by omega) (by omega)).trans a8, a9.cg (fun a h8 h9 => H a (by omega) (by omega)), b1⟩
theorem RSI.cg {h h2 : Hp} (F : RSI h) (H : ∀ a, 55 ≤ a → a < 60 → h2 a = h a) : RSI h2 := by
  obtain ⟨k, m, lw, sr, P, pr, a1, a2, a3, a4, a5⟩ := F
  exact ⟨k, m, lw, sr, P, pr, (H _ (by omega) (by omega)).trans a1, (H _ (by omega) (by omega)).trans a2, (H _ (by omega) (by omega)).trans a3, (H _ (by omega) (by omega)).trans a4, (H _ (by omega) (by omega)).trans a5⟩
theorem RDI.cg {h h2 : Hp} (F : RDI h) (H : ∀ a, 60 ≤ a → a < 66 → h2 a = h a) : RDI h2 := by
  obtain ⟨ta, tu, ea, la, a1, a2, a3, a4⟩ := F
  exact ⟨ta, tu, ea, la, (H _ (by omega) (by omega)).trans a1, a2.cg (fun a h8 h9 => H a (by omega) (by omega)), (H _ (by omega) (by omega)).trans a3, (H _ (by omega) (by omega)).trans a4⟩
theorem LGI.cg {h h2 : Hp} (F : LGI h) (H : ∀ a, 66 ≤ a → a < 76 → h2 a = h a) : LGI h2 := by
  obtain ⟨la, tu, k, k2, c, s, c2, s2, a1, a2, a3, a4, a5, a6⟩ := F
  exact ⟨la, tu, k, k2, c, s, c2, s2, (H _ (by omega) (by omega)).trans a1, a2.cg (fun a h8 h9 => H a (by omega) (by omega)), a3.cg (fun a h8 h9 => H a (by omega) (by omega)), a4, a5, a6.cg (fun a h8 h9 => H a (by omega) (by omega))⟩
theorem MKI.cg {h h2 : Hp} (F : MKI h) (H : ∀ a, 76 ≤ a → a < 87 → h2 a = h a) : MKI h2 := by
  obtain ⟨mo, ml, ms, oc, os, xn, yn, xp, yp, a1, a2, a2b, a2c, a3, a4, a5, a6, a7, a8, a9, b1, b2, b3, b4⟩ := F
  exact ⟨mo, ml, ms, oc, os, xn, yn, xp, yp, (H _ (by omega) (by omega)).trans a1, (H _ (by omega) (by omega)).trans a2, (H _ (by omega) (by omega)).trans a2b, (H _ (by omega) (by omega)).trans a2c, a3, a4, a5, a6.cg (fun a h8 h9 => H a (by omega) (by omega)), a7, a8, a9, (H _ (by omega) (by omega)).trans b1, (H _ (by omega) (by omega)).trans b2, (H _ (by omega) (by omega)).trans b3, (H _ (by omega) (by omega)).trans b4⟩
theorem POI.cg {h h2 : Hp} {r : Nat} (F : POI h r) (H : ∀ a, r ≤ a → a < r + 2 → h2 a = h a) : POI h2 r := by
  obtain ⟨dg, f, a1, a2, a3⟩ := F
  exact ⟨dg, f, (H _ (by omega) (by omega)).trans a1, (H _ (by omega) (by omega)).trans a2, a3⟩
theorem PTI.cg {h h2 : Hp} (F : PTI h) (H : ∀ a, 87 ≤ a → a < 104 → h2 a = h a) : PTI h2 := by
  obtain ⟨p, al, gr, un, a0, a1, a2, a3, a4, a5, a6, a7, a8⟩ := F
  exact ⟨p, al, gr, un, (H _ (by omega) (by omega)).trans a0, a1.cg (fun a h8 h9 => H a (by omega) (by omega)), a2.cg (fun a h8 h9 => H a (by omega) (by omega)), a3.cg (fun a h8 h9 => H a (by omega) (by omega)), a4.cg (fun a h8 h9 => H a (by omega) (by omega)), a5.cg (fun a h8 h9 => H a (by omega) (by omega)), a6.cg (fun a h8 h9 => H a (by omega) (by omega)), a7.cg (fun a h8 h9 => H a (by omega) (by omega)), a8.cg (fun a h8 h9 => H a (by omega) (by omega))⟩
theorem EXI.cg {h h2 : Hp} (F : EXI h) (H : ∀ a, 104 ≤ a → a < 106 → h2 a = h a) : EXI h2 := by
  obtain ⟨f, g, a1, a2⟩ := F
  exact ⟨f, g, (H _ (by omega) (by omega)).trans a1, (H _ (by omega) (by omega)).trans a2⟩
theorem CI.cg {h h2 : Hp} {tb : Nat → Int} {ln : Nat} {K : Nat → Nat} {C S : Nat → Nat → Int} {p : Int} {vs : Nat → Int} {sz : Nat} (F : CI h tb ln K C S p vs sz) (H : ∀ a, a < 124 → h2 a = h a) : CI h2 tb ln K C S p vs sz := by
  obtain ⟨a0, a1, a2, a3, a4, a5, a6, a7, a8, a9⟩ := F
  exact ⟨a0.cg (fun a h8 h9 => H a (by omega)), a1.cg (fun a h8 h9 => H a (by omega)), a2.cg (H 6 (by omega)) (fun a h8 h9 => H a (by omega)), a3.cg (fun a h8 h9 => H a (by omega)), a4.cg (fun a h8 h9 => H a (by omega)), a5.cg (fun a h8 h9 => H a (by omega)), a6.cg (fun a h8 h9 => H a (by omega)), a7.cg (fun a h8 h9 => H a (by omega)), a8.cg (fun a h8 h9 => H a (by omega)), a9.cg (fun a h8 h9 => H a (by omega))⟩
def OUT (h h2 : Hp) : Prop := ∀ a, 124 ≤ a → h2 a = h a
theorem RGI.get {h : Hp} {K : Nat → Nat} {C S : Nat → Nat → Int} (F : RGI h K C S) {i : Nat} (hi : i < 6) : ∃ (k : Nat) (c s : Nat → Int), k = K i ∧ c = C i ∧ s = S i ∧ RowAt h (106 + 3 * i) k c s ∧ RB k c s := ⟨_, _, _, rfl, rfl, rfl, (F.2 i hi).1, (F.2 i hi).2⟩
theorem row0_b : ∀ j, j < 7 → -100000 ≤ row0 j ∧ row0 j ≤ 100000 := fun j hj => by
  unfold row0 uA
  split
  · omega
  · split
    · omega
    · show -100000 ≤ (0 : Int) ∧ (0 : Int) ≤ 100000
      omega
theorem row0_RB : RB 1 row0 (fun _ => 0) := ⟨by decide, by decide, row0_b, fun j _ => by show -1000000 ≤ (0 : Int) ∧ (0 : Int) ≤ 1000000; omega, rfl⟩
theorem FX9.wk {h : Hp} {q : Nat} (F : FX9 h q) : WKI h q := ⟨_, _, _, _, _, _, F.1, F.2.1, F.2.2⟩
theorem FX4.po {h : Hp} {q : Nat} (F : FX4 h q) : POI h q := ⟨_, _, F.1, F.2, fun _ _ => rfl⟩
theorem FX7.row {h : Hp} {q : Nat} (F : FX7 h q) : RowAt h q 1 row0 (fun _ => 0) := F
theorem prm_2 : Prm 2 := ⟨by decide, by decide, fun d h1 h2 => by
  have := Int.mul_le_mul h1 h1 (by decide) (by omega)
  omega⟩
set_option maxHeartbeats 8000000 in
set_option maxRecDepth 20000 in
theorem c_X10_init {h : Hp} {Q : QP} (hq0 : h 0 = ob 10 [.null, .null, .null, .null, .null, .null, .null, .null, .null, .null]) (hQ : ∀ h2 : Hp, CI h2 (fun _ => 0) 0 (fun _ => 1) (fun _ => row0) (fun _ _ => 0) 2 (fun _ => 0) 0 → Q none 124 h2) : Runs mX10_init [.ref (0)] 1 h Q := by
  refine run_start (own := RX10) rfl (by decide) (nle rfl) rfl (fun X hq hini => ?_)
  have hini := hini rfl
  show G X RX10 cX10_init mX10_init.rm 1 0 0 0 [some (.ref (0)), none] [] h
  refine r_aload_n dX10_init_0 rfl rfl ?_
  refine r_objinit dX10_init_1 ml_X10_1 jim_obj jcd_obj ⟨by decide, by decide⟩ (nle rfl) ?_
  refine r_aload_n dX10_init_4 rfl rfl ?_
  refine r_new [.null, .int (iZ (0)), .null, .int (iZ (0)), .int (iZ (0))] dX10_init_5 (rfl : vwCl[8]? = _) inTX8 tyX8_ok cl_X10_7 is_X8 ini_X8 df_X8 (by show _ ≤ 100000; decide) ⟨Nat.le_of_ble_eq_true rfl, Nat.le_of_ble_eq_true rfl⟩ ?_
  refine g_cnt (N1 := 2) (k1 := 1) (n1 := 5) rfl rfl rfl ?_
  refine r_dup dX10_init_8 rfl ?_
  refine r_callIN (av := []) dX10_init_9 lkX8_init nl_X10_9 imX8_init rfl rfl (by omega) ⟨Nat.le_of_ble_eq_true rfl, Nat.le_of_ble_eq_true rfl⟩ rfl rfl (nle rfl) ⟨Nat.le_of_ble_eq_true rfl, Nat.le_of_ble_eq_true rfl⟩ (c_X8_init (q := 1) hs_e (by show _ ≤ 100000; omega) (fun h9 ho9 hf9 => ?_))
  show G _ _ _ _ _ _ _ 12 _ _ _
  have kh9_0 : h9 (0) = ob 10 [.null, .null, .null, .null, .null, .null, .null, .null, .null, .null] := (ho9 _ (by omega)).trans ((hs_n (by omega)).trans hq0)
  have odh9 : ∀ a9, a9 < 0 → h9 a9 = h a9 := fun a9 h9 => (ho9 a9 (by omega)).trans ((hs_n (by omega)).trans rfl)
  refine g_cnt (N1 := 6) (k1 := 5) (n1 := 121) rfl rfl rfl ?_
  show G _ _ _ _ _ _ _ 12 _ _ _
  refine pf_X10_10 (fs2 := [_, _, _, _, _, _, _, _, _, _]) dX10_init_12 hini (fun _ _ => rfl) (fun _ _ => rfl) (nlt rfl) (by omega) kh9_0 rfl ?_
  refine r_aload_n dX10_init_15 rfl rfl ?_
  refine r_bipush (z := 6) dX10_init_16 (by decide) ?_
  refine r_anew (M := 6) dX10_init_18 cl_X10_16 rfl rfl (by show _ ≤ 100000; decide) ⟨Nat.le_of_ble_eq_true rfl, Nat.le_of_ble_eq_true rfl⟩ ?_
  refine g_cnt (N1 := 7) (k1 := 6) (n1 := 127) rfl rfl rfl ?_
  refine pf_X10_18 (fs2 := [_, _, _, _, _, _, _, _, _, _]) dX10_init_21 hini (fun _ _ => rfl) (fun _ _ => rfl) (nlt rfl) (by omega) ((hs_n (by omega)).trans hs_e) rfl ?_
  refine g_heap (h2 := (hs (hs h9 (0) (ob 10 [.ref (1), .ref (6), .null, .null, .null, .null, .null, .null, .null, .null])) (6) (aR 2 6 (fun _ => none)))) (hs_put (by omega) hs_hs) ?_
  refine r_aload_n dX10_init_24 rfl rfl ?_
  refine r_new [.null, .int (iZ (0)), .int (iZ (0)), .int (iZ (0)), .null, .null, .null, .null] dX10_init_25 (rfl : vwCl[2]? = _) inTX2 tyX2_ok cl_X10_22 is_X2 ini_X2 df_X2 (by show _ ≤ 100000; decide) ⟨Nat.le_of_ble_eq_true rfl, Nat.le_of_ble_eq_true rfl⟩ ?_
  refine g_cnt (N1 := 8) (k1 := 7) (n1 := 135) rfl rfl rfl ?_
  refine r_dup dX10_init_28 rfl ?_
  refine r_callIN (av := []) dX10_init_29 lkX2_init nl_X10_24 imX2_init rfl rfl (by omega) ⟨Nat.le_of_ble_eq_true rfl, Nat.le_of_ble_eq_true rfl⟩ rfl rfl (nle rfl) ⟨Nat.le_of_ble_eq_true rfl, Nat.le_of_ble_eq_true rfl⟩ (c_X2_init (q := 7) hs_e (by show _ ≤ 100000; omega) (fun h29 ho29 hf29 => ?_))
  show G _ _ _ _ _ _ _ 32 _ _ _
  have kh29_0 : h29 (0) = ob 10 [.ref (1), .ref (6), .null, .null, .null, .null, .null, .null, .null, .null] := (ho29 _ (by omega)).trans ((hs_n (by omega)).trans ((hs_n (by omega)).trans hs_e))
  have kh29_1 : h29 (6) = aR 2 6 (fun _ => none) := (ho29 _ (by omega)).trans ((hs_n (by omega)).trans hs_e)
  have fh29_0 : FX8 h29 (1) := hf9.cg (fun a9 h8 h9 => (ho29 a9 (by omega)).trans ((hs_n (by omega)).trans ((hs_n (by omega)).trans ((hs_n (by omega)).trans rfl))))
  have odh29 : ∀ a9, a9 < 0 → h29 a9 = h a9 := fun a9 h9 => (ho29 a9 (by omega)).trans ((hs_n (by omega)).trans ((hs_n (by omega)).trans ((hs_n (by omega)).trans (odh9 a9 h9))))
  refine g_cnt (N1 := 55) (k1 := 54) (n1 := 1955) rfl rfl rfl ?_
  show G _ _ _ _ _ _ _ 32 _ _ _
  refine pf_X10_25 (fs2 := [_, _, _, _, _, _, _, _, _, _]) dX10_init_32 hini (fun _ _ => rfl) (fun _ _ => rfl) (nlt rfl) (by omega) kh29_0 rfl ?_
  refine r_aload_n dX10_init_35 rfl rfl ?_
  refine r_new [.null, .null, .null, .null, .int (iZ (0)), .int (iZ (0))] dX10_init_36 (rfl : vwCl[5]? = _) inTX5 tyX5_ok cl_X10_29 is_X5 ini_X5 df_X5 (by show _ ≤ 100000; decide) ⟨Nat.le_of_ble_eq_true rfl, Nat.le_of_ble_eq_true rfl⟩ ?_
  refine g_cnt (N1 := 56) (k1 := 55) (n1 := 1961) rfl rfl rfl ?_
  refine r_dup dX10_init_39 rfl ?_
  refine r_callIN (av := []) dX10_init_40 lkX5_init nl_X10_31 imX5_init rfl rfl (by omega) ⟨Nat.le_of_ble_eq_true rfl, Nat.le_of_ble_eq_true rfl⟩ rfl rfl (nle rfl) ⟨Nat.le_of_ble_eq_true rfl, Nat.le_of_ble_eq_true rfl⟩ (c_X5_init (q := 55) hs_e (by show _ ≤ 100000; omega) (fun h40 ho40 hf40 => ?_))
  show G _ _ _ _ _ _ _ 43 _ _ _
  have kh40_0 : h40 (0) = ob 10 [.ref (1), .ref (6), .ref (7), .null, .null, .null, .null, .null, .null, .null] := (ho40 _ (by omega)).trans ((hs_n (by omega)).trans hs_e)
  have kh40_1 : h40 (6) = aR 2 6 (fun _ => none) := (ho40 _ (by omega)).trans ((hs_n (by omega)).trans ((hs_n (by omega)).trans kh29_1))
  have fh40_0 : FX8 h40 (1) := fh29_0.cg (fun a9 h8 h9 => (ho40 a9 (by omega)).trans ((hs_n (by omega)).trans ((hs_n (by omega)).trans rfl)))
  have fh40_1 : FX2 h40 (7) := hf29.cg (fun a9 h8 h9 => (ho40 a9 (by omega)).trans ((hs_n (by omega)).trans ((hs_n (by omega)).trans rfl)))
  have odh40 : ∀ a9, a9 < 0 → h40 a9 = h a9 := fun a9 h9 => (ho40 a9 (by omega)).trans ((hs_n (by omega)).trans ((hs_n (by omega)).trans (odh29 a9 h9)))
  refine g_cnt (N1 := 60) (k1 := 59) (n1 := 1992) rfl rfl rfl ?_
  show G _ _ _ _ _ _ _ 43 _ _ _
  refine pf_X10_32 (fs2 := [_, _, _, _, _, _, _, _, _, _]) dX10_init_43 hini (fun _ _ => rfl) (fun _ _ => rfl) (nlt rfl) (by omega) kh40_0 rfl ?_
  refine r_aload_n dX10_init_46 rfl rfl ?_
  refine r_new [.null, .null, .null, .int (iZ (0)), .int (iZ (0))] dX10_init_47 (rfl : vwCl[6]? = _) inTX6 tyX6_ok cl_X10_36 is_X6 ini_X6 df_X6 (by show _ ≤ 100000; decide) ⟨Nat.le_of_ble_eq_true rfl, Nat.le_of_ble_eq_true rfl⟩ ?_
  refine g_cnt (N1 := 61) (k1 := 60) (n1 := 1997) rfl rfl rfl ?_
  refine r_dup dX10_init_50 rfl ?_
  refine r_callIN (av := []) dX10_init_51 lkX6_init nl_X10_38 imX6_init rfl rfl (by omega) ⟨Nat.le_of_ble_eq_true rfl, Nat.le_of_ble_eq_true rfl⟩ rfl rfl (nle rfl) ⟨Nat.le_of_ble_eq_true rfl, Nat.le_of_ble_eq_true rfl⟩ (c_X6_init (q := 60) hs_e (by show _ ≤ 100000; omega) (fun h51 ho51 hf51 => ?_))
  show G _ _ _ _ _ _ _ 54 _ _ _
  have kh51_0 : h51 (0) = ob 10 [.ref (1), .ref (6), .ref (7), .ref (55), .null, .null, .null, .null, .null, .null] := (ho51 _ (by omega)).trans ((hs_n (by omega)).trans hs_e)
  have kh51_1 : h51 (6) = aR 2 6 (fun _ => none) := (ho51 _ (by omega)).trans ((hs_n (by omega)).trans ((hs_n (by omega)).trans kh40_1))
  have fh51_0 : FX8 h51 (1) := fh40_0.cg (fun a9 h8 h9 => (ho51 a9 (by omega)).trans ((hs_n (by omega)).trans ((hs_n (by omega)).trans rfl)))
  have fh51_1 : FX2 h51 (7) := fh40_1.cg (fun a9 h8 h9 => (ho51 a9 (by omega)).trans ((hs_n (by omega)).trans ((hs_n (by omega)).trans rfl)))
  have fh51_2 : FX5 h51 (55) := hf40.cg (fun a9 h8 h9 => (ho51 a9 (by omega)).trans ((hs_n (by omega)).trans ((hs_n (by omega)).trans rfl)))
  have odh51 : ∀ a9, a9 < 0 → h51 a9 = h a9 := fun a9 h9 => (ho51 a9 (by omega)).trans ((hs_n (by omega)).trans ((hs_n (by omega)).trans (odh40 a9 h9)))
  refine g_cnt (N1 := 66) (k1 := 65) (n1 := 2135) rfl rfl rfl ?_
  show G _ _ _ _ _ _ _ 54 _ _ _
  refine pf_X10_39 (fs2 := [_, _, _, _, _, _, _, _, _, _]) dX10_init_54 hini (fun _ _ => rfl) (fun _ _ => rfl) (nlt rfl) (by omega) kh51_0 rfl ?_
  refine r_aload_n dX10_init_57 rfl rfl ?_
  refine r_new [.null, .null, .null, .int (iZ (0)), .int (iZ (0))] dX10_init_58 (rfl : vwCl[0]? = _) inTX0 tyX0_ok cl_X10_43 is_X0 ini_X0 df_X0 (by show _ ≤ 100000; decide) ⟨Nat.le_of_ble_eq_true rfl, Nat.le_of_ble_eq_true rfl⟩ ?_
  refine g_cnt (N1 := 67) (k1 := 66) (n1 := 2140) rfl rfl rfl ?_
  refine r_dup dX10_init_61 rfl ?_
  refine r_callIN (av := []) dX10_init_62 lkX0_init nl_X10_45 imX0_init rfl rfl (by omega) ⟨Nat.le_of_ble_eq_true rfl, Nat.le_of_ble_eq_true rfl⟩ rfl rfl (nle rfl) ⟨Nat.le_of_ble_eq_true rfl, Nat.le_of_ble_eq_true rfl⟩ (c_X0_init (q := 66) hs_e (by show _ ≤ 100000; omega) (fun h62 ho62 hf62 => ?_))
  show G _ _ _ _ _ _ _ 65 _ _ _
  have kh62_0 : h62 (0) = ob 10 [.ref (1), .ref (6), .ref (7), .ref (55), .ref (60), .null, .null, .null, .null, .null] := (ho62 _ (by omega)).trans ((hs_n (by omega)).trans hs_e)
  have kh62_1 : h62 (6) = aR 2 6 (fun _ => none) := (ho62 _ (by omega)).trans ((hs_n (by omega)).trans ((hs_n (by omega)).trans kh51_1))
  have fh62_0 : FX8 h62 (1) := fh51_0.cg (fun a9 h8 h9 => (ho62 a9 (by omega)).trans ((hs_n (by omega)).trans ((hs_n (by omega)).trans rfl)))
  have fh62_1 : FX2 h62 (7) := fh51_1.cg (fun a9 h8 h9 => (ho62 a9 (by omega)).trans ((hs_n (by omega)).trans ((hs_n (by omega)).trans rfl)))
  have fh62_2 : FX5 h62 (55) := fh51_2.cg (fun a9 h8 h9 => (ho62 a9 (by omega)).trans ((hs_n (by omega)).trans ((hs_n (by omega)).trans rfl)))
  have fh62_3 : FX6 h62 (60) := hf51.cg (fun a9 h8 h9 => (ho62 a9 (by omega)).trans ((hs_n (by omega)).trans ((hs_n (by omega)).trans rfl)))
  have odh62 : ∀ a9, a9 < 0 → h62 a9 = h a9 := fun a9 h9 => (ho62 a9 (by omega)).trans ((hs_n (by omega)).trans ((hs_n (by omega)).trans (odh51 a9 h9)))
  refine g_cnt (N1 := 76) (k1 := 75) (n1 := 2191) rfl rfl rfl ?_
  show G _ _ _ _ _ _ _ 65 _ _ _
  refine pf_X10_46 (fs2 := [_, _, _, _, _, _, _, _, _, _]) dX10_init_65 hini (fun _ _ => rfl) (fun _ _ => rfl) (nlt rfl) (by omega) kh62_0 rfl ?_
  refine r_aload_n dX10_init_68 rfl rfl ?_
  refine r_new [.null, .null, .null, .null, .null, .null] dX10_init_69 (rfl : vwCl[1]? = _) inTX1 tyX1_ok cl_X10_50 is_X1 ini_X1 df_X1 (by show _ ≤ 100000; decide) ⟨Nat.le_of_ble_eq_true rfl, Nat.le_of_ble_eq_true rfl⟩ ?_
  refine g_cnt (N1 := 77) (k1 := 76) (n1 := 2197) rfl rfl rfl ?_
  refine r_dup dX10_init_72 rfl ?_
  refine r_callIN (av := []) dX10_init_73 lkX1_init nl_X10_52 imX1_init rfl rfl (by omega) ⟨Nat.le_of_ble_eq_true rfl, Nat.le_of_ble_eq_true rfl⟩ rfl rfl (nle rfl) ⟨Nat.le_of_ble_eq_true rfl, Nat.le_of_ble_eq_true rfl⟩ (c_X1_init (q := 76) hs_e (by show _ ≤ 100000; omega) (fun h73 ho73 hf73 => ?_))
  show G _ _ _ _ _ _ _ 76 _ _ _
  have kh73_0 : h73 (0) = ob 10 [.ref (1), .ref (6), .ref (7), .ref (55), .ref (60), .ref (66), .null, .null, .null, .null] := (ho73 _ (by omega)).trans ((hs_n (by omega)).trans hs_e)
  have kh73_1 : h73 (6) = aR 2 6 (fun _ => none) := (ho73 _ (by omega)).trans ((hs_n (by omega)).trans ((hs_n (by omega)).trans kh62_1))
  have fh73_0 : FX8 h73 (1) := fh62_0.cg (fun a9 h8 h9 => (ho73 a9 (by omega)).trans ((hs_n (by omega)).trans ((hs_n (by omega)).trans rfl)))
  have fh73_1 : FX2 h73 (7) := fh62_1.cg (fun a9 h8 h9 => (ho73 a9 (by omega)).trans ((hs_n (by omega)).trans ((hs_n (by omega)).trans rfl)))
  have fh73_2 : FX5 h73 (55) := fh62_2.cg (fun a9 h8 h9 => (ho73 a9 (by omega)).trans ((hs_n (by omega)).trans ((hs_n (by omega)).trans rfl)))
  have fh73_3 : FX6 h73 (60) := fh62_3.cg (fun a9 h8 h9 => (ho73 a9 (by omega)).trans ((hs_n (by omega)).trans ((hs_n (by omega)).trans rfl)))
  have fh73_4 : FX0 h73 (66) := hf62.cg (fun a9 h8 h9 => (ho73 a9 (by omega)).trans ((hs_n (by omega)).trans ((hs_n (by omega)).trans rfl)))
  have odh73 : ∀ a9, a9 < 0 → h73 a9 = h a9 := fun a9 h9 => (ho73 a9 (by omega)).trans ((hs_n (by omega)).trans ((hs_n (by omega)).trans (odh62 a9 h9)))
  refine g_cnt (N1 := 87) (k1 := 86) (n1 := 3285) rfl rfl rfl ?_
  show G _ _ _ _ _ _ _ 76 _ _ _
  refine pf_X10_53 (fs2 := [_, _, _, _, _, _, _, _, _, _]) dX10_init_76 hini (fun _ _ => rfl) (fun _ _ => rfl) (nlt rfl) (by omega) kh73_0 rfl ?_
  refine r_aload_n dX10_init_79 rfl rfl ?_
  refine r_new [.null, .null, .null, .null, .null, .null, .null, .null, .int (iZ (0)), .int (iZ (0)), .int (iZ (0)), .int (iZ (0))] dX10_init_80 (rfl : vwCl[3]? = _) inTX3 tyX3_ok cl_X10_57 is_X3 ini_X3 df_X3 (by show _ ≤ 100000; decide) ⟨Nat.le_of_ble_eq_true rfl, Nat.le_of_ble_eq_true rfl⟩ ?_
  refine g_cnt (N1 := 88) (k1 := 87) (n1 := 3297) rfl rfl rfl ?_
  refine r_dup dX10_init_83 rfl ?_
  refine r_callIN (av := []) dX10_init_84 lkX3_init nl_X10_59 imX3_init rfl rfl (by omega) ⟨Nat.le_of_ble_eq_true rfl, Nat.le_of_ble_eq_true rfl⟩ rfl rfl (nle rfl) ⟨Nat.le_of_ble_eq_true rfl, Nat.le_of_ble_eq_true rfl⟩ (c_X3_init (q := 87) hs_e (by show _ ≤ 100000; omega) (fun h84 ho84 hf84 => ?_))
  show G _ _ _ _ _ _ _ 87 _ _ _
  have kh84_0 : h84 (0) = ob 10 [.ref (1), .ref (6), .ref (7), .ref (55), .ref (60), .ref (66), .ref (76), .null, .null, .null] := (ho84 _ (by omega)).trans ((hs_n (by omega)).trans hs_e)
  have kh84_1 : h84 (6) = aR 2 6 (fun _ => none) := (ho84 _ (by omega)).trans ((hs_n (by omega)).trans ((hs_n (by omega)).trans kh73_1))
  have fh84_0 : FX8 h84 (1) := fh73_0.cg (fun a9 h8 h9 => (ho84 a9 (by omega)).trans ((hs_n (by omega)).trans ((hs_n (by omega)).trans rfl)))
  have fh84_1 : FX2 h84 (7) := fh73_1.cg (fun a9 h8 h9 => (ho84 a9 (by omega)).trans ((hs_n (by omega)).trans ((hs_n (by omega)).trans rfl)))
  have fh84_2 : FX5 h84 (55) := fh73_2.cg (fun a9 h8 h9 => (ho84 a9 (by omega)).trans ((hs_n (by omega)).trans ((hs_n (by omega)).trans rfl)))
  have fh84_3 : FX6 h84 (60) := fh73_3.cg (fun a9 h8 h9 => (ho84 a9 (by omega)).trans ((hs_n (by omega)).trans ((hs_n (by omega)).trans rfl)))
  have fh84_4 : FX0 h84 (66) := fh73_4.cg (fun a9 h8 h9 => (ho84 a9 (by omega)).trans ((hs_n (by omega)).trans ((hs_n (by omega)).trans rfl)))
  have fh84_5 : FX1 h84 (76) := hf73.cg (fun a9 h8 h9 => (ho84 a9 (by omega)).trans ((hs_n (by omega)).trans ((hs_n (by omega)).trans rfl)))
  have odh84 : ∀ a9, a9 < 0 → h84 a9 = h a9 := fun a9 h9 => (ho84 a9 (by omega)).trans ((hs_n (by omega)).trans ((hs_n (by omega)).trans (odh73 a9 h9)))
  refine g_cnt (N1 := 104) (k1 := 103) (n1 := 3417) rfl rfl rfl ?_
  show G _ _ _ _ _ _ _ 87 _ _ _
  refine pf_X10_60 (fs2 := [_, _, _, _, _, _, _, _, _, _]) dX10_init_87 hini (fun _ _ => rfl) (fun _ _ => rfl) (nlt rfl) (by omega) kh84_0 rfl ?_
  refine r_aload_n dX10_init_90 rfl rfl ?_
  refine r_sipush (z := 2001) dX10_init_91 (by decide) ?_
  refine r_newJ (M := 2001) dX10_init_94 rfl rfl (by show _ ≤ 100000; decide) ⟨Nat.le_of_ble_eq_true rfl, Nat.le_of_ble_eq_true rfl⟩ ?_
  refine g_cnt (N1 := 105) (k1 := 104) (n1 := 5418) rfl rfl rfl ?_
  refine pf_X10_64 (fs2 := [_, _, _, _, _, _, _, _, _, _]) dX10_init_96 hini (fun _ _ => rfl) (fun _ _ => rfl) (nlt rfl) (by omega) ((hs_n (by omega)).trans hs_e) rfl ?_
  refine g_heap (h2 := (hs (hs h84 (0) (ob 10 [.ref (1), .ref (6), .ref (7), .ref (55), .ref (60), .ref (66), .ref (76), .ref (87), .ref (104), .null])) (104) (aL 2001 (fun _ => 0)))) (hs_put (by omega) hs_hs) ?_
  refine r_aload_n dX10_init_99 rfl rfl ?_
  refine r_bipush (z := 12) dX10_init_100 (by decide) ?_
  refine r_newJ (M := 12) dX10_init_102 rfl rfl (by show _ ≤ 100000; decide) ⟨Nat.le_of_ble_eq_true rfl, Nat.le_of_ble_eq_true rfl⟩ ?_
  refine g_cnt (N1 := 106) (k1 := 105) (n1 := 5430) rfl rfl rfl ?_
  refine pf_X10_68 (fs2 := [_, _, _, _, _, _, _, _, _, _]) dX10_init_104 hini (fun _ _ => rfl) (fun _ _ => rfl) (nlt rfl) (by omega) ((hs_n (by omega)).trans ((hs_n (by omega)).trans hs_e)) rfl ?_
  refine g_heap (h2 := (hs (hs (hs h84 (0) (ob 10 [.ref (1), .ref (6), .ref (7), .ref (55), .ref (60), .ref (66), .ref (76), .ref (87), .ref (104), .ref (105)])) (104) (aL 2001 (fun _ => 0))) (105) (aL 12 (fun _ => 0)))) (hs_put (by omega) (hs_put (by omega) hs_hs)) ?_
  refine r_iconst (z := 0) dX10_init_107 ?_
  refine r_istore_n (L2 := [_, _]) dX10_init_108 rfl (nlt rfl) rfl ?_
  refine r_iload_n dX10_init_109 rfl rfl ?_
  refine r_bipush (z := 6) dX10_init_110 (by decide) ?_
  refine r_icmp_ge 134 dX10_init_112 (by decide) ⟨by decide, by decide⟩ ⟨by decide, by decide⟩ (fun c_112 => by exfalso; omega) (fun c_112 => ?_)
  refine r_aload_n dX10_init_115 rfl rfl ?_
  refine gf_X10_18 dX10_init_116 (by omega) ((hs_n (by omega)).trans ((hs_n (by omega)).trans hs_e)) rfl ?_
  refine r_iload_n dX10_init_119 rfl rfl ?_
  refine r_new [.int (iZ (0)), .null, .null] dX10_init_120 (rfl : vwCl[7]? = _) inTX7 tyX7_ok cl_X10_16 is_X7 ini_X7 df_X7 (by show _ ≤ 100000; decide) ⟨Nat.le_of_ble_eq_true rfl, Nat.le_of_ble_eq_true rfl⟩ ?_
  refine g_cnt (N1 := 107) (k1 := 106) (n1 := 5433) rfl rfl rfl ?_
  refine r_dup dX10_init_123 rfl ?_
  refine r_callI (av := []) dX10_init_124 lkX7_init ml_X10_71 imX7_init rfl rfl (by omega) ⟨Nat.le_of_ble_eq_true rfl, Nat.le_of_ble_eq_true rfl⟩ rfl rfl (nle rfl) ⟨Nat.le_of_ble_eq_true rfl, Nat.le_of_ble_eq_true rfl⟩ (c_X7_init (q := 106) hs_e (by show _ ≤ 100000; omega) (fun h124 ho124 hf124 => ?_))
  show G _ _ _ _ _ _ _ 127 _ _ _
  have kh124_0 : h124 (0) = ob 10 [.ref (1), .ref (6), .ref (7), .ref (55), .ref (60), .ref (66), .ref (76), .ref (87), .ref (104), .ref (105)] := (ho124 _ (by omega)).trans ((hs_n (by omega)).trans ((hs_n (by omega)).trans ((hs_n (by omega)).trans hs_e)))
  have kh124_1 : h124 (6) = aR 2 6 (fun _ => none) := (ho124 _ (by omega)).trans ((hs_n (by omega)).trans ((hs_n (by omega)).trans ((hs_n (by omega)).trans ((hs_n (by omega)).trans kh84_1))))
  have kh124_2 : h124 (104) = aL 2001 (fun _ => 0) := (ho124 _ (by omega)).trans ((hs_n (by omega)).trans ((hs_n (by omega)).trans hs_e))
  have kh124_3 : h124 (105) = aL 12 (fun _ => 0) := (ho124 _ (by omega)).trans ((hs_n (by omega)).trans hs_e)
  have fh124_0 : FX8 h124 (1) := fh84_0.cg (fun a9 h8 h9 => (ho124 a9 (by omega)).trans ((hs_n (by omega)).trans ((hs_n (by omega)).trans ((hs_n (by omega)).trans ((hs_n (by omega)).trans rfl)))))
  have fh124_1 : FX2 h124 (7) := fh84_1.cg (fun a9 h8 h9 => (ho124 a9 (by omega)).trans ((hs_n (by omega)).trans ((hs_n (by omega)).trans ((hs_n (by omega)).trans ((hs_n (by omega)).trans rfl)))))
  have fh124_2 : FX5 h124 (55) := fh84_2.cg (fun a9 h8 h9 => (ho124 a9 (by omega)).trans ((hs_n (by omega)).trans ((hs_n (by omega)).trans ((hs_n (by omega)).trans ((hs_n (by omega)).trans rfl)))))
  have fh124_3 : FX6 h124 (60) := fh84_3.cg (fun a9 h8 h9 => (ho124 a9 (by omega)).trans ((hs_n (by omega)).trans ((hs_n (by omega)).trans ((hs_n (by omega)).trans ((hs_n (by omega)).trans rfl)))))
  have fh124_4 : FX0 h124 (66) := fh84_4.cg (fun a9 h8 h9 => (ho124 a9 (by omega)).trans ((hs_n (by omega)).trans ((hs_n (by omega)).trans ((hs_n (by omega)).trans ((hs_n (by omega)).trans rfl)))))
  have fh124_5 : FX1 h124 (76) := fh84_5.cg (fun a9 h8 h9 => (ho124 a9 (by omega)).trans ((hs_n (by omega)).trans ((hs_n (by omega)).trans ((hs_n (by omega)).trans ((hs_n (by omega)).trans rfl)))))
  have fh124_6 : FX3 h124 (87) := hf84.cg (fun a9 h8 h9 => (ho124 a9 (by omega)).trans ((hs_n (by omega)).trans ((hs_n (by omega)).trans ((hs_n (by omega)).trans ((hs_n (by omega)).trans rfl)))))
  have odh124 : ∀ a9, a9 < 0 → h124 a9 = h a9 := fun a9 h9 => (ho124 a9 (by omega)).trans ((hs_n (by omega)).trans ((hs_n (by omega)).trans ((hs_n (by omega)).trans ((hs_n (by omega)).trans (odh84 a9 h9)))))
  refine g_cnt (N1 := 109) (k1 := 108) (n1 := 5446) rfl rfl rfl ?_
  show G _ _ _ _ _ _ _ 127 _ _ _
  refine r_aastoreR dX10_init_127 (by omega) kh124_1 (by omega) ⟨_, hf124.1⟩ (by omega) (by omega) (by decide) ?_
  refine r_iinc (L2 := [_, _]) dX10_init_128 (nlt rfl) rfl rfl ?_
  refine r_goto 109 dX10_init_131 (by decide) ?_
  refine r_iload_n dX10_init_109 rfl rfl ?_
  refine r_bipush (z := 6) dX10_init_110 (by decide) ?_
  refine r_icmp_ge 134 dX10_init_112 (by decide) ⟨by omega, by omega⟩ ⟨by decide, by decide⟩ (fun c_112 => by exfalso; omega) (fun c_112 => ?_)
  refine r_aload_n dX10_init_115 rfl rfl ?_
  refine gf_X10_18 dX10_init_116 (by omega) ((hs_n (by omega)).trans kh124_0) rfl ?_
  refine r_iload_n dX10_init_119 rfl rfl ?_
  refine r_new [.int (iZ (0)), .null, .null] dX10_init_120 (rfl : vwCl[7]? = _) inTX7 tyX7_ok cl_X10_16 is_X7 ini_X7 df_X7 (by show _ ≤ 100000; decide) ⟨Nat.le_of_ble_eq_true rfl, Nat.le_of_ble_eq_true rfl⟩ ?_
  refine g_cnt (N1 := 110) (k1 := 109) (n1 := 5449) rfl rfl rfl ?_
  refine r_dup dX10_init_123 rfl ?_
  refine r_callI (av := []) dX10_init_124 lkX7_init ml_X10_71 imX7_init rfl rfl (by omega) ⟨Nat.le_of_ble_eq_true rfl, Nat.le_of_ble_eq_true rfl⟩ rfl rfl (nle rfl) ⟨Nat.le_of_ble_eq_true rfl, Nat.le_of_ble_eq_true rfl⟩ (c_X7_init (q := 109) hs_e (by show _ ≤ 100000; omega) (fun h124v2 ho124v2 hf124v2 => ?_))
  show G _ _ _ _ _ _ _ 127 _ _ _
  have kh124v2_0 : h124v2 (0) = ob 10 [.ref (1), .ref (6), .ref (7), .ref (55), .ref (60), .ref (66), .ref (76), .ref (87), .ref (104), .ref (105)] := (ho124v2 _ (by omega)).trans ((hs_n (by omega)).trans ((hs_n (by omega)).trans kh124_0))
  have kh124v2_1 : h124v2 (6) = aR 2 6 (uR (fun _ => none) (0 : Int).toNat (some (106))) := (ho124v2 _ (by omega)).trans ((hs_n (by omega)).trans hs_e)
  have kh124v2_2 : h124v2 (104) = aL 2001 (fun _ => 0) := (ho124v2 _ (by omega)).trans ((hs_n (by omega)).trans ((hs_n (by omega)).trans kh124_2))
  have kh124v2_3 : h124v2 (105) = aL 12 (fun _ => 0) := (ho124v2 _ (by omega)).trans ((hs_n (by omega)).trans ((hs_n (by omega)).trans kh124_3))
  have kh124v2_4 : h124v2 (106) = ob 7 [.int (iZ (1)), .ref (106 + 1), .ref (106 + 2)] := (ho124v2 _ (by omega)).trans ((hs_n (by omega)).trans ((hs_n (by omega)).trans hf124.1))
  have fh124v2_0 : FX8 h124v2 (1) := fh124_0.cg (fun a9 h8 h9 => (ho124v2 a9 (by omega)).trans ((hs_n (by omega)).trans ((hs_n (by omega)).trans rfl)))
  have fh124v2_1 : FX2 h124v2 (7) := fh124_1.cg (fun a9 h8 h9 => (ho124v2 a9 (by omega)).trans ((hs_n (by omega)).trans ((hs_n (by omega)).trans rfl)))
  have fh124v2_2 : FX5 h124v2 (55) := fh124_2.cg (fun a9 h8 h9 => (ho124v2 a9 (by omega)).trans ((hs_n (by omega)).trans ((hs_n (by omega)).trans rfl)))
  have fh124v2_3 : FX6 h124v2 (60) := fh124_3.cg (fun a9 h8 h9 => (ho124v2 a9 (by omega)).trans ((hs_n (by omega)).trans ((hs_n (by omega)).trans rfl)))
  have fh124v2_4 : FX0 h124v2 (66) := fh124_4.cg (fun a9 h8 h9 => (ho124v2 a9 (by omega)).trans ((hs_n (by omega)).trans ((hs_n (by omega)).trans rfl)))
  have fh124v2_5 : FX1 h124v2 (76) := fh124_5.cg (fun a9 h8 h9 => (ho124v2 a9 (by omega)).trans ((hs_n (by omega)).trans ((hs_n (by omega)).trans rfl)))
  have fh124v2_6 : FX3 h124v2 (87) := fh124_6.cg (fun a9 h8 h9 => (ho124v2 a9 (by omega)).trans ((hs_n (by omega)).trans ((hs_n (by omega)).trans rfl)))
  have fh124v2_7 : FX7 h124v2 (106) := hf124.cg (fun a9 h8 h9 => (ho124v2 a9 (by omega)).trans ((hs_n (by omega)).trans ((hs_n (by omega)).trans rfl)))
  have odh124v2 : ∀ a9, a9 < 0 → h124v2 a9 = h a9 := fun a9 h9 => (ho124v2 a9 (by omega)).trans ((hs_n (by omega)).trans ((hs_n (by omega)).trans (odh124 a9 h9)))
  refine g_cnt (N1 := 112) (k1 := 111) (n1 := 5462) rfl rfl rfl ?_
  show G _ _ _ _ _ _ _ 127 _ _ _
  refine r_aastoreR dX10_init_127 (by omega) kh124v2_1 (by omega) ⟨_, hf124v2.1⟩ (by omega) (by omega) (by decide) ?_
  refine r_iinc (L2 := [_, _]) dX10_init_128 (nlt rfl) rfl rfl ?_
  refine r_goto 109 dX10_init_131 (by decide) ?_
  refine r_iload_n dX10_init_109 rfl rfl ?_
  refine r_bipush (z := 6) dX10_init_110 (by decide) ?_
  refine r_icmp_ge 134 dX10_init_112 (by decide) ⟨by omega, by omega⟩ ⟨by decide, by decide⟩ (fun c_112 => by exfalso; omega) (fun c_112 => ?_)
  refine r_aload_n dX10_init_115 rfl rfl ?_
  refine gf_X10_18 dX10_init_116 (by omega) ((hs_n (by omega)).trans kh124v2_0) rfl ?_
  refine r_iload_n dX10_init_119 rfl rfl ?_
  refine r_new [.int (iZ (0)), .null, .null] dX10_init_120 (rfl : vwCl[7]? = _) inTX7 tyX7_ok cl_X10_16 is_X7 ini_X7 df_X7 (by show _ ≤ 100000; decide) ⟨Nat.le_of_ble_eq_true rfl, Nat.le_of_ble_eq_true rfl⟩ ?_
  refine g_cnt (N1 := 113) (k1 := 112) (n1 := 5465) rfl rfl rfl ?_
  refine r_dup dX10_init_123 rfl ?_
  refine r_callI (av := []) dX10_init_124 lkX7_init ml_X10_71 imX7_init rfl rfl (by omega) ⟨Nat.le_of_ble_eq_true rfl, Nat.le_of_ble_eq_true rfl⟩ rfl rfl (nle rfl) ⟨Nat.le_of_ble_eq_true rfl, Nat.le_of_ble_eq_true rfl⟩ (c_X7_init (q := 112) hs_e (by show _ ≤ 100000; omega) (fun h124v3 ho124v3 hf124v3 => ?_))
  show G _ _ _ _ _ _ _ 127 _ _ _
  have kh124v3_0 : h124v3 (0) = ob 10 [.ref (1), .ref (6), .ref (7), .ref (55), .ref (60), .ref (66), .ref (76), .ref (87), .ref (104), .ref (105)] := (ho124v3 _ (by omega)).trans ((hs_n (by omega)).trans ((hs_n (by omega)).trans kh124v2_0))
  have kh124v3_1 : h124v3 (6) = aR 2 6 (uR (uR (fun _ => none) (0 : Int).toNat (some (106))) (0 + 1 : Int).toNat (some (109))) := (ho124v3 _ (by omega)).trans ((hs_n (by omega)).trans hs_e)
  have kh124v3_2 : h124v3 (104) = aL 2001 (fun _ => 0) := (ho124v3 _ (by omega)).trans ((hs_n (by omega)).trans ((hs_n (by omega)).trans kh124v2_2))
  have kh124v3_3 : h124v3 (105) = aL 12 (fun _ => 0) := (ho124v3 _ (by omega)).trans ((hs_n (by omega)).trans ((hs_n (by omega)).trans kh124v2_3))
  have kh124v3_4 : h124v3 (106) = ob 7 [.int (iZ (1)), .ref (106 + 1), .ref (106 + 2)] := (ho124v3 _ (by omega)).trans ((hs_n (by omega)).trans ((hs_n (by omega)).trans kh124v2_4))
  have kh124v3_5 : h124v3 (109) = ob 7 [.int (iZ (1)), .ref (109 + 1), .ref (109 + 2)] := (ho124v3 _ (by omega)).trans ((hs_n (by omega)).trans ((hs_n (by omega)).trans hf124v2.1))
  have fh124v3_0 : FX8 h124v3 (1) := fh124v2_0.cg (fun a9 h8 h9 => (ho124v3 a9 (by omega)).trans ((hs_n (by omega)).trans ((hs_n (by omega)).trans rfl)))
  have fh124v3_1 : FX2 h124v3 (7) := fh124v2_1.cg (fun a9 h8 h9 => (ho124v3 a9 (by omega)).trans ((hs_n (by omega)).trans ((hs_n (by omega)).trans rfl)))
  have fh124v3_2 : FX5 h124v3 (55) := fh124v2_2.cg (fun a9 h8 h9 => (ho124v3 a9 (by omega)).trans ((hs_n (by omega)).trans ((hs_n (by omega)).trans rfl)))
  have fh124v3_3 : FX6 h124v3 (60) := fh124v2_3.cg (fun a9 h8 h9 => (ho124v3 a9 (by omega)).trans ((hs_n (by omega)).trans ((hs_n (by omega)).trans rfl)))
  have fh124v3_4 : FX0 h124v3 (66) := fh124v2_4.cg (fun a9 h8 h9 => (ho124v3 a9 (by omega)).trans ((hs_n (by omega)).trans ((hs_n (by omega)).trans rfl)))
  have fh124v3_5 : FX1 h124v3 (76) := fh124v2_5.cg (fun a9 h8 h9 => (ho124v3 a9 (by omega)).trans ((hs_n (by omega)).trans ((hs_n (by omega)).trans rfl)))
  have fh124v3_6 : FX3 h124v3 (87) := fh124v2_6.cg (fun a9 h8 h9 => (ho124v3 a9 (by omega)).trans ((hs_n (by omega)).trans ((hs_n (by omega)).trans rfl)))
  have fh124v3_7 : FX7 h124v3 (106) := fh124v2_7.cg (fun a9 h8 h9 => (ho124v3 a9 (by omega)).trans ((hs_n (by omega)).trans ((hs_n (by omega)).trans rfl)))
  have fh124v3_8 : FX7 h124v3 (109) := hf124v2.cg (fun a9 h8 h9 => (ho124v3 a9 (by omega)).trans ((hs_n (by omega)).trans ((hs_n (by omega)).trans rfl)))
  have odh124v3 : ∀ a9, a9 < 0 → h124v3 a9 = h a9 := fun a9 h9 => (ho124v3 a9 (by omega)).trans ((hs_n (by omega)).trans ((hs_n (by omega)).trans (odh124v2 a9 h9)))
  refine g_cnt (N1 := 115) (k1 := 114) (n1 := 5478) rfl rfl rfl ?_
  show G _ _ _ _ _ _ _ 127 _ _ _
  refine r_aastoreR dX10_init_127 (by omega) kh124v3_1 (by omega) ⟨_, hf124v3.1⟩ (by omega) (by omega) (by decide) ?_
  refine r_iinc (L2 := [_, _]) dX10_init_128 (nlt rfl) rfl rfl ?_
  refine r_goto 109 dX10_init_131 (by decide) ?_
  refine r_iload_n dX10_init_109 rfl rfl ?_
  refine r_bipush (z := 6) dX10_init_110 (by decide) ?_
  refine r_icmp_ge 134 dX10_init_112 (by decide) ⟨by omega, by omega⟩ ⟨by decide, by decide⟩ (fun c_112 => by exfalso; omega) (fun c_112 => ?_)
  refine r_aload_n dX10_init_115 rfl rfl ?_
  refine gf_X10_18 dX10_init_116 (by omega) ((hs_n (by omega)).trans kh124v3_0) rfl ?_
  refine r_iload_n dX10_init_119 rfl rfl ?_
  refine r_new [.int (iZ (0)), .null, .null] dX10_init_120 (rfl : vwCl[7]? = _) inTX7 tyX7_ok cl_X10_16 is_X7 ini_X7 df_X7 (by show _ ≤ 100000; decide) ⟨Nat.le_of_ble_eq_true rfl, Nat.le_of_ble_eq_true rfl⟩ ?_
  refine g_cnt (N1 := 116) (k1 := 115) (n1 := 5481) rfl rfl rfl ?_
  refine r_dup dX10_init_123 rfl ?_
  refine r_callI (av := []) dX10_init_124 lkX7_init ml_X10_71 imX7_init rfl rfl (by omega) ⟨Nat.le_of_ble_eq_true rfl, Nat.le_of_ble_eq_true rfl⟩ rfl rfl (nle rfl) ⟨Nat.le_of_ble_eq_true rfl, Nat.le_of_ble_eq_true rfl⟩ (c_X7_init (q := 115) hs_e (by show _ ≤ 100000; omega) (fun h124v4 ho124v4 hf124v4 => ?_))
  show G _ _ _ _ _ _ _ 127 _ _ _
  have kh124v4_0 : h124v4 (0) = ob 10 [.ref (1), .ref (6), .ref (7), .ref (55), .ref (60), .ref (66), .ref (76), .ref (87), .ref (104), .ref (105)] := (ho124v4 _ (by omega)).trans ((hs_n (by omega)).trans ((hs_n (by omega)).trans kh124v3_0))
  have kh124v4_1 : h124v4 (6) = aR 2 6 (uR (uR (uR (fun _ => none) (0 : Int).toNat (some (106))) (0 + 1 : Int).toNat (some (109))) ((0 + 1) + 1 : Int).toNat (some (112))) := (ho124v4 _ (by omega)).trans ((hs_n (by omega)).trans hs_e)
  have kh124v4_2 : h124v4 (104) = aL 2001 (fun _ => 0) := (ho124v4 _ (by omega)).trans ((hs_n (by omega)).trans ((hs_n (by omega)).trans kh124v3_2))
  have kh124v4_3 : h124v4 (105) = aL 12 (fun _ => 0) := (ho124v4 _ (by omega)).trans ((hs_n (by omega)).trans ((hs_n (by omega)).trans kh124v3_3))
  have kh124v4_4 : h124v4 (106) = ob 7 [.int (iZ (1)), .ref (106 + 1), .ref (106 + 2)] := (ho124v4 _ (by omega)).trans ((hs_n (by omega)).trans ((hs_n (by omega)).trans kh124v3_4))
  have kh124v4_5 : h124v4 (109) = ob 7 [.int (iZ (1)), .ref (109 + 1), .ref (109 + 2)] := (ho124v4 _ (by omega)).trans ((hs_n (by omega)).trans ((hs_n (by omega)).trans kh124v3_5))
  have kh124v4_6 : h124v4 (112) = ob 7 [.int (iZ (1)), .ref (112 + 1), .ref (112 + 2)] := (ho124v4 _ (by omega)).trans ((hs_n (by omega)).trans ((hs_n (by omega)).trans hf124v3.1))
  have fh124v4_0 : FX8 h124v4 (1) := fh124v3_0.cg (fun a9 h8 h9 => (ho124v4 a9 (by omega)).trans ((hs_n (by omega)).trans ((hs_n (by omega)).trans rfl)))
  have fh124v4_1 : FX2 h124v4 (7) := fh124v3_1.cg (fun a9 h8 h9 => (ho124v4 a9 (by omega)).trans ((hs_n (by omega)).trans ((hs_n (by omega)).trans rfl)))
  have fh124v4_2 : FX5 h124v4 (55) := fh124v3_2.cg (fun a9 h8 h9 => (ho124v4 a9 (by omega)).trans ((hs_n (by omega)).trans ((hs_n (by omega)).trans rfl)))
  have fh124v4_3 : FX6 h124v4 (60) := fh124v3_3.cg (fun a9 h8 h9 => (ho124v4 a9 (by omega)).trans ((hs_n (by omega)).trans ((hs_n (by omega)).trans rfl)))
  have fh124v4_4 : FX0 h124v4 (66) := fh124v3_4.cg (fun a9 h8 h9 => (ho124v4 a9 (by omega)).trans ((hs_n (by omega)).trans ((hs_n (by omega)).trans rfl)))
  have fh124v4_5 : FX1 h124v4 (76) := fh124v3_5.cg (fun a9 h8 h9 => (ho124v4 a9 (by omega)).trans ((hs_n (by omega)).trans ((hs_n (by omega)).trans rfl)))
  have fh124v4_6 : FX3 h124v4 (87) := fh124v3_6.cg (fun a9 h8 h9 => (ho124v4 a9 (by omega)).trans ((hs_n (by omega)).trans ((hs_n (by omega)).trans rfl)))
  have fh124v4_7 : FX7 h124v4 (106) := fh124v3_7.cg (fun a9 h8 h9 => (ho124v4 a9 (by omega)).trans ((hs_n (by omega)).trans ((hs_n (by omega)).trans rfl)))
  have fh124v4_8 : FX7 h124v4 (109) := fh124v3_8.cg (fun a9 h8 h9 => (ho124v4 a9 (by omega)).trans ((hs_n (by omega)).trans ((hs_n (by omega)).trans rfl)))
  have fh124v4_9 : FX7 h124v4 (112) := hf124v3.cg (fun a9 h8 h9 => (ho124v4 a9 (by omega)).trans ((hs_n (by omega)).trans ((hs_n (by omega)).trans rfl)))
  have odh124v4 : ∀ a9, a9 < 0 → h124v4 a9 = h a9 := fun a9 h9 => (ho124v4 a9 (by omega)).trans ((hs_n (by omega)).trans ((hs_n (by omega)).trans (odh124v3 a9 h9)))
  refine g_cnt (N1 := 118) (k1 := 117) (n1 := 5494) rfl rfl rfl ?_
  show G _ _ _ _ _ _ _ 127 _ _ _
  refine r_aastoreR dX10_init_127 (by omega) kh124v4_1 (by omega) ⟨_, hf124v4.1⟩ (by omega) (by omega) (by decide) ?_
  refine r_iinc (L2 := [_, _]) dX10_init_128 (nlt rfl) rfl rfl ?_
  refine r_goto 109 dX10_init_131 (by decide) ?_
  refine r_iload_n dX10_init_109 rfl rfl ?_
  refine r_bipush (z := 6) dX10_init_110 (by decide) ?_
  refine r_icmp_ge 134 dX10_init_112 (by decide) ⟨by omega, by omega⟩ ⟨by decide, by decide⟩ (fun c_112 => by exfalso; omega) (fun c_112 => ?_)
  refine r_aload_n dX10_init_115 rfl rfl ?_
  refine gf_X10_18 dX10_init_116 (by omega) ((hs_n (by omega)).trans kh124v4_0) rfl ?_
  refine r_iload_n dX10_init_119 rfl rfl ?_
  refine r_new [.int (iZ (0)), .null, .null] dX10_init_120 (rfl : vwCl[7]? = _) inTX7 tyX7_ok cl_X10_16 is_X7 ini_X7 df_X7 (by show _ ≤ 100000; decide) ⟨Nat.le_of_ble_eq_true rfl, Nat.le_of_ble_eq_true rfl⟩ ?_
  refine g_cnt (N1 := 119) (k1 := 118) (n1 := 5497) rfl rfl rfl ?_
  refine r_dup dX10_init_123 rfl ?_
  refine r_callI (av := []) dX10_init_124 lkX7_init ml_X10_71 imX7_init rfl rfl (by omega) ⟨Nat.le_of_ble_eq_true rfl, Nat.le_of_ble_eq_true rfl⟩ rfl rfl (nle rfl) ⟨Nat.le_of_ble_eq_true rfl, Nat.le_of_ble_eq_true rfl⟩ (c_X7_init (q := 118) hs_e (by show _ ≤ 100000; omega) (fun h124v5 ho124v5 hf124v5 => ?_))
  show G _ _ _ _ _ _ _ 127 _ _ _
  have kh124v5_0 : h124v5 (0) = ob 10 [.ref (1), .ref (6), .ref (7), .ref (55), .ref (60), .ref (66), .ref (76), .ref (87), .ref (104), .ref (105)] := (ho124v5 _ (by omega)).trans ((hs_n (by omega)).trans ((hs_n (by omega)).trans kh124v4_0))
  have kh124v5_1 : h124v5 (6) = aR 2 6 (uR (uR (uR (uR (fun _ => none) (0 : Int).toNat (some (106))) (0 + 1 : Int).toNat (some (109))) ((0 + 1) + 1 : Int).toNat (some (112))) (((0 + 1) + 1) + 1 : Int).toNat (some (115))) := (ho124v5 _ (by omega)).trans ((hs_n (by omega)).trans hs_e)
  have kh124v5_2 : h124v5 (104) = aL 2001 (fun _ => 0) := (ho124v5 _ (by omega)).trans ((hs_n (by omega)).trans ((hs_n (by omega)).trans kh124v4_2))
  have kh124v5_3 : h124v5 (105) = aL 12 (fun _ => 0) := (ho124v5 _ (by omega)).trans ((hs_n (by omega)).trans ((hs_n (by omega)).trans kh124v4_3))
  have kh124v5_4 : h124v5 (106) = ob 7 [.int (iZ (1)), .ref (106 + 1), .ref (106 + 2)] := (ho124v5 _ (by omega)).trans ((hs_n (by omega)).trans ((hs_n (by omega)).trans kh124v4_4))
  have kh124v5_5 : h124v5 (109) = ob 7 [.int (iZ (1)), .ref (109 + 1), .ref (109 + 2)] := (ho124v5 _ (by omega)).trans ((hs_n (by omega)).trans ((hs_n (by omega)).trans kh124v4_5))
  have kh124v5_6 : h124v5 (112) = ob 7 [.int (iZ (1)), .ref (112 + 1), .ref (112 + 2)] := (ho124v5 _ (by omega)).trans ((hs_n (by omega)).trans ((hs_n (by omega)).trans kh124v4_6))
  have kh124v5_7 : h124v5 (115) = ob 7 [.int (iZ (1)), .ref (115 + 1), .ref (115 + 2)] := (ho124v5 _ (by omega)).trans ((hs_n (by omega)).trans ((hs_n (by omega)).trans hf124v4.1))
  have fh124v5_0 : FX8 h124v5 (1) := fh124v4_0.cg (fun a9 h8 h9 => (ho124v5 a9 (by omega)).trans ((hs_n (by omega)).trans ((hs_n (by omega)).trans rfl)))
  have fh124v5_1 : FX2 h124v5 (7) := fh124v4_1.cg (fun a9 h8 h9 => (ho124v5 a9 (by omega)).trans ((hs_n (by omega)).trans ((hs_n (by omega)).trans rfl)))
  have fh124v5_2 : FX5 h124v5 (55) := fh124v4_2.cg (fun a9 h8 h9 => (ho124v5 a9 (by omega)).trans ((hs_n (by omega)).trans ((hs_n (by omega)).trans rfl)))
  have fh124v5_3 : FX6 h124v5 (60) := fh124v4_3.cg (fun a9 h8 h9 => (ho124v5 a9 (by omega)).trans ((hs_n (by omega)).trans ((hs_n (by omega)).trans rfl)))
  have fh124v5_4 : FX0 h124v5 (66) := fh124v4_4.cg (fun a9 h8 h9 => (ho124v5 a9 (by omega)).trans ((hs_n (by omega)).trans ((hs_n (by omega)).trans rfl)))
  have fh124v5_5 : FX1 h124v5 (76) := fh124v4_5.cg (fun a9 h8 h9 => (ho124v5 a9 (by omega)).trans ((hs_n (by omega)).trans ((hs_n (by omega)).trans rfl)))
  have fh124v5_6 : FX3 h124v5 (87) := fh124v4_6.cg (fun a9 h8 h9 => (ho124v5 a9 (by omega)).trans ((hs_n (by omega)).trans ((hs_n (by omega)).trans rfl)))
  have fh124v5_7 : FX7 h124v5 (106) := fh124v4_7.cg (fun a9 h8 h9 => (ho124v5 a9 (by omega)).trans ((hs_n (by omega)).trans ((hs_n (by omega)).trans rfl)))
  have fh124v5_8 : FX7 h124v5 (109) := fh124v4_8.cg (fun a9 h8 h9 => (ho124v5 a9 (by omega)).trans ((hs_n (by omega)).trans ((hs_n (by omega)).trans rfl)))
  have fh124v5_9 : FX7 h124v5 (112) := fh124v4_9.cg (fun a9 h8 h9 => (ho124v5 a9 (by omega)).trans ((hs_n (by omega)).trans ((hs_n (by omega)).trans rfl)))
  have fh124v5_10 : FX7 h124v5 (115) := hf124v4.cg (fun a9 h8 h9 => (ho124v5 a9 (by omega)).trans ((hs_n (by omega)).trans ((hs_n (by omega)).trans rfl)))
  have odh124v5 : ∀ a9, a9 < 0 → h124v5 a9 = h a9 := fun a9 h9 => (ho124v5 a9 (by omega)).trans ((hs_n (by omega)).trans ((hs_n (by omega)).trans (odh124v4 a9 h9)))
  refine g_cnt (N1 := 121) (k1 := 120) (n1 := 5510) rfl rfl rfl ?_
  show G _ _ _ _ _ _ _ 127 _ _ _
  refine r_aastoreR dX10_init_127 (by omega) kh124v5_1 (by omega) ⟨_, hf124v5.1⟩ (by omega) (by omega) (by decide) ?_
  refine r_iinc (L2 := [_, _]) dX10_init_128 (nlt rfl) rfl rfl ?_
  refine r_goto 109 dX10_init_131 (by decide) ?_
  refine r_iload_n dX10_init_109 rfl rfl ?_
  refine r_bipush (z := 6) dX10_init_110 (by decide) ?_
  refine r_icmp_ge 134 dX10_init_112 (by decide) ⟨by omega, by omega⟩ ⟨by decide, by decide⟩ (fun c_112 => by exfalso; omega) (fun c_112 => ?_)
  refine r_aload_n dX10_init_115 rfl rfl ?_
  refine gf_X10_18 dX10_init_116 (by omega) ((hs_n (by omega)).trans kh124v5_0) rfl ?_
  refine r_iload_n dX10_init_119 rfl rfl ?_
  refine r_new [.int (iZ (0)), .null, .null] dX10_init_120 (rfl : vwCl[7]? = _) inTX7 tyX7_ok cl_X10_16 is_X7 ini_X7 df_X7 (by show _ ≤ 100000; decide) ⟨Nat.le_of_ble_eq_true rfl, Nat.le_of_ble_eq_true rfl⟩ ?_
  refine g_cnt (N1 := 122) (k1 := 121) (n1 := 5513) rfl rfl rfl ?_
  refine r_dup dX10_init_123 rfl ?_
  refine r_callI (av := []) dX10_init_124 lkX7_init ml_X10_71 imX7_init rfl rfl (by omega) ⟨Nat.le_of_ble_eq_true rfl, Nat.le_of_ble_eq_true rfl⟩ rfl rfl (nle rfl) ⟨Nat.le_of_ble_eq_true rfl, Nat.le_of_ble_eq_true rfl⟩ (c_X7_init (q := 121) hs_e (by show _ ≤ 100000; omega) (fun h124v6 ho124v6 hf124v6 => ?_))
  show G _ _ _ _ _ _ _ 127 _ _ _
  have kh124v6_0 : h124v6 (0) = ob 10 [.ref (1), .ref (6), .ref (7), .ref (55), .ref (60), .ref (66), .ref (76), .ref (87), .ref (104), .ref (105)] := (ho124v6 _ (by omega)).trans ((hs_n (by omega)).trans ((hs_n (by omega)).trans kh124v5_0))
  have kh124v6_1 : h124v6 (6) = aR 2 6 (uR (uR (uR (uR (uR (fun _ => none) (0 : Int).toNat (some (106))) (0 + 1 : Int).toNat (some (109))) ((0 + 1) + 1 : Int).toNat (some (112))) (((0 + 1) + 1) + 1 : Int).toNat (some (115))) ((((0 + 1) + 1) + 1) + 1 : Int).toNat (some (118))) := (ho124v6 _ (by omega)).trans ((hs_n (by omega)).trans hs_e)
  have kh124v6_2 : h124v6 (104) = aL 2001 (fun _ => 0) := (ho124v6 _ (by omega)).trans ((hs_n (by omega)).trans ((hs_n (by omega)).trans kh124v5_2))
  have kh124v6_3 : h124v6 (105) = aL 12 (fun _ => 0) := (ho124v6 _ (by omega)).trans ((hs_n (by omega)).trans ((hs_n (by omega)).trans kh124v5_3))
  have kh124v6_4 : h124v6 (106) = ob 7 [.int (iZ (1)), .ref (106 + 1), .ref (106 + 2)] := (ho124v6 _ (by omega)).trans ((hs_n (by omega)).trans ((hs_n (by omega)).trans kh124v5_4))
  have kh124v6_5 : h124v6 (109) = ob 7 [.int (iZ (1)), .ref (109 + 1), .ref (109 + 2)] := (ho124v6 _ (by omega)).trans ((hs_n (by omega)).trans ((hs_n (by omega)).trans kh124v5_5))
  have kh124v6_6 : h124v6 (112) = ob 7 [.int (iZ (1)), .ref (112 + 1), .ref (112 + 2)] := (ho124v6 _ (by omega)).trans ((hs_n (by omega)).trans ((hs_n (by omega)).trans kh124v5_6))
  have kh124v6_7 : h124v6 (115) = ob 7 [.int (iZ (1)), .ref (115 + 1), .ref (115 + 2)] := (ho124v6 _ (by omega)).trans ((hs_n (by omega)).trans ((hs_n (by omega)).trans kh124v5_7))
  have kh124v6_8 : h124v6 (118) = ob 7 [.int (iZ (1)), .ref (118 + 1), .ref (118 + 2)] := (ho124v6 _ (by omega)).trans ((hs_n (by omega)).trans ((hs_n (by omega)).trans hf124v5.1))
  have fh124v6_0 : FX8 h124v6 (1) := fh124v5_0.cg (fun a9 h8 h9 => (ho124v6 a9 (by omega)).trans ((hs_n (by omega)).trans ((hs_n (by omega)).trans rfl)))
  have fh124v6_1 : FX2 h124v6 (7) := fh124v5_1.cg (fun a9 h8 h9 => (ho124v6 a9 (by omega)).trans ((hs_n (by omega)).trans ((hs_n (by omega)).trans rfl)))
  have fh124v6_2 : FX5 h124v6 (55) := fh124v5_2.cg (fun a9 h8 h9 => (ho124v6 a9 (by omega)).trans ((hs_n (by omega)).trans ((hs_n (by omega)).trans rfl)))
  have fh124v6_3 : FX6 h124v6 (60) := fh124v5_3.cg (fun a9 h8 h9 => (ho124v6 a9 (by omega)).trans ((hs_n (by omega)).trans ((hs_n (by omega)).trans rfl)))
  have fh124v6_4 : FX0 h124v6 (66) := fh124v5_4.cg (fun a9 h8 h9 => (ho124v6 a9 (by omega)).trans ((hs_n (by omega)).trans ((hs_n (by omega)).trans rfl)))
  have fh124v6_5 : FX1 h124v6 (76) := fh124v5_5.cg (fun a9 h8 h9 => (ho124v6 a9 (by omega)).trans ((hs_n (by omega)).trans ((hs_n (by omega)).trans rfl)))
  have fh124v6_6 : FX3 h124v6 (87) := fh124v5_6.cg (fun a9 h8 h9 => (ho124v6 a9 (by omega)).trans ((hs_n (by omega)).trans ((hs_n (by omega)).trans rfl)))
  have fh124v6_7 : FX7 h124v6 (106) := fh124v5_7.cg (fun a9 h8 h9 => (ho124v6 a9 (by omega)).trans ((hs_n (by omega)).trans ((hs_n (by omega)).trans rfl)))
  have fh124v6_8 : FX7 h124v6 (109) := fh124v5_8.cg (fun a9 h8 h9 => (ho124v6 a9 (by omega)).trans ((hs_n (by omega)).trans ((hs_n (by omega)).trans rfl)))
  have fh124v6_9 : FX7 h124v6 (112) := fh124v5_9.cg (fun a9 h8 h9 => (ho124v6 a9 (by omega)).trans ((hs_n (by omega)).trans ((hs_n (by omega)).trans rfl)))
  have fh124v6_10 : FX7 h124v6 (115) := fh124v5_10.cg (fun a9 h8 h9 => (ho124v6 a9 (by omega)).trans ((hs_n (by omega)).trans ((hs_n (by omega)).trans rfl)))
  have fh124v6_11 : FX7 h124v6 (118) := hf124v5.cg (fun a9 h8 h9 => (ho124v6 a9 (by omega)).trans ((hs_n (by omega)).trans ((hs_n (by omega)).trans rfl)))
  have odh124v6 : ∀ a9, a9 < 0 → h124v6 a9 = h a9 := fun a9 h9 => (ho124v6 a9 (by omega)).trans ((hs_n (by omega)).trans ((hs_n (by omega)).trans (odh124v5 a9 h9)))
  refine g_cnt (N1 := 124) (k1 := 123) (n1 := 5526) rfl rfl rfl ?_
  show G _ _ _ _ _ _ _ 127 _ _ _
  refine r_aastoreR dX10_init_127 (by omega) kh124v6_1 (by omega) ⟨_, hf124v6.1⟩ (by omega) (by omega) (by decide) ?_
  refine r_iinc (L2 := [_, _]) dX10_init_128 (nlt rfl) rfl rfl ?_
  refine r_goto 109 dX10_init_131 (by decide) ?_
  refine r_iload_n dX10_init_109 rfl rfl ?_
  refine r_bipush (z := 6) dX10_init_110 (by decide) ?_
  refine r_icmp_ge 134 dX10_init_112 (by decide) ⟨by omega, by omega⟩ ⟨by decide, by decide⟩ (fun c_112 => ?_) (fun c_112 => by exfalso; omega)
  refine r_return hq dX10_init_134 rfl rfl rfl ?_
  have eT : FX8 (hs h124v6 (6) (aR 2 6 (uR (uR (uR (uR (uR (uR (fun _ => none) (0 : Int).toNat (some (106))) (0 + 1 : Int).toNat (some (109))) ((0 + 1) + 1 : Int).toNat (some (112))) (((0 + 1) + 1) + 1 : Int).toNat (some (115))) ((((0 + 1) + 1) + 1) + 1 : Int).toNat (some (118))) (((((0 + 1) + 1) + 1) + 1) + 1 : Int).toNat (some (121))))) 1 := (fh124v6_0.cg (fun a9 h8 h9 => ((hs_n (by omega)).trans rfl)))
  have eN : FX2 (hs h124v6 (6) (aR 2 6 (uR (uR (uR (uR (uR (uR (fun _ => none) (0 : Int).toNat (some (106))) (0 + 1 : Int).toNat (some (109))) ((0 + 1) + 1 : Int).toNat (some (112))) (((0 + 1) + 1) + 1 : Int).toNat (some (115))) ((((0 + 1) + 1) + 1) + 1 : Int).toNat (some (118))) (((((0 + 1) + 1) + 1) + 1) + 1 : Int).toNat (some (121))))) 7 := (fh124v6_1.cg (fun a9 h8 h9 => ((hs_n (by omega)).trans rfl)))
  have eS : FX5 (hs h124v6 (6) (aR 2 6 (uR (uR (uR (uR (uR (uR (fun _ => none) (0 : Int).toNat (some (106))) (0 + 1 : Int).toNat (some (109))) ((0 + 1) + 1 : Int).toNat (some (112))) (((0 + 1) + 1) + 1 : Int).toNat (some (115))) ((((0 + 1) + 1) + 1) + 1 : Int).toNat (some (118))) (((((0 + 1) + 1) + 1) + 1) + 1 : Int).toNat (some (121))))) 55 := (fh124v6_2.cg (fun a9 h8 h9 => ((hs_n (by omega)).trans rfl)))
  have eD : FX6 (hs h124v6 (6) (aR 2 6 (uR (uR (uR (uR (uR (uR (fun _ => none) (0 : Int).toNat (some (106))) (0 + 1 : Int).toNat (some (109))) ((0 + 1) + 1 : Int).toNat (some (112))) (((0 + 1) + 1) + 1 : Int).toNat (some (115))) ((((0 + 1) + 1) + 1) + 1 : Int).toNat (some (118))) (((((0 + 1) + 1) + 1) + 1) + 1 : Int).toNat (some (121))))) 60 := (fh124v6_3.cg (fun a9 h8 h9 => ((hs_n (by omega)).trans rfl)))
  have eL : FX0 (hs h124v6 (6) (aR 2 6 (uR (uR (uR (uR (uR (uR (fun _ => none) (0 : Int).toNat (some (106))) (0 + 1 : Int).toNat (some (109))) ((0 + 1) + 1 : Int).toNat (some (112))) (((0 + 1) + 1) + 1 : Int).toNat (some (115))) ((((0 + 1) + 1) + 1) + 1 : Int).toNat (some (118))) (((((0 + 1) + 1) + 1) + 1) + 1 : Int).toNat (some (121))))) 66 := (fh124v6_4.cg (fun a9 h8 h9 => ((hs_n (by omega)).trans rfl)))
  have eM : FX1 (hs h124v6 (6) (aR 2 6 (uR (uR (uR (uR (uR (uR (fun _ => none) (0 : Int).toNat (some (106))) (0 + 1 : Int).toNat (some (109))) ((0 + 1) + 1 : Int).toNat (some (112))) (((0 + 1) + 1) + 1 : Int).toNat (some (115))) ((((0 + 1) + 1) + 1) + 1 : Int).toNat (some (118))) (((((0 + 1) + 1) + 1) + 1) + 1 : Int).toNat (some (121))))) 76 := (fh124v6_5.cg (fun a9 h8 h9 => ((hs_n (by omega)).trans rfl)))
  have eP : FX3 (hs h124v6 (6) (aR 2 6 (uR (uR (uR (uR (uR (uR (fun _ => none) (0 : Int).toNat (some (106))) (0 + 1 : Int).toNat (some (109))) ((0 + 1) + 1 : Int).toNat (some (112))) (((0 + 1) + 1) + 1 : Int).toNat (some (115))) ((((0 + 1) + 1) + 1) + 1 : Int).toNat (some (118))) (((((0 + 1) + 1) + 1) + 1) + 1 : Int).toNat (some (121))))) 87 := (fh124v6_6.cg (fun a9 h8 h9 => ((hs_n (by omega)).trans rfl)))
  have eR0 : FX7 (hs h124v6 (6) (aR 2 6 (uR (uR (uR (uR (uR (uR (fun _ => none) (0 : Int).toNat (some (106))) (0 + 1 : Int).toNat (some (109))) ((0 + 1) + 1 : Int).toNat (some (112))) (((0 + 1) + 1) + 1 : Int).toNat (some (115))) ((((0 + 1) + 1) + 1) + 1 : Int).toNat (some (118))) (((((0 + 1) + 1) + 1) + 1) + 1 : Int).toNat (some (121))))) (106 + 3 * 0) := (fh124v6_7.cg (fun a9 h8 h9 => ((hs_n (by omega)).trans rfl)))
  have eR1 : FX7 (hs h124v6 (6) (aR 2 6 (uR (uR (uR (uR (uR (uR (fun _ => none) (0 : Int).toNat (some (106))) (0 + 1 : Int).toNat (some (109))) ((0 + 1) + 1 : Int).toNat (some (112))) (((0 + 1) + 1) + 1 : Int).toNat (some (115))) ((((0 + 1) + 1) + 1) + 1 : Int).toNat (some (118))) (((((0 + 1) + 1) + 1) + 1) + 1 : Int).toNat (some (121))))) (106 + 3 * 1) := (fh124v6_8.cg (fun a9 h8 h9 => ((hs_n (by omega)).trans rfl)))
  have eR2 : FX7 (hs h124v6 (6) (aR 2 6 (uR (uR (uR (uR (uR (uR (fun _ => none) (0 : Int).toNat (some (106))) (0 + 1 : Int).toNat (some (109))) ((0 + 1) + 1 : Int).toNat (some (112))) (((0 + 1) + 1) + 1 : Int).toNat (some (115))) ((((0 + 1) + 1) + 1) + 1 : Int).toNat (some (118))) (((((0 + 1) + 1) + 1) + 1) + 1 : Int).toNat (some (121))))) (106 + 3 * 2) := (fh124v6_9.cg (fun a9 h8 h9 => ((hs_n (by omega)).trans rfl)))
  have eR3 : FX7 (hs h124v6 (6) (aR 2 6 (uR (uR (uR (uR (uR (uR (fun _ => none) (0 : Int).toNat (some (106))) (0 + 1 : Int).toNat (some (109))) ((0 + 1) + 1 : Int).toNat (some (112))) (((0 + 1) + 1) + 1 : Int).toNat (some (115))) ((((0 + 1) + 1) + 1) + 1 : Int).toNat (some (118))) (((((0 + 1) + 1) + 1) + 1) + 1 : Int).toNat (some (121))))) (106 + 3 * 3) := (fh124v6_10.cg (fun a9 h8 h9 => ((hs_n (by omega)).trans rfl)))
  have eR4 : FX7 (hs h124v6 (6) (aR 2 6 (uR (uR (uR (uR (uR (uR (fun _ => none) (0 : Int).toNat (some (106))) (0 + 1 : Int).toNat (some (109))) ((0 + 1) + 1 : Int).toNat (some (112))) (((0 + 1) + 1) + 1 : Int).toNat (some (115))) ((((0 + 1) + 1) + 1) + 1 : Int).toNat (some (118))) (((((0 + 1) + 1) + 1) + 1) + 1 : Int).toNat (some (121))))) (106 + 3 * 4) := (fh124v6_11.cg (fun a9 h8 h9 => ((hs_n (by omega)).trans rfl)))
  have eR5 : FX7 (hs h124v6 (6) (aR 2 6 (uR (uR (uR (uR (uR (uR (fun _ => none) (0 : Int).toNat (some (106))) (0 + 1 : Int).toNat (some (109))) ((0 + 1) + 1 : Int).toNat (some (112))) (((0 + 1) + 1) + 1 : Int).toNat (some (115))) ((((0 + 1) + 1) + 1) + 1 : Int).toNat (some (118))) (((((0 + 1) + 1) + 1) + 1) + 1 : Int).toNat (some (121))))) (106 + 3 * 5) := (hf124v6.cg (fun a9 h8 h9 => ((hs_n (by omega)).trans rfl)))
  refine hQ _ ⟨((hs_n (by omega)).trans kh124v6_0), ⟨1, _, _, 0, 0, eT.1, eT.2.1, eT.2.2.row, row0_RB, by decide, fun j _ => by show (0 : Int) ≤ 0 ∧ (0 : Int) ≤ 255; decide⟩, ⟨⟨_, hs_e, fun i hi => ?_⟩, fun i hi => ?_⟩, ⟨0, _, _, _, _, eN.1, eN.2.1, eN.2.2.1, eN.2.2.2.1, eN.2.2.2.2.1, fun i hi => hi, fun i j _ _ e => e, eN.2.2.2.2.2.1, eN.2.2.2.2.2.2.wk, by decide, prm_2, fun i hi => absurd hi (Nat.not_lt_zero i)⟩, ⟨_, _, _, _, _, _, eS.1, eS.2.1, eS.2.2.1, eS.2.2.2.1, eS.2.2.2.2⟩, ⟨_, _, _, _, eD.1, eD.2.1.wk, eD.2.2.1, eD.2.2.2⟩, ⟨_, _, _, _, _, _, _, _, eL.1, eL.2.1.wk, eL.2.2.1.row, row0_RB.2.2.1, row0_RB.2.2.2.1, eL.2.2.2.row⟩, ⟨_, _, _, _, _, _, _, _, _, eM.1, eM.2.1.1, eM.2.1.2.1, eM.2.1.2.2, row0_RB.2.2.1, row0_RB.2.2.2.1, rfl, eM.2.2.1.row, rfl, rfl, row0_RB.2.2.1, eM.2.2.2.1, eM.2.2.2.2.1, eM.2.2.2.2.2.1, eM.2.2.2.2.2.2⟩, ⟨_, _, _, _, eP.1, eP.2.1.po, eP.2.2.1.po, eP.2.2.2.1.po, eP.2.2.2.2.1.po, eP.2.2.2.2.2.1.po, eP.2.2.2.2.2.2.1.po, eP.2.2.2.2.2.2.2.1.po, eP.2.2.2.2.2.2.2.2.po⟩, ⟨_, _, ((hs_n (by omega)).trans kh124v6_2), ((hs_n (by omega)).trans kh124v6_3)⟩⟩
  · rcases (show i = 0 ∨ i = 1 ∨ i = 2 ∨ i = 3 ∨ i = 4 ∨ i = 5 by omega) with rfl | rfl | rfl | rfl | rfl | rfl <;> rfl
  · rcases (show i = 0 ∨ i = 1 ∨ i = 2 ∨ i = 3 ∨ i = 4 ∨ i = 5 by omega) with rfl | rfl | rfl | rfl | rfl | rfl
    · exact ⟨eR0, row0_RB⟩
    · exact ⟨eR1, row0_RB⟩
    · exact ⟨eR2, row0_RB⟩
    · exact ⟨eR3, row0_RB⟩
    · exact ⟨eR4, row0_RB⟩
    · exact ⟨eR5, row0_RB⟩
