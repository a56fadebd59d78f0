set_option maxHeartbeats 16000000 in
set_option maxRecDepth 20000 in
theorem law_loop {X : Ctx} {L : Nat} {xs : Nat → Int32} (hX : SCR X L xs) (hL : L ≤ 3072) (HE : ∀ Ls h, G X RL cL_law room_1 146 146 9789 916 Ls [.int (iZ 1)] h) : ∀ (fu : Nat) (h : Hp) (tb : Nat → Int) (ln : Nat) (K : Nat → Nat) (C S : Nat → Nat → Int) (p : Int) (vs : Nat → Int) (sz : Nat) (z : Int), (L : Int) + 6 - z < (fu : Int) → 0 ≤ z → z ≤ (L : Int) + 6 → CI h tb ln K C S p vs sz → MDI h tb ln K C S p vs sz → G X RL cL_law room_1 146 146 9789 18 [some (.ref BIG), some (.ref 0), some (.ref 124), some (.int (iZ z))] [] h := by
  intro fu
  induction fu with
  | zero => intro h tb ln K C S p vs sz z hm h0 h1; exfalso; omega
  | succ fu ih =>
    intro h tb ln K C S p vs sz z hm h0 h1 hC hM
    refine r_iload_n dL_law_18 rfl rfl ?_
    refine r_aload_n dL_law_19 rfl rfl ?_
    refine r_slen hX dL_law_20 ?_
    refine r_bipush (z := 6) dL_law_21 (by decide) ?_
    refine r_isub dL_law_23 ?_
    refine r_icmp_gt 915 dL_law_24 (by decide) ⟨by omega, by omega⟩ ⟨by omega, by omega⟩ (fun c_24 => ?_) (fun c_24 => ?_)
    · refine r_iconst (z := 1) dL_law_915 ?_
      exact HE _ _
    · refine r_aload_n dL_law_27 rfl rfl ?_
      refine r_iload_n dL_law_28 rfl rfl ?_
      refine r_sldi hX dL_law_29 (by omega) (by omega) (by omega) ?_
      refine r_bipush (z := 31) dL_law_30 (by decide) ?_
      obtain ⟨v, hv, v0, v31⟩ := and31 (iZ ((xs (z).toNat).toInt))
      refine r_iand (z := iZ (v)) dL_law_32 hv ?_
      rcases (show v < 0 ∨ 21 < v ∨ v = 0 ∨ v = 1 ∨ v = 2 ∨ v = 3 ∨ v = 4 ∨ v = 5 ∨ v = 6 ∨ v = 7 ∨ v = 8 ∨ v = 9 ∨ v = 10 ∨ v = 11 ∨ v = 12 ∨ v = 13 ∨ v = 14 ∨ v = 15 ∨ v = 16 ∨ v = 17 ∨ v = 18 ∨ v = 19 ∨ v = 20 ∨ v = 21 by omega) with hs_33 | hs_33 | hs_33 | hs_33 | hs_33 | hs_33 | hs_33 | hs_33 | hs_33 | hs_33 | hs_33 | hs_33 | hs_33 | hs_33 | hs_33 | hs_33 | hs_33 | hs_33 | hs_33 | hs_33 | hs_33 | hs_33 | hs_33 | hs_33
      · refine r_tabOut 909 dL_law_33 ⟨by omega, by omega⟩ (by omega) (by decide) ?_
        refine r_iinc (L2 := [_, _, _, _]) dL_law_909 (nlt rfl) rfl rfl ?_
        refine r_goto 18 dL_law_912 (by decide) ?_
        exact ih _ _ _ _ _ _ _ _ _ (z + 6) (by omega) (by omega) (by omega) hC hM
      · refine r_tabOut 909 dL_law_33 ⟨by omega, by omega⟩ (by omega) (by decide) ?_
        refine r_iinc (L2 := [_, _, _, _]) dL_law_909 (nlt rfl) rfl rfl ?_
        refine r_goto 18 dL_law_912 (by decide) ?_
        exact ih _ _ _ _ _ _ _ _ _ (z + 6) (by omega) (by omega) (by omega) hC hM
      · refine r_tabIn (off := 103) 136 dL_law_33 ⟨by omega, by omega⟩ (by omega) (by omega) (by rw [hs_33]; rfl) (by decide) ?_
        refine r_aload_n dL_law_136 rfl rfl ?_
        refine r_aload_n dL_law_137 rfl rfl ?_
        refine r_iload_n dL_law_138 rfl rfl ?_
        refine r_iconst (z := 1) dL_law_139 ?_
        refine r_iadd dL_law_140 ?_
        refine r_sldi hX dL_law_141 (by omega) (by omega) (by omega) ?_
        refine r_aload_n dL_law_142 rfl rfl ?_
        refine r_iload_n dL_law_143 rfl rfl ?_
        refine r_iconst (z := 2) dL_law_144 ?_
        refine r_iadd dL_law_145 ?_
        refine r_sldi hX dL_law_146 (by omega) (by omega) (by omega) ?_
        refine r_i2l dL_law_147 (x32 _) ?_
        refine r_bipush (z := 32) dL_law_148 (by decide) ?_
        refine r_lshl (z := lZ (((lZ (((xs (z + 2).toNat).toInt))) <<< ((iZ (32)).toInt64 &&& 63)).toInt)) dL_law_150 (lZ_x _).symm ?_
        refine r_aload_n dL_law_151 rfl rfl ?_
        refine r_iload_n dL_law_152 rfl rfl ?_
        refine r_iconst (z := 3) dL_law_153 ?_
        refine r_iadd dL_law_154 ?_
        refine r_sldi hX dL_law_155 (by omega) (by omega) (by omega) ?_
        refine r_i2l dL_law_156 (x32 _) ?_
        refine r_ldc2 (z := 4294967295) dL_law_157 kc_L_13 ?_
        refine r_land (z := lZ (((lZ (((xs (z + 3).toNat).toInt))) &&& (lZ (4294967295))).toInt)) dL_law_160 (lZ_x _).symm ?_
        refine r_lor (z := lZ (((lZ (((lZ (((xs (z + 2).toNat).toInt))) <<< ((iZ (32)).toInt64 &&& 63)).toInt)) ||| (lZ (((lZ (((xs (z + 3).toNat).toInt))) &&& (lZ (4294967295))).toInt))).toInt)) dL_law_161 (lZ_x _).symm ?_
        refine r_callV (av := [.int (iZ (((xs (z + 1).toNat).toInt))), .long (lZ (((lZ (((lZ (((xs (z + 2).toNat).toInt))) <<< ((iZ (32)).toInt64 &&& 63)).toInt)) ||| (lZ (((lZ (((xs (z + 3).toNat).toInt))) &&& (lZ (4294967295))).toInt))).toInt))]) dL_law_162 lkX10_write ml_L_15 imX10_write seX10_write (by omega) (rfl : vwCl[10]? = _) ⟨_, hC.ob⟩ ⟨Nat.le_of_ble_eq_true rfl, Nat.le_of_ble_eq_true rfl⟩ rfl rfl (nle rfl) ⟨Nat.le_of_ble_eq_true rfl, Nat.le_of_ble_eq_true rfl⟩ (c_X10_write (v := ((lZ (((lZ (((xs (z + 2).toNat).toInt))) <<< ((iZ (32)).toInt64 &&& 63)).toInt)) ||| (lZ (((lZ (((xs (z + 3).toNat).toInt))) &&& (lZ (4294967295))).toInt)))) hC (by decide) (x32 _) rfl (fun r162 h_162 tb2_162 ln2_162 hs162 hI162 ho162 => ?_))
        have hN162 := hM.cg (OUT.md ho162)
        show G _ _ _ _ _ _ _ 165 _ _ _
        refine r_aload_n dL_law_165 rfl rfl ?_
        refine r_aload_n dL_law_166 rfl rfl ?_
        refine r_iload_n dL_law_167 rfl rfl ?_
        refine r_iconst (z := 1) dL_law_168 ?_
        refine r_iadd dL_law_169 ?_
        refine r_sldi hX dL_law_170 (by omega) (by omega) (by omega) ?_
        refine r_aload_n dL_law_171 rfl rfl ?_
        refine r_iload_n dL_law_172 rfl rfl ?_
        refine r_iconst (z := 2) dL_law_173 ?_
        refine r_iadd dL_law_174 ?_
        refine r_sldi hX dL_law_175 (by omega) (by omega) (by omega) ?_
        refine r_i2l dL_law_176 (x32 _) ?_
        refine r_bipush (z := 32) dL_law_177 (by decide) ?_
        refine r_lshl (z := lZ (((lZ (((xs (z + 2).toNat).toInt))) <<< ((iZ (32)).toInt64 &&& 63)).toInt)) dL_law_179 (lZ_x _).symm ?_
        refine r_aload_n dL_law_180 rfl rfl ?_
        refine r_iload_n dL_law_181 rfl rfl ?_
        refine r_iconst (z := 3) dL_law_182 ?_
        refine r_iadd dL_law_183 ?_
        refine r_sldi hX dL_law_184 (by omega) (by omega) (by omega) ?_
        refine r_i2l dL_law_185 (x32 _) ?_
        refine r_ldc2 (z := 4294967295) dL_law_186 kc_L_13 ?_
        refine r_land (z := lZ (((lZ (((xs (z + 3).toNat).toInt))) &&& (lZ (4294967295))).toInt)) dL_law_189 (lZ_x _).symm ?_
        refine r_lor (z := lZ (((lZ (((lZ (((xs (z + 2).toNat).toInt))) <<< ((iZ (32)).toInt64 &&& 63)).toInt)) ||| (lZ (((lZ (((xs (z + 3).toNat).toInt))) &&& (lZ (4294967295))).toInt))).toInt)) dL_law_190 (lZ_x _).symm ?_
        refine r_callV (av := [.int (iZ (((xs (z + 1).toNat).toInt))), .long (lZ (((lZ (((lZ (((xs (z + 2).toNat).toInt))) <<< ((iZ (32)).toInt64 &&& 63)).toInt)) ||| (lZ (((lZ (((xs (z + 3).toNat).toInt))) &&& (lZ (4294967295))).toInt))).toInt))]) dL_law_191 lkX11_write ml_L_19 imX11_write seX11_write (by omega) (rfl : vwCl[11]? = _) ⟨_, (hN162.ob).choose_spec⟩ ⟨Nat.le_of_ble_eq_true rfl, Nat.le_of_ble_eq_true rfl⟩ rfl rfl (nle rfl) ⟨Nat.le_of_ble_eq_true rfl, Nat.le_of_ble_eq_true rfl⟩ (e_X11_write (v := ((lZ (((lZ (((xs (z + 2).toNat).toInt))) <<< ((iZ (32)).toInt64 &&& 63)).toInt)) ||| (lZ (((lZ (((xs (z + 3).toNat).toInt))) &&& (lZ (4294967295))).toInt)))) hN162 (by decide) (x32 _) rfl hs162 hI162.tx.1 hI162.tx.2 (fun h_191 hN191 ho191 => ?_))
        have hI191 := hI162.cg (OUTM.ci ho191)
        show G _ _ _ _ _ _ _ 194 _ _ _
        refine r_icmp_same 909 dL_law_194 (by decide) ?_
        refine r_iinc (L2 := [_, _, _, _]) dL_law_909 (nlt rfl) rfl rfl ?_
        refine r_goto 18 dL_law_912 (by decide) ?_
        exact ih _ _ _ _ _ _ _ _ _ (z + 6) (by omega) (by omega) (by omega) hI191 hN191
      · refine r_tabIn (off := 166) 199 dL_law_33 ⟨by omega, by omega⟩ (by omega) (by omega) (by rw [hs_33]; rfl) (by decide) ?_
        refine r_aload_n dL_law_199 rfl rfl ?_
        refine r_callV (av := []) dL_law_200 lkX10_wipe ml_L_20 imX10_wipe seX10_wipe (by omega) (rfl : vwCl[10]? = _) ⟨_, hC.ob⟩ ⟨Nat.le_of_ble_eq_true rfl, Nat.le_of_ble_eq_true rfl⟩ rfl rfl (nle rfl) ⟨Nat.le_of_ble_eq_true rfl, Nat.le_of_ble_eq_true rfl⟩ (c_X10_wipe hC (by decide)  (fun h_200 hI200 ho200 => ?_))
        have hN200 := hM.cg (OUT.md ho200)
        show G _ _ _ _ _ _ _ 203 _ _ _
        refine r_aload_n dL_law_203 rfl rfl ?_
        refine r_callV (av := []) dL_law_204 lkX11_wipe ml_L_24 imX11_wipe seX11_wipe (by omega) (rfl : vwCl[11]? = _) ⟨_, (hN200.ob).choose_spec⟩ ⟨Nat.le_of_ble_eq_true rfl, Nat.le_of_ble_eq_true rfl⟩ rfl rfl (nle rfl) ⟨Nat.le_of_ble_eq_true rfl, Nat.le_of_ble_eq_true rfl⟩ (e_X11_wipe hN200 (by decide) (fun h_204 hN204 ho204 => ?_))
        have hI204 := hI200.cg (OUTM.ci ho204)
        show G _ _ _ _ _ _ _ 207 _ _ _
        refine r_icmp_same 909 dL_law_207 (by decide) ?_
        refine r_iinc (L2 := [_, _, _, _]) dL_law_909 (nlt rfl) rfl rfl ?_
        refine r_goto 18 dL_law_912 (by decide) ?_
        exact ih _ _ _ _ _ _ _ _ _ (z + 6) (by omega) (by omega) (by omega) hI204 hN204
      · refine r_tabIn (off := 179) 212 dL_law_33 ⟨by omega, by omega⟩ (by omega) (by omega) (by rw [hs_33]; rfl) (by decide) ?_
        refine r_aload_n dL_law_212 rfl rfl ?_
        refine r_callV (av := []) dL_law_213 lkX10_fault ml_L_25 imX10_fault seX10_fault (by omega) (rfl : vwCl[10]? = _) ⟨_, hC.ob⟩ ⟨Nat.le_of_ble_eq_true rfl, Nat.le_of_ble_eq_true rfl⟩ rfl rfl (nle rfl) ⟨Nat.le_of_ble_eq_true rfl, Nat.le_of_ble_eq_true rfl⟩ (c_X10_fault hC (by decide)  (fun r213 h_213  hs213 hI213 ho213 => ?_))
        have hN213 := hM.cg (OUT.md ho213)
        show G _ _ _ _ _ _ _ 216 _ _ _
        refine r_aload_n dL_law_216 rfl rfl ?_
        refine r_callV (av := []) dL_law_217 lkX11_fault ml_L_28 imX11_fault seX11_fault (by omega) (rfl : vwCl[11]? = _) ⟨_, (hN213.ob).choose_spec⟩ ⟨Nat.le_of_ble_eq_true rfl, Nat.le_of_ble_eq_true rfl⟩ rfl rfl (nle rfl) ⟨Nat.le_of_ble_eq_true rfl, Nat.le_of_ble_eq_true rfl⟩ (e_X11_fault hN213 (by decide) hs213 (fun h_217 hN217 ho217 => ?_))
        have hI217 := hI213.cg (OUTM.ci ho217)
        show G _ _ _ _ _ _ _ 220 _ _ _
        refine r_icmp_same 909 dL_law_220 (by decide) ?_
        refine r_iinc (L2 := [_, _, _, _]) dL_law_909 (nlt rfl) rfl rfl ?_
        refine r_goto 18 dL_law_912 (by decide) ?_
        exact ih _ _ _ _ _ _ _ _ _ (z + 6) (by omega) (by omega) (by omega) hI217 hN217
      · refine r_tabIn (off := 192) 225 dL_law_33 ⟨by omega, by omega⟩ (by omega) (by omega) (by rw [hs_33]; rfl) (by decide) ?_
        refine r_aload_n dL_law_225 rfl rfl ?_
        refine r_aload_n dL_law_226 rfl rfl ?_
        refine r_iload_n dL_law_227 rfl rfl ?_
        refine r_iconst (z := 1) dL_law_228 ?_
        refine r_iadd dL_law_229 ?_
        refine r_sldi hX dL_law_230 (by omega) (by omega) (by omega) ?_
        refine r_callV (av := [.int (iZ (((xs (z + 1).toNat).toInt)))]) dL_law_231 lkX10_take ml_L_29 imX10_take seX10_take (by omega) (rfl : vwCl[10]? = _) ⟨_, hC.ob⟩ ⟨Nat.le_of_ble_eq_true rfl, Nat.le_of_ble_eq_true rfl⟩ rfl rfl (nle rfl) ⟨Nat.le_of_ble_eq_true rfl, Nat.le_of_ble_eq_true rfl⟩ (c_X10_take hC (by decide) (x32 _) (fun r231 h_231 K2_231 C2_231 S2_231 hs231 hI231 ho231 => ?_))
        have hN231 := hM.cg (OUT.md ho231)
        show G _ _ _ _ _ _ _ 234 _ _ _
        refine r_aload_n dL_law_234 rfl rfl ?_
        refine r_aload_n dL_law_235 rfl rfl ?_
        refine r_iload_n dL_law_236 rfl rfl ?_
        refine r_iconst (z := 1) dL_law_237 ?_
        refine r_iadd dL_law_238 ?_
        refine r_sldi hX dL_law_239 (by omega) (by omega) (by omega) ?_
        refine r_callV (av := [.int (iZ (((xs (z + 1).toNat).toInt)))]) dL_law_240 lkX11_take ml_L_33 imX11_take seX11_take (by omega) (rfl : vwCl[11]? = _) ⟨_, (hN231.ob).choose_spec⟩ ⟨Nat.le_of_ble_eq_true rfl, Nat.le_of_ble_eq_true rfl⟩ rfl rfl (nle rfl) ⟨Nat.le_of_ble_eq_true rfl, Nat.le_of_ble_eq_true rfl⟩ (c_X11_take hN231 (by decide) (x32 _) hs231 hI231.RB (fun h_240 hN240 ho240 => ?_))
        have hI240 := hI231.cg (OUTM.ci ho240)
        show G _ _ _ _ _ _ _ 243 _ _ _
        refine r_icmp_same 909 dL_law_243 (by decide) ?_
        refine r_iinc (L2 := [_, _, _, _]) dL_law_909 (nlt rfl) rfl rfl ?_
        refine r_goto 18 dL_law_912 (by decide) ?_
        exact ih _ _ _ _ _ _ _ _ _ (z + 6) (by omega) (by omega) (by omega) hI240 hN240
      · refine r_tabIn (off := 215) 248 dL_law_33 ⟨by omega, by omega⟩ (by omega) (by omega) (by rw [hs_33]; rfl) (by decide) ?_
        refine r_aload_n dL_law_248 rfl rfl ?_
        refine r_aload_n dL_law_249 rfl rfl ?_
        refine r_iload_n dL_law_250 rfl rfl ?_
        refine r_iconst (z := 1) dL_law_251 ?_
        refine r_iadd dL_law_252 ?_
        refine r_sldi hX dL_law_253 (by omega) (by omega) (by omega) ?_
        refine r_aload_n dL_law_254 rfl rfl ?_
        refine r_iload_n dL_law_255 rfl rfl ?_
        refine r_iconst (z := 2) dL_law_256 ?_
        refine r_iadd dL_law_257 ?_
        refine r_sldi hX dL_law_258 (by omega) (by omega) (by omega) ?_
        refine r_aload_n dL_law_259 rfl rfl ?_
        refine r_iload_n dL_law_260 rfl rfl ?_
        refine r_iconst (z := 3) dL_law_261 ?_
        refine r_iadd dL_law_262 ?_
        refine r_sldi hX dL_law_263 (by omega) (by omega) (by omega) ?_
        refine r_callV (av := [.int (iZ (((xs (z + 1).toNat).toInt))), .int (iZ (((xs (z + 2).toNat).toInt))), .int (iZ (((xs (z + 3).toNat).toInt)))]) dL_law_264 lkX10_told ml_L_34 imX10_told seX10_told (by omega) (rfl : vwCl[10]? = _) ⟨_, hC.ob⟩ ⟨Nat.le_of_ble_eq_true rfl, Nat.le_of_ble_eq_true rfl⟩ rfl rfl (nle rfl) ⟨Nat.le_of_ble_eq_true rfl, Nat.le_of_ble_eq_true rfl⟩ (c_X10_told hC (by decide) (x32 _) (x32 _) (x32 _) (fun r264 h_264  hs264 hI264 ho264 => ?_))
        have hN264 := hM.cg (OUT.md ho264)
        show G _ _ _ _ _ _ _ 267 _ _ _
        refine r_aload_n dL_law_267 rfl rfl ?_
        refine r_aload_n dL_law_268 rfl rfl ?_
        refine r_iload_n dL_law_269 rfl rfl ?_
        refine r_iconst (z := 1) dL_law_270 ?_
        refine r_iadd dL_law_271 ?_
        refine r_sldi hX dL_law_272 (by omega) (by omega) (by omega) ?_
        refine r_aload_n dL_law_273 rfl rfl ?_
        refine r_iload_n dL_law_274 rfl rfl ?_
        refine r_iconst (z := 2) dL_law_275 ?_
        refine r_iadd dL_law_276 ?_
        refine r_sldi hX dL_law_277 (by omega) (by omega) (by omega) ?_
        refine r_aload_n dL_law_278 rfl rfl ?_
        refine r_iload_n dL_law_279 rfl rfl ?_
        refine r_iconst (z := 3) dL_law_280 ?_
        refine r_iadd dL_law_281 ?_
        refine r_sldi hX dL_law_282 (by omega) (by omega) (by omega) ?_
        refine r_callV (av := [.int (iZ (((xs (z + 1).toNat).toInt))), .int (iZ (((xs (z + 2).toNat).toInt))), .int (iZ (((xs (z + 3).toNat).toInt)))]) dL_law_283 lkX11_told ml_L_38 imX11_told seX11_told (by omega) (rfl : vwCl[11]? = _) ⟨_, (hN264.ob).choose_spec⟩ ⟨Nat.le_of_ble_eq_true rfl, Nat.le_of_ble_eq_true rfl⟩ rfl rfl (nle rfl) ⟨Nat.le_of_ble_eq_true rfl, Nat.le_of_ble_eq_true rfl⟩ (c_X11_told hN264 (by decide) (x32 _) (x32 _) (x32 _) (fun r283 h_283  hs283 hN283 ho283 => ?_))
        obtain rfl := hs264.one hs283
        have hI283 := hI264.cg (OUTM.ci ho283)
        show G _ _ _ _ _ _ _ 286 _ _ _
        refine r_icmp_same 909 dL_law_286 (by decide) ?_
        refine r_iinc (L2 := [_, _, _, _]) dL_law_909 (nlt rfl) rfl rfl ?_
        refine r_goto 18 dL_law_912 (by decide) ?_
        exact ih _ _ _ _ _ _ _ _ _ (z + 6) (by omega) (by omega) (by omega) hI283 hN283
      · refine r_tabIn (off := 258) 291 dL_law_33 ⟨by omega, by omega⟩ (by omega) (by omega) (by rw [hs_33]; rfl) (by decide) ?_
        refine r_aload_n dL_law_291 rfl rfl ?_
        refine r_aload_n dL_law_292 rfl rfl ?_
        refine r_iload_n dL_law_293 rfl rfl ?_
        refine r_iconst (z := 1) dL_law_294 ?_
        refine r_iadd dL_law_295 ?_
        refine r_sldi hX dL_law_296 (by omega) (by omega) (by omega) ?_
        refine r_aload_n dL_law_297 rfl rfl ?_
        refine r_iload_n dL_law_298 rfl rfl ?_
        refine r_iconst (z := 2) dL_law_299 ?_
        refine r_iadd dL_law_300 ?_
        refine r_sldi hX dL_law_301 (by omega) (by omega) (by omega) ?_
        refine r_callV (av := [.int (iZ (((xs (z + 1).toNat).toInt))), .int (iZ (((xs (z + 2).toNat).toInt)))]) dL_law_302 lkX10_exact ml_L_39 imX10_exact seX10_exact (by omega) (rfl : vwCl[10]? = _) ⟨_, hC.ob⟩ ⟨Nat.le_of_ble_eq_true rfl, Nat.le_of_ble_eq_true rfl⟩ rfl rfl (nle rfl) ⟨Nat.le_of_ble_eq_true rfl, Nat.le_of_ble_eq_true rfl⟩ (c_X10_exact hC (by decide) (x32 _) (x32 _) (fun r302 h_302  hs302 hI302 ho302 => ?_))
        have hN302 := hM.cg (OUT.md ho302)
        show G _ _ _ _ _ _ _ 305 _ _ _
        refine r_aload_n dL_law_305 rfl rfl ?_
        refine r_aload_n dL_law_306 rfl rfl ?_
        refine r_iload_n dL_law_307 rfl rfl ?_
        refine r_iconst (z := 1) dL_law_308 ?_
        refine r_iadd dL_law_309 ?_
        refine r_sldi hX dL_law_310 (by omega) (by omega) (by omega) ?_
        refine r_aload_n dL_law_311 rfl rfl ?_
        refine r_iload_n dL_law_312 rfl rfl ?_
        refine r_iconst (z := 2) dL_law_313 ?_
        refine r_iadd dL_law_314 ?_
        refine r_sldi hX dL_law_315 (by omega) (by omega) (by omega) ?_
        refine r_callV (av := [.int (iZ (((xs (z + 1).toNat).toInt))), .int (iZ (((xs (z + 2).toNat).toInt)))]) dL_law_316 lkX11_exact ml_L_43 imX11_exact seX11_exact (by omega) (rfl : vwCl[11]? = _) ⟨_, (hN302.ob).choose_spec⟩ ⟨Nat.le_of_ble_eq_true rfl, Nat.le_of_ble_eq_true rfl⟩ rfl rfl (nle rfl) ⟨Nat.le_of_ble_eq_true rfl, Nat.le_of_ble_eq_true rfl⟩ (c_X11_exact hN302 (by decide) (x32 _) (x32 _) (fun r316 h_316  hs316 hN316 ho316 => ?_))
        obtain rfl := hs302.one hs316
        have hI316 := hI302.cg (OUTM.ci ho316)
        show G _ _ _ _ _ _ _ 319 _ _ _
        refine r_lcmp_same 909 dL_law_319 dL_law_320 (by decide) ?_
        refine r_iinc (L2 := [_, _, _, _]) dL_law_909 (nlt rfl) rfl rfl ?_
        refine r_goto 18 dL_law_912 (by decide) ?_
        exact ih _ _ _ _ _ _ _ _ _ (z + 6) (by omega) (by omega) (by omega) hI316 hN316
      · refine r_tabIn (off := 292) 325 dL_law_33 ⟨by omega, by omega⟩ (by omega) (by omega) (by rw [hs_33]; rfl) (by decide) ?_
        refine r_aload_n dL_law_325 rfl rfl ?_
        refine r_aload_n dL_law_326 rfl rfl ?_
        refine r_iload_n dL_law_327 rfl rfl ?_
        refine r_iconst (z := 1) dL_law_328 ?_
        refine r_iadd dL_law_329 ?_
        refine r_sldi hX dL_law_330 (by omega) (by omega) (by omega) ?_
        refine r_aload_n dL_law_331 rfl rfl ?_
        refine r_iload_n dL_law_332 rfl rfl ?_
        refine r_iconst (z := 2) dL_law_333 ?_
        refine r_iadd dL_law_334 ?_
        refine r_sldi hX dL_law_335 (by omega) (by omega) (by omega) ?_
        refine r_aload_n dL_law_336 rfl rfl ?_
        refine r_iload_n dL_law_337 rfl rfl ?_
        refine r_iconst (z := 3) dL_law_338 ?_
        refine r_iadd dL_law_339 ?_
        refine r_sldi hX dL_law_340 (by omega) (by omega) (by omega) ?_
        refine r_callV (av := [.int (iZ (((xs (z + 1).toNat).toInt))), .int (iZ (((xs (z + 2).toNat).toInt))), .int (iZ (((xs (z + 3).toNat).toInt)))]) dL_law_341 lkX10_rest ml_L_44 imX10_rest seX10_rest (by omega) (rfl : vwCl[10]? = _) ⟨_, hC.ob⟩ ⟨Nat.le_of_ble_eq_true rfl, Nat.le_of_ble_eq_true rfl⟩ rfl rfl (nle rfl) ⟨Nat.le_of_ble_eq_true rfl, Nat.le_of_ble_eq_true rfl⟩ (c_X10_rest hC (by decide) (x32 _) (x32 _) (x32 _) (fun r341 h_341  hs341 hI341 ho341 => ?_))
        have hN341 := hM.cg (OUT.md ho341)
        show G _ _ _ _ _ _ _ 344 _ _ _
        refine r_aload_n dL_law_344 rfl rfl ?_
        refine r_aload_n dL_law_345 rfl rfl ?_
        refine r_iload_n dL_law_346 rfl rfl ?_
        refine r_iconst (z := 1) dL_law_347 ?_
        refine r_iadd dL_law_348 ?_
        refine r_sldi hX dL_law_349 (by omega) (by omega) (by omega) ?_
        refine r_aload_n dL_law_350 rfl rfl ?_
        refine r_iload_n dL_law_351 rfl rfl ?_
        refine r_iconst (z := 2) dL_law_352 ?_
        refine r_iadd dL_law_353 ?_
        refine r_sldi hX dL_law_354 (by omega) (by omega) (by omega) ?_
        refine r_aload_n dL_law_355 rfl rfl ?_
        refine r_iload_n dL_law_356 rfl rfl ?_
        refine r_iconst (z := 3) dL_law_357 ?_
        refine r_iadd dL_law_358 ?_
        refine r_sldi hX dL_law_359 (by omega) (by omega) (by omega) ?_
        refine r_callV (av := [.int (iZ (((xs (z + 1).toNat).toInt))), .int (iZ (((xs (z + 2).toNat).toInt))), .int (iZ (((xs (z + 3).toNat).toInt)))]) dL_law_360 lkX11_rest ml_L_47 imX11_rest seX11_rest (by omega) (rfl : vwCl[11]? = _) ⟨_, (hN341.ob).choose_spec⟩ ⟨Nat.le_of_ble_eq_true rfl, Nat.le_of_ble_eq_true rfl⟩ rfl rfl (nle rfl) ⟨Nat.le_of_ble_eq_true rfl, Nat.le_of_ble_eq_true rfl⟩ (c_X11_rest hN341 (by decide) (x32 _) (x32 _) (x32 _) (fun r360 h_360  hs360 hN360 ho360 => ?_))
        obtain rfl := hs341.one hs360
        have hI360 := hI341.cg (OUTM.ci ho360)
        show G _ _ _ _ _ _ _ 363 _ _ _
        refine r_icmp_same 909 dL_law_363 (by decide) ?_
        refine r_iinc (L2 := [_, _, _, _]) dL_law_909 (nlt rfl) rfl rfl ?_
        refine r_goto 18 dL_law_912 (by decide) ?_
        exact ih _ _ _ _ _ _ _ _ _ (z + 6) (by omega) (by omega) (by omega) hI360 hN360
      · refine r_tabIn (off := 335) 368 dL_law_33 ⟨by omega, by omega⟩ (by omega) (by omega) (by rw [hs_33]; rfl) (by decide) ?_
        refine r_aload_n dL_law_368 rfl rfl ?_
        refine r_aload_n dL_law_369 rfl rfl ?_
        refine r_iload_n dL_law_370 rfl rfl ?_
        refine r_iconst (z := 1) dL_law_371 ?_
        refine r_iadd dL_law_372 ?_
        refine r_sldi hX dL_law_373 (by omega) (by omega) (by omega) ?_
        refine r_aload_n dL_law_374 rfl rfl ?_
        refine r_iload_n dL_law_375 rfl rfl ?_
        refine r_iconst (z := 2) dL_law_376 ?_
        refine r_iadd dL_law_377 ?_
        refine r_sldi hX dL_law_378 (by omega) (by omega) (by omega) ?_
        refine r_aload_n dL_law_379 rfl rfl ?_
        refine r_iload_n dL_law_380 rfl rfl ?_
        refine r_iconst (z := 3) dL_law_381 ?_
        refine r_iadd dL_law_382 ?_
        refine r_sldi hX dL_law_383 (by omega) (by omega) (by omega) ?_
        refine r_callV (av := [.int (iZ (((xs (z + 1).toNat).toInt))), .int (iZ (((xs (z + 2).toNat).toInt))), .int (iZ (((xs (z + 3).toNat).toInt)))]) dL_law_384 lkX10_round ml_L_48 imX10_round seX10_round (by omega) (rfl : vwCl[10]? = _) ⟨_, hC.ob⟩ ⟨Nat.le_of_ble_eq_true rfl, Nat.le_of_ble_eq_true rfl⟩ rfl rfl (nle rfl) ⟨Nat.le_of_ble_eq_true rfl, Nat.le_of_ble_eq_true rfl⟩ (c_X10_round hC (by decide) (x32 _) (x32 _) (x32 _) (fun r384 h_384  hs384 hI384 ho384 => ?_))
        have hN384 := hM.cg (OUT.md ho384)
        show G _ _ _ _ _ _ _ 387 _ _ _
        refine r_aload_n dL_law_387 rfl rfl ?_
        refine r_aload_n dL_law_388 rfl rfl ?_
        refine r_iload_n dL_law_389 rfl rfl ?_
        refine r_iconst (z := 1) dL_law_390 ?_
        refine r_iadd dL_law_391 ?_
        refine r_sldi hX dL_law_392 (by omega) (by omega) (by omega) ?_
        refine r_aload_n dL_law_393 rfl rfl ?_
        refine r_iload_n dL_law_394 rfl rfl ?_
        refine r_iconst (z := 2) dL_law_395 ?_
        refine r_iadd dL_law_396 ?_
        refine r_sldi hX dL_law_397 (by omega) (by omega) (by omega) ?_
        refine r_aload_n dL_law_398 rfl rfl ?_
        refine r_iload_n dL_law_399 rfl rfl ?_
        refine r_iconst (z := 3) dL_law_400 ?_
        refine r_iadd dL_law_401 ?_
        refine r_sldi hX dL_law_402 (by omega) (by omega) (by omega) ?_
        refine r_callV (av := [.int (iZ (((xs (z + 1).toNat).toInt))), .int (iZ (((xs (z + 2).toNat).toInt))), .int (iZ (((xs (z + 3).toNat).toInt)))]) dL_law_403 lkX11_round ml_L_51 imX11_round seX11_round (by omega) (rfl : vwCl[11]? = _) ⟨_, (hN384.ob).choose_spec⟩ ⟨Nat.le_of_ble_eq_true rfl, Nat.le_of_ble_eq_true rfl⟩ rfl rfl (nle rfl) ⟨Nat.le_of_ble_eq_true rfl, Nat.le_of_ble_eq_true rfl⟩ (c_X11_round hN384 (by decide) (x32 _) (x32 _) (x32 _) (fun r403 h_403  hs403 hN403 ho403 => ?_))
        obtain rfl := hs384.one hs403
        have hI403 := hI384.cg (OUTM.ci ho403)
        show G _ _ _ _ _ _ _ 406 _ _ _
        refine r_icmp_same 909 dL_law_406 (by decide) ?_
        refine r_iinc (L2 := [_, _, _, _]) dL_law_909 (nlt rfl) rfl rfl ?_
        refine r_goto 18 dL_law_912 (by decide) ?_
        exact ih _ _ _ _ _ _ _ _ _ (z + 6) (by omega) (by omega) (by omega) hI403 hN403
      · refine r_tabIn (off := 378) 411 dL_law_33 ⟨by omega, by omega⟩ (by omega) (by omega) (by rw [hs_33]; rfl) (by decide) ?_
        refine r_aload_n dL_law_411 rfl rfl ?_
        refine r_aload_n dL_law_412 rfl rfl ?_
        refine r_iload_n dL_law_413 rfl rfl ?_
        refine r_iconst (z := 1) dL_law_414 ?_
        refine r_iadd dL_law_415 ?_
        refine r_sldi hX dL_law_416 (by omega) (by omega) (by omega) ?_
        refine r_aload_n dL_law_417 rfl rfl ?_
        refine r_iload_n dL_law_418 rfl rfl ?_
        refine r_iconst (z := 2) dL_law_419 ?_
        refine r_iadd dL_law_420 ?_
        refine r_sldi hX dL_law_421 (by omega) (by omega) (by omega) ?_
        refine r_aload_n dL_law_422 rfl rfl ?_
        refine r_iload_n dL_law_423 rfl rfl ?_
        refine r_iconst (z := 3) dL_law_424 ?_
        refine r_iadd dL_law_425 ?_
        refine r_sldi hX dL_law_426 (by omega) (by omega) (by omega) ?_
        refine r_callV (av := [.int (iZ (((xs (z + 1).toNat).toInt))), .int (iZ (((xs (z + 2).toNat).toInt))), .int (iZ (((xs (z + 3).toNat).toInt)))]) dL_law_427 lkX10_first ml_L_52 imX10_first seX10_first (by omega) (rfl : vwCl[10]? = _) ⟨_, hC.ob⟩ ⟨Nat.le_of_ble_eq_true rfl, Nat.le_of_ble_eq_true rfl⟩ rfl rfl (nle rfl) ⟨Nat.le_of_ble_eq_true rfl, Nat.le_of_ble_eq_true rfl⟩ (c_X10_first hC (by decide) (x32 _) (x32 _) (x32 _) (fun r427 h_427  hs427 hI427 ho427 => ?_))
        have hN427 := hM.cg (OUT.md ho427)
        show G _ _ _ _ _ _ _ 430 _ _ _
        refine r_aload_n dL_law_430 rfl rfl ?_
        refine r_aload_n dL_law_431 rfl rfl ?_
        refine r_iload_n dL_law_432 rfl rfl ?_
        refine r_iconst (z := 1) dL_law_433 ?_
        refine r_iadd dL_law_434 ?_
        refine r_sldi hX dL_law_435 (by omega) (by omega) (by omega) ?_
        refine r_aload_n dL_law_436 rfl rfl ?_
        refine r_iload_n dL_law_437 rfl rfl ?_
        refine r_iconst (z := 2) dL_law_438 ?_
        refine r_iadd dL_law_439 ?_
        refine r_sldi hX dL_law_440 (by omega) (by omega) (by omega) ?_
        refine r_aload_n dL_law_441 rfl rfl ?_
        refine r_iload_n dL_law_442 rfl rfl ?_
        refine r_iconst (z := 3) dL_law_443 ?_
        refine r_iadd dL_law_444 ?_
        refine r_sldi hX dL_law_445 (by omega) (by omega) (by omega) ?_
        refine r_callV (av := [.int (iZ (((xs (z + 1).toNat).toInt))), .int (iZ (((xs (z + 2).toNat).toInt))), .int (iZ (((xs (z + 3).toNat).toInt)))]) dL_law_446 lkX11_first ml_L_55 imX11_first seX11_first (by omega) (rfl : vwCl[11]? = _) ⟨_, (hN427.ob).choose_spec⟩ ⟨Nat.le_of_ble_eq_true rfl, Nat.le_of_ble_eq_true rfl⟩ rfl rfl (nle rfl) ⟨Nat.le_of_ble_eq_true rfl, Nat.le_of_ble_eq_true rfl⟩ (c_X11_first hN427 (by decide) (x32 _) (x32 _) (x32 _) (fun r446 h_446  hs446 hN446 ho446 => ?_))
        obtain rfl := hs427.one hs446
        have hI446 := hI427.cg (OUTM.ci ho446)
        show G _ _ _ _ _ _ _ 449 _ _ _
        refine r_icmp_same 909 dL_law_449 (by decide) ?_
        refine r_iinc (L2 := [_, _, _, _]) dL_law_909 (nlt rfl) rfl rfl ?_
        refine r_goto 18 dL_law_912 (by decide) ?_
        exact ih _ _ _ _ _ _ _ _ _ (z + 6) (by omega) (by omega) (by omega) hI446 hN446
      · refine r_tabIn (off := 421) 454 dL_law_33 ⟨by omega, by omega⟩ (by omega) (by omega) (by rw [hs_33]; rfl) (by decide) ?_
        refine r_aload_n dL_law_454 rfl rfl ?_
        refine r_aload_n dL_law_455 rfl rfl ?_
        refine r_iload_n dL_law_456 rfl rfl ?_
        refine r_iconst (z := 1) dL_law_457 ?_
        refine r_iadd dL_law_458 ?_
        refine r_sldi hX dL_law_459 (by omega) (by omega) (by omega) ?_
        refine r_aload_n dL_law_460 rfl rfl ?_
        refine r_iload_n dL_law_461 rfl rfl ?_
        refine r_iconst (z := 2) dL_law_462 ?_
        refine r_iadd dL_law_463 ?_
        refine r_sldi hX dL_law_464 (by omega) (by omega) (by omega) ?_
        refine r_aload_n dL_law_465 rfl rfl ?_
        refine r_iload_n dL_law_466 rfl rfl ?_
        refine r_iconst (z := 3) dL_law_467 ?_
        refine r_iadd dL_law_468 ?_
        refine r_sldi hX dL_law_469 (by omega) (by omega) (by omega) ?_
        refine r_callV (av := [.int (iZ (((xs (z + 1).toNat).toInt))), .int (iZ (((xs (z + 2).toNat).toInt))), .int (iZ (((xs (z + 3).toNat).toInt)))]) dL_law_470 lkX10_back ml_L_56 imX10_back seX10_back (by omega) (rfl : vwCl[10]? = _) ⟨_, hC.ob⟩ ⟨Nat.le_of_ble_eq_true rfl, Nat.le_of_ble_eq_true rfl⟩ rfl rfl (nle rfl) ⟨Nat.le_of_ble_eq_true rfl, Nat.le_of_ble_eq_true rfl⟩ (c_X10_back hC (by decide) (x32 _) (x32 _) (x32 _) (fun r470 h_470  hs470 hI470 ho470 => ?_))
        have hN470 := hM.cg (OUT.md ho470)
        show G _ _ _ _ _ _ _ 473 _ _ _
        refine r_aload_n dL_law_473 rfl rfl ?_
        refine r_aload_n dL_law_474 rfl rfl ?_
        refine r_iload_n dL_law_475 rfl rfl ?_
        refine r_iconst (z := 1) dL_law_476 ?_
        refine r_iadd dL_law_477 ?_
        refine r_sldi hX dL_law_478 (by omega) (by omega) (by omega) ?_
        refine r_aload_n dL_law_479 rfl rfl ?_
        refine r_iload_n dL_law_480 rfl rfl ?_
        refine r_iconst (z := 2) dL_law_481 ?_
        refine r_iadd dL_law_482 ?_
        refine r_sldi hX dL_law_483 (by omega) (by omega) (by omega) ?_
        refine r_aload_n dL_law_484 rfl rfl ?_
        refine r_iload_n dL_law_485 rfl rfl ?_
        refine r_iconst (z := 3) dL_law_486 ?_
        refine r_iadd dL_law_487 ?_
        refine r_sldi hX dL_law_488 (by omega) (by omega) (by omega) ?_
        refine r_callV (av := [.int (iZ (((xs (z + 1).toNat).toInt))), .int (iZ (((xs (z + 2).toNat).toInt))), .int (iZ (((xs (z + 3).toNat).toInt)))]) dL_law_489 lkX11_back ml_L_59 imX11_back seX11_back (by omega) (rfl : vwCl[11]? = _) ⟨_, (hN470.ob).choose_spec⟩ ⟨Nat.le_of_ble_eq_true rfl, Nat.le_of_ble_eq_true rfl⟩ rfl rfl (nle rfl) ⟨Nat.le_of_ble_eq_true rfl, Nat.le_of_ble_eq_true rfl⟩ (c_X11_back hN470 (by decide) (x32 _) (x32 _) (x32 _) (fun r489 h_489  hs489 hN489 ho489 => ?_))
        obtain rfl := hs470.one hs489
        have hI489 := hI470.cg (OUTM.ci ho489)
        show G _ _ _ _ _ _ _ 492 _ _ _
        refine r_icmp_same 909 dL_law_492 (by decide) ?_
        refine r_iinc (L2 := [_, _, _, _]) dL_law_909 (nlt rfl) rfl rfl ?_
        refine r_goto 18 dL_law_912 (by decide) ?_
        exact ih _ _ _ _ _ _ _ _ _ (z + 6) (by omega) (by omega) (by omega) hI489 hN489
      · refine r_tabIn (off := 464) 497 dL_law_33 ⟨by omega, by omega⟩ (by omega) (by omega) (by rw [hs_33]; rfl) (by decide) ?_
        refine r_aload_n dL_law_497 rfl rfl ?_
        refine r_aload_n dL_law_498 rfl rfl ?_
        refine r_iload_n dL_law_499 rfl rfl ?_
        refine r_iconst (z := 1) dL_law_500 ?_
        refine r_iadd dL_law_501 ?_
        refine r_sldi hX dL_law_502 (by omega) (by omega) (by omega) ?_
        refine r_aload_n dL_law_503 rfl rfl ?_
        refine r_iload_n dL_law_504 rfl rfl ?_
        refine r_iconst (z := 2) dL_law_505 ?_
        refine r_iadd dL_law_506 ?_
        refine r_sldi hX dL_law_507 (by omega) (by omega) (by omega) ?_
        refine r_aload_n dL_law_508 rfl rfl ?_
        refine r_iload_n dL_law_509 rfl rfl ?_
        refine r_iconst (z := 3) dL_law_510 ?_
        refine r_iadd dL_law_511 ?_
        refine r_sldi hX dL_law_512 (by omega) (by omega) (by omega) ?_
        refine r_callV (av := [.int (iZ (((xs (z + 1).toNat).toInt))), .int (iZ (((xs (z + 2).toNat).toInt))), .int (iZ (((xs (z + 3).toNat).toInt)))]) dL_law_513 lkX10_roots ml_L_60 imX10_roots seX10_roots (by omega) (rfl : vwCl[10]? = _) ⟨_, hC.ob⟩ ⟨Nat.le_of_ble_eq_true rfl, Nat.le_of_ble_eq_true rfl⟩ rfl rfl (nle rfl) ⟨Nat.le_of_ble_eq_true rfl, Nat.le_of_ble_eq_true rfl⟩ (c_X10_roots hC (by decide) (x32 _) (x32 _) (x32 _) (fun r513 h_513  hs513 hI513 ho513 => ?_))
        have hN513 := hM.cg (OUT.md ho513)
        show G _ _ _ _ _ _ _ 516 _ _ _
        refine r_aload_n dL_law_516 rfl rfl ?_
        refine r_aload_n dL_law_517 rfl rfl ?_
        refine r_iload_n dL_law_518 rfl rfl ?_
        refine r_iconst (z := 1) dL_law_519 ?_
        refine r_iadd dL_law_520 ?_
        refine r_sldi hX dL_law_521 (by omega) (by omega) (by omega) ?_
        refine r_aload_n dL_law_522 rfl rfl ?_
        refine r_iload_n dL_law_523 rfl rfl ?_
        refine r_iconst (z := 2) dL_law_524 ?_
        refine r_iadd dL_law_525 ?_
        refine r_sldi hX dL_law_526 (by omega) (by omega) (by omega) ?_
        refine r_aload_n dL_law_527 rfl rfl ?_
        refine r_iload_n dL_law_528 rfl rfl ?_
        refine r_iconst (z := 3) dL_law_529 ?_
        refine r_iadd dL_law_530 ?_
        refine r_sldi hX dL_law_531 (by omega) (by omega) (by omega) ?_
        refine r_callV (av := [.int (iZ (((xs (z + 1).toNat).toInt))), .int (iZ (((xs (z + 2).toNat).toInt))), .int (iZ (((xs (z + 3).toNat).toInt)))]) dL_law_532 lkX11_roots ml_L_63 imX11_roots seX11_roots (by omega) (rfl : vwCl[11]? = _) ⟨_, (hN513.ob).choose_spec⟩ ⟨Nat.le_of_ble_eq_true rfl, Nat.le_of_ble_eq_true rfl⟩ rfl rfl (nle rfl) ⟨Nat.le_of_ble_eq_true rfl, Nat.le_of_ble_eq_true rfl⟩ (c_X11_roots hN513 (by decide) (x32 _) (x32 _) (x32 _) (fun r532 h_532  hs532 hN532 ho532 => ?_))
        obtain rfl := hs513.one hs532
        have hI532 := hI513.cg (OUTM.ci ho532)
        show G _ _ _ _ _ _ _ 535 _ _ _
        refine r_icmp_same 909 dL_law_535 (by decide) ?_
        refine r_iinc (L2 := [_, _, _, _]) dL_law_909 (nlt rfl) rfl rfl ?_
        refine r_goto 18 dL_law_912 (by decide) ?_
        exact ih _ _ _ _ _ _ _ _ _ (z + 6) (by omega) (by omega) (by omega) hI532 hN532
      · refine r_tabIn (off := 507) 540 dL_law_33 ⟨by omega, by omega⟩ (by omega) (by omega) (by rw [hs_33]; rfl) (by decide) ?_
        refine r_aload_n dL_law_540 rfl rfl ?_
        refine r_aload_n dL_law_541 rfl rfl ?_
        refine r_iload_n dL_law_542 rfl rfl ?_
        refine r_iconst (z := 1) dL_law_543 ?_
        refine r_iadd dL_law_544 ?_
        refine r_sldi hX dL_law_545 (by omega) (by omega) (by omega) ?_
        refine r_aload_n dL_law_546 rfl rfl ?_
        refine r_iload_n dL_law_547 rfl rfl ?_
        refine r_iconst (z := 2) dL_law_548 ?_
        refine r_iadd dL_law_549 ?_
        refine r_sldi hX dL_law_550 (by omega) (by omega) (by omega) ?_
        refine r_aload_n dL_law_551 rfl rfl ?_
        refine r_iload_n dL_law_552 rfl rfl ?_
        refine r_iconst (z := 3) dL_law_553 ?_
        refine r_iadd dL_law_554 ?_
        refine r_sldi hX dL_law_555 (by omega) (by omega) (by omega) ?_
        refine r_callV (av := [.int (iZ (((xs (z + 1).toNat).toInt))), .int (iZ (((xs (z + 2).toNat).toInt))), .int (iZ (((xs (z + 3).toNat).toInt)))]) dL_law_556 lkX10_longest ml_L_64 imX10_longest seX10_longest (by omega) (rfl : vwCl[10]? = _) ⟨_, hC.ob⟩ ⟨Nat.le_of_ble_eq_true rfl, Nat.le_of_ble_eq_true rfl⟩ rfl rfl (nle rfl) ⟨Nat.le_of_ble_eq_true rfl, Nat.le_of_ble_eq_true rfl⟩ (c_X10_longest hC (by decide) (x32 _) (x32 _) (x32 _) (fun r556 h_556  hs556 hI556 ho556 => ?_))
        have hN556 := hM.cg (OUT.md ho556)
        show G _ _ _ _ _ _ _ 559 _ _ _
        refine r_aload_n dL_law_559 rfl rfl ?_
        refine r_aload_n dL_law_560 rfl rfl ?_
        refine r_iload_n dL_law_561 rfl rfl ?_
        refine r_iconst (z := 1) dL_law_562 ?_
        refine r_iadd dL_law_563 ?_
        refine r_sldi hX dL_law_564 (by omega) (by omega) (by omega) ?_
        refine r_aload_n dL_law_565 rfl rfl ?_
        refine r_iload_n dL_law_566 rfl rfl ?_
        refine r_iconst (z := 2) dL_law_567 ?_
        refine r_iadd dL_law_568 ?_
        refine r_sldi hX dL_law_569 (by omega) (by omega) (by omega) ?_
        refine r_aload_n dL_law_570 rfl rfl ?_
        refine r_iload_n dL_law_571 rfl rfl ?_
        refine r_iconst (z := 3) dL_law_572 ?_
        refine r_iadd dL_law_573 ?_
        refine r_sldi hX dL_law_574 (by omega) (by omega) (by omega) ?_
        refine r_callV (av := [.int (iZ (((xs (z + 1).toNat).toInt))), .int (iZ (((xs (z + 2).toNat).toInt))), .int (iZ (((xs (z + 3).toNat).toInt)))]) dL_law_575 lkX11_longest ml_L_67 imX11_longest seX11_longest (by omega) (rfl : vwCl[11]? = _) ⟨_, (hN556.ob).choose_spec⟩ ⟨Nat.le_of_ble_eq_true rfl, Nat.le_of_ble_eq_true rfl⟩ rfl rfl (nle rfl) ⟨Nat.le_of_ble_eq_true rfl, Nat.le_of_ble_eq_true rfl⟩ (c_X11_longest hN556 (by decide) (x32 _) (x32 _) (x32 _) (fun r575 h_575  hs575 hN575 ho575 => ?_))
        obtain rfl := hs556.one hs575
        have hI575 := hI556.cg (OUTM.ci ho575)
        show G _ _ _ _ _ _ _ 578 _ _ _
        refine r_icmp_same 909 dL_law_578 (by decide) ?_
        refine r_iinc (L2 := [_, _, _, _]) dL_law_909 (nlt rfl) rfl rfl ?_
        refine r_goto 18 dL_law_912 (by decide) ?_
        exact ih _ _ _ _ _ _ _ _ _ (z + 6) (by omega) (by omega) (by omega) hI575 hN575
      · refine r_tabIn (off := 550) 583 dL_law_33 ⟨by omega, by omega⟩ (by omega) (by omega) (by rw [hs_33]; rfl) (by decide) ?_
        refine r_aload_n dL_law_583 rfl rfl ?_
        refine r_aload_n dL_law_584 rfl rfl ?_
        refine r_iload_n dL_law_585 rfl rfl ?_
        refine r_iconst (z := 1) dL_law_586 ?_
        refine r_iadd dL_law_587 ?_
        refine r_sldi hX dL_law_588 (by omega) (by omega) (by omega) ?_
        refine r_callV (av := [.int (iZ (((xs (z + 1).toNat).toInt)))]) dL_law_589 lkX10_prime ml_L_68 imX10_prime seX10_prime (by omega) (rfl : vwCl[10]? = _) ⟨_, hC.ob⟩ ⟨Nat.le_of_ble_eq_true rfl, Nat.le_of_ble_eq_true rfl⟩ rfl rfl (nle rfl) ⟨Nat.le_of_ble_eq_true rfl, Nat.le_of_ble_eq_true rfl⟩ (c_X10_prime hC (by decide) (x32 _) (fun r589 h_589 p2_589 z2_589 hs589 hI589 ho589 => ?_))
        have hN589 := hM.cg (OUT.md ho589)
        show G _ _ _ _ _ _ _ 592 _ _ _
        refine r_aload_n dL_law_592 rfl rfl ?_
        refine r_aload_n dL_law_593 rfl rfl ?_
        refine r_iload_n dL_law_594 rfl rfl ?_
        refine r_iconst (z := 1) dL_law_595 ?_
        refine r_iadd dL_law_596 ?_
        refine r_sldi hX dL_law_597 (by omega) (by omega) (by omega) ?_
        refine r_callV (av := [.int (iZ (((xs (z + 1).toNat).toInt)))]) dL_law_598 lkX11_prime ml_L_71 imX11_prime seX11_prime (by omega) (rfl : vwCl[11]? = _) ⟨_, (hN589.ob).choose_spec⟩ ⟨Nat.le_of_ble_eq_true rfl, Nat.le_of_ble_eq_true rfl⟩ rfl rfl (nle rfl) ⟨Nat.le_of_ble_eq_true rfl, Nat.le_of_ble_eq_true rfl⟩ (c_X11_prime hN589 (by decide) (x32 _) (fun r598 h_598 p2_598 z2_598 hs598 hN598 ho598 => ?_))
        obtain ⟨rfl, rfl, rfl⟩ := hs589.one hs598
        have hI598 := hI589.cg (OUTM.ci ho598)
        show G _ _ _ _ _ _ _ 601 _ _ _
        refine r_icmp_same 909 dL_law_601 (by decide) ?_
        refine r_iinc (L2 := [_, _, _, _]) dL_law_909 (nlt rfl) rfl rfl ?_
        refine r_goto 18 dL_law_912 (by decide) ?_
        exact ih _ _ _ _ _ _ _ _ _ (z + 6) (by omega) (by omega) (by omega) hI598 hN598
      · refine r_tabIn (off := 573) 606 dL_law_33 ⟨by omega, by omega⟩ (by omega) (by omega) (by rw [hs_33]; rfl) (by decide) ?_
        refine r_aload_n dL_law_606 rfl rfl ?_
        refine r_aload_n dL_law_607 rfl rfl ?_
        refine r_iload_n dL_law_608 rfl rfl ?_
        refine r_iconst (z := 1) dL_law_609 ?_
        refine r_iadd dL_law_610 ?_
        refine r_sldi hX dL_law_611 (by omega) (by omega) (by omega) ?_
        refine r_callV (av := [.int (iZ (((xs (z + 1).toNat).toInt)))]) dL_law_612 lkX10_add ml_L_72 imX10_add seX10_add (by omega) (rfl : vwCl[10]? = _) ⟨_, hC.ob⟩ ⟨Nat.le_of_ble_eq_true rfl, Nat.le_of_ble_eq_true rfl⟩ rfl rfl (nle rfl) ⟨Nat.le_of_ble_eq_true rfl, Nat.le_of_ble_eq_true rfl⟩ (c_X10_add hC (by decide) (x32 _) (fun r612 h_612 v2_612 z2_612 hs612 hI612 ho612 => ?_))
        have hN612 := hM.cg (OUT.md ho612)
        show G _ _ _ _ _ _ _ 615 _ _ _
        refine r_aload_n dL_law_615 rfl rfl ?_
        refine r_aload_n dL_law_616 rfl rfl ?_
        refine r_iload_n dL_law_617 rfl rfl ?_
        refine r_iconst (z := 1) dL_law_618 ?_
        refine r_iadd dL_law_619 ?_
        refine r_sldi hX dL_law_620 (by omega) (by omega) (by omega) ?_
        refine r_callV (av := [.int (iZ (((xs (z + 1).toNat).toInt)))]) dL_law_621 lkX11_add ml_L_75 imX11_add seX11_add (by omega) (rfl : vwCl[11]? = _) ⟨_, (hN612.ob).choose_spec⟩ ⟨Nat.le_of_ble_eq_true rfl, Nat.le_of_ble_eq_true rfl⟩ rfl rfl (nle rfl) ⟨Nat.le_of_ble_eq_true rfl, Nat.le_of_ble_eq_true rfl⟩ (c_X11_add hN612 (by decide) (x32 _) (fun r621 h_621 v2_621 z2_621 hs621 hN621 ho621 => ?_))
        obtain ⟨rfl, rfl, rfl⟩ := hs612.one hs621
        have hI621 := hI612.cg (OUTM.ci ho621)
        show G _ _ _ _ _ _ _ 624 _ _ _
        refine r_icmp_same 909 dL_law_624 (by decide) ?_
        refine r_iinc (L2 := [_, _, _, _]) dL_law_909 (nlt rfl) rfl rfl ?_
        refine r_goto 18 dL_law_912 (by decide) ?_
        exact ih _ _ _ _ _ _ _ _ _ (z + 6) (by omega) (by omega) (by omega) hI621 hN621
      · refine r_tabIn (off := 596) 629 dL_law_33 ⟨by omega, by omega⟩ (by omega) (by omega) (by rw [hs_33]; rfl) (by decide) ?_
        refine r_aload_n dL_law_629 rfl rfl ?_
        refine r_aload_n dL_law_630 rfl rfl ?_
        refine r_iload_n dL_law_631 rfl rfl ?_
        refine r_iconst (z := 1) dL_law_632 ?_
        refine r_iadd dL_law_633 ?_
        refine r_sldi hX dL_law_634 (by omega) (by omega) (by omega) ?_
        refine r_callV (av := [.int (iZ (((xs (z + 1).toNat).toInt)))]) dL_law_635 lkX10_least ml_L_76 imX10_least seX10_least (by omega) (rfl : vwCl[10]? = _) ⟨_, hC.ob⟩ ⟨Nat.le_of_ble_eq_true rfl, Nat.le_of_ble_eq_true rfl⟩ rfl rfl (nle rfl) ⟨Nat.le_of_ble_eq_true rfl, Nat.le_of_ble_eq_true rfl⟩ (c_X10_least hC (by decide) (x32 _) (fun r635 h_635  hs635 hI635 ho635 => ?_))
        have hN635 := hM.cg (OUT.md ho635)
        show G _ _ _ _ _ _ _ 638 _ _ _
        refine r_aload_n dL_law_638 rfl rfl ?_
        refine r_aload_n dL_law_639 rfl rfl ?_
        refine r_iload_n dL_law_640 rfl rfl ?_
        refine r_iconst (z := 1) dL_law_641 ?_
        refine r_iadd dL_law_642 ?_
        refine r_sldi hX dL_law_643 (by omega) (by omega) (by omega) ?_
        refine r_callV (av := [.int (iZ (((xs (z + 1).toNat).toInt)))]) dL_law_644 lkX11_least ml_L_79 imX11_least seX11_least (by omega) (rfl : vwCl[11]? = _) ⟨_, (hN635.ob).choose_spec⟩ ⟨Nat.le_of_ble_eq_true rfl, Nat.le_of_ble_eq_true rfl⟩ rfl rfl (nle rfl) ⟨Nat.le_of_ble_eq_true rfl, Nat.le_of_ble_eq_true rfl⟩ (c_X11_least hN635 (by decide) (x32 _) (fun r644 h_644  hs644 hN644 ho644 => ?_))
        obtain rfl := hs635.one hs644
        have hI644 := hI635.cg (OUTM.ci ho644)
        show G _ _ _ _ _ _ _ 647 _ _ _
        refine r_icmp_same 909 dL_law_647 (by decide) ?_
        refine r_iinc (L2 := [_, _, _, _]) dL_law_909 (nlt rfl) rfl rfl ?_
        refine r_goto 18 dL_law_912 (by decide) ?_
        exact ih _ _ _ _ _ _ _ _ _ (z + 6) (by omega) (by omega) (by omega) hI644 hN644
      · refine r_tabIn (off := 619) 652 dL_law_33 ⟨by omega, by omega⟩ (by omega) (by omega) (by rw [hs_33]; rfl) (by decide) ?_
        refine r_aload_n dL_law_652 rfl rfl ?_
        refine r_aload_n dL_law_653 rfl rfl ?_
        refine r_iload_n dL_law_654 rfl rfl ?_
        refine r_iconst (z := 1) dL_law_655 ?_
        refine r_iadd dL_law_656 ?_
        refine r_sldi hX dL_law_657 (by omega) (by omega) (by omega) ?_
        refine r_callV (av := [.int (iZ (((xs (z + 1).toNat).toInt)))]) dL_law_658 lkX10_breaks ml_L_80 imX10_breaks seX10_breaks (by omega) (rfl : vwCl[10]? = _) ⟨_, hC.ob⟩ ⟨Nat.le_of_ble_eq_true rfl, Nat.le_of_ble_eq_true rfl⟩ rfl rfl (nle rfl) ⟨Nat.le_of_ble_eq_true rfl, Nat.le_of_ble_eq_true rfl⟩ (c_X10_breaks hC (by decide) (x32 _) (fun r658 h_658  hs658 hI658 ho658 => ?_))
        have hN658 := hM.cg (OUT.md ho658)
        show G _ _ _ _ _ _ _ 661 _ _ _
        refine r_aload_n dL_law_661 rfl rfl ?_
        refine r_aload_n dL_law_662 rfl rfl ?_
        refine r_iload_n dL_law_663 rfl rfl ?_
        refine r_iconst (z := 1) dL_law_664 ?_
        refine r_iadd dL_law_665 ?_
        refine r_sldi hX dL_law_666 (by omega) (by omega) (by omega) ?_
        refine r_callV (av := [.int (iZ (((xs (z + 1).toNat).toInt)))]) dL_law_667 lkX11_breaks ml_L_83 imX11_breaks seX11_breaks (by omega) (rfl : vwCl[11]? = _) ⟨_, (hN658.ob).choose_spec⟩ ⟨Nat.le_of_ble_eq_true rfl, Nat.le_of_ble_eq_true rfl⟩ rfl rfl (nle rfl) ⟨Nat.le_of_ble_eq_true rfl, Nat.le_of_ble_eq_true rfl⟩ (c_X11_breaks hN658 (by decide) (x32 _) (fun r667 h_667  hs667 hN667 ho667 => ?_))
        obtain rfl := hs658.one hs667
        have hI667 := hI658.cg (OUTM.ci ho667)
        show G _ _ _ _ _ _ _ 670 _ _ _
        refine r_icmp_same 909 dL_law_670 (by decide) ?_
        refine r_iinc (L2 := [_, _, _, _]) dL_law_909 (nlt rfl) rfl rfl ?_
        refine r_goto 18 dL_law_912 (by decide) ?_
        exact ih _ _ _ _ _ _ _ _ _ (z + 6) (by omega) (by omega) (by omega) hI667 hN667
      · refine r_tabIn (off := 642) 675 dL_law_33 ⟨by omega, by omega⟩ (by omega) (by omega) (by rw [hs_33]; rfl) (by decide) ?_
        refine r_aload_n dL_law_675 rfl rfl ?_
        refine r_callV (av := []) dL_law_676 lkX10_next ml_L_84 imX10_next seX10_next (by omega) (rfl : vwCl[10]? = _) ⟨_, hC.ob⟩ ⟨Nat.le_of_ble_eq_true rfl, Nat.le_of_ble_eq_true rfl⟩ rfl rfl (nle rfl) ⟨Nat.le_of_ble_eq_true rfl, Nat.le_of_ble_eq_true rfl⟩ (c_X10_next hC (by decide)  (fun r676 h_676  hs676 hI676 ho676 => ?_))
        have hN676 := hM.cg (OUT.md ho676)
        show G _ _ _ _ _ _ _ 679 _ _ _
        refine r_aload_n dL_law_679 rfl rfl ?_
        refine r_callV (av := []) dL_law_680 lkX11_next ml_L_87 imX11_next seX11_next (by omega) (rfl : vwCl[11]? = _) ⟨_, (hN676.ob).choose_spec⟩ ⟨Nat.le_of_ble_eq_true rfl, Nat.le_of_ble_eq_true rfl⟩ rfl rfl (nle rfl) ⟨Nat.le_of_ble_eq_true rfl, Nat.le_of_ble_eq_true rfl⟩ (c_X11_next hN676 (by decide)  (fun r680 h_680  hs680 hN680 ho680 => ?_))
        obtain rfl := hs676.one hs680
        have hI680 := hI676.cg (OUTM.ci ho680)
        show G _ _ _ _ _ _ _ 683 _ _ _
        refine r_icmp_same 909 dL_law_683 (by decide) ?_
        refine r_iinc (L2 := [_, _, _, _]) dL_law_909 (nlt rfl) rfl rfl ?_
        refine r_goto 18 dL_law_912 (by decide) ?_
        exact ih _ _ _ _ _ _ _ _ _ (z + 6) (by omega) (by omega) (by omega) hI680 hN680
      · refine r_tabIn (off := 655) 688 dL_law_33 ⟨by omega, by omega⟩ (by omega) (by omega) (by rw [hs_33]; rfl) (by decide) ?_
        refine r_aload_n dL_law_688 rfl rfl ?_
        refine r_aload_n dL_law_689 rfl rfl ?_
        refine r_iload_n dL_law_690 rfl rfl ?_
        refine r_iconst (z := 1) dL_law_691 ?_
        refine r_iadd dL_law_692 ?_
        refine r_sldi hX dL_law_693 (by omega) (by omega) (by omega) ?_
        refine r_aload_n dL_law_694 rfl rfl ?_
        refine r_iload_n dL_law_695 rfl rfl ?_
        refine r_iconst (z := 2) dL_law_696 ?_
        refine r_iadd dL_law_697 ?_
        refine r_sldi hX dL_law_698 (by omega) (by omega) (by omega) ?_
        refine r_aload_n dL_law_699 rfl rfl ?_
        refine r_iload_n dL_law_700 rfl rfl ?_
        refine r_iconst (z := 3) dL_law_701 ?_
        refine r_iadd dL_law_702 ?_
        refine r_sldi hX dL_law_703 (by omega) (by omega) (by omega) ?_
        refine r_aload_n dL_law_704 rfl rfl ?_
        refine r_iload_n dL_law_705 rfl rfl ?_
        refine r_iconst (z := 4) dL_law_706 ?_
        refine r_iadd dL_law_707 ?_
        refine r_sldi hX dL_law_708 (by omega) (by omega) (by omega) ?_
        refine r_aload_n dL_law_709 rfl rfl ?_
        refine r_iload_n dL_law_710 rfl rfl ?_
        refine r_iconst (z := 5) dL_law_711 ?_
        refine r_iadd dL_law_712 ?_
        refine r_sldi hX dL_law_713 (by omega) (by omega) (by omega) ?_
        refine r_callV (av := [.int (iZ (((xs (z + 1).toNat).toInt))), .int (iZ (((xs (z + 2).toNat).toInt))), .int (iZ (((xs (z + 3).toNat).toInt))), .int (iZ (((xs (z + 4).toNat).toInt))), .int (iZ (((xs (z + 5).toNat).toInt)))]) dL_law_714 lkX10_make ml_L_88 imX10_make seX10_make (by omega) (rfl : vwCl[10]? = _) ⟨_, hC.ob⟩ ⟨Nat.le_of_ble_eq_true rfl, Nat.le_of_ble_eq_true rfl⟩ rfl rfl (nle rfl) ⟨Nat.le_of_ble_eq_true rfl, Nat.le_of_ble_eq_true rfl⟩ (c_X10_make hC (by decide) (x32 _) (x32 _) (x32 _) (x32 _) (x32 _) (fun r714 h_714 K2_714 C2_714 S2_714 hs714 hI714 ho714 => ?_))
        have hN714 := hM.cg (OUT.md ho714)
        show G _ _ _ _ _ _ _ 717 _ _ _
        refine r_aload_n dL_law_717 rfl rfl ?_
        refine r_aload_n dL_law_718 rfl rfl ?_
        refine r_iload_n dL_law_719 rfl rfl ?_
        refine r_iconst (z := 1) dL_law_720 ?_
        refine r_iadd dL_law_721 ?_
        refine r_sldi hX dL_law_722 (by omega) (by omega) (by omega) ?_
        refine r_aload_n dL_law_723 rfl rfl ?_
        refine r_iload_n dL_law_724 rfl rfl ?_
        refine r_iconst (z := 2) dL_law_725 ?_
        refine r_iadd dL_law_726 ?_
        refine r_sldi hX dL_law_727 (by omega) (by omega) (by omega) ?_
        refine r_aload_n dL_law_728 rfl rfl ?_
        refine r_iload_n dL_law_729 rfl rfl ?_
        refine r_iconst (z := 3) dL_law_730 ?_
        refine r_iadd dL_law_731 ?_
        refine r_sldi hX dL_law_732 (by omega) (by omega) (by omega) ?_
        refine r_aload_n dL_law_733 rfl rfl ?_
        refine r_iload_n dL_law_734 rfl rfl ?_
        refine r_iconst (z := 4) dL_law_735 ?_
        refine r_iadd dL_law_736 ?_
        refine r_sldi hX dL_law_737 (by omega) (by omega) (by omega) ?_
        refine r_aload_n dL_law_738 rfl rfl ?_
        refine r_iload_n dL_law_739 rfl rfl ?_
        refine r_iconst (z := 5) dL_law_740 ?_
        refine r_iadd dL_law_741 ?_
        refine r_sldi hX dL_law_742 (by omega) (by omega) (by omega) ?_
        refine r_callV (av := [.int (iZ (((xs (z + 1).toNat).toInt))), .int (iZ (((xs (z + 2).toNat).toInt))), .int (iZ (((xs (z + 3).toNat).toInt))), .int (iZ (((xs (z + 4).toNat).toInt))), .int (iZ (((xs (z + 5).toNat).toInt)))]) dL_law_743 lkX11_make ml_L_92 imX11_make seX11_make (by omega) (rfl : vwCl[11]? = _) ⟨_, (hN714.ob).choose_spec⟩ ⟨Nat.le_of_ble_eq_true rfl, Nat.le_of_ble_eq_true rfl⟩ rfl rfl (nle rfl) ⟨Nat.le_of_ble_eq_true rfl, Nat.le_of_ble_eq_true rfl⟩ (c_X11_make hN714 (by decide) (x32 _) (x32 _) (x32 _) (x32 _) (x32 _) hs714 hI714.RB (fun h_743 hN743 ho743 => ?_))
        have hI743 := hI714.cg (OUTM.ci ho743)
        show G _ _ _ _ _ _ _ 746 _ _ _
        refine r_icmp_same 909 dL_law_746 (by decide) ?_
        refine r_iinc (L2 := [_, _, _, _]) dL_law_909 (nlt rfl) rfl rfl ?_
        refine r_goto 18 dL_law_912 (by decide) ?_
        exact ih _ _ _ _ _ _ _ _ _ (z + 6) (by omega) (by omega) (by omega) hI743 hN743
      · refine r_tabIn (off := 718) 751 dL_law_33 ⟨by omega, by omega⟩ (by omega) (by omega) (by rw [hs_33]; rfl) (by decide) ?_
        refine r_aload_n dL_law_751 rfl rfl ?_
        refine r_aload_n dL_law_752 rfl rfl ?_
        refine r_iload_n dL_law_753 rfl rfl ?_
        refine r_iconst (z := 1) dL_law_754 ?_
        refine r_iadd dL_law_755 ?_
        refine r_sldi hX dL_law_756 (by omega) (by omega) (by omega) ?_
        refine r_aload_n dL_law_757 rfl rfl ?_
        refine r_iload_n dL_law_758 rfl rfl ?_
        refine r_iconst (z := 2) dL_law_759 ?_
        refine r_iadd dL_law_760 ?_
        refine r_sldi hX dL_law_761 (by omega) (by omega) (by omega) ?_
        refine r_callV (av := [.int (iZ (((xs (z + 1).toNat).toInt))), .int (iZ (((xs (z + 2).toNat).toInt)))]) dL_law_762 lkX10_same ml_L_93 imX10_same seX10_same (by omega) (rfl : vwCl[10]? = _) ⟨_, hC.ob⟩ ⟨Nat.le_of_ble_eq_true rfl, Nat.le_of_ble_eq_true rfl⟩ rfl rfl (nle rfl) ⟨Nat.le_of_ble_eq_true rfl, Nat.le_of_ble_eq_true rfl⟩ (c_X10_same hC (by decide) (x32 _) (x32 _) (fun r762 h_762  hs762 hI762 ho762 => ?_))
        have hN762 := hM.cg (OUT.md ho762)
        show G _ _ _ _ _ _ _ 765 _ _ _
        refine r_aload_n dL_law_765 rfl rfl ?_
        refine r_aload_n dL_law_766 rfl rfl ?_
        refine r_iload_n dL_law_767 rfl rfl ?_
        refine r_iconst (z := 1) dL_law_768 ?_
        refine r_iadd dL_law_769 ?_
        refine r_sldi hX dL_law_770 (by omega) (by omega) (by omega) ?_
        refine r_aload_n dL_law_771 rfl rfl ?_
        refine r_iload_n dL_law_772 rfl rfl ?_
        refine r_iconst (z := 2) dL_law_773 ?_
        refine r_iadd dL_law_774 ?_
        refine r_sldi hX dL_law_775 (by omega) (by omega) (by omega) ?_
        refine r_callV (av := [.int (iZ (((xs (z + 1).toNat).toInt))), .int (iZ (((xs (z + 2).toNat).toInt)))]) dL_law_776 lkX11_same ml_L_97 imX11_same seX11_same (by omega) (rfl : vwCl[11]? = _) ⟨_, (hN762.ob).choose_spec⟩ ⟨Nat.le_of_ble_eq_true rfl, Nat.le_of_ble_eq_true rfl⟩ rfl rfl (nle rfl) ⟨Nat.le_of_ble_eq_true rfl, Nat.le_of_ble_eq_true rfl⟩ (c_X11_same hN762 (by decide) (x32 _) (x32 _) (fun r776 h_776  hs776 hN776 ho776 => ?_))
        obtain rfl := hs762.one hs776
        have hI776 := hI762.cg (OUTM.ci ho776)
        show G _ _ _ _ _ _ _ 779 _ _ _
        refine r_icmp_same 909 dL_law_779 (by decide) ?_
        refine r_iinc (L2 := [_, _, _, _]) dL_law_909 (nlt rfl) rfl rfl ?_
        refine r_goto 18 dL_law_912 (by decide) ?_
        exact ih _ _ _ _ _ _ _ _ _ (z + 6) (by omega) (by omega) (by omega) hI776 hN776
      · refine r_tabIn (off := 751) 784 dL_law_33 ⟨by omega, by omega⟩ (by omega) (by omega) (by rw [hs_33]; rfl) (by decide) ?_
        refine r_aload_n dL_law_784 rfl rfl ?_
        refine r_aload_n dL_law_785 rfl rfl ?_
        refine r_iload_n dL_law_786 rfl rfl ?_
        refine r_iconst (z := 1) dL_law_787 ?_
        refine r_iadd dL_law_788 ?_
        refine r_sldi hX dL_law_789 (by omega) (by omega) (by omega) ?_
        refine r_aload_n dL_law_790 rfl rfl ?_
        refine r_iload_n dL_law_791 rfl rfl ?_
        refine r_iconst (z := 2) dL_law_792 ?_
        refine r_iadd dL_law_793 ?_
        refine r_sldi hX dL_law_794 (by omega) (by omega) (by omega) ?_
        refine r_if_eq 802 dL_law_795 (by decide) (x32 _) (fun c_795 => ?_) (fun c_795 => ?_)
        · refine r_iconst (z := 0) dL_law_802 ?_
          refine r_aload_n dL_law_803 rfl rfl ?_
          refine r_iload_n dL_law_804 rfl rfl ?_
          refine r_iconst (z := 3) dL_law_805 ?_
          refine r_iadd dL_law_806 ?_
          refine r_sldi hX dL_law_807 (by omega) (by omega) (by omega) ?_
          refine r_callV (av := [.int (iZ (((xs (z + 1).toNat).toInt))), .int (iZ (0)), .int (iZ (((xs (z + 3).toNat).toInt)))]) dL_law_808 lkX10_dividing ml_L_98 imX10_dividing seX10_dividing (by omega) (rfl : vwCl[10]? = _) ⟨_, hC.ob⟩ ⟨Nat.le_of_ble_eq_true rfl, Nat.le_of_ble_eq_true rfl⟩ rfl rfl (nle rfl) ⟨Nat.le_of_ble_eq_true rfl, Nat.le_of_ble_eq_true rfl⟩ (c_X10_dividing hC (by decide) (x32 _) (Or.inl rfl) (x32 _) (fun r808 h_808  hs808 hI808 ho808 => ?_))
          have hN808 := hM.cg (OUT.md ho808)
          show G _ _ _ _ _ _ _ 811 _ _ _
          refine r_aload_n dL_law_811 rfl rfl ?_
          refine r_aload_n dL_law_812 rfl rfl ?_
          refine r_iload_n dL_law_813 rfl rfl ?_
          refine r_iconst (z := 1) dL_law_814 ?_
          refine r_iadd dL_law_815 ?_
          refine r_sldi hX dL_law_816 (by omega) (by omega) (by omega) ?_
          refine r_aload_n dL_law_817 rfl rfl ?_
          refine r_iload_n dL_law_818 rfl rfl ?_
          refine r_iconst (z := 2) dL_law_819 ?_
          refine r_iadd dL_law_820 ?_
          refine r_sldi hX dL_law_821 (by omega) (by omega) (by omega) ?_
          refine r_if_eq 829 dL_law_822 (by decide) (x32 _) (fun c_822 => ?_) (fun c_822 => by exfalso; omega)
          refine r_iconst (z := 0) dL_law_829 ?_
          refine r_aload_n dL_law_830 rfl rfl ?_
          refine r_iload_n dL_law_831 rfl rfl ?_
          refine r_iconst (z := 3) dL_law_832 ?_
          refine r_iadd dL_law_833 ?_
          refine r_sldi hX dL_law_834 (by omega) (by omega) (by omega) ?_
          refine r_callV (av := [.int (iZ (((xs (z + 1).toNat).toInt))), .int (iZ (0)), .int (iZ (((xs (z + 3).toNat).toInt)))]) dL_law_835 lkX11_dividing ml_L_102 imX11_dividing seX11_dividing (by omega) (rfl : vwCl[11]? = _) ⟨_, (hN808.ob).choose_spec⟩ ⟨Nat.le_of_ble_eq_true rfl, Nat.le_of_ble_eq_true rfl⟩ rfl rfl (nle rfl) ⟨Nat.le_of_ble_eq_true rfl, Nat.le_of_ble_eq_true rfl⟩ (c_X11_dividing hN808 (by decide) (x32 _) (Or.inl rfl) (x32 _) (fun r835 h_835  hs835 hN835 ho835 => ?_))
          obtain rfl := hs808.one hs835
          have hI835 := hI808.cg (OUTM.ci ho835)
          show G _ _ _ _ _ _ _ 838 _ _ _
          refine r_icmp_same 909 dL_law_838 (by decide) ?_
          refine r_iinc (L2 := [_, _, _, _]) dL_law_909 (nlt rfl) rfl rfl ?_
          refine r_goto 18 dL_law_912 (by decide) ?_
          exact ih _ _ _ _ _ _ _ _ _ (z + 6) (by omega) (by omega) (by omega) hI835 hN835
        · refine r_iconst (z := 1) dL_law_798 ?_
          refine r_goto 803 dL_law_799 (by decide) ?_
          refine r_aload_n dL_law_803 rfl rfl ?_
          refine r_iload_n dL_law_804 rfl rfl ?_
          refine r_iconst (z := 3) dL_law_805 ?_
          refine r_iadd dL_law_806 ?_
          refine r_sldi hX dL_law_807 (by omega) (by omega) (by omega) ?_
          refine r_callV (av := [.int (iZ (((xs (z + 1).toNat).toInt))), .int (iZ (1)), .int (iZ (((xs (z + 3).toNat).toInt)))]) dL_law_808 lkX10_dividing ml_L_98 imX10_dividing seX10_dividing (by omega) (rfl : vwCl[10]? = _) ⟨_, hC.ob⟩ ⟨Nat.le_of_ble_eq_true rfl, Nat.le_of_ble_eq_true rfl⟩ rfl rfl (nle rfl) ⟨Nat.le_of_ble_eq_true rfl, Nat.le_of_ble_eq_true rfl⟩ (c_X10_dividing hC (by decide) (x32 _) (Or.inr rfl) (x32 _) (fun r808 h_808  hs808 hI808 ho808 => ?_))
          have hN808 := hM.cg (OUT.md ho808)
          show G _ _ _ _ _ _ _ 811 _ _ _
          refine r_aload_n dL_law_811 rfl rfl ?_
          refine r_aload_n dL_law_812 rfl rfl ?_
          refine r_iload_n dL_law_813 rfl rfl ?_
          refine r_iconst (z := 1) dL_law_814 ?_
          refine r_iadd dL_law_815 ?_
          refine r_sldi hX dL_law_816 (by omega) (by omega) (by omega) ?_
          refine r_aload_n dL_law_817 rfl rfl ?_
          refine r_iload_n dL_law_818 rfl rfl ?_
          refine r_iconst (z := 2) dL_law_819 ?_
          refine r_iadd dL_law_820 ?_
          refine r_sldi hX dL_law_821 (by omega) (by omega) (by omega) ?_
          refine r_if_eq 829 dL_law_822 (by decide) (x32 _) (fun c_822 => by exfalso; omega) (fun c_822 => ?_)
          refine r_iconst (z := 1) dL_law_825 ?_
          refine r_goto 830 dL_law_826 (by decide) ?_
          refine r_aload_n dL_law_830 rfl rfl ?_
          refine r_iload_n dL_law_831 rfl rfl ?_
          refine r_iconst (z := 3) dL_law_832 ?_
          refine r_iadd dL_law_833 ?_
          refine r_sldi hX dL_law_834 (by omega) (by omega) (by omega) ?_
          refine r_callV (av := [.int (iZ (((xs (z + 1).toNat).toInt))), .int (iZ (1)), .int (iZ (((xs (z + 3).toNat).toInt)))]) dL_law_835 lkX11_dividing ml_L_102 imX11_dividing seX11_dividing (by omega) (rfl : vwCl[11]? = _) ⟨_, (hN808.ob).choose_spec⟩ ⟨Nat.le_of_ble_eq_true rfl, Nat.le_of_ble_eq_true rfl⟩ rfl rfl (nle rfl) ⟨Nat.le_of_ble_eq_true rfl, Nat.le_of_ble_eq_true rfl⟩ (c_X11_dividing hN808 (by decide) (x32 _) (Or.inr rfl) (x32 _) (fun r835 h_835  hs835 hN835 ho835 => ?_))
          obtain rfl := hs808.one hs835
          have hI835 := hI808.cg (OUTM.ci ho835)
          show G _ _ _ _ _ _ _ 838 _ _ _
          refine r_icmp_same 909 dL_law_838 (by decide) ?_
          refine r_iinc (L2 := [_, _, _, _]) dL_law_909 (nlt rfl) rfl rfl ?_
          refine r_goto 18 dL_law_912 (by decide) ?_
          exact ih _ _ _ _ _ _ _ _ _ (z + 6) (by omega) (by omega) (by omega) hI835 hN835
      · refine r_tabIn (off := 810) 843 dL_law_33 ⟨by omega, by omega⟩ (by omega) (by omega) (by rw [hs_33]; rfl) (by decide) ?_
        refine r_aload_n dL_law_843 rfl rfl ?_
        refine r_aload_n dL_law_844 rfl rfl ?_
        refine r_iload_n dL_law_845 rfl rfl ?_
        refine r_iconst (z := 1) dL_law_846 ?_
        refine r_iadd dL_law_847 ?_
        refine r_sldi hX dL_law_848 (by omega) (by omega) (by omega) ?_
        refine r_aload_n dL_law_849 rfl rfl ?_
        refine r_iload_n dL_law_850 rfl rfl ?_
        refine r_iconst (z := 2) dL_law_851 ?_
        refine r_iadd dL_law_852 ?_
        refine r_sldi hX dL_law_853 (by omega) (by omega) (by omega) ?_
        refine r_aload_n dL_law_854 rfl rfl ?_
        refine r_iload_n dL_law_855 rfl rfl ?_
        refine r_iconst (z := 3) dL_law_856 ?_
        refine r_iadd dL_law_857 ?_
        refine r_sldi hX dL_law_858 (by omega) (by omega) (by omega) ?_
        refine r_callV (av := [.int (iZ (((xs (z + 1).toNat).toInt))), .int (iZ (((xs (z + 2).toNat).toInt))), .int (iZ (((xs (z + 3).toNat).toInt)))]) dL_law_859 lkX10_parted ml_L_103 imX10_parted seX10_parted (by omega) (rfl : vwCl[10]? = _) ⟨_, hC.ob⟩ ⟨Nat.le_of_ble_eq_true rfl, Nat.le_of_ble_eq_true rfl⟩ rfl rfl (nle rfl) ⟨Nat.le_of_ble_eq_true rfl, Nat.le_of_ble_eq_true rfl⟩ (c_X10_parted hC (by decide) (x32 _) (x32 _) (x32 _) (fun r859 h_859  hs859 hI859 ho859 => ?_))
        have hN859 := hM.cg (OUT.md ho859)
        show G _ _ _ _ _ _ _ 862 _ _ _
        refine r_aload_n dL_law_862 rfl rfl ?_
        refine r_aload_n dL_law_863 rfl rfl ?_
        refine r_iload_n dL_law_864 rfl rfl ?_
        refine r_iconst (z := 1) dL_law_865 ?_
        refine r_iadd dL_law_866 ?_
        refine r_sldi hX dL_law_867 (by omega) (by omega) (by omega) ?_
        refine r_aload_n dL_law_868 rfl rfl ?_
        refine r_iload_n dL_law_869 rfl rfl ?_
        refine r_iconst (z := 2) dL_law_870 ?_
        refine r_iadd dL_law_871 ?_
        refine r_sldi hX dL_law_872 (by omega) (by omega) (by omega) ?_
        refine r_aload_n dL_law_873 rfl rfl ?_
        refine r_iload_n dL_law_874 rfl rfl ?_
        refine r_iconst (z := 3) dL_law_875 ?_
        refine r_iadd dL_law_876 ?_
        refine r_sldi hX dL_law_877 (by omega) (by omega) (by omega) ?_
        refine r_callV (av := [.int (iZ (((xs (z + 1).toNat).toInt))), .int (iZ (((xs (z + 2).toNat).toInt))), .int (iZ (((xs (z + 3).toNat).toInt)))]) dL_law_878 lkX11_parted ml_L_106 imX11_parted seX11_parted (by omega) (rfl : vwCl[11]? = _) ⟨_, (hN859.ob).choose_spec⟩ ⟨Nat.le_of_ble_eq_true rfl, Nat.le_of_ble_eq_true rfl⟩ rfl rfl (nle rfl) ⟨Nat.le_of_ble_eq_true rfl, Nat.le_of_ble_eq_true rfl⟩ (c_X11_parted hN859 (by decide) (x32 _) (x32 _) (x32 _) (fun r878 h_878  hs878 hN878 ho878 => ?_))
        obtain rfl := hs859.one hs878
        have hI878 := hI859.cg (OUTM.ci ho878)
        show G _ _ _ _ _ _ _ 881 _ _ _
        refine r_icmp_same 909 dL_law_881 (by decide) ?_
        refine r_iinc (L2 := [_, _, _, _]) dL_law_909 (nlt rfl) rfl rfl ?_
        refine r_goto 18 dL_law_912 (by decide) ?_
        exact ih _ _ _ _ _ _ _ _ _ (z + 6) (by omega) (by omega) (by omega) hI878 hN878
      · refine r_tabIn (off := 853) 886 dL_law_33 ⟨by omega, by omega⟩ (by omega) (by omega) (by rw [hs_33]; rfl) (by decide) ?_
        refine r_aload_n dL_law_886 rfl rfl ?_
        refine r_aload_n dL_law_887 rfl rfl ?_
        refine r_iload_n dL_law_888 rfl rfl ?_
        refine r_iconst (z := 1) dL_law_889 ?_
        refine r_iadd dL_law_890 ?_
        refine r_sldi hX dL_law_891 (by omega) (by omega) (by omega) ?_
        refine r_callV (av := [.int (iZ (((xs (z + 1).toNat).toInt)))]) dL_law_892 lkX10_count ml_L_107 imX10_count seX10_count (by omega) (rfl : vwCl[10]? = _) ⟨_, hC.ob⟩ ⟨Nat.le_of_ble_eq_true rfl, Nat.le_of_ble_eq_true rfl⟩ rfl rfl (nle rfl) ⟨Nat.le_of_ble_eq_true rfl, Nat.le_of_ble_eq_true rfl⟩ (c_X10_count hC (by decide) (x32 _) (fun r892 h_892  hs892 hI892 ho892 => ?_))
        have hN892 := hM.cg (OUT.md ho892)
        show G _ _ _ _ _ _ _ 895 _ _ _
        refine r_aload_n dL_law_895 rfl rfl ?_
        refine r_aload_n dL_law_896 rfl rfl ?_
        refine r_iload_n dL_law_897 rfl rfl ?_
        refine r_iconst (z := 1) dL_law_898 ?_
        refine r_iadd dL_law_899 ?_
        refine r_sldi hX dL_law_900 (by omega) (by omega) (by omega) ?_
        refine r_callV (av := [.int (iZ (((xs (z + 1).toNat).toInt)))]) dL_law_901 lkX11_count ml_L_110 imX11_count seX11_count (by omega) (rfl : vwCl[11]? = _) ⟨_, (hN892.ob).choose_spec⟩ ⟨Nat.le_of_ble_eq_true rfl, Nat.le_of_ble_eq_true rfl⟩ rfl rfl (nle rfl) ⟨Nat.le_of_ble_eq_true rfl, Nat.le_of_ble_eq_true rfl⟩ (c_X11_count hN892 (by decide) (x32 _) (fun r901 h_901  hs901 hN901 ho901 => ?_))
        obtain rfl := hs892.one hs901
        have hI901 := hI892.cg (OUTM.ci ho901)
        show G _ _ _ _ _ _ _ 904 _ _ _
        refine r_icmp_same 909 dL_law_904 (by decide) ?_
        refine r_iinc (L2 := [_, _, _, _]) dL_law_909 (nlt rfl) rfl rfl ?_
        refine r_goto 18 dL_law_912 (by decide) ?_
        exact ih _ _ _ _ _ _ _ _ _ (z + 6) (by omega) (by omega) (by omega) hI901 hN901
