/-! new cells -/
theorem AH.push {D : va_G} {dA : Nat → ClassId} {B b N : Nat} {h : Hp} {H H1 : Heap} {c : ACell} (hA : AH D dA B b N h H) (e : va_at D vwCl (B + N, cnc dA B b c) H1) (z : H1.size = H.size + 1) (oq : ∀ q : Nat, q < H.size → H1[q]? = H[q]?) : AH D dA B b (N + 1) (hs h N c) H1 := by
  refine ⟨by rw [z, hA.1]; omega, fun k hk => ?_⟩
  by_cases q : k = N
  · subst q; rw [hs_e]; exact e
  · rw [hs_n q]
    exact (hA.2 k (by omega)).kept (oq _ (by rw [hA.1]; show B + k < _; omega))
theorem SB.push {B N : Nat} {H0 H H1 : Heap} {locs : List Loc} (h : SB B H0 H locs) (hs : H.size = B + N) (oq : ∀ q : Nat, q < H.size → H1[q]? = H[q]?) : SB B H0 H1 locs := ⟨fun q hq => (oq q (by omega)).trans (h.1 q hq), h.2⟩
section RW4
variable {X : Ctx} {own : String} {cc : ByteArray} {R : Room} {N k n pc : Nat} {L : List (Option Value)} {S : List Value} {h : Hp}
theorem r_new {ci idx M : Nat} {C : String} {T : u_T} {ty : Nat → FieldType} (fs : List Value) (d : decode cc pc = .ok (.new idx, 3)) (hc : vwCl[ci]? = some (C, T, M)) (hin : ∀ w ∈ u_ws C T M, w ∈ TS) (hty : ∀ k, k < M → parseFieldDescriptor (T k).2.2.1 = some (ty k)) (hcl : Cond.classLink own idx C ∈ TS) (hinst : Cond.instantiable C M ∈ TS) (hini : Cond.initialized C ∈ TS) (hfs : ∀ B b j, j < M → defaultValue (ty j) = vp_V (fs.map (cv B b)) j) (hN1 : N + 1 ≤ BIG) (hkn : k + 1 ≤ R.cells ∧ n + M ≤ R.slots) (K : G X own cc R (N + 1) (k + 1) (n + M) (pc + 3) L (.ref N :: S) (hs h N (ob ci fs))) : G X own cc R N k n pc L S h := by
  obtain ⟨p, l, e, s, m, args, below, meth, c, D, dA, H0, B, b, Q⟩ := X
  intro hx hb hml ho hts hK hN H locs ls hA hS hl
  have hKn := hK.1.1 ci _ hc
  refine W.newcK hx hb ho (hts _ hcl) (hts _ hinst) (hts _ hini) rfl d hkn.1 hkn.2 hKn.2.1 rfl fun H1 kC hkC e1 z1 o1 => ?_
  have ea : adr B b N = H.size := (adr_lt (Nat.lt_of_succ_le hN1)).trans hA.1.symm
  have hob : va_at D vwCl (B + N, cnc dA B b (ob ci fs)) H1 := ⟨_, hc, by
    rw [← hA.1]
    exact (u_born ty hts hin hKn hkC e1 hty).to (fun j hj => hfs B b j hj)⟩
  have z := K hx hb hml ho hts hK hN1 H1 locs ls (hA.push hob z1 o1) (hS.push hA.1 o1) hl
  have z : W p l e R s m args below meth c H1 locs (k + 1) (n + M) Q (F0 m (pc + 3) ls (.ref (adr B b N) :: S.map (cv B b))) := z
  rw [ea] at z
  exact z
theorem r_newI {z : Int} {M : Nat} (d : decode cc pc = .ok (.newarray .int, 2)) (hM : z = (M : Int)) (hb9 : Nat.ble M 100000 = true) (hN1 : N + 1 ≤ BIG) (hkn : k + 1 ≤ R.cells ∧ n + M ≤ R.slots) (K : G X own cc R (N + 1) (k + 1) (n + M) (pc + 2) L (.ref N :: S) (hs h N (aI M (fun _ => 0)))) : G X own cc R N k n pc L (.int (iZ z) :: S) h := by
  obtain ⟨p, l, e, s, m, args, below, meth, c, D, dA, H0, B, b, Q⟩ := X
  intro hx hb hml ho hts hK hN H locs ls hA hS hl
  have hM9 : M ≤ 100000 := Nat.le_of_ble_eq_true hb9
  have rz : rI z := ⟨by omega, by omega⟩
  refine va_newaK (atype := .int) hx hb (hts _ ac_int) rfl d rfl (fun q => by have := (iZ_lt rz rI_0).mp q; omega) (N := M) (by rw [iZ_nat (by omega) (by omega), hM]; rfl) (by show M * 4 ≤ _; omega) hkn.1 hkn.2 rfl fun H1 cA e1 z1 o1 hAr hNm => ?_
  have ecA : cA = dA 0 := by
    have h9 := (hK.1.2 0 _ (tys0 hK 0 (by decide))).2
    exact Option.some.inj (hNm.symm.trans h9)
  have ea : adr B b N = H.size := (adr_lt (Nat.lt_of_succ_le hN1)).trans hA.1.symm
  have hob : va_at D vwCl (B + N, cnc dA B b (aI M (fun _ => 0))) H1 := by
    show H1[B + N]? = some (vp_cell (dA 0) (M, .inl (fun j => iZ 0)))
    rw [← hA.1, e1, ecA]
    rfl
  have z := K hx hb hml ho hts hK hN1 H1 locs ls (hA.push hob z1 o1) (hS.push hA.1 o1) hl
  have z : W p l e R s m args below meth c H1 locs (k + 1) (n + M) Q (F0 m (pc + 2) ls (.ref (adr B b N) :: S.map (cv B b))) := z
  rw [ea] at z
  exact z
theorem r_newJ {z : Int} {M : Nat} (d : decode cc pc = .ok (.newarray .long, 2)) (hM : z = (M : Int)) (hb9 : Nat.ble M 100000 = true) (hN1 : N + 1 ≤ BIG) (hkn : k + 1 ≤ R.cells ∧ n + M ≤ R.slots) (K : G X own cc R (N + 1) (k + 1) (n + M) (pc + 2) L (.ref N :: S) (hs h N (aL M (fun _ => 0)))) : G X own cc R N k n pc L (.int (iZ z) :: S) h := by
  obtain ⟨p, l, e, s, m, args, below, meth, c, D, dA, H0, B, b, Q⟩ := X
  intro hx hb hml ho hts hK hN H locs ls hA hS hl
  have hM9 : M ≤ 100000 := Nat.le_of_ble_eq_true hb9
  have rz : rI z := ⟨by omega, by omega⟩
  refine va_newaK (atype := .long) hx hb (hts _ ac_long) rfl d rfl (fun q => by have := (iZ_lt rz rI_0).mp q; omega) (N := M) (by rw [iZ_nat (by omega) (by omega), hM]; rfl) (by show M * 8 ≤ _; omega) hkn.1 hkn.2 rfl fun H1 cA e1 z1 o1 hAr hNm => ?_
  have ecA : cA = dA 1 := by
    have h9 := (hK.1.2 1 _ (tys0 hK 1 (by decide))).2
    exact Option.some.inj (hNm.symm.trans h9)
  have ea : adr B b N = H.size := (adr_lt (Nat.lt_of_succ_le hN1)).trans hA.1.symm
  have hob : va_at D vwCl (B + N, cnc dA B b (aL M (fun _ => 0))) H1 := by
    show H1[B + N]? = some (vp_cell (dA 1) (M, .inr (.inl (fun j => lZ 0))))
    rw [← hA.1, e1, ecA]
    rfl
  have z := K hx hb hml ho hts hK hN1 H1 locs ls (hA.push hob z1 o1) (hS.push hA.1 o1) hl
  have z : W p l e R s m args below meth c H1 locs (k + 1) (n + M) Q (F0 m (pc + 2) ls (.ref (adr B b N) :: S.map (cv B b))) := z
  rw [ea] at z
  exact z
theorem r_anew {z : Int} {M idx : Nat} (d : decode cc pc = .ok (.anewarray idx, 3)) (hcl : Cond.classLink own idx RX7 ∈ TS) (hM : z = (M : Int)) (hb9 : Nat.ble M 100000 = true) (hN1 : N + 1 ≤ BIG) (hkn : k + 1 ≤ R.cells ∧ n + M ≤ R.slots) (K : G X own cc R (N + 1) (k + 1) (n + M) (pc + 3) L (.ref N :: S) (hs h N (aR 2 M (fun _ => none)))) : G X own cc R N k n pc L (.int (iZ z) :: S) h := by
  obtain ⟨p, l, e, s, m, args, below, meth, c, D, dA, H0, B, b, Q⟩ := X
  intro hx hb hml ho hts hK hN H locs ls hA hS hl
  have hM9 : M ≤ 100000 := Nat.le_of_ble_eq_true hb9
  have rz : rI z := ⟨by omega, by omega⟩
  have eM : (iZ z).toNatClampNeg = M := by rw [iZ_nat (by omega) (by omega), hM]; rfl
  refine W.anew hx hb ho (hts _ hcl) (va_AO.use hK.2.1) rfl d rfl (fun q => by have := (iZ_lt rz rI_0).mp q; omega) (by rw [eM]; omega) hkn.1 (by rw [eM]; exact hkn.2) fun cA kA comp f1 f2 f3 f4 => ?_
  rw [eM]
  have ecA : cA = dA 2 := by
    have h9 := (hK.1.2 2 _ (tys0 hK 2 (by decide))).2
    obtain ⟨kA2, comp2, -, -, -, h10⟩ := h9
    exact Option.some.inj (f1.symm.trans h10)
  generalize hH1 : H.push ({ cls := cA, slots := Array.replicate M .null, vm := .none } : Cell) = H1
  have z1 : H1.size = H.size + 1 := by rw [← hH1, Array.size_push]
  have e1 : H1[H.size]? = some (arrV cA M (fun _ => .null)) := by rw [← hH1, Array.getElem?_push_size, ← arrV_new]
  have o1 : ∀ q : Nat, q < H.size → H1[q]? = H[q]? := fun q hq => by rw [← hH1, Array.getElem?_push, if_neg (Nat.ne_of_lt hq)]
  have ea : adr B b N = H.size := (adr_lt (Nat.lt_of_succ_le hN1)).trans hA.1.symm
  have hob : va_at D vwCl (B + N, cnc dA B b (aR 2 M (fun _ => none))) H1 := by
    show H1[B + N]? = some (vp_cell (dA 2) (M, .inr (.inr (.inr (.inr (fun j => none))))))
    rw [← hA.1, e1, ecA]
    rfl
  have z := K hx hb hml ho hts hK hN1 H1 locs ls (hA.push hob z1 o1) (hS.push hA.1 o1) hl
  have z : W p l e R s m args below meth c H1 locs (k + 1) (n + M) Q (F0 m (pc + 3) ls (.ref (adr B b N) :: S.map (cv B b))) := z
  rw [ea] at z
  exact z
theorem arrV_cong {c : ClassId} {N : Nat} {f g : Nat → Value} (h : ∀ j, j < N → f j = g j) : arrV c N f = arrV c N g := by
  unfold arrV
  congr 1
  exact congrArg Array.ofFn (funext fun j => h j.val j.isLt)
theorem outer_V (c : ClassId) (N h0 : Nat) : ∀ i : Nat, Jvm.Free.Multi.outerC c N h0 i = arrV c N (fun j => va_rf (if j < i then some (h0 + 1 + j) else none))
  | 0 => by
    show ({ cls := c, slots := Array.replicate N .null, vm := .none } : Cell) = _
    rw [arrV_new]
    refine congrArg (arrV c N) (funext fun j => ?_)
    simp [va_rf]
  | i + 1 => by
    show (Jvm.Free.Multi.outerC c N h0 i).setSlot i (.ref (h0 + 1 + i)) = _
    rw [outer_V c N h0 i, arrV_store]
    refine congrArg (arrV c N) (funext fun j => ?_)
    by_cases e : j = i
    · subst e
      simp [updV, va_rf]
    · by_cases h : j < i
      · simp [updV, e, h, Nat.lt_succ_of_lt h]
      · simp [updV, e, h, show ¬ j < i + 1 by omega]
theorem r_mna {idx : Nat} (d : decode cc pc = .ok (.multianewarray idx 2, 4)) (hcl : Cond.classLink own idx "[[I" ∈ TS) (hN1 : N + 41 ≤ BIG) (hkn : k + 41 ≤ R.cells ∧ n + 1680 ≤ R.slots) (K : G X own cc R (N + 41) (k + 41) (n + 1680) (pc + 4) L (.ref N :: S) (mx (hs h N (aR 3 40 (pR (N + 1) (fun i => i)))) (N + 1) (fun _ _ => 0))) : G X own cc R N k n pc L (.int (iZ 41) :: .int (iZ 40) :: S) h := by
  obtain ⟨p, l, e, s, m, args, below, meth, c, D, dA, H0, B, b, Q⟩ := X
  intro hx hb hml ho hts hK hN H locs ls hA hS hl
  intro T hT Xs
  have e40 : (iZ 40).toNatClampNeg = 40 := by rw [iZ_nat (by decide) (by decide)]; rfl
  have e41 : (iZ 41).toNatClampNeg = 41 := by rw [iZ_nat (by decide) (by decide)]; rfl
  obtain ⟨vm₁, cA, comp, -, fA, fC, hO, -, X', step⟩ := Xs.multianewarray2F hx ho (ty := .int) (hts _ hcl) (hK.2.2.1 _) (hts _ ac_int) (g := F0 m pc ls (.int (iZ 41) :: .int (iZ 40) :: S.map (cv B b))) rfl (by rw [hb]; exact d) rfl (fun q => by have := (iZ_lt ⟨by decide, by decide⟩ rI_0).mp q; omega) (fun q => by have := (iZ_lt ⟨by decide, by decide⟩ rI_0).mp q; omega) (by rw [e40]; exact Nat.le_of_ble_eq_true rfl) (by rw [e41]; show 41 * 4 ≤ _; exact Nat.le_of_ble_eq_true rfl) (by rw [e41]; exact Nat.le_of_ble_eq_true rfl) rfl rfl (by rw [e40]; have := hkn.1; omega) (by rw [e40, e41]; have := hkn.2; omega)
  rw [e40, e41] at X' step
  have ecA : cA = dA 3 := Option.some.inj (fA.symm.trans ((hK.1.2 3 _ (tys0 hK 3 (by decide))).2))
  have ecC : comp = dA 0 := Option.some.inj (fC.symm.trans ((hK.1.2 0 _ (tys0 hK 0 (by decide))).2))
  subst ecA; subst ecC
  generalize hF : Jvm.Free.Multi.fill (T.setVm vm₁) (dA 3) (dA 0) 40 41 (defaultValue .int) 40 = F at X' step
  have hTh : (T.setVm vm₁).heap = H := hT
  obtain ⟨f1, f2, -, -⟩ := Jvm.Free.Multi.fill_facts (T.setVm vm₁) (dA 3) (dA 0) 40 41 (defaultValue .int) 40
  rw [hF, hTh] at f1 f2
  have hold : ∀ x : Nat, x < H.size → F.heap[x]? = H[x]? := fun x hx => by
    have := Jvm.Free.Multi.fill_old (T.setVm vm₁) (dA 3) (dA 0) 40 41 (defaultValue .int) (a := x) (by rw [hTh]; exact hx) 40
    rw [hF, hTh] at this
    exact this
  have hrow : ∀ j : Nat, j < 40 → F.heap[H.size + 1 + j]? = some (vp_cell (dA 0) (41, .inl (fun _ => iZ 0))) := fun j hj => by
    have := Jvm.Free.Multi.fill_inner (T.setVm vm₁) (dA 3) (dA 0) 40 41 (defaultValue .int) 40 j hj
    rw [hF, hTh] at this
    rw [this]
    show some ({ cls := dA 0, slots := Array.replicate 41 (defaultValue .int), vm := .none } : Cell) = _
    rw [arrV_new]
    rfl
  have hA1 : AH D dA B b (N + 41) (mx (hs h N (aR 3 40 (pR (N + 1) (fun i => i)))) (N + 1) (fun _ _ => 0)) F.heap := by
    refine ⟨by rw [f1, hA.1]; omega, fun q hq => ?_⟩
    by_cases w : N + 1 ≤ q ∧ q < N + 1 + 40
    · have e9 : mx (hs h N (aR 3 40 (pR (N + 1) (fun i => i)))) (N + 1) (fun _ _ => 0) q = aI 41 (fun _ => 0) := if_pos w
      rw [e9]
      show F.heap[B + q]? = some (vp_cell (dA 0) (41, .inl (fun _ => iZ 0)))
      rw [show B + q = H.size + 1 + (q - (N + 1)) by rw [hA.1]; omega]
      exact hrow _ (by omega)
    · rw [mx_out (by omega)]
      by_cases w2 : q = N
      · subst w2
        rw [hs_e]
        show F.heap[B + q]? = some (vp_cell (dA 3) (40, .inr (.inr (.inr (.inr (fun j => (pR (q + 1) (fun i => i) j).map (adr B b)))))))
        rw [← hA.1, f2, vp_cell_q, outer_V]
        refine congrArg some (arrV_cong (fun j hj => ?_))
        rw [if_pos hj]
        show va_rf (some (H.size + 1 + j)) = va_rf (some (adr B b (q + 1 + j)))
        rw [adr_lt (by omega), hA.1, show B + q + 1 + j = B + (q + 1 + j) by omega]
      · rw [hs_n w2]
        exact (hA.2 q (by omega)).kept (hold _ (by rw [hA.1]; show B + q < _; omega))
  have hS1 : SB B H0 F.heap locs := ⟨fun q hq => (hold q (by rw [hA.1]; omega)).trans (hS.1 q hq), hS.2⟩
  have ea : adr B b N = H.size := (adr_lt (by omega)).trans hA.1.symm
  obtain ⟨t, a1, b1⟩ := K hx hb hml ho hts hK hN1 F.heap locs ls hA1 hS1 hl F rfl X'
  refine ⟨t, step t ?_, b1⟩
  have e9 : T.heap.size = H.size := by rw [hT]
  rw [e9]
  have a1 : Steps p.tables e below (F.setTop (F0 m (pc + 4) ls (.ref (adr B b N) :: S.map (cv B b)))) t := a1
  rw [ea] at a1
  exact a1
end RW4
