section RW2
variable {X : Ctx} {own : String} {cc : ByteArray} {R : Room} {N k n pc : Nat} {L : List (Option Value)} {S : List Value} {h : Hp}
theorem r_getf {ci j a idx M : Nat} {C ref : String} {T : u_T} {fs : List Value} {v : Value} (d : decode cc pc = .ok (.getfield idx, 3)) (hc : vwCl[ci]? = some (C, T, M)) (hin : ∀ w ∈ u_ws C T M, w ∈ TS) (hj : j < M) (w : Cond.fieldLink own idx ref (T j).2.1 (T j).2.2.1 ∈ TS) (hsame : ref = (T j).1) (ha : a < N) (he : h a = ob ci fs) (hv : fs[j]? = some v) (K : G X own cc R N k n (pc + 3) L (v :: S) h) : G X own cc R N k n pc L (.ref a :: S) h := by
  obtain ⟨p, l, e, s, m, args, below, meth, c, D, dA, H0, B, b, Q⟩ := X
  intro hx hb hml ho hts hK hN H locs ls hA hS hl
  have ea : adr B b a = B + a := adr_lt (Nat.lt_of_lt_of_le ha hN)
  show W p l e R s m args below meth c H locs k n Q (F0 m pc ls (.ref (adr B b a) :: S.map (cv B b)))
  rw [ea]
  refine va_get (v := cv B b v) hx hb hts hin ho hK.1 (hA.one ha) 0 (fs := fs.map (cv B b)) (by rw [he]; rfl) hc j hj (hts _ w) (fun x hx => by rw [hsame]; exact hx) (by rw [List.getElem?_map, hv]; rfl) d (K hx hb hml ho hts hK hN H locs ls hA hS hl)
theorem r_putf {ci j a idx M : Nat} {C ref : String} {T : u_T} {ty0 : Nat → FieldType} {ty : FieldType} {fs fs2 : List Value} {v : Value} (d : decode cc pc = .ok (.putfield idx, 3)) (hc : vwCl[ci]? = some (C, T, M)) (hin : ∀ w ∈ u_ws C T M, w ∈ TS) (hty : ∀ k, k < M → parseFieldDescriptor (T k).2.2.1 = some (ty0 k)) (hnm : ∀ a, a < M → ∀ b, b < M → a ≠ b → (T a).2.1 ≠ (T b).2.1) (hj : j < M) (w : Cond.fieldLink own idx ref (T j).2.1 (T j).2.2.1 ∈ TS) (hsame : ref = (T j).1) (hfin : (T j).2.2.2 = false) (hd : parseFieldDescriptor (T j).2.2.1 = some ty) (hn : ∀ B b, narrow ty (cv B b v) = cv B b v) (hfit : ∀ B b, fits ty (cv B b v) = true) (hlen : j < fs.length) (ha : a < N) (he : h a = ob ci fs) (hf2 : fs.set j v = fs2) (K : G X own cc R N k n (pc + 3) L S (hs h a (ob ci fs2))) : G X own cc R N k n pc L (v :: .ref a :: S) h := by
  obtain ⟨p, l, e, s, m, args, below, meth, c, D, dA, H0, B, b, Q⟩ := X
  intro hx hb hml ho hts hK hN H locs ls hA hS hl
  have ea : adr B b a = B + a := adr_lt (Nat.lt_of_lt_of_le ha hN)
  show W p l e R s m args below meth c H locs k n Q (F0 m pc ls (cv B b v :: .ref (adr B b a) :: S.map (cv B b)))
  rw [ea]
  have hP := hA.one ha
  rw [he] at hP
  have hap := va_apart (own := own) hts hin ty0 hty hnm hK.1 hc
  obtain ⟨r, h1, cell, q1, q2, q3, q4⟩ := hP 0 _ rfl
  have hr : r = (C, T, M) := Option.some.inj (h1.symm.trans hc)
  subst hr
  obtain ⟨hSl, hfc, kC, hkC, hkind⟩ := hK.1.1 ci _ hc
  obtain ⟨cf, kf, fi, f, hi, hsl⟩ := hSl j hj
  have hlay := hts _ (hin _ (u_in_lay hj))
  unfold u_lay at hlay
  rw [if_neg (by rw [hfin]; decide)] at hlay
  have hst := (u_facts hfc hkC (u_lays hts hin hj) hi).1
  have h6 := u_store hfc hkC hkind hlay hi hd (hn B b) (hfit B b)
  refine W.putK hx hb (f := f) ⟨ho, hts _ w, ⟨_, _, _, by rw [hsame]; exact hi⟩, hst⟩ (by rw [q2]; exact h6) q1 q3 (by rw [hsl]; exact k2_hasslot (q4 j hj)) rfl rfl d fun H' e1 e2 e3 => ?_
  rw [hsl] at e1 ⊢
  refine K hx hb hml ho hts hK hN H' _ ls (hA.put ⟨_, hc, ?_⟩ e2 e3) (hS.put e3) hl
  refine t_OB.to (V := updV (vp_V (fs.map (cv B b))) j (cv B b v)) ⟨_, e1, q2, q3, t_set q4 hap hj (cv B b v)⟩ (fun i _ => ?_)
  rw [vp_updV_set (by rw [List.length_map]; exact hlen), ← hf2, List.map_set]
/-- the method is a constructor -/
def XI (X : Ctx) : Prop := X.2.2.2.2.2.2.2.1.name = "<init>" 
theorem r_putF {ci j a idx M : Nat} {C ref : String} {T : u_T} {ty0 : Nat → FieldType} {ty : FieldType} {fs fs2 : List Value} {v : Value} (d : decode cc pc = .ok (.putfield idx, 3)) (hc : vwCl[ci]? = some (C, T, M)) (hin : ∀ w ∈ u_ws C T M, w ∈ TS) (hty : ∀ k, k < M → parseFieldDescriptor (T k).2.2.1 = some (ty0 k)) (hnm : ∀ a, a < M → ∀ b, b < M → a ≠ b → (T a).2.1 ≠ (T b).2.1) (hj : j < M) (w : Cond.fieldLink own idx ref (T j).2.1 (T j).2.2.1 ∈ TS) (hsame : ref = (T j).1) (hfin : (T j).2.2.2 = true) (hini : XI X) (hdecl : (T j).1 = own) (hd : parseFieldDescriptor (T j).2.2.1 = some ty) (hn : ∀ B b, narrow ty (cv B b v) = cv B b v) (hfit : ∀ B b, fits ty (cv B b v) = true) (hlen : j < fs.length) (ha : a < N) (he : h a = ob ci fs) (hf2 : fs.set j v = fs2) (K : G X own cc R N k n (pc + 3) L S (hs h a (ob ci fs2))) : G X own cc R N k n pc L (v :: .ref a :: S) h := by
  obtain ⟨p, l, e, s, m, args, below, meth, c, D, dA, H0, B, b, Q⟩ := X
  intro hx hb hml ho hts hK hN H locs ls hA hS hl
  have ea : adr B b a = B + a := adr_lt (Nat.lt_of_lt_of_le ha hN)
  show W p l e R s m args below meth c H locs k n Q (F0 m pc ls (cv B b v :: .ref (adr B b a) :: S.map (cv B b)))
  rw [ea]
  have hP := hA.one ha
  rw [he] at hP
  have hap := va_apart (own := own) hts hin ty0 hty hnm hK.1 hc
  obtain ⟨r, h1, cell, q1, q2, q3, q4⟩ := hP 0 _ rfl
  have hr : r = (C, T, M) := Option.some.inj (h1.symm.trans hc)
  subst hr
  obtain ⟨hSl, hfc, kC, hkC, hkind⟩ := hK.1.1 ci _ hc
  obtain ⟨cf, kf, fi, f, hi, hsl⟩ := hSl j hj
  have hlay := hts _ (hin _ (u_in_lay hj))
  unfold u_lay at hlay
  rw [if_pos hfin] at hlay
  have hst := (u_facts hfc hkC (u_lays hts hin hj) hi).1
  have hcf : m.cls = cf := by
    obtain ⟨_, _, c', _, _, _, -, -, hf', -, -, -, hown2, -⟩ := Cond.laysFinal_spec hlay
    have e1 : c' = cf := by have := hi.symm.trans hf'; simp at this; exact this.1.symm
    rw [hdecl] at hown2
    rw [← e1]; exact Option.some.inj (ho.symm.trans hown2)
  have h6 := u_fits hfc hkC hkind (Or.inr hlay) hi hd (hn B b) (hfit B b)
  refine W.putFinK hx hb ho (hts _ w) (by rw [hsame]; exact hi) hst hcf hini (by rw [q2]; exact h6) q1 q3 (by rw [hsl]; exact k2_hasslot (q4 j hj)) rfl rfl d fun H' e1 e2 e3 => ?_
  rw [hsl] at e1 ⊢
  refine K hx hb hml ho hts hK hN H' _ ls (hA.put ⟨_, hc, ?_⟩ e2 e3) (hS.put e3) hl
  refine t_OB.to (V := updV (vp_V (fs.map (cv B b))) j (cv B b v)) ⟨_, e1, q2, q3, t_set q4 hap hj (cv B b v)⟩ (fun i _ => ?_)
  rw [vp_updV_set (by rw [List.length_map]; exact hlen), ← hf2, List.map_set]
theorem tys0 {D : va_G} {dA : Nat → ClassId} {s : State} (hK : KK D dA s) (i : Nat) (hi : i < 4) : (tysL dA)[i]? = some (dA i, tyT i) := by
  rcases (show i = 0 ∨ i = 1 ∨ i = 2 ∨ i = 3 by omega) with e | e | e | e <;> subst e <;> rfl
theorem r_iaload {a M : Nat} {f : Nat → Int} {z : Int} (d : decode cc pc = .ok (.iaload, 1)) (ha : a < N) (he : h a = aI M f) (h0 : 0 ≤ z) (h1 : z < M) (hM : M < 2147483648) (K : G X own cc R N k n (pc + 1) L (.int (iZ (f z.toNat)) :: S) h) : G X own cc R N k n pc L (.int (iZ z) :: .ref a :: S) h := by
  obtain ⟨p, l, e, s, m, args, below, meth, c, D, dA, H0, B, b, Q⟩ := X
  intro hx hb hml ho hts hK hN H locs ls hA hS hl
  have ea : adr B b a = B + a := adr_lt (Nat.lt_of_lt_of_le ha hN)
  show W p l e R s m args below meth c H locs k n Q (F0 m pc ls (.int (iZ z) :: .ref (adr B b a) :: S.map (cv B b)))
  rw [ea]
  have hP := hA.one ha
  rw [he] at hP
  refine va_iald hx hb hK.1 hP 0 0 rfl (tys0 hK 0 (by decide)) (iZ_in h0 h1 hM) d ?_
  show W p l e R s m args below meth c H locs k n Q (F0 m (pc + 1) ls (.int (iZ (f (iZ z).toNatClampNeg)) :: S.map (cv B b)))
  rw [iZ_nat h0 (by omega)]
  exact K hx hb hml ho hts hK hN H locs ls hA hS hl
theorem r_laload {a M : Nat} {f : Nat → Int} {z : Int} (d : decode cc pc = .ok (.laload, 1)) (ha : a < N) (he : h a = aL M f) (h0 : 0 ≤ z) (h1 : z < M) (hM : M < 2147483648) (K : G X own cc R N k n (pc + 1) L (.long (lZ (f z.toNat)) :: S) h) : G X own cc R N k n pc L (.int (iZ z) :: .ref a :: S) h := by
  obtain ⟨p, l, e, s, m, args, below, meth, c, D, dA, H0, B, b, Q⟩ := X
  intro hx hb hml ho hts hK hN H locs ls hA hS hl
  have ea : adr B b a = B + a := adr_lt (Nat.lt_of_lt_of_le ha hN)
  show W p l e R s m args below meth c H locs k n Q (F0 m pc ls (.int (iZ z) :: .ref (adr B b a) :: S.map (cv B b)))
  rw [ea]
  have hP := hA.one ha
  rw [he] at hP
  refine va_lald hx hb hK.1 hP 0 1 rfl (tys0 hK 1 (by decide)) (iZ_in h0 h1 hM) d ?_
  show W p l e R s m args below meth c H locs k n Q (F0 m (pc + 1) ls (.long (lZ (f (iZ z).toNatClampNeg)) :: S.map (cv B b)))
  rw [iZ_nat h0 (by omega)]
  exact K hx hb hml ho hts hK hN H locs ls hA hS hl
theorem r_iastore {a M : Nat} {f : Nat → Int} {z x : Int} (d : decode cc pc = .ok (.iastore, 1)) (ha : a < N) (he : h a = aI M f) (h0 : 0 ≤ z) (h1 : z < M) (hM : M < 2147483648) (K : G X own cc R N k n (pc + 1) L S (hs h a (aI M (uA f z.toNat x)))) : G X own cc R N k n pc L (.int (iZ x) :: .int (iZ z) :: .ref a :: S) h := by
  obtain ⟨p, l, e, s, m, args, below, meth, c, D, dA, H0, B, b, Q⟩ := X
  intro hx hb hml ho hts hK hN H locs ls hA hS hl
  have ea : adr B b a = B + a := adr_lt (Nat.lt_of_lt_of_le ha hN)
  show W p l e R s m args below meth c H locs k n Q (F0 m pc ls (.int (iZ x) :: .int (iZ z) :: .ref (adr B b a) :: S.map (cv B b)))
  rw [ea]
  have hP := hA.one ha
  rw [he] at hP
  have hin : vp_in (iZ z) M := iZ_in h0 h1 hM
  refine W.iast hx hb (hP 0 _ rfl) ((hK.1.2 0 _ (tys0 hK 0 (by decide))).1 M (fun j => .int (iZ (f j)))) (fun q => by cases q) (by show ¬ (iZ z < 0 ∨ (arrV _ _ _).slots.size ≤ _); rw [arrV_size]; exact hin) rfl rfl d fun H1 e1 z1 oq => ?_
  refine K hx hb hml ho hts hK hN H1 _ ls (hA.put ?_ z1 oq) (hS.put oq) hl
  show H1[B + a]? = some (vp_cell _ _)
  rw [e1]
  show _ = some (vp_cell _ (M, _))
  rw [vp_cell_i, vp_cell_i, arrV_store]
  congr 2
  funext q
  rw [iZ_nat h0 (by omega)]
  by_cases hq : q = z.toNat
  · subst hq; simp [updV, uA]
  · simp [updV, uA, hq]
theorem r_lastore {a M : Nat} {f : Nat → Int} {z x : Int} (d : decode cc pc = .ok (.lastore, 1)) (ha : a < N) (he : h a = aL M f) (h0 : 0 ≤ z) (h1 : z < M) (hM : M < 2147483648) (K : G X own cc R N k n (pc + 1) L S (hs h a (aL M (uA f z.toNat x)))) : G X own cc R N k n pc L (.long (lZ x) :: .int (iZ z) :: .ref a :: S) h := by
  obtain ⟨p, l, e, s, m, args, below, meth, c, D, dA, H0, B, b, Q⟩ := X
  intro hx hb hml ho hts hK hN H locs ls hA hS hl
  have ea : adr B b a = B + a := adr_lt (Nat.lt_of_lt_of_le ha hN)
  show W p l e R s m args below meth c H locs k n Q (F0 m pc ls (.long (lZ x) :: .int (iZ z) :: .ref (adr B b a) :: S.map (cv B b)))
  rw [ea]
  have hP := hA.one ha
  rw [he] at hP
  have hin : vp_in (iZ z) M := iZ_in h0 h1 hM
  refine W.last hx hb (hP 0 _ rfl) ((hK.1.2 1 _ (tys0 hK 1 (by decide))).1 M (fun j => .long (lZ (f j)))) (fun q => by cases q) (by show ¬ (iZ z < 0 ∨ (arrV _ _ _).slots.size ≤ _); rw [arrV_size]; exact hin) rfl rfl d fun H1 e1 z1 oq => ?_
  refine K hx hb hml ho hts hK hN H1 _ ls (hA.put ?_ z1 oq) (hS.put oq) hl
  show H1[B + a]? = some (vp_cell _ _)
  rw [e1]
  show _ = some (vp_cell _ (M, _))
  rw [vp_cell_l, vp_cell_l, arrV_store]
  congr 2
  funext q
  rw [iZ_nat h0 (by omega)]
  by_cases hq : q = z.toNat
  · subst hq; simp [updV, uA]
  · simp [updV, uA, hq]
theorem r_aaload {a r M i : Nat} {g : Nat → Option Nat} {z : Int} (d : decode cc pc = .ok (.aaload, 1)) (ha : a < N) (he : h a = aR r M g) (hr : r = 2 ∨ r = 3) (h0 : 0 ≤ z) (h1 : z < M) (hM : M < 2147483648) (hg : g z.toNat = some i) (K : G X own cc R N k n (pc + 1) L (.ref i :: S) h) : G X own cc R N k n pc L (.int (iZ z) :: .ref a :: S) h := by
  obtain ⟨p, l, e, s, m, args, below, meth, c, D, dA, H0, B, b, Q⟩ := X
  intro hx hb hml ho hts hK hN H locs ls hA hS hl
  have ea : adr B b a = B + a := adr_lt (Nat.lt_of_lt_of_le ha hN)
  show W p l e R s m args below meth c H locs k n Q (F0 m pc ls (.int (iZ z) :: .ref (adr B b a) :: S.map (cv B b)))
  rw [ea]
  have hP := hA.one ha
  rw [he] at hP
  have hin : vp_in (iZ z) M := iZ_in h0 h1 hM
  have ht := (hK.1.2 r _ (tys0 hK r (by omega))).1 M (fun j => va_rf ((g j).map (adr B b)))
  have hty : refKind (tyT r) = true := by rcases hr with q | q <;> subst q <;> rfl
  have hlt : (iZ z).toNatClampNeg < M := Nat.not_le.mp fun q => hin (Or.inr q)
  refine W.aald (v := va_rf ((g (iZ z).toNatClampNeg).map (adr B b))) (ty := tyT r) hx hb (hP 0 _ rfl) ht hty (fun q => by cases q) (by show ¬ (iZ z < 0 ∨ (arrV _ _ _).slots.size ≤ _); rw [arrV_size]; exact hin) (by show (arrV _ _ _).slots[_]? = _; rw [arrV_read _ _ hlt]) rfl rfl d ?_
  rw [iZ_nat h0 (by omega), hg]
  exact K hx hb hml ho hts hK hN H locs ls hA hS hl
theorem r_arrlen {a M : Nat} {x : (Nat × Nat × (Nat → Int))} (d : decode cc pc = .ok (.arraylength, 1)) (ha : a < N) (he : h a = .inl x) (hx2 : x.1 < 2) (hM : x.2.1 = M) (K : G X own cc R N k n (pc + 1) L (.int (iZ (M : Int)) :: S) h) : G X own cc R N k n pc L (.ref a :: S) h := by
  obtain ⟨p, l, e, s, m, args, below, meth, c, D, dA, H0, B, b, Q⟩ := X
  intro hx hb hml ho hts hK hN H locs ls hA hS hl
  have ea : adr B b a = B + a := adr_lt (Nat.lt_of_lt_of_le ha hN)
  show W p l e R s m args below meth c H locs k n Q (F0 m pc ls (.ref (adr B b a) :: S.map (cv B b)))
  rw [ea]
  have hP := hA.one ha
  rw [he] at hP
  obtain ⟨t, M2, f⟩ := x
  have hM : M2 = M := hM
  subst hM
  have e9 : Int32.ofNat M2 = iZ (M2 : Int) := Int32.ofInt_eq_ofNat.symm
  rcases (show t = 0 ∨ t = 1 by have : t < 2 := hx2; omega) with q | q
  · subst q
    exact va_alen (v := iZ (M2 : Int)) hx hb hK.1 hP 0 0 rfl (tys0 hK 0 (by decide)) e9 d (K hx hb hml ho hts hK hN H locs ls hA hS hl)
  · subst q
    exact va_alen (v := iZ (M2 : Int)) hx hb hK.1 hP 0 1 rfl (tys0 hK 1 (by decide)) e9 d (K hx hb hml ho hts hK hN H locs ls hA hS hl)
theorem r_aastoreR {a v M : Nat} {g : Nat → Option Nat} {z : Int} (d : decode cc pc = .ok (.aastore, 1)) (ha : a < N) (he : h a = aR 2 M g) (hvN : v < N) (hv : ∃ fs, h v = ob 7 fs) (h0 : 0 ≤ z) (h1 : z < M) (hM : M < 2147483648) (K : G X own cc R N k n (pc + 1) L S (hs h a (aR 2 M (uR g z.toNat (some v))))) : G X own cc R N k n pc L (.ref v :: .int (iZ z) :: .ref a :: S) h := by
  obtain ⟨p, l, e, s, m, args, below, meth, c, D, dA, H0, B, b, Q⟩ := X
  intro hx hb hml ho hts hK hN H locs ls hA hS hl
  have ea : adr B b a = B + a := adr_lt (Nat.lt_of_lt_of_le ha hN)
  have ev : adr B b v = B + v := adr_lt (Nat.lt_of_lt_of_le hvN hN)
  show W p l e R s m args below meth c H locs k n Q (F0 m pc ls (.ref (adr B b v) :: .int (iZ z) :: .ref (adr B b a) :: S.map (cv B b)))
  rw [ea, ev]
  have hP := hA.one ha
  rw [he] at hP
  have hin : vp_in (iZ z) M := iZ_in h0 h1 hM
  have hlt : (iZ z).toNatClampNeg < M := Nat.not_le.mp fun q => hin (Or.inr q)
  obtain ⟨fs, hfs⟩ := hv
  have hPv := hA.one hvN
  rw [hfs] at hPv
  obtain ⟨rr, hr1, cellV, g1, g2, g3, -⟩ := hPv 0 _ rfl
  have hcls := (hK.1.1 7 _ (rfl : vwCl[7]? = some (RX7, TX7, 3))).2
  obtain ⟨kA, comp, k1, k2, k3, -⟩ := (hK.1.2 2 _ (tys0 hK 2 (by decide))).2
  have hcomp : comp = D.1 7 := Option.some.inj (k3.symm.trans hcls.1)
  subst hcomp
  obtain ⟨kC, hkC, -⟩ := hcls.2
  refine W.aast hx hb (hP 0 _ rfl) (fun q h => by cases h) (fun h => by cases h) k1 k2 rfl hkC ⟨fun q => hin (Or.inl q), by show _ < (arrV _ _ _).slots.size; rw [arrV_size]; exact hlt⟩ g1 (fun q h => by rw [g3] at h; cases h) (by rw [g2]; exact hkC) (by rw [g2]; exact va_assign hcls) rfl rfl d fun H1 e1 z1 oq => ?_
  refine K hx hb hml ho hts hK hN H1 _ ls (hA.put ?_ z1 oq) (hS.put oq) hl
  show H1[B + a]? = some (vp_cell _ _)
  rw [e1]
  show _ = some (vp_cell _ (M, _))
  rw [vp_cell_q, vp_cell_q, arrV_store]
  congr 2
  funext q
  rw [iZ_nat h0 (by omega)]
  by_cases hq : q = z.toNat
  · subst hq; simp [updV, uR, va_rf, ev]
  · simp [updV, uR, hq]
theorem r_aastoreA {a v M : Nat} {g : Nat → Option Nat} {z : Int} (d : decode cc pc = .ok (.aastore, 1)) (ha : a < N) (he : h a = aR 3 M g) (hvN : v < N) (hv : ∃ W f, h v = aI W f) (h0 : 0 ≤ z) (h1 : z < M) (hM : M < 2147483648) (K : G X own cc R N k n (pc + 1) L S (hs h a (aR 3 M (uR g z.toNat (some v))))) : G X own cc R N k n pc L (.ref v :: .int (iZ z) :: .ref a :: S) h := by
  obtain ⟨p, l, e, s, m, args, below, meth, c, D, dA, H0, B, b, Q⟩ := X
  intro hx hb hml ho hts hK hN H locs ls hA hS hl
  have ea : adr B b a = B + a := adr_lt (Nat.lt_of_lt_of_le ha hN)
  have ev : adr B b v = B + v := adr_lt (Nat.lt_of_lt_of_le hvN hN)
  show W p l e R s m args below meth c H locs k n Q (F0 m pc ls (.ref (adr B b v) :: .int (iZ z) :: .ref (adr B b a) :: S.map (cv B b)))
  rw [ea, ev]
  have hP := hA.one ha
  rw [he] at hP
  have hin : vp_in (iZ z) M := iZ_in h0 h1 hM
  have hlt : (iZ z).toNatClampNeg < M := Nat.not_le.mp fun q => hin (Or.inr q)
  obtain ⟨Wv, fv, hfs⟩ := hv
  have hPv := hA.one hvN
  rw [hfs] at hPv
  have g1 : H[B + v]? = some (vp_cell (dA 0) (Wv, .inl (fun j => iZ (fv j)))) := hPv 0 _ rfl
  have hR : s.vm.findClass (FieldType.array FieldType.int).toString = some (dA 0) := (hK.1.2 0 _ (tys0 hK 0 (by decide))).2
  obtain ⟨comp, cA2, kA, k3, -, k1, k2, k4⟩ := arrayOverA_spec (hK.2.2.1 args)
  cases ((hK.1.2 3 _ (tys0 hK 3 (by decide))).2 : s.vm.findClass ("[" ++ (FieldType.array FieldType.int).toString) = some (dA 3)).symm.trans k4
  cases k3.symm.trans hR
  obtain ⟨kE, hkE, -⟩ := Vm.findClass_spec k3
  refine W.aast hx hb (hP 0 _ rfl) (fun q h => by cases h) (fun h => by cases h) k1 k2 rfl hkE ⟨fun q => hin (Or.inl q), by show _ < (arrV _ _ _).slots.size; rw [arrV_size]; exact hlt⟩ g1 (fun q h => by cases h) hkE (va_asg _ _) rfl rfl d fun H1 e1 z1 oq => ?_
  refine K hx hb hml ho hts hK hN H1 _ ls (hA.put ?_ z1 oq) (hS.put oq) hl
  show H1[B + a]? = some (vp_cell _ _)
  rw [e1]
  show _ = some (vp_cell _ (M, _))
  rw [vp_cell_q, vp_cell_q, arrV_store]
  congr 2
  funext q
  rw [iZ_nat h0 (by omega)]
  by_cases hq : q = z.toNat
  · subst hq; simp [updV, uR, va_rf, ev]
  · simp [updV, uR, hq]
end RW2
