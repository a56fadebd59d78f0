/-! the law's script: an array of ints below B, never written -/
def SCR (X : Ctx) (L : Nat) (xs : Nat → Int32) : Prop := match X with
  | (_, _, _, s, _, _, _, _, _, _, _, H0, B, b, _) => va_X b L xs s H0 ∧ b < B
theorem BIG_adr {B b : Nat} : adr B b BIG = b := if_neg (Nat.lt_irrefl _)
section SC
variable {X : Ctx} {own : String} {cc : ByteArray} {R : Room} {N k n pc : Nat} {Ls : List (Option Value)} {S : List Value} {h : Hp}
theorem r_sld {L : Nat} {xs : Nat → Int32} {z : Int} (hX : SCR X L xs) (d : decode cc pc = .ok (.iaload, 1)) (h0 : 0 ≤ z) (h1 : z < L) (hL : L < 2147483648) (K : G X own cc R N k n (pc + 1) Ls (.int (xs z.toNat) :: S) h) : G X own cc R N k n pc Ls (.int (iZ z) :: .ref BIG :: S) h := by
  obtain ⟨p, l, e, s, m, args, below, meth, c, D, dA, H0, B, b, Q⟩ := X
  intro hx hb hml ho hts hK hN H locs ls hA hS hl
  show W p l e R s m args below meth c H locs k n Q (F0 m pc ls (.int (iZ z) :: .ref (adr B b BIG) :: S.map (cv B b)))
  rw [BIG_adr]
  obtain ⟨⟨scr, x1, x2, x3, x4, x5⟩, hbB⟩ := hX
  have hnat : (iZ z).toNatClampNeg = z.toNat := iZ_nat h0 (by omega)
  refine va_sld (A := fun q => B ≤ q) (L := L) (xs := xs) (H0 := H) hx hb ⟨scr, by rw [hS.1 b hbB]; exact x1, x2, x3, x4, x5⟩ (by
    have := (Array.getElem?_eq_some_iff.mp ((hS.1 b hbB).trans x1)).1
    exact this) (by show ¬ B ≤ b; omega) ⟨Nat.le_refl _, fun _ _ _ => rfl, hS.2⟩ (iZ_in h0 h1 hL) d ?_
  show W p l e R s m args below meth c H locs k n Q (F0 m (pc + 1) ls (.int (xs (iZ z).toNatClampNeg) :: S.map (cv B b)))
  rw [hnat]
  exact K hx hb hml ho hts hK hN H locs ls hA hS hl
theorem r_slen {L : Nat} {xs : Nat → Int32} (hX : SCR X L xs) (d : decode cc pc = .ok (.arraylength, 1)) (K : G X own cc R N k n (pc + 1) Ls (.int (iZ (L : Int)) :: S) h) : G X own cc R N k n pc Ls (.ref BIG :: S) h := by
  obtain ⟨p, l, e, s, m, args, below, meth, c, D, dA, H0, B, b, Q⟩ := X
  intro hx hb hml ho hts hK hN H locs ls hA hS hl
  show W p l e R s m args below meth c H locs k n Q (F0 m pc ls (.ref (adr B b BIG) :: S.map (cv B b)))
  rw [BIG_adr]
  obtain ⟨⟨scr, x1, x2, x3, x4, x5⟩, hbB⟩ := hX
  refine va_slen (A := fun q => B ≤ q) (L := L) (xs := xs) (H0 := H) hx hb ⟨scr, by rw [hS.1 b hbB]; exact x1, x2, x3, x4, x5⟩ (by
    have := (Array.getElem?_eq_some_iff.mp ((hS.1 b hbB).trans x1)).1
    exact this) (by show ¬ B ≤ b; omega) ⟨Nat.le_refl _, fun _ _ _ => rfl, hS.2⟩ d ?_
  exact K hx hb hml ho hts hK hN H locs ls hA hS hl
end SC
theorem x32 (x : Int32) : rI x.toInt := ⟨by have := x.le_toInt; omega, by have := x.toInt_lt; omega⟩
theorem r_sldi {X : Ctx} {own : String} {cc : ByteArray} {R : Room} {N k n pc : Nat} {Ls : List (Option Value)} {S : List Value} {h : Hp} {L : Nat} {xs : Nat → Int32} {z : Int} (hX : SCR X L xs) (d : decode cc pc = .ok (.iaload, 1)) (h0 : 0 ≤ z) (h1 : z < L) (hL : L < 2147483648) (K : G X own cc R N k n (pc + 1) Ls (.int (iZ (xs z.toNat).toInt) :: S) h) : G X own cc R N k n pc Ls (.int (iZ z) :: .ref BIG :: S) h :=
  r_sld hX d h0 h1 hL (by rw [iZ_x] at K; exact K)
