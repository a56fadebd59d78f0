theorem r_icmp_same {X : Ctx} {own : String} {cc : ByteArray} {R : Room} {N k n pc : Nat} {L : List (Option Value)} {S : List Value} {h : Hp} {x off : Int} (tgt : Nat) (d : decode cc pc = .ok (.if_icmp .eq off, 3)) (ht : (pc : Int) + off = (tgt : Int)) (K : G X own cc R N k n tgt L S h) : G X own cc R N k n pc L (.int (iZ x) :: .int (iZ x) :: S) h := by
  rw [← iZ_x (iZ x)]
  exact r_icmp_eq tgt d ht (x32 _) (x32 _) (fun _ => K) (fun w => absurd rfl w)
theorem x64 (x : Int64) : rL x.toInt := ⟨by have := x.le_toInt; omega, by have := x.toInt_lt; omega⟩
theorem r_lcmp_same {X : Ctx} {own : String} {cc : ByteArray} {R : Room} {N k n pc : Nat} {L : List (Option Value)} {S : List Value} {h : Hp} {x off : Int} (tgt : Nat) (d1 : decode cc pc = .ok (.lcmp, 1)) (d : decode cc (pc + 1) = .ok (.ifCond .eq off, 3)) (ht : ((pc + 1 : Nat) : Int) + off = (tgt : Int)) (K : G X own cc R N k n tgt L S h) : G X own cc R N k n pc L (.long (lZ x) :: .long (lZ x) :: S) h := by
  rw [← lZ_x (lZ x)]
  exact r_lcmp_eq tgt d1 d ht (x64 _) (x64 _) (fun _ => K) (fun w => absurd rfl w)
theorem and31 (x : Int32) : ∃ v : Int, x &&& iZ 31 = iZ v ∧ 0 ≤ v ∧ v ≤ 31 := by
  have e : (x &&& iZ 31).toBitVec.toNat ≤ 31 := by
    rw [Int32.toBitVec_and, BitVec.toNat_and]
    exact Nat.and_le_right
  have e2 : (x &&& iZ 31).toInt = ((x &&& iZ 31).toBitVec.toNat : Int) := by
    show (x &&& iZ 31).toBitVec.toInt = _
    exact BitVec.toInt_eq_toNat_of_lt (by omega)
  exact ⟨(x &&& iZ 31).toInt, (iZ_x _).symm, by omega, by omega⟩
theorem CI.RB {h : Hp} {tb : Nat → Int} {ln : Nat} {K : Nat → Nat} {C S : Nat → Nat → Int} {p : Int} {vs : Nat → Int} {sz : Nat} (F : CI h tb ln K C S p vs sz) : ∀ i, i < 6 → RB (K i) (C i) (S i) := fun i hi => (F.2.2.1.2 i hi).2
theorem CI.ob {h : Hp} {tb : Nat → Int} {ln : Nat} {K : Nat → Nat} {C S : Nat → Nat → Int} {p : Int} {vs : Nat → Int} {sz : Nat} (F : CI h tb ln K C S p vs sz) : h 0 = OBo := F.1
theorem CI.tx {h : Hp} {tb : Nat → Int} {ln : Nat} {K : Nat → Nat} {C S : Nat → Nat → Int} {p : Int} {vs : Nat → Int} {sz : Nat} (F : CI h tb ln K C S p vs sz) : ln ≤ 100 ∧ ∀ j, j < 100 → 0 ≤ tb j ∧ tb j ≤ 255 := by
  obtain ⟨_, ⟨k, c, s, nu, be, _, _, _, _, h1, h2⟩, _⟩ := F
  exact ⟨h1, h2⟩
theorem MDI.ob {h : Hp} {tb : Nat → Int} {ln : Nat} {K : Nat → Nat} {C S : Nat → Nat → Int} {p : Int} {vs : Nat → Int} {sz : Nat} (F : MDI h tb ln K C S p vs sz) : ∃ fs, h 124 = ob 11 fs := by
  obtain ⟨at_, wr, va, em, ta, ro, dg, om, ml, ms, a130, a131, a132, a133, a134, a135, a136, a137, a138, a139, a140, a141, a142, a143, a144, a145, h0, _⟩ := F
  exact ⟨_, h0⟩
theorem OUTM.ci {h h2 : Hp} (F : OUTM h h2) : ∀ a, a < 124 → h2 a = h a := F
theorem OUT.md {h h2 : Hp} (F : OUT h h2) : ∀ a, 124 ≤ a → a < 146 → h2 a = h a := fun a h8 _ => F a h8
