/-! a method's contract: from these arguments and this heap it ends, and Q holds of the answer and of the heap behind it -/
abbrev MI : Type := MethodName × ByteArray × Nat × Option FieldType × Room
abbrev MI.y (M : MI) : MethodName := M.1
abbrev MI.bc (M : MI) : ByteArray := M.2.1
abbrev MI.mL (M : MI) : Nat := M.2.2.1
abbrev MI.rt (M : MI) : Option FieldType := M.2.2.2.1
abbrev MI.rm (M : MI) : Room := M.2.2.2.2
abbrev QP : Type := Option Value → Nat → Hp → Prop
def PcA (D : va_G) (dA : Nat → ClassId) (B b N : Nat) (av : List Value) (h : Hp) : Array Value → State → Prop := fun a U => a = (av.map (cv B b)).toArray ∧ AH D dA B b N h U.heap ∧ KK D dA U
def QcA (D : va_G) (dA : Nat → ClassId) (B b : Nat) (Q : QP) : Array Value → State → Outcome → State → Prop := fun _ st oc t => (∃ (r : Option Value) (N' : Nat) (h' : Hp), oc = .returned (r.map (cv B b)) ∧ Q r N' h' ∧ N' ≤ BIG ∧ AH D dA B b N' h' t.heap) ∧ ∀ q : Nat, q < B → t.heap[q]? = st.heap[q]?
def Runs (M : MI) (av : List Value) (N : Nat) (h : Hp) (Q : QP) : Prop := ∀ (l : Launch) (D : va_G) (dA : Nat → ClassId) (B b : Nat), N ≤ BIG → Met l M.y (Cond.code M.y M.bc M.mL M.rt :: TS) M.rm (PcA D dA B b N av h) (QcA D dA B b Q) M.rm.cells M.rm.slots (fun q => B ≤ q)
theorem Runs.mono {M : MI} {av : List Value} {N : Nat} {h : Hp} {Q Q' : QP} (H : Runs M av N h Q) (i : ∀ r N' h', Q r N' h' → Q' r N' h') : Runs M av N h Q' := by
  intro l D dA B b hN p e ha hc hk s m args below hf hX hP hT
  obtain ⟨t, o, h1, h2, h3, ⟨⟨r, N', h', q1, q2, q3, q4⟩, q5⟩, h5⟩ := H l D dA B b hN p e ha hc hk s m args below hf hX hP hT
  exact ⟨t, o, h1, h2, h3, ⟨⟨r, N', h', q1, i _ _ _ q2, q3, q4⟩, q5⟩, h5⟩
def XQ (X : Ctx) (M : MI) (Q : QP) : Prop := match X with
  | (_, _, _, s, _, args, below, meth, _, D, dA, H0, B, b, Qs) => H0 = s.heap ∧ Qs = MQ below (QcA D dA B b Q) args s M.rm.cells M.rm.slots (fun q => B ≤ q) ∧ meth.sig.returnType = M.rt ∧ meth.locks = false
def entL : List Value → List (Option Value)
  | [] => []
  | .long x :: vs => some (.long x) :: none :: entL vs
  | .double x :: vs => some (.double x) :: none :: entL vs
  | v :: vs => some v :: entL vs
theorem lo_nones (B b : Nat) : ∀ (k i : Nat), lo B b i (List.replicate k none) = []
  | 0, i => rfl
  | k + 1, i => by rw [List.replicate_succ]; exact lo_nones B b k (i + 1)
theorem entL_lo (B b k : Nat) : ∀ (vs : List Value) (i : Nat), lv_args i (vs.map (cv B b)) = lo B b i (entL vs ++ List.replicate k none)
  | [], i => by simp [lv_args, entL, lo_nones]
  | v :: vs, i => by
    cases v <;> simp [lv_args, entL, lo, cv, Value.category, entL_lo B b k vs]
theorem entL_len (B b : Nat) : ∀ (vs : List Value), (lg_sl (vs.map (cv B b))).length = (entL vs).length
  | [] => rfl
  | v :: vs => by
    have ih := entL_len B b vs
    cases v <;> simp [lg_sl, entL, cv, Value.category] at ih ⊢ <;> exact ih
/-- a method's contract out of the walk of its body -/
theorem run_start {M : MI} {av : List Value} {N : Nat} {h : Hp} {Q : QP} {own : String} {L0 : List (Option Value)} (hown : M.y.cls = own) (hy : plainName M.y.cls = true) (hm : (entL av).length ≤ M.mL) (hL0 : entL av ++ List.replicate (M.mL - (entL av).length) none = L0)
    (body : ∀ X : Ctx, XQ X M Q → (M.y.name = "<init>" → XI X) → G X own M.bc M.rm N 0 0 0 L0 [] h) : Runs M av N h Q := by
  intro l D dA B b hN
  refine Met.ofW (cc := M.bc) (maxL := M.mL) (ret := M.rt) hy rfl ?_
  intro p e s m args below meth c s₁ Bd hml hv
  obtain ⟨rfl, hA, hK⟩ := hv
  have hlen : L0.length = M.mL := by rw [← hL0]; simp; omega
  have ts := atoms_spec (ws := Cond.code M.y M.bc M.mL M.rt :: TS) Bd.pre
  have hl := lv_entry (av.map (cv B b)) (n := M.mL) (by rw [entL_len]; exact hm)
  rw [lg_entry_eq]
  refine body (p, l, e, s, m, (av.map (cv B b)).toArray, below, meth, c, D, dA, s.heap, B, b, _) ⟨rfl, rfl, Bd.returns, Bd.notSynchronized⟩ (fun hi => (name_of_methodNamed Bd.named Bd.method).1.trans hi) Bd.exec Bd.bytes (hml.trans hlen.symm) (by rw [← hown]; exact findClass_of_methodNamed Bd.named) (fun w hw => ts w (List.mem_cons_of_mem _ hw)) hK hN s.heap [] _ hA ⟨fun q _ => rfl, fun l hl => by cases hl⟩ ?_
  rw [hlen, ← hL0, ← entL_lo B b]
  exact hl

/-- what the words say of a call: its link, its code, its descriptor -/
def LkC (M : MI) (na : Nat) : Prop := Cond.initialized M.y.cls ∈ TS ∧ Cond.code M.y M.bc M.mL M.rt ∈ TS ∧ M.y.cls ≠ "java/lang/invoke/MethodHandle" ∧ M.y.cls ≠ "java/lang/invoke/VarHandle" ∧ (parseMethodDescriptor M.y.desc).map (fun d => d.parameters.length) = some na
def RmC (M : MI) (R : Room) : Prop := M.rm.frames + 1 ≤ R.frames ∧ 8 + (M.mL + 11) + M.rm.locals ≤ R.locals
theorem blindA {D : va_G} {dA : Nat → ClassId} {B b N : Nat} {av : List Value} {h : Hp} : FrameBlind (PcA D dA B b N av h) := fun _ U _ _ q => ⟨q.1, q.2.1, KK.same (u := U) rfl q.2.2⟩
theorem callB_ofT {R : Room} {s : State} {args : Array Value} {own : String} {idx na : Nat} {M : MI} (hts : ∀ w ∈ TS, w.before args s = true) (hc : LkC M na) (hR : RmC M R) (hl : Cond.methodLink own idx M.y ∈ TS) : CallB R s args own idx M.y M.bc M.mL M.rt (Cond.code M.y M.bc M.mL M.rt :: TS) M.rm M.rm.cells M.rm.slots na :=
  callB_of na hts (wsub hc.2.1) rfl rfl rfl (hts _ hc.1) (hts _ hl) ⟨hc.2.2.1, hc.2.2.2.1, hc.2.2.2.2⟩ hR
section RUN
variable {p : Program} {l : Launch} {e : Env} {R : Room} {s : State} {m : MethodId} {args : Array Value} {below : List Frame} {meth : Method} {c : Code} {H : Heap} {locs : List Loc} {k n pc mc ms : Nat} {Qs : State → Prop} {ls : Array Slot} {st0 rest : List Value} {D : va_G} {dA : Nat → ClassId} {H0 : Heap} {B b : Nat} {Q : QP} {a : Array Value}
theorem run_go (run : va_Run p l e R s m args below meth c H locs k n mc ms (F0 m pc ls st0) rest (QcA D dA B b Q a) (fun q => B ≤ q)) (hS : SB B H0 H locs)
    (kk : ∀ (r : Option Value) (N' : Nat) (h' : Hp) (H1 : Heap) (locs1 : List Loc), Q r N' h' → N' ≤ BIG → AH D dA B b N' h' H1 → SB B H0 H1 locs1 → W p l e R s m args below meth c H1 locs1 (k + mc) (n + ms) Qs (F0 m (pc + 3) ls ((r.map (cv B b)).toList ++ rest))) : W p l e R s m args below meth c H locs k n Qs (F0 m pc ls st0) := by
  intro T hT X0
  obtain ⟨v, st₀, t, T', Lc, h0, X', hL, e1, e2, ⟨⟨r, N', h', hv, hq, hN', hA'⟩, hk⟩, st⟩ := run T hT X0
  cases hv
  obtain ⟨t2, a1, b1⟩ := kk r N' h' T'.heap (locs ++ Lc) hq hN' (by rw [e1]; exact hA') ⟨fun q hq => by rw [e1, hk q hq, h0]; exact hS.1 q hq, fun q hq => by
    rcases List.mem_append.mp hq with z | z
    · exact hS.2 q z
    · exact hL q z⟩ T' rfl X'
  exact ⟨t2, st t2 a1, b1⟩
end RUN
def cpy (f g : Nat → Int) (sp dp n : Nat) : Nat → Int := fun j => if dp ≤ j ∧ j < dp + n then f (sp + (j - dp)) else g j
section RW3
variable {X : Ctx} {own : String} {cc : ByteArray} {R : Room} {N k n pc : Nat} {L : List (Option Value)} {S : List Value} {h : Hp}
theorem r_ireturn {z : Int} {M : MI} {Q : QP} (hq : XQ X M Q) (d : decode cc pc = .ok (.ireturn, 1)) (hret : M.rt = some .int) (hk : k = M.rm.cells) (hn : n = M.rm.slots) (hv : Q (some (.int (iZ z))) N h) : G X own cc R N k n pc L ([.int (iZ z)]) h := by
  obtain ⟨p, l, e, s, m, args, below, meth, c, D, dA, H0, B, b, Qs⟩ := X
  obtain ⟨rfl, rfl, hr, hlk⟩ := hq
  intro hx hb hml ho hts hK hN H locs ls hA hS hl
  subst hk; subst hn
  exact W.iret (v := iZ z) hx hb (hr.trans hret) (fun t ht hW => ⟨⟨_, N, h, rfl, hv, hN, by rw [ht]; exact hA⟩, fun q hq => by rw [ht]; exact hS.1 q hq⟩) hS.2 d hlk
theorem r_zreturn {z : Int} {M : MI} {Q : QP} (hq : XQ X M Q) (d : decode cc pc = .ok (.ireturn, 1)) (hret : M.rt = some .boolean) (hz : z = 0 ∨ z = 1) (hk : k = M.rm.cells) (hn : n = M.rm.slots) (hv : Q (some (.int (iZ z))) N h) : G X own cc R N k n pc L ([.int (iZ z)]) h := by
  obtain ⟨p, l, e, s, m, args, below, meth, c, D, dA, H0, B, b, Qs⟩ := X
  obtain ⟨rfl, rfl, hr, hlk⟩ := hq
  intro hx hb hml ho hts hK hN H locs ls hA hS hl
  subst hk; subst hn
  exact W.zret (v := iZ z) (ty := .boolean) hx hb (hr.trans hret) (by rcases hz with q | q <;> subst q <;> rfl) (fun t ht hW => ⟨⟨_, N, h, rfl, hv, hN, by rw [ht]; exact hA⟩, fun q hq => by rw [ht]; exact hS.1 q hq⟩) hS.2 d hlk
theorem r_lreturn {z : Int} {M : MI} {Q : QP} (hq : XQ X M Q) (d : decode cc pc = .ok (.lreturn, 1)) (hret : M.rt = some .long) (hk : k = M.rm.cells) (hn : n = M.rm.slots) (hv : Q (some (.long (lZ z))) N h) : G X own cc R N k n pc L ([.long (lZ z)]) h := by
  obtain ⟨p, l, e, s, m, args, below, meth, c, D, dA, H0, B, b, Qs⟩ := X
  obtain ⟨rfl, rfl, hr, hlk⟩ := hq
  intro hx hb hml ho hts hK hN H locs ls hA hS hl
  subst hk; subst hn
  exact W.lret (v := lZ z) hx hb (hr.trans hret) (fun t ht hW => ⟨⟨_, N, h, rfl, hv, hN, by rw [ht]; exact hA⟩, fun q hq => by rw [ht]; exact hS.1 q hq⟩) hS.2 d hlk
theorem r_return {M : MI} {Q : QP} (hq : XQ X M Q) (d : decode cc pc = .ok (.return_, 1)) (hret : M.rt = none) (hk : k = M.rm.cells) (hn : n = M.rm.slots) (hv : Q (none) N h) : G X own cc R N k n pc L ([]) h := by
  obtain ⟨p, l, e, s, m, args, below, meth, c, D, dA, H0, B, b, Qs⟩ := X
  obtain ⟨rfl, rfl, hr, hlk⟩ := hq
  intro hx hb hml ho hts hK hN H locs ls hA hS hl
  subst hk; subst hn
  exact W.vret hx hb (hr.trans hret) (fun t ht hW => ⟨⟨_, N, h, rfl, hv, hN, by rw [ht]; exact hA⟩, fun q hq => by rw [ht]; exact hS.1 q hq⟩) hS.2 d hlk
theorem r_callS {M : MI} {av S0 : List Value} {idx na : Nat} (d : decode cc pc = .ok (.invokestatic idx, 3)) (hc : LkC M na) (hl0 : Cond.methodLink own idx M.y ∈ TS) (hst0 : Cond.static M.y ∈ TS) (hR : RmC M R) (hna : av.length = na) (hst : S0 = av.reverse ++ S) (hW : (S.map fun v => v.category).sum ≤ 8) (hrm : k + M.rm.cells ≤ R.cells ∧ n + M.rm.slots ≤ R.slots) (hM : Runs M av N h (fun r N' h' => G X own cc R N' (k + M.rm.cells) (n + M.rm.slots) (pc + 3) L (r.toList ++ S) h')) : G X own cc R N k n pc L S0 h := by
  obtain ⟨p, l, e, s, m, args, below, meth, c, D, dA, H0, B, b, Qs⟩ := X
  intro hx hb hml ho hts hK hN H locs ls hA hS hl
  have hW2 : ((S.map (cv B b)).map fun v => v.category).sum ≤ 8 := by rw [List.map_map]; simpa [Function.comp_def, cv_cat] using hW
  subst hst
  refine run_go (Q := fun r N' h' => G (p, l, e, s, m, args, below, meth, c, D, dA, H0, B, b, Qs) own cc R N' (k + M.rm.cells) (n + M.rm.slots) (pc + 3) L (r.toList ++ S) h') (va_runS (As := av.map (cv B b)) (rest := S.map (cv B b)) (g := F0 m pc ls ((av.reverse ++ S).map (cv B b))) ⟨hx, hb, hml, ho, hts⟩ (hM l D dA B b hN) ⟨callB_ofT hts hc hR hl0, hts _ hst0⟩ ⟨blindA, fun U hU hW => ⟨rfl, by rw [hU]; exact hA, hK.warm hW⟩⟩ rfl (by rw [List.length_map]; exact hna) hl.1 (by rw [List.map_append, List.map_reverse]) (lv_room (rest := (av.reverse ++ S).map (cv B b)) hW2) d hrm) hS (fun r N' h' H1 locs1 hq hN' hA' hS' => ?_)
  have z := hq hx hb hml ho hts hK hN' H1 locs1 ls hA' hS' hl
  rw [List.map_append] at z
  rw [show (r.map (cv B b)).toList = r.toList.map (cv B b) by cases r <;> rfl]
  exact z
theorem r_callV {M : MI} {av S0 : List Value} {idx na a ci Mf : Nat} {T : u_T} (d : decode cc pc = .ok (.invokevirtual idx, 3)) (hc : LkC M na) (hl0 : Cond.methodLink own idx M.y ∈ TS) (hin0 : Cond.instanceMethod M.y ∈ TS) (hsel : Cond.selects M.y.cls M.y M.y ∈ TS) (ha : a < N) (hci : vwCl[ci]? = some (M.y.cls, T, Mf)) (hob : ∃ fs, h a = ob ci fs) (hR : RmC M R) (hna : av.length = na) (hst : S0 = av.reverse ++ .ref a :: S) (hW : (S.map fun v => v.category).sum ≤ 8) (hrm : k + M.rm.cells ≤ R.cells ∧ n + M.rm.slots ≤ R.slots) (hM : Runs M (.ref a :: av) N h (fun r N' h' => G X own cc R N' (k + M.rm.cells) (n + M.rm.slots) (pc + 3) L (r.toList ++ S) h')) : G X own cc R N k n pc L S0 h := by
  obtain ⟨p, l, e, s, m, args, below, meth, c, D, dA, H0, B, b, Qs⟩ := X
  intro hx hb hml ho hts hK hN H locs ls hA hS hl
  have hW2 : ((S.map (cv B b)).map fun v => v.category).sum ≤ 8 := by rw [List.map_map]; simpa [Function.comp_def, cv_cat] using hW
  subst hst
  obtain ⟨fs, hfs⟩ := hob
  have hP := hA.one ha
  rw [hfs] at hP
  have ea : adr B b a = B + a := adr_lt (Nat.lt_of_lt_of_le ha hN)
  refine run_go (Q := fun r N' h' => G (p, l, e, s, m, args, below, meth, c, D, dA, H0, B, b, Qs) own cc R N' (k + M.rm.cells) (n + M.rm.slots) (pc + 3) L (r.toList ++ S) h') (va_runV (As := av.map (cv B b)) (rest := S.map (cv B b)) (b := B + a) (g := F0 m pc ls ((av.reverse ++ .ref a :: S).map (cv B b))) ⟨hx, hb, hml, ho, hts⟩ (hM l D dA B b hN) ⟨callB_ofT hts hc hR hl0, hts _ hin0, hts _ hsel⟩ ⟨blindA, va_recv hK.1 hP hci (q0 := 0) rfl, fun U hU hW => ⟨by rw [List.map_cons, ← ea]; rfl, by rw [hU]; exact hA, hK.warm hW⟩⟩ rfl (by rw [List.length_map]; exact hna) hl.1 (by rw [List.map_append, List.map_reverse, List.map_cons, ← ea]; rfl) (lv_room (rest := (av.reverse ++ .ref a :: S).map (cv B b)) hW2) d hrm) hS (fun r N' h' H1 locs1 hq hN' hA' hS' => ?_)
  have z := hq hx hb hml ho hts hK hN' H1 locs1 ls hA' hS' hl
  rw [List.map_append] at z
  rw [show (r.map (cv B b)).toList = r.toList.map (cv B b) by cases r <;> rfl]
  exact z
theorem r_callI {M : MI} {av S0 : List Value} {idx na a : Nat} (d : decode cc pc = .ok (.invokespecial idx, 3)) (hc : LkC M na) (hl0 : Cond.methodLink own idx M.y ∈ TS) (hin0 : Cond.instanceMethod M.y ∈ TS) (hini : M.y.name = "<init>") (hrt : M.rt = none) (ha : a < N) (hR : RmC M R) (hna : av.length = na) (hst : S0 = av.reverse ++ .ref a :: S) (hW : (S.map fun v => v.category).sum ≤ 8) (hrm : k + M.rm.cells ≤ R.cells ∧ n + M.rm.slots ≤ R.slots) (hM : Runs M (.ref a :: av) N h (fun r N' h' => G X own cc R N' (k + M.rm.cells) (n + M.rm.slots) (pc + 3) L (r.toList ++ S) h')) : G X own cc R N k n pc L S0 h := by
  obtain ⟨p, l, e, s, m, args, below, meth, c, D, dA, H0, B, b, Qs⟩ := X
  intro hx hb hml ho hts hK hN H locs ls hA hS hl
  have hW2 : ((S.map (cv B b)).map fun v => v.category).sum ≤ 8 := by rw [List.map_map]; simpa [Function.comp_def, cv_cat] using hW
  subst hst
  have ea : adr B b a = B + a := adr_lt (Nat.lt_of_lt_of_le ha hN)
  obtain ⟨y, bc, mL, rt, rm⟩ := M
  have hrt : rt = none := hrt
  subst hrt
  refine run_go (Q := fun r N' h' => G (p, l, e, s, m, args, below, meth, c, D, dA, H0, B, b, Qs) own cc R N' (k + rm.cells) (n + rm.slots) (pc + 3) L (r.toList ++ S) h') (va_runI (As := av.map (cv B b)) (rest := S.map (cv B b)) (b := B + a) (g := F0 m pc ls ((av.reverse ++ .ref a :: S).map (cv B b))) ⟨hx, hb, hml, ho, hts⟩ (hM l D dA B b hN) ⟨callB_ofT (M := (y, bc, mL, none, rm)) hts hc hR hl0, hini, hts _ hin0⟩ ⟨blindA, fun U hU hW => ⟨by rw [List.map_cons, ← ea]; rfl, by rw [hU]; exact hA, hK.warm hW⟩⟩ rfl (by rw [List.length_map]; exact hna) hl.1 (by rw [List.map_append, List.map_reverse, List.map_cons, ← ea]; rfl) (lv_room (rest := (av.reverse ++ .ref a :: S).map (cv B b)) hW2) d hrm) hS (fun r N' h' H1 locs1 hq hN' hA' hS' => ?_)
  have z := hq hx hb hml ho hts hK hN' H1 locs1 ls hA' hS' hl
  rw [List.map_append] at z
  rw [show (r.map (cv B b)).toList = r.toList.map (cv B b) by cases r <;> rfl]
  exact z
theorem r_callSN {M : MI} {av S0 : List Value} {idx na : Nat} {host : String} (d : decode cc pc = .ok (.invokestatic idx, 3)) (hc : LkC M na) (hl0 : (own, idx, M.y, host) ∈ NL) (hst0 : Cond.static M.y ∈ TS) (hR : RmC M R) (hna : av.length = na) (hst : S0 = av.reverse ++ S) (hW : (S.map fun v => v.category).sum ≤ 8) (hrm : k + M.rm.cells ≤ R.cells ∧ n + M.rm.slots ≤ R.slots) (hM : Runs M av N h (fun r N' h' => G X own cc R N' (k + M.rm.cells) (n + M.rm.slots) (pc + 3) L (r.toList ++ S) h')) : G X own cc R N k n pc L S0 h := by
  obtain ⟨p, l, e, s, m, args, below, meth, c, D, dA, H0, B, b, Qs⟩ := X
  intro hx hb hml ho hts hK hN H locs ls hA hS hl
  have hW2 : ((S.map (cv B b)).map fun v => v.category).sum ≤ 8 := by rw [List.map_map]; simpa [Function.comp_def, cv_cat] using hW
  subst hst
  have hnw := hK.2.2.2 _ hl0
  refine run_go (Q := fun r N' h' => G (p, l, e, s, m, args, below, meth, c, D, dA, H0, B, b, Qs) own cc R N' (k + M.rm.cells) (n + M.rm.slots) (pc + 3) L (r.toList ++ S) h') (va_runSN (As := av.map (cv B b)) (rest := S.map (cv B b)) (n := na) (g := F0 m pc ls ((av.reverse ++ S).map (cv B b))) ⟨hx, hb, hml, ho, hts⟩ (hM l D dA B b hN) ⟨⟨⟨rfl, rfl, hR.1, hR.2, pay_in hts (wsub hc.2.1), List.mem_cons_self⟩, hts _ hc.2.1, hts _ hc.1, ⟨hc.2.2.1, hc.2.2.2.1⟩, (fun sig q => by have h2 := hc.2.2.2.2; rw [q] at h2; exact (Option.some.inj h2).symm), va_Nw.use rfl hnw⟩, hts _ hst0, trivial⟩ ⟨blindA, fun U hU hW => ⟨rfl, by rw [hU]; exact hA, hK.warm hW⟩⟩ rfl (by rw [List.length_map]; exact hna) hl.1 (by rw [List.map_append, List.map_reverse]) (lv_room (rest := (av.reverse ++ S).map (cv B b)) hW2) d hrm) hS (fun r N' h' H1 locs1 hq hN' hA' hS' => ?_)
  have z := hq hx hb hml ho hts hK hN' H1 locs1 ls hA' hS' hl
  rw [List.map_append] at z
  rw [show (r.map (cv B b)).toList = r.toList.map (cv B b) by cases r <;> rfl]
  exact z
theorem r_callIN {M : MI} {av S0 : List Value} {idx na a : Nat} {host : String} (d : decode cc pc = .ok (.invokespecial idx, 3)) (hc : LkC M na) (hl0 : (own, idx, M.y, host) ∈ NL) (hin0 : Cond.instanceMethod M.y ∈ TS) (hini : M.y.name = "<init>") (hrt : M.rt = none) (ha : a < N) (hR : RmC M R) (hna : av.length = na) (hst : S0 = av.reverse ++ .ref a :: S) (hW : (S.map fun v => v.category).sum ≤ 8) (hrm : k + M.rm.cells ≤ R.cells ∧ n + M.rm.slots ≤ R.slots) (hM : Runs M (.ref a :: av) N h (fun r N' h' => G X own cc R N' (k + M.rm.cells) (n + M.rm.slots) (pc + 3) L (r.toList ++ S) h')) : G X own cc R N k n pc L S0 h := by
  obtain ⟨p, l, e, s, m, args, below, meth, c, D, dA, H0, B, b, Qs⟩ := X
  intro hx hb hml ho hts hK hN H locs ls hA hS hl
  have hW2 : ((S.map (cv B b)).map fun v => v.category).sum ≤ 8 := by rw [List.map_map]; simpa [Function.comp_def, cv_cat] using hW
  subst hst
  have ea : adr B b a = B + a := adr_lt (Nat.lt_of_lt_of_le ha hN)
  have hnw := hK.2.2.2 _ hl0
  obtain ⟨y, bc, mL, rt, rm⟩ := M
  have hrt : rt = none := hrt
  subst hrt
  refine run_go (Q := fun r N' h' => G (p, l, e, s, m, args, below, meth, c, D, dA, H0, B, b, Qs) own cc R N' (k + rm.cells) (n + rm.slots) (pc + 3) L (r.toList ++ S) h') (va_runIN (As := av.map (cv B b)) (rest := S.map (cv B b)) (b := B + a) (n := na) (g := F0 m pc ls ((av.reverse ++ .ref a :: S).map (cv B b))) ⟨hx, hb, hml, ho, hts⟩ (hM l D dA B b hN) ⟨⟨⟨rfl, rfl, hR.1, hR.2, pay_in hts (wsub hc.2.1), List.mem_cons_self⟩, hts _ hc.2.1, hts _ hc.1, ⟨hc.2.2.1, hc.2.2.2.1⟩, (fun sig q => by have h2 := hc.2.2.2.2; rw [q] at h2; exact (Option.some.inj h2).symm), va_Nw.use rfl hnw⟩, hini, hts _ hin0⟩ ⟨blindA, fun U hU hW => ⟨by rw [List.map_cons, ← ea]; rfl, by rw [hU]; exact hA, hK.warm hW⟩⟩ rfl (by rw [List.length_map]; exact hna) hl.1 (by rw [List.map_append, List.map_reverse, List.map_cons, ← ea]; rfl) (lv_room (rest := (av.reverse ++ .ref a :: S).map (cv B b)) hW2) d hrm) hS (fun r N' h' H1 locs1 hq hN' hA' hS' => ?_)
  have z := hq hx hb hml ho hts hK hN' H1 locs1 ls hA' hS' hl
  rw [List.map_append] at z
  rw [show (r.map (cv B b)).toList = r.toList.map (cv B b) by cases r <;> rfl]
  exact z
theorem r_objinit {idx a : Nat} (d : decode cc pc = .ok (.invokespecial idx, 3)) (hl0 : Cond.methodLink own idx Lib.objectInit ∈ TS) (hin0 : Cond.instanceMethod Lib.objectInit ∈ TS) (hc0 : Cond.code Lib.objectInit ⟨#[0xb1]⟩ 1 none ∈ TS) (hR : 1 ≤ R.frames ∧ 20 ≤ R.locals) (hW : (S.map fun v => v.category).sum ≤ 8) (K : G X own cc R N k n (pc + 3) L S h) : G X own cc R N k n pc L (.ref a :: S) h := by
  obtain ⟨p, l, e, s, m, args, below, meth, c, D, dA, H0, B, b, Qs⟩ := X
  intro hx hb hml ho hts hK hN H locs ls hA hS hl
  have hW2 : ((S.map (cv B b)).map fun v => v.category).sum ≤ 8 := by rw [List.map_map]; simpa [Function.comp_def, cv_cat] using hW
  refine W.objInit hx hb ho (hts _ hl0) (hts _ hin0) (hts _ hc0) rfl (hl.1.trans hml.symm) rfl d hR.1 ?_ (K hx hb hml ho hts hK hN H locs ls hA hS hl)
  have := hR.2
  have := lv_room (m := m) (pc := pc) (ls := ls) (rest := (.ref a :: S).map (cv B b)) hW2
  omega
theorem r_absL {x : Int} {idx : Nat} (d : decode cc pc = .ok (.invokestatic idx, 3)) (hl0 : Cond.methodLink own idx Lib.MathLoose.abs_long.x ∈ TS) (hst0 : Cond.static Lib.MathLoose.abs_long.x ∈ TS) (hini : Cond.initialized "java/lang/Math" ∈ TS) (hc0 : Cond.code Lib.MathLoose.abs_long.x Lib.MathLoose.abs_long.code 2 (some .long) ∈ TS) (hR : 1 ≤ R.frames ∧ 21 ≤ R.locals) (hW : (S.map fun v => v.category).sum ≤ 8) (hkn : k ≤ R.cells ∧ n ≤ R.slots) (hx1 : rL x) (K : G X own cc R N k n (pc + 3) L (.long (lZ (x.natAbs : Int)) :: S) h) : G X own cc R N k n pc L (.long (lZ x) :: S) h := by
  obtain ⟨p, l, e, s, m, args, below, meth, c, D, dA, H0, B, b, Qs⟩ := X
  intro hx hb hml ho hts hK hN H locs ls hA hS hl
  have hW2 : ((S.map (cv B b)).map fun v => v.category).sum ≤ 8 := by rw [List.map_map]; simpa [Function.comp_def, cv_cat] using hW
  have hR2 := hR.2
  refine va_mabs_long hx hb (hml.trans hl.1.symm) ho (hts _ hl0) (hts _ hst0) (hts _ hini) (hts _ hc0) hR.1 (by omega) hkn.1 hkn.2 d ?_
  have e1 : (if 0 < lZ x then lZ x else -lZ x) = lZ (x.natAbs : Int) := by
    have hc9 : (0 < lZ x) ↔ 0 < x := by rw [← lZ_0]; exact lZ_lt rL_0 hx1
    by_cases q : 0 < x
    · rw [if_pos (hc9.mpr q)]; congr 1; omega
    · rw [if_neg (fun z => q (hc9.mp z)), lZ_neg]; congr 1; omega
  rw [e1]
  exact K hx hb hml ho hts hK hN H locs ls hA hS hl
theorem r_max {x y : Int} {idx : Nat} (d : decode cc pc = .ok (.invokestatic idx, 3)) (hl0 : Cond.methodLink own idx Lib.Math.max.name ∈ TS) (hst0 : Cond.static Lib.Math.max.name ∈ TS) (hini : Cond.initialized "java/lang/Math" ∈ TS) (hc0 : Cond.code Lib.Math.max.name Lib.Math.max.code 2 (some .int) ∈ TS) (hR : 1 ≤ R.frames ∧ 21 ≤ R.locals) (hW : (S.map fun v => v.category).sum ≤ 8) (hkn : k ≤ R.cells ∧ n ≤ R.slots) (hx1 : rI x) (hy1 : rI y) (K : G X own cc R N k n (pc + 3) L (.int (iZ (max x y)) :: S) h) : G X own cc R N k n pc L (.int (iZ y) :: .int (iZ x) :: S) h := by
  obtain ⟨p, l, e, s, m, args, below, meth, c, D, dA, H0, B, b, Qs⟩ := X
  intro hx hb hml ho hts hK hN H locs ls hA hS hl
  have hW2 : ((S.map (cv B b)).map fun v => v.category).sum ≤ 8 := by rw [List.map_map]; simpa [Function.comp_def, cv_cat] using hW
  have hR2 := hR.2
  refine va_mmax hx hb (hml.trans hl.1.symm) ho (hts _ hl0) (hts _ hst0) (hts _ hini) (hts _ hc0) hR.1 (by omega) hkn.1 hkn.2 d ?_
  have e1 : (if iZ x < iZ y then iZ y else iZ x) = iZ (max x y) := by
    by_cases q : iZ x < iZ y
    · rw [if_pos q]; congr 1; have := (iZ_lt hx1 hy1).mp q; omega
    · rw [if_neg q]; congr 1; have : ¬ _ := fun z => q ((iZ_lt hx1 hy1).mpr z); omega
  rw [e1]
  exact K hx hb hml ho hts hK hN H locs ls hA hS hl
theorem r_min {x y : Int} {idx : Nat} (d : decode cc pc = .ok (.invokestatic idx, 3)) (hl0 : Cond.methodLink own idx Lib.Math.min.name ∈ TS) (hst0 : Cond.static Lib.Math.min.name ∈ TS) (hini : Cond.initialized "java/lang/Math" ∈ TS) (hc0 : Cond.code Lib.Math.min.name Lib.Math.min.code 2 (some .int) ∈ TS) (hR : 1 ≤ R.frames ∧ 21 ≤ R.locals) (hW : (S.map fun v => v.category).sum ≤ 8) (hkn : k ≤ R.cells ∧ n ≤ R.slots) (hx1 : rI x) (hy1 : rI y) (K : G X own cc R N k n (pc + 3) L (.int (iZ (min x y)) :: S) h) : G X own cc R N k n pc L (.int (iZ y) :: .int (iZ x) :: S) h := by
  obtain ⟨p, l, e, s, m, args, below, meth, c, D, dA, H0, B, b, Qs⟩ := X
  intro hx hb hml ho hts hK hN H locs ls hA hS hl
  have hW2 : ((S.map (cv B b)).map fun v => v.category).sum ≤ 8 := by rw [List.map_map]; simpa [Function.comp_def, cv_cat] using hW
  have hR2 := hR.2
  refine va_mmin hx hb (hml.trans hl.1.symm) ho (hts _ hl0) (hts _ hst0) (hts _ hini) (hts _ hc0) hR.1 (by omega) hkn.1 hkn.2 d ?_
  have e1 : (if iZ y < iZ x then iZ y else iZ x) = iZ (min x y) := by
    by_cases q : iZ y < iZ x
    · rw [if_pos q]; congr 1; have := (iZ_lt hy1 hx1).mp q; omega
    · rw [if_neg q]; congr 1; have : ¬ _ := fun z => q ((iZ_lt hy1 hx1).mpr z); omega
  rw [e1]
  exact K hx hb hml ho hts hK hN H locs ls hA hS hl
theorem r_copyL {idx a0 a1 n0 n1 : Nat} {f g : Nat → Int} {sp dp cn : Int} (d : decode cc pc = .ok (.invokestatic idx, 3)) (hl0 : Cond.methodLink own idx arraycopyName ∈ TS) (hnat : Cond.native arraycopyName ∈ TS) (hst0 : Cond.static arraycopyName ∈ TS) (hini : Cond.initialized "java/lang/System" ∈ TS) (ha0 : a0 < N) (ha1 : a1 < N) (he0 : h a0 = aL n0 f) (he1 : h a1 = aL n1 g) (h1 : 0 ≤ sp) (h2 : 0 ≤ dp) (h3 : 0 ≤ cn) (h4 : sp + cn ≤ n0) (h5 : dp + cn ≤ n1) (hb0 : n0 < 2147483648) (hb1 : n1 < 2147483648) (hR : 1 ≤ R.frames ∧ 40 ≤ R.locals) (hW : (S.map fun v => v.category).sum ≤ 8) (K : G X own cc R N k n (pc + 3) L S (hs h a1 (aL n1 (cpy f g sp.toNat dp.toNat cn.toNat)))) : G X own cc R N k n pc L (.int (iZ cn) :: .int (iZ dp) :: .ref a1 :: .int (iZ sp) :: .ref a0 :: S) h := by
  obtain ⟨p, l, e, s, m, args, below, meth, c, D, dA, H0, B, b, Qs⟩ := X
  intro hx hb hml ho hts hK hN H locs ls hA hS hl
  have hW2 : ((S.map (cv B b)).map fun v => v.category).sum ≤ 8 := by rw [List.map_map]; simpa [Function.comp_def, cv_cat] using hW
  have hR2 := hR.2
  have e0 : adr B b a0 = B + a0 := adr_lt (Nat.lt_of_lt_of_le ha0 hN)
  have e1 : adr B b a1 = B + a1 := adr_lt (Nat.lt_of_lt_of_le ha1 hN)
  show W p l e R s m args below meth c H locs k n Qs (F0 m pc ls (.int (iZ cn) :: .int (iZ dp) :: .ref (adr B b a1) :: .int (iZ sp) :: .ref (adr B b a0) :: S.map (cv B b)))
  rw [e0, e1]
  have hP0 := hA.one ha0
  rw [he0] at hP0
  have hP1 := hA.one ha1
  rw [he1] at hP1
  have nsp : (iZ sp).toNatClampNeg = sp.toNat := iZ_nat h1 (by omega)
  have ndp : (iZ dp).toNatClampNeg = dp.toNat := iZ_nat h2 (by omega)
  have ncn : (iZ cn).toNatClampNeg = cn.toNat := iZ_nat h3 (by omega)
  have rsp : rI sp := ⟨by omega, by omega⟩
  have rdp : rI dp := ⟨by omega, by omega⟩
  have rcn : rI cn := ⟨by omega, by omega⟩
  have e9 : nativeFrameWords "java/lang/System" "arraycopy" 5 + 11 ≤ 32 := by decide +kernel
  intro T hT X
  have hc0 : H[B + a0]? = some (vp_cell (dA 1) (n0, .inr (.inl (fun j => lZ (f j))))) := hP0 0 _ rfl
  have hc1 : H[B + a1]? = some (vp_cell (dA 1) (n1, .inr (.inl (fun j => lZ (g j))))) := hP1 0 _ rfl
  obtain ⟨-, k0, hk0, cm0, hkk0⟩ := (hK.1.2 1 _ (tys0 hK 1 (by decide))).1 n0 (fun j => .long (lZ (f j)))
  obtain ⟨-, k1, hk1, cm1, hkk1⟩ := (hK.1.2 1 _ (tys0 hK 1 (by decide))).1 n1 (fun j => .long (lZ (g j)))
  obtain ⟨vm', X', step⟩ := X.arraycopy hx ho (hts _ hl0) (hts _ hnat) (hts _ hst0) (hts _ hini) (src := B + a0) (dst := B + a1) (cs := vp_cell (dA 1) (n0, .inr (.inl (fun j => lZ (f j))))) (cd := vp_cell (dA 1) (n1, .inr (.inl (fun j => lZ (g j))))) (srcPos := iZ sp) (destPos := iZ dp) (n := iZ cn) (by rw [hT]; exact hc0) (by rw [hT]; exact hc1)
    (fun _ h => by cases h) (fun _ h => by cases h) (fun h => by cases h) (fun h => by cases h) hk0 hk1 hkk0 hkk1 (by simp [tyT]) (fun q => by have := (iZ_lt rsp rI_0).mp q; omega) (fun q => by have := (iZ_lt rdp rI_0).mp q; omega) (fun q => by have := (iZ_lt rcn rI_0).mp q; omega)
    (by rw [iZ_t rsp, iZ_t rcn]; show ¬ _ > ((arrV (dA 1) n0 (fun j => .long (lZ (f j)))).slots.size : Int); rw [arrV_size]; omega)
    (by rw [iZ_t rdp, iZ_t rcn]; show ¬ _ > ((arrV (dA 1) n1 (fun j => .long (lZ (g j)))).slots.size : Int); rw [arrV_size]; omega)
    (fun vm₁ _ i hi => by
      have e : (vp_cell (dA 1) (n0, .inr (.inl (fun j => lZ (f j))))).slots.getD ((iZ sp).toNatClampNeg + i) .null = .long (lZ (f ((iZ sp).toNatClampNeg + i))) := by
        show (arrV (dA 1) n0 (fun j => .long (lZ (f j)))).slots.getD _ _ = _
        rw [Array.getD_eq_getD_getElem?, arrV_read _ _ (by rw [nsp]; rw [ncn] at hi; omega)]
        rfl
      refine ⟨?_, ?_⟩
      · rw [e]; rfl
      · rw [e]; exact trivial)
    (g := F0 m pc ls (.int (iZ cn) :: .int (iZ dp) :: .ref (B + a1) :: .int (iZ sp) :: .ref (B + a0) :: S.map (cv B b))) rfl (by rw [hml]; exact hl.1) (rest := S.map (cv B b)) rfl (by rw [hb]; exact d) hR.1 (by show 2 * 0 + _ + (nativeFrameWords "java/lang/System" "arraycopy" 5 + 11) ≤ _; omega)
  have ec : copied (vp_cell (dA 1) (n0, .inr (.inl (fun j => lZ (f j))))) (vp_cell (dA 1) (n1, .inr (.inl (fun j => lZ (g j))))) (iZ sp) (iZ dp) (iZ cn) = vp_cell (dA 1) (n1, .inr (.inl (va_cpy (fun j => lZ (f j)) (fun j => lZ (g j)) (iZ sp).toNatClampNeg (iZ dp).toNatClampNeg (iZ cn).toNatClampNeg))) := va_copied (fun z => .long z) (dA 1) (dA 1) (fun j => lZ (f j)) (fun j => lZ (g j)) (by rw [nsp, ncn]; omega)
  rw [ec] at X' step
  have ef : (va_cpy (fun j => lZ (f j)) (fun j => lZ (g j)) (iZ sp).toNatClampNeg (iZ dp).toNatClampNeg (iZ cn).toNatClampNeg) = (fun j => lZ (cpy f g sp.toNat dp.toNat cn.toNat j)) := by
    funext j
    rw [nsp, ndp, ncn]
    unfold va_cpy cpy
    by_cases q : dp.toNat ≤ j ∧ j < dp.toNat + cn.toNat
    · rw [if_pos q, if_pos q]
    · rw [if_neg q, if_neg q]
  rw [ef] at X' step
  have hl9 : B + a1 < H.size := (Array.getElem?_eq_some_iff.mp hc1).1
  generalize hv : vp_cell (dA 1) (n1, .inr (.inl (fun j => lZ (cpy f g sp.toNat dp.toNat cn.toNat j)))) = V at X' step
  have hheap : ((T.setVm vm').setCell (B + a1) V).heap = H.setIfInBounds (B + a1) V := by rw [← hT]; rfl
  have oq : ∀ q : Nat, q ≠ B + a1 → (H.setIfInBounds (B + a1) V)[q]? = H[q]? := fun q hq => by simp [Array.getElem?_setIfInBounds, Ne.symm hq]
  obtain ⟨t, g1, g2⟩ := K hx hb hml ho hts hK hN (H.setIfInBounds (B + a1) V) _ ls (hA.put (c := aL n1 (cpy f g sp.toNat dp.toNat cn.toNat)) (show (H.setIfInBounds (B + a1) V)[B + a1]? = some (vp_cell _ _) by rw [Array.getElem?_setIfInBounds]; simp [hl9]; exact hv.symm) (by simp) oq) ⟨fun q hq => (oq q (by omega)).trans (hS.1 q hq), fun q hq => by
      rcases List.mem_append.mp hq with z | z
      · exact hS.2 q z
      · obtain ⟨z2, -, hz⟩ := List.mem_map.mp z
        rw [← hz]
        exact Nat.le_add_right _ _⟩ hl _ hheap X'
  exact ⟨t, step t g1, g2⟩
theorem r_copyI {idx a0 a1 n0 n1 : Nat} {f g : Nat → Int} {sp dp cn : Int} (d : decode cc pc = .ok (.invokestatic idx, 3)) (hl0 : Cond.methodLink own idx arraycopyName ∈ TS) (hnat : Cond.native arraycopyName ∈ TS) (hst0 : Cond.static arraycopyName ∈ TS) (hini : Cond.initialized "java/lang/System" ∈ TS) (ha0 : a0 < N) (ha1 : a1 < N) (he0 : h a0 = aI n0 f) (he1 : h a1 = aI n1 g) (h1 : 0 ≤ sp) (h2 : 0 ≤ dp) (h3 : 0 ≤ cn) (h4 : sp + cn ≤ n0) (h5 : dp + cn ≤ n1) (hb0 : n0 < 2147483648) (hb1 : n1 < 2147483648) (hR : 1 ≤ R.frames ∧ 40 ≤ R.locals) (hW : (S.map fun v => v.category).sum ≤ 8) (K : G X own cc R N k n (pc + 3) L S (hs h a1 (aI n1 (cpy f g sp.toNat dp.toNat cn.toNat)))) : G X own cc R N k n pc L (.int (iZ cn) :: .int (iZ dp) :: .ref a1 :: .int (iZ sp) :: .ref a0 :: S) h := by
  obtain ⟨p, l, e, s, m, args, below, meth, c, D, dA, H0, B, b, Qs⟩ := X
  intro hx hb hml ho hts hK hN H locs ls hA hS hl
  have hW2 : ((S.map (cv B b)).map fun v => v.category).sum ≤ 8 := by rw [List.map_map]; simpa [Function.comp_def, cv_cat] using hW
  have hR2 := hR.2
  have e0 : adr B b a0 = B + a0 := adr_lt (Nat.lt_of_lt_of_le ha0 hN)
  have e1 : adr B b a1 = B + a1 := adr_lt (Nat.lt_of_lt_of_le ha1 hN)
  show W p l e R s m args below meth c H locs k n Qs (F0 m pc ls (.int (iZ cn) :: .int (iZ dp) :: .ref (adr B b a1) :: .int (iZ sp) :: .ref (adr B b a0) :: S.map (cv B b)))
  rw [e0, e1]
  have hP0 := hA.one ha0
  rw [he0] at hP0
  have hP1 := hA.one ha1
  rw [he1] at hP1
  have nsp : (iZ sp).toNatClampNeg = sp.toNat := iZ_nat h1 (by omega)
  have ndp : (iZ dp).toNatClampNeg = dp.toNat := iZ_nat h2 (by omega)
  have ncn : (iZ cn).toNatClampNeg = cn.toNat := iZ_nat h3 (by omega)
  have rsp : rI sp := ⟨by omega, by omega⟩
  have rdp : rI dp := ⟨by omega, by omega⟩
  have rcn : rI cn := ⟨by omega, by omega⟩
  have e9 : nativeFrameWords "java/lang/System" "arraycopy" 5 + 11 ≤ 32 := by decide +kernel
  intro T hT X
  have hc0 : H[B + a0]? = some (vp_cell (dA 0) (n0, .inl (fun j => iZ (f j)))) := hP0 0 _ rfl
  have hc1 : H[B + a1]? = some (vp_cell (dA 0) (n1, .inl (fun j => iZ (g j)))) := hP1 0 _ rfl
  obtain ⟨-, k0, hk0, cm0, hkk0⟩ := (hK.1.2 0 _ (tys0 hK 0 (by decide))).1 n0 (fun j => .int (iZ (f j)))
  obtain ⟨-, k1, hk1, cm1, hkk1⟩ := (hK.1.2 0 _ (tys0 hK 0 (by decide))).1 n1 (fun j => .int (iZ (g j)))
  obtain ⟨vm', X', step⟩ := X.arraycopy hx ho (hts _ hl0) (hts _ hnat) (hts _ hst0) (hts _ hini) (src := B + a0) (dst := B + a1) (cs := vp_cell (dA 0) (n0, .inl (fun j => iZ (f j)))) (cd := vp_cell (dA 0) (n1, .inl (fun j => iZ (g j)))) (srcPos := iZ sp) (destPos := iZ dp) (n := iZ cn) (by rw [hT]; exact hc0) (by rw [hT]; exact hc1)
    (fun _ h => by cases h) (fun _ h => by cases h) (fun h => by cases h) (fun h => by cases h) hk0 hk1 hkk0 hkk1 (by simp [tyT]) (fun q => by have := (iZ_lt rsp rI_0).mp q; omega) (fun q => by have := (iZ_lt rdp rI_0).mp q; omega) (fun q => by have := (iZ_lt rcn rI_0).mp q; omega)
    (by rw [iZ_t rsp, iZ_t rcn]; show ¬ _ > ((arrV (dA 0) n0 (fun j => .int (iZ (f j)))).slots.size : Int); rw [arrV_size]; omega)
    (by rw [iZ_t rdp, iZ_t rcn]; show ¬ _ > ((arrV (dA 0) n1 (fun j => .int (iZ (g j)))).slots.size : Int); rw [arrV_size]; omega)
    (fun vm₁ _ i hi => by
      have e : (vp_cell (dA 0) (n0, .inl (fun j => iZ (f j)))).slots.getD ((iZ sp).toNatClampNeg + i) .null = .int (iZ (f ((iZ sp).toNatClampNeg + i))) := by
        show (arrV (dA 0) n0 (fun j => .int (iZ (f j)))).slots.getD _ _ = _
        rw [Array.getD_eq_getD_getElem?, arrV_read _ _ (by rw [nsp]; rw [ncn] at hi; omega)]
        rfl
      refine ⟨?_, ?_⟩
      · rw [e]; rfl
      · rw [e]; exact trivial)
    (g := F0 m pc ls (.int (iZ cn) :: .int (iZ dp) :: .ref (B + a1) :: .int (iZ sp) :: .ref (B + a0) :: S.map (cv B b))) rfl (by rw [hml]; exact hl.1) (rest := S.map (cv B b)) rfl (by rw [hb]; exact d) hR.1 (by show 2 * 0 + _ + (nativeFrameWords "java/lang/System" "arraycopy" 5 + 11) ≤ _; omega)
  have ec : copied (vp_cell (dA 0) (n0, .inl (fun j => iZ (f j)))) (vp_cell (dA 0) (n1, .inl (fun j => iZ (g j)))) (iZ sp) (iZ dp) (iZ cn) = vp_cell (dA 0) (n1, .inl (va_cpy (fun j => iZ (f j)) (fun j => iZ (g j)) (iZ sp).toNatClampNeg (iZ dp).toNatClampNeg (iZ cn).toNatClampNeg)) := va_copied (fun z => .int z) (dA 0) (dA 0) (fun j => iZ (f j)) (fun j => iZ (g j)) (by rw [nsp, ncn]; omega)
  rw [ec] at X' step
  have ef : (va_cpy (fun j => iZ (f j)) (fun j => iZ (g j)) (iZ sp).toNatClampNeg (iZ dp).toNatClampNeg (iZ cn).toNatClampNeg) = (fun j => iZ (cpy f g sp.toNat dp.toNat cn.toNat j)) := by
    funext j
    rw [nsp, ndp, ncn]
    unfold va_cpy cpy
    by_cases q : dp.toNat ≤ j ∧ j < dp.toNat + cn.toNat
    · rw [if_pos q, if_pos q]
    · rw [if_neg q, if_neg q]
  rw [ef] at X' step
  have hl9 : B + a1 < H.size := (Array.getElem?_eq_some_iff.mp hc1).1
  generalize hv : vp_cell (dA 0) (n1, .inl (fun j => iZ (cpy f g sp.toNat dp.toNat cn.toNat j))) = V at X' step
  have hheap : ((T.setVm vm').setCell (B + a1) V).heap = H.setIfInBounds (B + a1) V := by rw [← hT]; rfl
  have oq : ∀ q : Nat, q ≠ B + a1 → (H.setIfInBounds (B + a1) V)[q]? = H[q]? := fun q hq => by simp [Array.getElem?_setIfInBounds, Ne.symm hq]
  obtain ⟨t, g1, g2⟩ := K hx hb hml ho hts hK hN (H.setIfInBounds (B + a1) V) _ ls (hA.put (c := aI n1 (cpy f g sp.toNat dp.toNat cn.toNat)) (show (H.setIfInBounds (B + a1) V)[B + a1]? = some (vp_cell _ _) by rw [Array.getElem?_setIfInBounds]; simp [hl9]; exact hv.symm) (by simp) oq) ⟨fun q hq => (oq q (by omega)).trans (hS.1 q hq), fun q hq => by
      rcases List.mem_append.mp hq with z | z
      · exact hS.2 q z
      · obtain ⟨z2, -, hz⟩ := List.mem_map.mp z
        rw [← hz]
        exact Nat.le_add_right _ _⟩ hl _ hheap X'
  exact ⟨t, step t g1, g2⟩
end RW3
