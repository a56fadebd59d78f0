/-! the machine's entry: what the tables say at the start -/
theorem kn_all {s : State} {args : Array Value} (hts : ∀ w ∈ TS, w.before args s = true) : ∃ D : va_G, ∀ (c : Nat) (q : vw_C), vwCl[c]? = some q → u_Kn s q.1 q.2.1 q.2.2 (D.1 c) (D.2 c) := by
  have h : ∀ c : Nat, ∃ x : ClassId × (Nat → Nat), ∀ q : vw_C, vwCl[c]? = some q → u_Kn s q.1 q.2.1 q.2.2 x.1 x.2 := by
    intro c
    match c with
    | 0 =>
      obtain ⟨a, b, hk⟩ := u_known hts inTX0 (hts _ is_X0)
      exact ⟨(a, b), fun q hq => by
        obtain rfl := Option.some.inj hq
        exact hk⟩
    | 1 =>
      obtain ⟨a, b, hk⟩ := u_known hts inTX1 (hts _ is_X1)
      exact ⟨(a, b), fun q hq => by
        obtain rfl := Option.some.inj hq
        exact hk⟩
    | 2 =>
      obtain ⟨a, b, hk⟩ := u_known hts inTX2 (hts _ is_X2)
      exact ⟨(a, b), fun q hq => by
        obtain rfl := Option.some.inj hq
        exact hk⟩
    | 3 =>
      obtain ⟨a, b, hk⟩ := u_known hts inTX3 (hts _ is_X3)
      exact ⟨(a, b), fun q hq => by
        obtain rfl := Option.some.inj hq
        exact hk⟩
    | 4 =>
      obtain ⟨a, b, hk⟩ := u_known hts inTX4 (hts _ is_X4)
      exact ⟨(a, b), fun q hq => by
        obtain rfl := Option.some.inj hq
        exact hk⟩
    | 5 =>
      obtain ⟨a, b, hk⟩ := u_known hts inTX5 (hts _ is_X5)
      exact ⟨(a, b), fun q hq => by
        obtain rfl := Option.some.inj hq
        exact hk⟩
    | 6 =>
      obtain ⟨a, b, hk⟩ := u_known hts inTX6 (hts _ is_X6)
      exact ⟨(a, b), fun q hq => by
        obtain rfl := Option.some.inj hq
        exact hk⟩
    | 7 =>
      obtain ⟨a, b, hk⟩ := u_known hts inTX7 (hts _ is_X7)
      exact ⟨(a, b), fun q hq => by
        obtain rfl := Option.some.inj hq
        exact hk⟩
    | 8 =>
      obtain ⟨a, b, hk⟩ := u_known hts inTX8 (hts _ is_X8)
      exact ⟨(a, b), fun q hq => by
        obtain rfl := Option.some.inj hq
        exact hk⟩
    | 9 =>
      obtain ⟨a, b, hk⟩ := u_known hts inTX9 (hts _ is_X9)
      exact ⟨(a, b), fun q hq => by
        obtain rfl := Option.some.inj hq
        exact hk⟩
    | 10 =>
      obtain ⟨a, b, hk⟩ := u_known hts inTX10 (hts _ is_X10)
      exact ⟨(a, b), fun q hq => by
        obtain rfl := Option.some.inj hq
        exact hk⟩
    | 11 =>
      obtain ⟨a, b, hk⟩ := u_known hts inTX11 (hts _ is_X11)
      exact ⟨(a, b), fun q hq => by
        obtain rfl := Option.some.inj hq
        exact hk⟩
    | c + 12 => exact ⟨(0, fun _ => 0), fun q hq => absurd hq (by
        rw [List.getElem?_eq_none (show vwCl.length ≤ c + 12 from Nat.le_add_left 12 c)]
        exact fun w => by cases w)⟩
  exact ⟨(fun c => (Classical.choose (h c)).1, fun c => (Classical.choose (h c)).2), fun c q hq => Classical.choose_spec (h c) q hq⟩
theorem arr_prim {s : State} {args : Array Value} {ty : FieldType} (h : (Cond.arrayClass ty).before args s = true) : ∃ cA : ClassId, ArrOfT s cA ty ∧ s.vm.findClass ("[" ++ ty.toString) = some cA := by
  obtain ⟨cA, kA, comp, h1, h2, h3⟩ := Cond.arrayClass_spec h
  exact ⟨cA, fun N z => ⟨(fun k h => by cases h), kA, h2, comp, h3⟩, h1⟩
theorem arr_obj {s : State} {args : Array Value} {C : String} (h : (Cond.arrayOver (.object C)).before args s = true) : ∃ cA : ClassId, ArrOfT s cA (.object C) ∧ va_RA s cA (.object C) := by
  obtain ⟨comp, c, k, h1, h2, h3, h4, h5⟩ := Cond.arrayOver_spec h
  exact ⟨c, fun N z => ⟨(fun k h => by cases h), k, h3, comp, h4⟩, k, comp, h3, h4, h1, h5⟩
theorem arr_arr {s : State} {args : Array Value} {t : FieldType} (h : (Cond.arrayOver (.array t)).before args s = true) : ∃ cA : ClassId, ArrOfT s cA (.array t) ∧ va_RA s cA (.array t) := by
  obtain ⟨comp, c, k, h1, h3, h4, h5⟩ := Cond.arrayOver_specA h
  exact ⟨c, fun N z => ⟨(fun k h => by cases h), k, h3, comp, h4⟩, h5⟩
theorem w_obj : Cond.arrayOver (.object RX7) ∈ lw_tbl := List.mem_of_getElem? (i := 153) (by decide +kernel)
theorem w_arr : Cond.arrayOver (.array .int) ∈ lw_tbl := List.mem_of_getElem? (i := 161) (by decide +kernel)
theorem ty_all {s : State} {args : Array Value} (hts : ∀ w ∈ lw_tbl, w.before args s = true) (ht : ∀ w ∈ TS, w.before args s = true) : ∃ dA : Nat → ClassId, ∀ (k : Nat) (q : ClassId × FieldType), (tysL dA)[k]? = some q → ArrOfT s q.1 q.2 ∧ va_RA s q.1 q.2 := by
  obtain ⟨a0, x0, y0⟩ := arr_prim (ht _ ac_int)
  obtain ⟨a1, x1, y1⟩ := arr_prim (ht _ ac_long)
  obtain ⟨a2, x2, y2⟩ := arr_obj (hts _ w_obj)
  obtain ⟨a3, x3, y3⟩ := arr_arr (hts _ w_arr)
  refine ⟨fun k => if k = 0 then a0 else if k = 1 then a1 else if k = 2 then a2 else a3, fun k q hq => ?_⟩
  match k with
  | 0 => obtain rfl := Option.some.inj hq; exact ⟨x0, y0⟩
  | 1 => obtain rfl := Option.some.inj hq; exact ⟨x1, y1⟩
  | 2 => obtain rfl := Option.some.inj hq; exact ⟨x2, y2⟩
  | 3 => obtain rfl := Option.some.inj hq; exact ⟨x3, y3⟩
  | k + 4 => exact absurd (show (none : Option (ClassId × FieldType)) = some q from hq) (fun w => by cases w)
theorem nw_all {s : State} {args : Array Value} (hts : ∀ w ∈ lw_tbl, w.before args s = true) : ∀ q ∈ NL, va_Nw (.methodLinkNest q.1 q.2.1 q.2.2.1 q.2.2.2) s := by
  have g : ∀ (i : Nat) (w : Cond), lw_tbl[i]? = some w → w.onTables = true → va_Nw w s := fun i w h1 h2 => va_tabs (A := args) (A' := #[]) (u := s) h2 rfl (hts w (List.mem_of_getElem? h1))
  unfold NL
  exact List.forall_mem_cons.mpr ⟨g 90 _ (by decide +kernel) rfl, List.forall_mem_cons.mpr ⟨g 156 _ (by decide +kernel) rfl, List.forall_mem_cons.mpr ⟨g 164 _ (by decide +kernel) rfl, List.forall_mem_cons.mpr ⟨g 220 _ (by decide +kernel) rfl, List.forall_mem_cons.mpr ⟨g 245 _ (by decide +kernel) rfl, List.forall_mem_cons.mpr ⟨g 250 _ (by decide +kernel) rfl, List.forall_mem_cons.mpr ⟨g 271 _ (by decide +kernel) rfl, List.forall_mem_cons.mpr ⟨g 276 _ (by decide +kernel) rfl, List.forall_mem_cons.mpr ⟨g 300 _ (by decide +kernel) rfl, List.forall_mem_cons.mpr ⟨g 328 _ (by decide +kernel) rfl, List.forall_mem_cons.mpr ⟨g 334 _ (by decide +kernel) rfl, List.forall_mem_cons.mpr ⟨g 583 _ (by decide +kernel) rfl, List.forall_mem_cons.mpr ⟨g 655 _ (by decide +kernel) rfl, List.forall_mem_cons.mpr ⟨g 814 _ (by decide +kernel) rfl, fun _ h => absurd h List.not_mem_nil⟩⟩⟩⟩⟩⟩⟩⟩⟩⟩⟩⟩⟩⟩
theorem kk_all {s : State} {args : Array Value} (hts : ∀ w ∈ lw_tbl, w.before args s = true) : ∃ (D : va_G) (dA : Nat → ClassId), KK D dA s := by
  have ht : ∀ w ∈ TS, w.before args s = true := fun w hw => hts w (List.mem_filter.mp hw).1
  obtain ⟨D, h1⟩ := kn_all ht
  obtain ⟨dA, h2⟩ := ty_all hts ht
  exact ⟨D, dA, ⟨h1, h2⟩, va_AO.of (hts _ w_obj), AOv.of (hts _ w_arr), nw_all hts⟩
