/-! two answers to one question are one -/
theorem SPtold.one {i w j : Int} {K : Nat → Nat} {C S : Nat → Nat → Int} {r r2 : Int} (h : SPtold i w j K C S r) (h2 : SPtold i w j K C S r2) : r = r2 := by
  unfold SPtold at h h2
  omega
theorem SPexact.one {i n : Int} {K : Nat → Nat} {C S : Nat → Nat → Int} {r r2 : Int} (h : SPexact i n K C S r) (h2 : SPexact i n K C S r2) : r = r2 := by
  rcases h with ⟨a, b⟩ | ⟨a1, a2, a3, a4, t, ht, a5⟩ <;> rcases h2 with ⟨c, d⟩ | ⟨c1, c2, c3, c4, t2, ht2, c5⟩
  · omega
  · omega
  · omega
  · have e := ht.one ht2
    subst e
    omega
theorem SPcount.one {w : Int} {ln sz : Nat} {K : Nat → Nat} {r r2 : Int} (h : SPcount w ln sz K r) (h2 : SPcount w ln sz K r2) : r = r2 := by
  unfold SPcount at h h2
  omega
theorem SPrest.one {i n m : Int} {K : Nat → Nat} {C S : Nat → Nat → Int} {r r2 : Int} (h : SPrest i n m K C S r) (h2 : SPrest i n m K C S r2) : r = r2 := by
  rcases h with ⟨a, b⟩ | ⟨a1, a2, a3, a4, a5, a6, b⟩ <;> rcases h2 with ⟨c, d⟩ | ⟨c1, c2, c3, c4, c5, c6, d⟩ <;> first | exact b.trans d.symm | omega
theorem SPround.one {i m w : Int} {K : Nat → Nat} {C S : Nat → Nat → Int} {r r2 : Int} (h : SPround i m w K C S r) (h2 : SPround i m w K C S r2) : r = r2 := by
  rcases h with ⟨a, b⟩ | ⟨a1, a2, a3, a4, a5, a6, a7⟩ <;> rcases h2 with ⟨c, d⟩ | ⟨c1, c2, c3, c4, c5, c6, c7⟩
  · omega
  · clear c7; omega
  · clear a7; omega
  · rcases a7 with ⟨u, l, x1, x2, x3⟩ | ⟨x1, x2⟩ <;> rcases c7 with ⟨u2, l2, y1, y2, y3⟩ | ⟨y1, y2⟩
    · obtain ⟨e1, e2⟩ := x1.one y1
      subst e1; subst e2
      exact x3.trans y3.symm
    · have := y1 u l x1; omega
    · have := x1 u2 l2 y1; omega
    · omega
theorem SPfirst.one {i m v : Int} {K : Nat → Nat} {C S : Nat → Nat → Int} {r r2 : Int} (h : SPfirst i m v K C S r) (h2 : SPfirst i m v K C S r2) : r = r2 := by
  rcases h with ⟨a, b⟩ | ⟨a1, a2, a3, a4, a5, a6, a7⟩ <;> rcases h2 with ⟨c, d⟩ | ⟨c1, c2, c3, c4, c5, c6, c7⟩
  · omega
  · clear c7; omega
  · clear a7; omega
  · rcases a7 with ⟨u, l, x1, x2, x3⟩ | ⟨x1, x2⟩ <;> rcases c7 with ⟨u2, l2, y1, y2, y3⟩ | ⟨y1, y2⟩
    · obtain ⟨e1, e2⟩ := x1.one y1
      subst e1; subst e2
      exact x3.one y3
    · have := y1 u l x1; omega
    · have := x1 u2 l2 y1; omega
    · omega
theorem SPback.one {i n m : Int} {K : Nat → Nat} {C S : Nat → Nat → Int} {r r2 : Int} (h : SPback i n m K C S r) (h2 : SPback i n m K C S r2) : r = r2 := by
  rcases h with ⟨a, b⟩ | ⟨a1, a2, a3, a4, a5, a6, a7⟩ <;> rcases h2 with ⟨c, d⟩ | ⟨c1, c2, c3, c4, c5, c6, c7⟩
  · omega
  · clear c7; omega
  · clear a7; omega
  · rcases a7 with ⟨x1, x2⟩ | ⟨x1, ov, x2, x3⟩ <;> rcases c7 with ⟨y1, y2⟩ | ⟨y1, ov2, y2, y3⟩
    · omega
    · exact absurd y1 x1
    · exact absurd x1 y1
    · rw [x2.one y2] at x3
      exact x3.trans y3.symm
theorem SPlongest.one {o p w : Int} {r r2 : Int} (h : SPlongest o p w r) (h2 : SPlongest o p w r2) : r = r2 := by
  rcases h with ⟨a, b⟩ | ⟨a1, a2, a3, a4, a5, a6, a7⟩ <;> rcases h2 with ⟨c, d⟩ | ⟨c1, c2, c3, c4, c5, c6, c7⟩
  · omega
  · exact absurd ⟨c1, c2, c3, c4, c5, c6⟩ a
  · exact absurd ⟨a1, a2, a3, a4, a5, a6⟩ c
  · rcases a7 with ⟨x1, x2⟩ | ⟨x1, x2⟩ <;> rcases c7 with ⟨y1, y2⟩ | ⟨y1, y2⟩
    · omega
    · omega
    · omega
    · exact x2.trans y2.symm
theorem SPprime.one {q p : Int} {sz : Nat} {r r2 p2 p3 : Int} {z2 z3 : Nat} (h : SPprime q p sz r p2 z2) (h2 : SPprime q p sz r2 p3 z3) : r = r2 ∧ p2 = p3 ∧ z2 = z3 := by
  rcases h with ⟨a, b1, b2, b3⟩ | ⟨a, b1, b2, b3⟩ <;> rcases h2 with ⟨c, d1, d2, d3⟩ | ⟨c, d1, d2, d3⟩
  · exact ⟨b1.trans d1.symm, b2.trans d2.symm, b3.trans d3.symm⟩
  · exact absurd c a
  · exact absurd a c
  · exact ⟨b1.trans d1.symm, b2.trans d2.symm, b3.trans d3.symm⟩
theorem SPadd.one {v p : Int} {vs : Nat → Int} {sz : Nat} {r r2 : Int} {v2 v3 : Nat → Int} {z2 z3 : Nat} (h : SPadd v p vs sz r v2 z2) (h2 : SPadd v p vs sz r2 v3 z3) : r = r2 ∧ v2 = v3 ∧ z2 = z3 := by
  rcases h with ⟨a, b1, b2, b3⟩ | ⟨a1, a2, a3, b1, b2, b3⟩ | ⟨a1, a2, a3, b1, b2, b3⟩ <;> rcases h2 with ⟨c, d1, d2, d3⟩ | ⟨c1, c2, c3, d1, d2, d3⟩ | ⟨c1, c2, c3, d1, d2, d3⟩ <;> first | exact ⟨b1.trans d1.symm, b2.trans d2.symm, b3.trans d3.symm⟩ | (exfalso; omega)
theorem SPleast.one {i p : Int} {vs : Nat → Int} {sz : Nat} {r r2 : Int} (h : SPleast i p vs sz r) (h2 : SPleast i p vs sz r2) : r = r2 := by
  rcases h with ⟨a, b⟩ | ⟨a, sp, lw, a1, a2, a3⟩ <;> rcases h2 with ⟨c, d⟩ | ⟨c, sp2, lw2, c1, c2, c3⟩
  · omega
  · omega
  · omega
  · have e := a1.one c1
    subst e
    have e2 := a2.one c2
    rcases a3 with x | x | ⟨x1, x2, x3⟩ <;> rcases c3 with y | y | ⟨y1, y2, y3⟩
    · omega
    · omega
    · omega
    · omega
    · omega
    · omega
    · omega
    · omega
    · rw [x3, y3]; exact e2 _ (by omega) (by omega)
theorem SPnext.one {p : Int} {vs : Nat → Int} {sz : Nat} {r r2 : Int} (h : SPnext p vs sz r) (h2 : SPnext p vs sz r2) : r = r2 := by
  rcases h with ⟨a, b⟩ | ⟨a, sp, lw, a1, a2, a3⟩ <;> rcases h2 with ⟨c, d⟩ | ⟨c, sp2, lw2, c1, c2, c3⟩
  · omega
  · omega
  · omega
  · have e := a1.one c1
    subst e
    have e2 := a2.one c2
    rw [a3, c3, sm_cong (fun j hj => by rw [e2 (j + 1) (by omega) (by omega)])]
theorem SPbreaks.one {i p : Int} {K : Nat → Nat} {C S : Nat → Nat → Int} {vs : Nat → Int} {sz : Nat} {r r2 : Int} (h : SPbreaks i K C S p vs sz r) (h2 : SPbreaks i K C S p vs sz r2) : r = r2 := by
  rcases h with ⟨a, b⟩ | ⟨a1, a2, a3⟩ <;> rcases h2 with ⟨c, d⟩ | ⟨c1, c2, c3⟩
  · omega
  · omega
  · omega
  · exact a3.one c3
theorem SPsame.one {x y : Int} {K : Nat → Nat} {C S : Nat → Nat → Int} {r r2 : Int} (h : SPsame x y K C S r) (h2 : SPsame x y K C S r2) : r = r2 := by
  rcases h with ⟨a, b⟩ | ⟨a1, a2, a3, a4, t, u, ht, hu, a5⟩ <;> rcases h2 with ⟨c, d⟩ | ⟨c1, c2, c3, c4, t2, u2, ht2, hu2, c5⟩
  · omega
  · clear c5; omega
  · clear a5; omega
  · have e1 := ht.one ht2
    have e2 := hu.one hu2
    subst e1; subst e2
    rcases a5 with ⟨n, n1, n2, n3⟩ | ⟨n1, n2⟩ <;> rcases c5 with ⟨m, m1, m2, m3⟩ | ⟨m1, m2⟩
    · omega
    · exact absurd (m1 n n1) n2
    · exact absurd (n1 m m1) m2
    · omega
theorem SPdiv.one {i b n : Int} {K : Nat → Nat} {C S : Nat → Nat → Int} {r r2 : Int} (h : SPdiv i b n K C S r) (h2 : SPdiv i b n K C S r2) : r = r2 := by
  rcases h with ⟨a, e⟩ | ⟨a1, a2, a3, a4, t, ht, a5⟩ <;> rcases h2 with ⟨c, d⟩ | ⟨c1, c2, c3, c4, t2, ht2, c5⟩
  · omega
  · clear c5; omega
  · clear a5; omega
  · have e1 := ht.one ht2
    subst e1
    rcases a5 with x | ⟨x1, x2⟩ <;> rcases c5 with y | ⟨y1, y2⟩
    · omega
    · omega
    · omega
    · rcases x2 with ⟨j, q, p1, p2, p3, p4, p5, p6, p7⟩ | ⟨p1, p2⟩ <;> rcases y2 with ⟨j2, q2, s1, s2, s3, s4, s5, s6, s7⟩ | ⟨s1, s2⟩
      · have w1 : ¬ (j < j2 ∨ (j = j2 ∧ q < q2)) := fun w => p5 (s6 j q p1 p3 p4 w)
        have w2 : ¬ (j2 < j ∨ (j2 = j ∧ q2 < q)) := fun w => s5 (p6 j2 q2 s1 s3 s4 w)
        omega
      · exact absurd (s1 j q p1 p2 p3 p4) p5
      · exact absurd (p1 j2 q2 s1 s2 s3 s4) s5
      · omega
theorem SPparted.one {i p w : Int} {K : Nat → Nat} {C : Nat → Nat → Int} {r r2 : Int} (h : SPparted i p w K C r) (h2 : SPparted i p w K C r2) : r = r2 := by
  rcases h with ⟨a, b⟩ | ⟨a1, a2, a3, a4, a5, a6⟩ <;> rcases h2 with ⟨c, d⟩ | ⟨c1, c2, c3, c4, c5, c6⟩
  · omega
  · exact absurd ⟨c1, c2, c3, c4, c5⟩ a
  · exact absurd ⟨a1, a2, a3, a4, a5⟩ c
  · rcases a6 with ⟨x1, x2⟩ | ⟨x1, pn, hpn, ep, m, g, u, x2, x3⟩ <;> rcases c6 with ⟨y1, y2⟩ | ⟨y1, pn2, hpn2, ep2, m2, g2, u2, y2, y3⟩
    · omega
    · exact absurd x1 y1
    · exact absurd y1 x1
    · have e : pn = pn2 := by omega
      subst e
      obtain ⟨e1, e2, e3⟩ := x2.one y2
      subst e1; subst e2; subst e3
      exact x3.trans y3.symm
theorem rtC_mono (k : Nat) (c : Nat → Int) (p : Int) (a : Nat) : ∀ b, a ≤ b → rtC k c p a ≤ rtC k c p b := by
  intro b
  induction b with
  | zero => intro h; rw [show a = 0 by omega]; exact Nat.le_refl _
  | succ b ih =>
    intro h
    by_cases z : a = b + 1
    · rw [z]; exact Nat.le_refl _
    · have h1 := ih (by omega)
      have h2 : rtC k c p b ≤ rtC k c p (b + 1) := by
        show _ ≤ rtC k c p b + (if _ then 1 else 0)
        exact Nat.le_add_right _ _
      omega
theorem rtC_hit {k : Nat} {c : Nat → Int} {p : Int} {x : Nat} (h : hv c (x : Int) p k = 0) : rtC k c p (x + 1) = rtC k c p x + 1 := by
  show rtC k c p x + (@ite Nat (hv c (x : Int) p k = 0) (Int.instDecidableEq _ _) 1 0) = _
  rw [if_pos h]
theorem SProots.one {i p w : Int} {K : Nat → Nat} {C : Nat → Nat → Int} {r r2 : Int} (h : SProots i p w K C r) (h2 : SProots i p w K C r2) : r = r2 := by
  rcases h with ⟨a, b⟩ | ⟨a1, a2, a3, a4, a5⟩ <;> rcases h2 with ⟨c, d⟩ | ⟨c1, c2, c3, c4, c5⟩
  · exact b.trans d.symm
  · exact absurd ⟨c1, c2, c3, c4⟩ a
  · exact absurd ⟨a1, a2, a3, a4⟩ c
  · rcases a5 with ⟨x1, x2⟩ | ⟨x1, x, x2, x3, x4, x5⟩ | ⟨x1, x2, x3⟩ <;> rcases c5 with ⟨y1, y2⟩ | ⟨y1, y, y2, y3, y4, y5⟩ | ⟨y1, y2, y3⟩
    · exact x2.trans y2.symm
    · omega
    · omega
    · omega
    · have e1 := rtC_hit x3
      have e2 := rtC_hit y3
      rcases Nat.lt_trichotomy x y with q | q | q
      · have := rtC_mono (K i.toNat) (C i.toNat) p (x + 1) y (by omega)
        omega
      · omega
      · have := rtC_mono (K i.toNat) (C i.toNat) p (y + 1) x (by omega)
        omega
    · have e1 := rtC_hit x3
      have := rtC_mono (K i.toNat) (C i.toNat) p (x + 1) p.toNat (by omega)
      omega
    · omega
    · have e2 := rtC_hit y3
      have := rtC_mono (K i.toNat) (C i.toNat) p (y + 1) p.toNat (by omega)
      omega
    · exact x3.trans y3.symm
theorem SPwrite.one {n : Int} {v : Int64} {tb : Nat → Int} {ln : Nat} {r r2 : Int} {t2 t3 : Nat → Int} {l2 l3 : Nat} (h : SPwrite n v tb ln r t2 l2) (h2 : SPwrite n v tb ln r2 t3 l3) : r = r2 ∧ t2 = t3 ∧ l2 = l3 := by
  rcases h with ⟨a, b1, b2, b3⟩ | ⟨a1, a2, a3, b1, b2, b3⟩ | ⟨a1, a2, a3, b1, b2, b3⟩ <;> rcases h2 with ⟨c, d1, d2, d3⟩ | ⟨c1, c2, c3, d1, d2, d3⟩ | ⟨c1, c2, c3, d1, d2, d3⟩ <;> first | exact ⟨b1.trans d1.symm, b2.trans d2.symm, b3.trans d3.symm⟩ | (exfalso; omega)
