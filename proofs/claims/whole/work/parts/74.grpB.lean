/-! groups: what the model lays -/
set_option maxRecDepth 20000
theorem Fr.Sh {S : Nat → Prop} {σ σ' : Mm} (h : Fr S σ σ') (hs : Jvm.Pilot.@@N@@.Sh σ) : Jvm.Pilot.@@N@@.Sh σ' := h.1.trans hs
theorem Fr.Rf {S : Nat → Prop} {σ σ' : Mm} (h : Fr S σ σ') (hr : Jvm.Pilot.@@N@@.Rf σ) : Jvm.Pilot.@@N@@.Rf σ' := fun a k q1 q2 q3 q4 => (h.gR a k).trans (hr a k q1 q2 q3 q4)
def tornS (V : Nat → Int32) (s k : Nat) : Prop := ∃ f g, f < k ∧ g < f ∧ s.testBit f = true ∧ s.testBit g = true ∧ V (119 + 10 * f + g) = nI 1
theorem gdS_torn {V : Nat → Int32} {t N O K s : Nat} (hG : Gd V t N O K) : gdS V N s ↔ (∀ f, f < N → s.testBit f = true → 0 < wsN V f) ∧ ¬ tornS V s N := by
  have hN := hG.1.2
  have sym := hG.2.2.2.2.2.2.2.2.1.1
  have dia := hG.2.2.2.2.2.2.2.2.1.2.1
  constructor
  · rintro ⟨h1, h2⟩
    exact ⟨h1, fun ⟨f, g, q1, q2, q3, q4, q5⟩ => h2 f g q1 (by omega) q3 q4 q5⟩
  · rintro ⟨h1, h2⟩
    refine ⟨h1, fun f g hf hg q q' e => ?_⟩
    rcases (by omega : g < f ∨ f < g ∨ f = g) with z | z | z
    · exact h2 ⟨f, g, hf, z, q, q', e⟩
    · exact h2 ⟨g, f, hg, z, q', q, by rw [(sym g f (by omega) (by omega)).2]; exact e⟩
    · subst z
      rw [dia f (by omega)] at e
      exact absurd e (by decide)
theorem s0W {V : Nat → Int32} {N : Nat} : sW V N 0 = 0 := by
  have : sW V N 0 ≤ 0 * N := sumN_le (fun f hf => by rw [Nat.zero_testBit]; simp)
  omega
/-- what the model lays for a set -/
def GL (V : Nat → Int32) (N O : Nat) (τ : Mm) (s : Nat) : Prop := gI τ 200 s = nI (ofB V N O s) ∧ gI τ 201 s = nI (sW V N s) ∧ ∃ b, b ≤ 1 ∧ gI τ 202 s = nI b ∧ (b = 1 ↔ tornS V s N)
theorem lg_f (X : Cx) (d : Nat) (τ : Mm) (V : Nat → Int32) (t N O K s : Nat) (hs : Sh τ) (hr : Rf τ) (hV : gI τ 191 = V) (hG : Gd V t N O K) (hs2 : s < 2 ^ N) (Q : Po) (fin : ∀ b p, b ≤ 1 → p ≤ 1 → (b = 1 ↔ tornS V s N) → (p = 1 ↔ 0 < s ∧ ∀ f, f < N → s.testBit f = true → 0 < wsN V f) → Wp X mX10_laysGroups (rmo (d + 1) 0 0) (d + 1) Q 0 0 145 [some (.ref 190), some (.int (nI s)), some (.int (nI (sW V N s))), some (.int (nI b)), some (.int (nI p)), none, none] [] τ) (p0 : Nat) (hp0 : p0 ≤ 1) (hp1 : p0 = 1 ↔ 0 < s) : Wp X mX10_laysGroups (rmo (d + 1) 0 0) (d + 1) Q 0 0 32 [some (.ref 190), some (.int (nI s)), some (.int (nI 0)), some (.int (nI 0)), some (.int (nI p0)), some (.int (nI 0)), none] [] τ := by
  have hN10 := hG.1.2
  have pw := pow_le hN10
  have n0 : gI τ 191 0 = nI N := by rw [hV]; exact hG.1.1
  have go := wfor (fun f => ∀ b p, b ≤ 1 → p ≤ 1 → (b = 1 ↔ tornS V s f) → (p = 1 ↔ 0 < s ∧ ∀ i, i < f → s.testBit i = true → 0 < wsN V i) → Wp X mX10_laysGroups (rmo (d + 1) 0 0) (d + 1) Q 0 0 32 [some (.ref 190), some (.int (nI s)), some (.int (nI (sumN (fun f => if s.testBit f = true then wsN V f else 0) f))), some (.int (nI b)), some (.int (nI p)), some (.int (nI f)), none] [] τ) N (fun f hf hP b p hb hp hb2 hp2 => by
    have wl := (wsN_ok hG hf).2
    have ws : gI τ 191 (29 + f) = nI (wsN V f) := by rw [hV]; exact (wsN_ok hG hf).1
    by_cases hbf : s.testBit f = true
    · have sk : sumN (fun f => if s.testBit f = true then wsN V f else 0) (f + 1) = sumN (fun f => if s.testBit f = true then wsN V f else 0) f + wsN V f := by
        show sumN _ f + (if s.testBit f = true then wsN V f else 0) = _
        rw [if_pos hbf]
      rw [sk] at hP
      generalize sumN (fun f => if s.testBit f = true then wsN V f else 0) f = S at hP ⊢
      have at92 : ∀ p' : Nat, p' ≤ 1 → (p' = 1 ↔ 0 < s ∧ ∀ i, i < f + 1 → s.testBit i = true → 0 < wsN V i) → Wp X mX10_laysGroups (rmo (d + 1) 0 0) (d + 1) Q 0 0 92 [some (.ref 190), some (.int (nI s)), some (.int (nI (S + wsN V f))), some (.int (nI b)), some (.int (nI p)), some (.int (nI f)), none] [.int (nI p')] τ := by
        intro p' hp' hp2'
        refine wp_blk kX10_laysGroups_92 ?_
        simp (disch := first | decide | omega) only [mxa, vxa, vxb, vxc, vnd, vne, Nat.reduceAdd, Nat.reduceSub, Nat.reduceLeDiff, Nat.reduceLT, Int32.reduceLT, Int32.reduceLE, Int32.reduceAdd, Int32.reduceSub, Int32.reduceMul, Int32.reduceToNatClampNeg, not_false_eq_true, not_true_eq_false, false_implies, true_implies, Nat.zero_add, reduceIte, Nat.reduceMul, Nat.reduceEqDiff, nxa, nxc, lgn, nL_of, swx, Int.reduceAdd, gI_a, gI_k, gL_a, gL_k, gI_r, gL_r, nI_and, nI_or, nI_xor, nI_ndf, nI_shl, nI_shr, ne_eq, and_true, true_and, eq_self, true_or, or_true, false_or, or_false, Option.toList, List.cons_append, List.nil_append, List.length_nil, List.length_cons, Nat.not_lt_zero, bX10_laysGroups_92]
        refine wfor (fun j => ∀ c, c ≤ 1 → (c = 1 ↔ tornS V s f ∨ ∃ g, g < j ∧ s.testBit g = true ∧ V (119 + 10 * f + g) = nI 1) → Wp X mX10_laysGroups (rmo (d + 1) 0 0) (d + 1) Q 0 0 97 [some (.ref 190), some (.int (nI s)), some (.int (nI (S + wsN V f))), some (.int (nI c)), some (.int (nI p')), some (.int (nI f)), some (.int (nI j))] [] τ) f (fun j hj hP2 c hc1 hc => ?_) (fun c hc1 hc => ?_) b hb (by
          rw [hb2]
          constructor
          · exact Or.inl
          · rintro (q | ⟨g, q, -⟩)
            · exact q
            · omega)
        · have yes : s.testBit j = true → V (119 + 10 * f + j) = nI 1 → Wp X mX10_laysGroups (rmo (d + 1) 0 0) (d + 1) Q 0 0 131 [some (.ref 190), some (.int (nI s)), some (.int (nI (S + wsN V f))), some (.int (nI c)), some (.int (nI p')), some (.int (nI f)), some (.int (nI j))] [.int (nI 1), .int (nI c)] τ := by
            intro h1 h2
            have e : c ||| 1 = 1 := by rcases (by omega : c = 0 ∨ c = 1) with rfl | rfl <;> rfl
            refine wp_blk kX10_laysGroups_131 ?_
            simp (disch := first | decide | omega) only [mxa, vxa, vxb, vxc, vnd, vne, Nat.reduceAdd, Nat.reduceSub, Nat.reduceLeDiff, Nat.reduceLT, Int32.reduceLT, Int32.reduceLE, Int32.reduceAdd, Int32.reduceSub, Int32.reduceMul, Int32.reduceToNatClampNeg, not_false_eq_true, not_true_eq_false, false_implies, true_implies, Nat.zero_add, reduceIte, Nat.reduceMul, Nat.reduceEqDiff, nxa, nxc, lgn, nL_of, swx, Int.reduceAdd, gI_a, gI_k, gL_a, gL_k, gI_r, gL_r, nI_and, nI_or, nI_xor, nI_ndf, nI_shl, nI_shr, ne_eq, and_true, true_and, eq_self, true_or, or_true, false_or, or_false, Option.toList, List.cons_append, List.nil_append, List.length_nil, List.length_cons, Nat.not_lt_zero, bX10_laysGroups_131, e]
            exact hP2 1 (by omega) ⟨fun _ => Or.inr ⟨j, by omega, h1, h2⟩, fun _ => rfl⟩
          have no : ¬ (s.testBit j = true ∧ V (119 + 10 * f + j) = nI 1) → Wp X mX10_laysGroups (rmo (d + 1) 0 0) (d + 1) Q 0 0 130 [some (.ref 190), some (.int (nI s)), some (.int (nI (S + wsN V f))), some (.int (nI c)), some (.int (nI p')), some (.int (nI f)), some (.int (nI j))] [.int (nI c)] τ := by
            intro h
            have e : c ||| 0 = c := Nat.or_zero c
            refine wp_blk kX10_laysGroups_130 ?_
            simp (disch := first | decide | omega) only [mxa, vxa, vxb, vxc, vnd, vne, Nat.reduceAdd, Nat.reduceSub, Nat.reduceLeDiff, Nat.reduceLT, Int32.reduceLT, Int32.reduceLE, Int32.reduceAdd, Int32.reduceSub, Int32.reduceMul, Int32.reduceToNatClampNeg, not_false_eq_true, not_true_eq_false, false_implies, true_implies, Nat.zero_add, reduceIte, Nat.reduceMul, Nat.reduceEqDiff, nxa, nxc, lgn, nL_of, swx, Int.reduceAdd, gI_a, gI_k, gL_a, gL_k, gI_r, gL_r, nI_and, nI_or, nI_xor, nI_ndf, nI_shl, nI_shr, ne_eq, and_true, true_and, eq_self, true_or, or_true, false_or, or_false, Option.toList, List.cons_append, List.nil_append, List.length_nil, List.length_cons, Nat.not_lt_zero, bX10_laysGroups_130]
            refine wp_blk kX10_laysGroups_131 ?_
            simp (disch := first | decide | omega) only [mxa, vxa, vxb, vxc, vnd, vne, Nat.reduceAdd, Nat.reduceSub, Nat.reduceLeDiff, Nat.reduceLT, Int32.reduceLT, Int32.reduceLE, Int32.reduceAdd, Int32.reduceSub, Int32.reduceMul, Int32.reduceToNatClampNeg, not_false_eq_true, not_true_eq_false, false_implies, true_implies, Nat.zero_add, reduceIte, Nat.reduceMul, Nat.reduceEqDiff, nxa, nxc, lgn, nL_of, swx, Int.reduceAdd, gI_a, gI_k, gL_a, gL_k, gI_r, gL_r, nI_and, nI_or, nI_xor, nI_ndf, nI_shl, nI_shr, ne_eq, and_true, true_and, eq_self, true_or, or_true, false_or, or_false, Option.toList, List.cons_append, List.nil_append, List.length_nil, List.length_cons, Nat.not_lt_zero, bX10_laysGroups_131, e]
            refine hP2 c hc1 (hc.trans ⟨?_, ?_⟩)
            · rintro (q | ⟨g, q1, q2⟩)
              · exact Or.inl q
              · exact Or.inr ⟨g, by omega, q2⟩
            · rintro (q | ⟨g, q1, q2⟩)
              · exact Or.inl q
              · by_cases e : g = j
                · subst e; exact absurd q2 h
                · exact Or.inr ⟨g, by omega, q2⟩
          refine wp_blk kX10_laysGroups_97 ?_
          simp (disch := first | decide | omega) only [mxa, vxa, vxb, vxc, vnd, vne, Nat.reduceAdd, Nat.reduceSub, Nat.reduceLeDiff, Nat.reduceLT, Int32.reduceLT, Int32.reduceLE, Int32.reduceAdd, Int32.reduceSub, Int32.reduceMul, Int32.reduceToNatClampNeg, not_false_eq_true, not_true_eq_false, false_implies, true_implies, Nat.zero_add, reduceIte, Nat.reduceMul, Nat.reduceEqDiff, nxa, nxc, lgn, nL_of, swx, Int.reduceAdd, gI_a, gI_k, gL_a, gL_k, gI_r, gL_r, nI_and, nI_or, nI_xor, nI_ndf, nI_shl, nI_shr, ne_eq, and_true, true_and, eq_self, true_or, or_true, false_or, or_false, Option.toList, List.cons_append, List.nil_append, List.length_nil, List.length_cons, Nat.not_lt_zero, bX10_laysGroups_97, show ¬ f ≤ j by omega]
          refine c_isIn X _ _ s j (by omega) (by omega) _ ?_
          by_cases hbj : s.testBit j = true
          · rw [if_pos hbj]
            simp (disch := first | decide | omega) only [mxa, vxa, vxb, vxc, vnd, vne, Nat.reduceAdd, Nat.reduceSub, Nat.reduceLeDiff, Nat.reduceLT, Int32.reduceLT, Int32.reduceLE, Int32.reduceAdd, Int32.reduceSub, Int32.reduceMul, Int32.reduceToNatClampNeg, not_false_eq_true, not_true_eq_false, false_implies, true_implies, Nat.zero_add, reduceIte, Nat.reduceMul, Nat.reduceEqDiff, nxa, nxc, lgn, nL_of, swx, Int.reduceAdd, gI_a, gI_k, gL_a, gL_k, gI_r, gL_r, nI_and, nI_or, nI_xor, nI_ndf, nI_shl, nI_shr, ne_eq, and_true, true_and, eq_self, true_or, or_true, false_or, or_false, Option.toList, List.cons_append, List.nil_append, List.length_nil, List.length_cons, Nat.not_lt_zero, kdx hs]
            refine c_quarrels X _ τ f j hs hr (by omega) (by omega) _ ?_
            rw [hV]
            by_cases hq : V (119 + 10 * f + j) = nI 1
            · rw [if_pos hq]
              simp (disch := first | decide | omega) only [mxa, vxa, vxb, vxc, vnd, vne, Nat.reduceAdd, Nat.reduceSub, Nat.reduceLeDiff, Nat.reduceLT, Int32.reduceLT, Int32.reduceLE, Int32.reduceAdd, Int32.reduceSub, Int32.reduceMul, Int32.reduceToNatClampNeg, not_false_eq_true, not_true_eq_false, false_implies, true_implies, Nat.zero_add, reduceIte, Nat.reduceMul, Nat.reduceEqDiff, nxa, nxc, lgn, nL_of, swx, Int.reduceAdd, gI_a, gI_k, gL_a, gL_k, gI_r, gL_r, nI_and, nI_or, nI_xor, nI_ndf, nI_shl, nI_shr, ne_eq, and_true, true_and, eq_self, true_or, or_true, false_or, or_false, Option.toList, List.cons_append, List.nil_append, List.length_nil, List.length_cons, Nat.not_lt_zero]
              exact yes hbj hq
            · rw [if_neg hq]
              simp (disch := first | decide | omega) only [mxa, vxa, vxb, vxc, vnd, vne, Nat.reduceAdd, Nat.reduceSub, Nat.reduceLeDiff, Nat.reduceLT, Int32.reduceLT, Int32.reduceLE, Int32.reduceAdd, Int32.reduceSub, Int32.reduceMul, Int32.reduceToNatClampNeg, not_false_eq_true, not_true_eq_false, false_implies, true_implies, Nat.zero_add, reduceIte, Nat.reduceMul, Nat.reduceEqDiff, nxa, nxc, lgn, nL_of, swx, Int.reduceAdd, gI_a, gI_k, gL_a, gL_k, gI_r, gL_r, nI_and, nI_or, nI_xor, nI_ndf, nI_shl, nI_shr, ne_eq, and_true, true_and, eq_self, true_or, or_true, false_or, or_false, Option.toList, List.cons_append, List.nil_append, List.length_nil, List.length_cons, Nat.not_lt_zero]
              exact no (fun z => hq z.2)
          · rw [if_neg hbj]
            simp (disch := first | decide | omega) only [mxa, vxa, vxb, vxc, vnd, vne, Nat.reduceAdd, Nat.reduceSub, Nat.reduceLeDiff, Nat.reduceLT, Int32.reduceLT, Int32.reduceLE, Int32.reduceAdd, Int32.reduceSub, Int32.reduceMul, Int32.reduceToNatClampNeg, not_false_eq_true, not_true_eq_false, false_implies, true_implies, Nat.zero_add, reduceIte, Nat.reduceMul, Nat.reduceEqDiff, nxa, nxc, lgn, nL_of, swx, Int.reduceAdd, gI_a, gI_k, gL_a, gL_k, gI_r, gL_r, nI_and, nI_or, nI_xor, nI_ndf, nI_shl, nI_shr, ne_eq, and_true, true_and, eq_self, true_or, or_true, false_or, or_false, Option.toList, List.cons_append, List.nil_append, List.length_nil, List.length_cons, Nat.not_lt_zero]
            exact no (fun z => hbj z.1)
        · refine wp_blk kX10_laysGroups_97 ?_
          simp (disch := first | decide | omega) only [mxa, vxa, vxb, vxc, vnd, vne, Nat.reduceAdd, Nat.reduceSub, Nat.reduceLeDiff, Nat.reduceLT, Int32.reduceLT, Int32.reduceLE, Int32.reduceAdd, Int32.reduceSub, Int32.reduceMul, Int32.reduceToNatClampNeg, not_false_eq_true, not_true_eq_false, false_implies, true_implies, Nat.zero_add, reduceIte, Nat.reduceMul, Nat.reduceEqDiff, nxa, nxc, lgn, nL_of, swx, Int.reduceAdd, gI_a, gI_k, gL_a, gL_k, gI_r, gL_r, nI_and, nI_or, nI_xor, nI_ndf, nI_shl, nI_shr, ne_eq, and_true, true_and, eq_self, true_or, or_true, false_or, or_false, Option.toList, List.cons_append, List.nil_append, List.length_nil, List.length_cons, Nat.not_lt_zero, bX10_laysGroups_97, Nat.le_refl]
          refine wp_blk kX10_laysGroups_139 ?_
          simp (disch := first | decide | omega) only [mxa, vxa, vxb, vxc, vnd, vne, Nat.reduceAdd, Nat.reduceSub, Nat.reduceLeDiff, Nat.reduceLT, Int32.reduceLT, Int32.reduceLE, Int32.reduceAdd, Int32.reduceSub, Int32.reduceMul, Int32.reduceToNatClampNeg, not_false_eq_true, not_true_eq_false, false_implies, true_implies, Nat.zero_add, reduceIte, Nat.reduceMul, Nat.reduceEqDiff, nxa, nxc, lgn, nL_of, swx, Int.reduceAdd, gI_a, gI_k, gL_a, gL_k, gI_r, gL_r, nI_and, nI_or, nI_xor, nI_ndf, nI_shl, nI_shr, ne_eq, and_true, true_and, eq_self, true_or, or_true, false_or, or_false, Option.toList, List.cons_append, List.nil_append, List.length_nil, List.length_cons, Nat.not_lt_zero, bX10_laysGroups_139]
          refine Wp.fog 6 (hP c p' hc1 hp' (hc.trans ⟨?_, ?_⟩) hp2')
          · rintro (⟨i, g, q1, q2, q3⟩ | ⟨g, q1, q2, q3⟩)
            · exact ⟨i, g, by omega, q2, q3⟩
            · exact ⟨f, g, by omega, q1, hbf, q2, q3⟩
          · rintro ⟨i, g, q1, q2, q3, q4, q5⟩
            by_cases e : i = f
            · subst e; exact Or.inr ⟨g, q2, q4, q5⟩
            · exact Or.inl ⟨i, g, by omega, q2, q3, q4, q5⟩
      refine wp_blk kX10_laysGroups_32 ?_
      simp (disch := first | decide | omega) only [mxa, vxa, vxb, vxc, vnd, vne, Nat.reduceAdd, Nat.reduceSub, Nat.reduceLeDiff, Nat.reduceLT, Int32.reduceLT, Int32.reduceLE, Int32.reduceAdd, Int32.reduceSub, Int32.reduceMul, Int32.reduceToNatClampNeg, not_false_eq_true, not_true_eq_false, false_implies, true_implies, Nat.zero_add, reduceIte, Nat.reduceMul, Nat.reduceEqDiff, nxa, nxc, lgn, nL_of, swx, Int.reduceAdd, gI_a, gI_k, gL_a, gL_k, gI_r, gL_r, nI_and, nI_or, nI_xor, nI_ndf, nI_shl, nI_shr, ne_eq, and_true, true_and, eq_self, true_or, or_true, false_or, or_false, Option.toList, List.cons_append, List.nil_append, List.length_nil, List.length_cons, Nat.not_lt_zero, bX10_laysGroups_32, kdx hs, grx hr, n0, show ¬ N ≤ f by omega]
      refine c_isIn X _ _ s f (by omega) (by omega) _ ?_
      rw [if_pos hbf]
      simp (disch := first | decide | omega) only [mxa, vxa, vxb, vxc, vnd, vne, Nat.reduceAdd, Nat.reduceSub, Nat.reduceLeDiff, Nat.reduceLT, Int32.reduceLT, Int32.reduceLE, Int32.reduceAdd, Int32.reduceSub, Int32.reduceMul, Int32.reduceToNatClampNeg, not_false_eq_true, not_true_eq_false, false_implies, true_implies, Nat.zero_add, reduceIte, Nat.reduceMul, Nat.reduceEqDiff, nxa, nxc, lgn, nL_of, swx, Int.reduceAdd, gI_a, gI_k, gL_a, gL_k, gI_r, gL_r, nI_and, nI_or, nI_xor, nI_ndf, nI_shl, nI_shr, ne_eq, and_true, true_and, eq_self, true_or, or_true, false_or, or_false, Option.toList, List.cons_append, List.nil_append, List.length_nil, List.length_cons, Nat.not_lt_zero]
      have cut : ∀ z : p = 1, (0 < s ∧ ∀ i, i < f → s.testBit i = true → 0 < wsN V i) := fun z => hp2.mp z
      by_cases p1 : p = 1
      · obtain ⟨a1, a2⟩ := hp2.mp p1
        by_cases w0 : 0 < wsN V f
        · refine wp_blk kX10_laysGroups_56 ?_
          simp (disch := first | decide | omega) only [mxa, vxa, vxb, vxc, vnd, vne, Nat.reduceAdd, Nat.reduceSub, Nat.reduceLeDiff, Nat.reduceLT, Int32.reduceLT, Int32.reduceLE, Int32.reduceAdd, Int32.reduceSub, Int32.reduceMul, Int32.reduceToNatClampNeg, not_false_eq_true, not_true_eq_false, false_implies, true_implies, Nat.zero_add, reduceIte, Nat.reduceMul, Nat.reduceEqDiff, nxa, nxc, lgn, nL_of, swx, Int.reduceAdd, gI_a, gI_k, gL_a, gL_k, gI_r, gL_r, nI_and, nI_or, nI_xor, nI_ndf, nI_shl, nI_shr, ne_eq, and_true, true_and, eq_self, true_or, or_true, false_or, or_false, Option.toList, List.cons_append, List.nil_append, List.length_nil, List.length_cons, Nat.not_lt_zero, bX10_laysGroups_56, kdx hs, grx hr, ws, p1, show ¬ wsN V f ≤ 0 by omega]
          have := at92 1 (by omega) ⟨fun _ => ⟨a1, fun i hi q => by
            by_cases e : i = f
            · rw [e]; exact w0
            · exact a2 i (by omega) q⟩, fun _ => rfl⟩
          rw [p1] at this
          exact this
        · refine wp_blk kX10_laysGroups_56 ?_
          simp (disch := first | decide | omega) only [mxa, vxa, vxb, vxc, vnd, vne, Nat.reduceAdd, Nat.reduceSub, Nat.reduceLeDiff, Nat.reduceLT, Int32.reduceLT, Int32.reduceLE, Int32.reduceAdd, Int32.reduceSub, Int32.reduceMul, Int32.reduceToNatClampNeg, not_false_eq_true, not_true_eq_false, false_implies, true_implies, Nat.zero_add, reduceIte, Nat.reduceMul, Nat.reduceEqDiff, nxa, nxc, lgn, nL_of, swx, Int.reduceAdd, gI_a, gI_k, gL_a, gL_k, gI_r, gL_r, nI_and, nI_or, nI_xor, nI_ndf, nI_shl, nI_shr, ne_eq, and_true, true_and, eq_self, true_or, or_true, false_or, or_false, Option.toList, List.cons_append, List.nil_append, List.length_nil, List.length_cons, Nat.not_lt_zero, bX10_laysGroups_56, kdx hs, grx hr, ws, p1, show wsN V f ≤ 0 by omega]
          refine wp_blk kX10_laysGroups_91 ?_
          simp (disch := first | decide | omega) only [mxa, vxa, vxb, vxc, vnd, vne, Nat.reduceAdd, Nat.reduceSub, Nat.reduceLeDiff, Nat.reduceLT, Int32.reduceLT, Int32.reduceLE, Int32.reduceAdd, Int32.reduceSub, Int32.reduceMul, Int32.reduceToNatClampNeg, not_false_eq_true, not_true_eq_false, false_implies, true_implies, Nat.zero_add, reduceIte, Nat.reduceMul, Nat.reduceEqDiff, nxa, nxc, lgn, nL_of, swx, Int.reduceAdd, gI_a, gI_k, gL_a, gL_k, gI_r, gL_r, nI_and, nI_or, nI_xor, nI_ndf, nI_shl, nI_shr, ne_eq, and_true, true_and, eq_self, true_or, or_true, false_or, or_false, Option.toList, List.cons_append, List.nil_append, List.length_nil, List.length_cons, Nat.not_lt_zero, bX10_laysGroups_91]
          have := at92 0 (by omega) ⟨fun z => absurd z (by decide), fun z => absurd (z.2 f (by omega) hbf) w0⟩
          rw [p1] at this
          exact this
      · have p0 : p = 0 := by omega
        refine wp_blk kX10_laysGroups_56 ?_
        simp (disch := first | decide | omega) only [mxa, vxa, vxb, vxc, vnd, vne, Nat.reduceAdd, Nat.reduceSub, Nat.reduceLeDiff, Nat.reduceLT, Int32.reduceLT, Int32.reduceLE, Int32.reduceAdd, Int32.reduceSub, Int32.reduceMul, Int32.reduceToNatClampNeg, not_false_eq_true, not_true_eq_false, false_implies, true_implies, Nat.zero_add, reduceIte, Nat.reduceMul, Nat.reduceEqDiff, nxa, nxc, lgn, nL_of, swx, Int.reduceAdd, gI_a, gI_k, gL_a, gL_k, gI_r, gL_r, nI_and, nI_or, nI_xor, nI_ndf, nI_shl, nI_shr, ne_eq, and_true, true_and, eq_self, true_or, or_true, false_or, or_false, Option.toList, List.cons_append, List.nil_append, List.length_nil, List.length_cons, Nat.not_lt_zero, bX10_laysGroups_56, kdx hs, grx hr, ws, p0]
        refine wp_blk kX10_laysGroups_91 ?_
        simp (disch := first | decide | omega) only [mxa, vxa, vxb, vxc, vnd, vne, Nat.reduceAdd, Nat.reduceSub, Nat.reduceLeDiff, Nat.reduceLT, Int32.reduceLT, Int32.reduceLE, Int32.reduceAdd, Int32.reduceSub, Int32.reduceMul, Int32.reduceToNatClampNeg, not_false_eq_true, not_true_eq_false, false_implies, true_implies, Nat.zero_add, reduceIte, Nat.reduceMul, Nat.reduceEqDiff, nxa, nxc, lgn, nL_of, swx, Int.reduceAdd, gI_a, gI_k, gL_a, gL_k, gI_r, gL_r, nI_and, nI_or, nI_xor, nI_ndf, nI_shl, nI_shr, ne_eq, and_true, true_and, eq_self, true_or, or_true, false_or, or_false, Option.toList, List.cons_append, List.nil_append, List.length_nil, List.length_cons, Nat.not_lt_zero, bX10_laysGroups_91]
        have := at92 0 (by omega) ⟨fun z => absurd z (by decide), fun z => absurd (hp2.mpr ⟨z.1, fun i hi q => z.2 i (by omega) q⟩) p1⟩
        rw [p0] at this
        exact this
    · have sk : sumN (fun f => if s.testBit f = true then wsN V f else 0) (f + 1) = sumN (fun f => if s.testBit f = true then wsN V f else 0) f := by
        show sumN _ f + (if s.testBit f = true then wsN V f else 0) = _
        rw [if_neg hbf, Nat.add_zero]
      rw [sk] at hP
      generalize sumN (fun f => if s.testBit f = true then wsN V f else 0) f = S at hP ⊢
      refine wp_blk kX10_laysGroups_32 ?_
      simp (disch := first | decide | omega) only [mxa, vxa, vxb, vxc, vnd, vne, Nat.reduceAdd, Nat.reduceSub, Nat.reduceLeDiff, Nat.reduceLT, Int32.reduceLT, Int32.reduceLE, Int32.reduceAdd, Int32.reduceSub, Int32.reduceMul, Int32.reduceToNatClampNeg, not_false_eq_true, not_true_eq_false, false_implies, true_implies, Nat.zero_add, reduceIte, Nat.reduceMul, Nat.reduceEqDiff, nxa, nxc, lgn, nL_of, swx, Int.reduceAdd, gI_a, gI_k, gL_a, gL_k, gI_r, gL_r, nI_and, nI_or, nI_xor, nI_ndf, nI_shl, nI_shr, ne_eq, and_true, true_and, eq_self, true_or, or_true, false_or, or_false, Option.toList, List.cons_append, List.nil_append, List.length_nil, List.length_cons, Nat.not_lt_zero, bX10_laysGroups_32, kdx hs, grx hr, n0, show ¬ N ≤ f by omega]
      refine c_isIn X _ _ s f (by omega) (by omega) _ ?_
      rw [if_neg hbf]
      simp (disch := first | decide | omega) only [mxa, vxa, vxb, vxc, vnd, vne, Nat.reduceAdd, Nat.reduceSub, Nat.reduceLeDiff, Nat.reduceLT, Int32.reduceLT, Int32.reduceLE, Int32.reduceAdd, Int32.reduceSub, Int32.reduceMul, Int32.reduceToNatClampNeg, not_false_eq_true, not_true_eq_false, false_implies, true_implies, Nat.zero_add, reduceIte, Nat.reduceMul, Nat.reduceEqDiff, nxa, nxc, lgn, nL_of, swx, Int.reduceAdd, gI_a, gI_k, gL_a, gL_k, gI_r, gL_r, nI_and, nI_or, nI_xor, nI_ndf, nI_shl, nI_shr, ne_eq, and_true, true_and, eq_self, true_or, or_true, false_or, or_false, Option.toList, List.cons_append, List.nil_append, List.length_nil, List.length_cons, Nat.not_lt_zero]
      refine wp_blk kX10_laysGroups_139 ?_
      simp (disch := first | decide | omega) only [mxa, vxa, vxb, vxc, vnd, vne, Nat.reduceAdd, Nat.reduceSub, Nat.reduceLeDiff, Nat.reduceLT, Int32.reduceLT, Int32.reduceLE, Int32.reduceAdd, Int32.reduceSub, Int32.reduceMul, Int32.reduceToNatClampNeg, not_false_eq_true, not_true_eq_false, false_implies, true_implies, Nat.zero_add, reduceIte, Nat.reduceMul, Nat.reduceEqDiff, nxa, nxc, lgn, nL_of, swx, Int.reduceAdd, gI_a, gI_k, gL_a, gL_k, gI_r, gL_r, nI_and, nI_or, nI_xor, nI_ndf, nI_shl, nI_shr, ne_eq, and_true, true_and, eq_self, true_or, or_true, false_or, or_false, Option.toList, List.cons_append, List.nil_append, List.length_nil, List.length_cons, Nat.not_lt_zero, bX10_laysGroups_139]
      refine hP b p hb hp (hb2.trans ⟨?_, ?_⟩) (hp2.trans ⟨?_, ?_⟩)
      · rintro ⟨i, g, q1, q2⟩
        exact ⟨i, g, by omega, q2⟩
      · rintro ⟨i, g, q1, q2, q3, q4⟩
        by_cases e : i = f
        · subst e; exact absurd q3 hbf
        · exact ⟨i, g, by omega, q2, q3, q4⟩
      · rintro ⟨q1, q2⟩
        refine ⟨q1, fun i hi q => ?_⟩
        by_cases e : i = f
        · subst e; exact absurd q hbf
        · exact q2 i (by omega) q
      · rintro ⟨q1, q2⟩
        exact ⟨q1, fun i hi q => q2 i (by omega) q⟩) (fun b p hb hp hb2 hp2 => by
    refine wp_blk kX10_laysGroups_32 ?_
    simp (disch := first | decide | omega) only [mxa, vxa, vxb, vxc, vnd, vne, Nat.reduceAdd, Nat.reduceSub, Nat.reduceLeDiff, Nat.reduceLT, Int32.reduceLT, Int32.reduceLE, Int32.reduceAdd, Int32.reduceSub, Int32.reduceMul, Int32.reduceToNatClampNeg, not_false_eq_true, not_true_eq_false, false_implies, true_implies, Nat.zero_add, reduceIte, Nat.reduceMul, Nat.reduceEqDiff, nxa, nxc, lgn, nL_of, swx, Int.reduceAdd, gI_a, gI_k, gL_a, gL_k, gI_r, gL_r, nI_and, nI_or, nI_xor, nI_ndf, nI_shl, nI_shr, ne_eq, and_true, true_and, eq_self, true_or, or_true, false_or, or_false, Option.toList, List.cons_append, List.nil_append, List.length_nil, List.length_cons, Nat.not_lt_zero, bX10_laysGroups_32, kdx hs, grx hr, n0, Nat.le_refl]
    exact Wp.fog 5 (fin b p hb hp hb2 hp2))
  exact go 0 p0 (by omega) hp0 ⟨fun z => absurd z (by decide), fun ⟨i, g, q, _⟩ => absurd q (by omega)⟩ (hp1.trans ⟨fun q => ⟨q, fun i hi => absurd hi (by omega)⟩, fun q => q.1⟩)
theorem lg_o (X : Cx) (d : Nat) (τ : Mm) (V : Nat → Int32) (t N O K s b p : Nat) (hs : Sh τ) (hr : Rf τ) (hV : gI τ 191 = V) (hG : Gd V t N O K) (hs2 : s < 2 ^ N) (Q : Po) (hb : b ≤ 1) (hp : p ≤ 1) (hb2 : b = 1 ↔ tornS V s N) (hp2 : p = 1 ↔ 0 < s ∧ ∀ f, f < N → s.testBit f = true → 0 < wsN V f) (fin : ∀ τ' : Mm, Fr (fun c => c = 200 ∨ c = 201 ∨ c = 202) τ τ' → GL V N O τ' s → (∀ r, r ≠ s → gI τ' 200 r = gI τ 200 r ∧ gI τ' 201 r = gI τ 201 r ∧ gI τ' 202 r = gI τ 202 r) → Wp X mX10_laysGroups (rmo (d + 1) 0 0) (d + 1) Q 0 0 226 [some (.ref 190), some (.int (nI s)), none, none, none, none, none] [] τ') : Wp X mX10_laysGroups (rmo (d + 1) 0 0) (d + 1) Q 0 0 145 [some (.ref 190), some (.int (nI s)), some (.int (nI (sW V N s))), some (.int (nI b)), some (.int (nI p)), none, none] [] τ := by
  have hN10 := hG.1.2
  have hO3 := hG.2.1.2
  have pw := pow_le hN10
  have sl := sW_le (s := s) hG
  have o0 : gI τ 191 1 = nI O := by rw [hV]; exact hG.2.1.1
  have zz : ∀ o, o < O → gI τ 191 (6 + o) = nI (zN V o) := fun o ho => by rw [hV]; exact (zN_ok hG ho).1
  have gt := gdS_torn (s := s) hG
  have b1 : b &&& 1 = b := by rcases (by omega : b = 0 ∨ b = 1) with rfl | rfl <;> rfl
  have go := wfor (fun o => ∀ τ' : Mm, Fr (fun c => c = 200 ∨ c = 201 ∨ c = 202) τ τ' → gI τ' 200 s = nI (bP (fun o => gdS V N s ∧ sW V N s = zN V o) o) → gI τ' 201 s = nI (sW V N s) → gI τ' 202 s = nI b → (∀ r, r ≠ s → gI τ' 200 r = gI τ 200 r ∧ gI τ' 201 r = gI τ 201 r ∧ gI τ' 202 r = gI τ 202 r) → Wp X mX10_laysGroups (rmo (d + 1) 0 0) (d + 1) Q 0 0 169 [some (.ref 190), some (.int (nI s)), some (.int (nI (sW V N s))), some (.int (nI b)), some (.int (nI p)), some (.int (nI o)), none] [] τ') O (fun o ho hP τ' F h1 h2 h3 h4 => by
    have s1 := F.Sh hs
    have r1 := F.Rf hr
    have o1 : gI τ' 191 1 = nI O := (F.2.2.1 191 (by omega) 1).trans o0
    have z1 : gI τ' 191 (6 + o) = nI (zN V o) := (F.2.2.1 191 (by omega) _).trans (zz o ho)
    obtain ⟨-, za, zb⟩ := zN_ok hG ho
    by_cases g : gdS V N s ∧ 0 < s
    · have p1 : p = 1 := hp2.mpr ⟨g.2, (gt.mp g.1).1⟩
      have b0 : b = 0 := by
        rcases (by omega : b = 0 ∨ b = 1) with q | q
        · exact q
        · exact absurd (hb2.mp q) (gt.mp g.1).2
      have step : ∀ x : Nat, bP (fun o => gdS V N s ∧ sW V N s = zN V o) o ||| x = bP (fun o => gdS V N s ∧ sW V N s = zN V o) (o + 1) → Wp X mX10_laysGroups (rmo (d + 1) 0 0) (d + 1) Q 0 0 218 [some (.ref 190), some (.int (nI s)), some (.int (nI (sW V N s))), some (.int (nI b)), some (.int (nI p)), some (.int (nI o)), none] [.int (nI x), .int (nI (bP (fun o => gdS V N s ∧ sW V N s = zN V o) o)), .int (nI s), .ref 200] τ' := by
        intro x hx
        refine wp_blk kX10_laysGroups_218 ?_
        simp (disch := first | decide | omega) only [mxa, vxa, vxb, vxc, vnd, vne, Nat.reduceAdd, Nat.reduceSub, Nat.reduceLeDiff, Nat.reduceLT, Int32.reduceLT, Int32.reduceLE, Int32.reduceAdd, Int32.reduceSub, Int32.reduceMul, Int32.reduceToNatClampNeg, not_false_eq_true, not_true_eq_false, false_implies, true_implies, Nat.zero_add, reduceIte, Nat.reduceMul, Nat.reduceEqDiff, nxa, nxc, lgn, nL_of, swx, Int.reduceAdd, gI_a, gI_k, gL_a, gL_k, gI_r, gL_r, nI_and, nI_or, nI_xor, nI_ndf, nI_shl, nI_shr, ne_eq, and_true, true_and, eq_self, true_or, or_true, false_or, or_false, Option.toList, List.cons_append, List.nil_append, List.length_nil, List.length_cons, Nat.not_lt_zero, bX10_laysGroups_218, kdx s1, hx]
        refine hP _ (F.tr (Fr.sI (by omega))) (gI_same _ _ _ _) ((gI_a (by decide)).trans h2) ((gI_a (by decide)).trans h3) (fun r hr' => ?_)
        rw [gI_k hr', gI_a (by decide), gI_a (by decide)]
        exact h4 r hr'
      by_cases e : sW V N s = zN V o
      · have := step (1 * 2 ^ o) (bP_y (fun o => gdS V N s ∧ sW V N s = zN V o) ⟨g.1, e⟩)
        rw [b0, p1] at this ⊢
        refine wp_blk kX10_laysGroups_169 ?_
        simp (disch := first | decide | omega) only [mxa, vxa, vxb, vxc, vnd, vne, Nat.reduceAdd, Nat.reduceSub, Nat.reduceLeDiff, Nat.reduceLT, Int32.reduceLT, Int32.reduceLE, Int32.reduceAdd, Int32.reduceSub, Int32.reduceMul, Int32.reduceToNatClampNeg, not_false_eq_true, not_true_eq_false, false_implies, true_implies, Nat.zero_add, reduceIte, Nat.reduceMul, Nat.reduceEqDiff, nxa, nxc, lgn, nL_of, swx, Int.reduceAdd, gI_a, gI_k, gL_a, gL_k, gI_r, gL_r, nI_and, nI_or, nI_xor, nI_ndf, nI_shl, nI_shr, ne_eq, and_true, true_and, eq_self, true_or, or_true, false_or, or_false, Option.toList, List.cons_append, List.nil_append, List.length_nil, List.length_cons, Nat.not_lt_zero, bX10_laysGroups_169, kdx s1, grx r1, o1, z1, h1, show zN V o = sW V N s from e.symm, show ¬ O ≤ o by omega]
        exact this
      · have := step 0 (by rw [bP_n (fun o => gdS V N s ∧ sW V N s = zN V o) (fun q => e q.2), Nat.or_zero])
        rw [b0, p1] at this ⊢
        refine wp_blk kX10_laysGroups_169 ?_
        simp (disch := first | decide | omega) only [mxa, vxa, vxb, vxc, vnd, vne, Nat.reduceAdd, Nat.reduceSub, Nat.reduceLeDiff, Nat.reduceLT, Int32.reduceLT, Int32.reduceLE, Int32.reduceAdd, Int32.reduceSub, Int32.reduceMul, Int32.reduceToNatClampNeg, not_false_eq_true, not_true_eq_false, false_implies, true_implies, Nat.zero_add, reduceIte, Nat.reduceMul, Nat.reduceEqDiff, nxa, nxc, lgn, nL_of, swx, Int.reduceAdd, gI_a, gI_k, gL_a, gL_k, gI_r, gL_r, nI_and, nI_or, nI_xor, nI_ndf, nI_shl, nI_shr, ne_eq, and_true, true_and, eq_self, true_or, or_true, false_or, or_false, Option.toList, List.cons_append, List.nil_append, List.length_nil, List.length_cons, Nat.not_lt_zero, bX10_laysGroups_169, kdx s1, grx r1, o1, z1, h1, show ¬ zN V o = sW V N s from fun q => e q.symm, show ¬ O ≤ o by omega]
        refine wp_blk kX10_laysGroups_217 ?_
        simp (disch := first | decide | omega) only [mxa, vxa, vxb, vxc, vnd, vne, Nat.reduceAdd, Nat.reduceSub, Nat.reduceLeDiff, Nat.reduceLT, Int32.reduceLT, Int32.reduceLE, Int32.reduceAdd, Int32.reduceSub, Int32.reduceMul, Int32.reduceToNatClampNeg, not_false_eq_true, not_true_eq_false, false_implies, true_implies, Nat.zero_add, reduceIte, Nat.reduceMul, Nat.reduceEqDiff, nxa, nxc, lgn, nL_of, swx, Int.reduceAdd, gI_a, gI_k, gL_a, gL_k, gI_r, gL_r, nI_and, nI_or, nI_xor, nI_ndf, nI_shl, nI_shr, ne_eq, and_true, true_and, eq_self, true_or, or_true, false_or, or_false, Option.toList, List.cons_append, List.nil_append, List.length_nil, List.length_cons, Nat.not_lt_zero, bX10_laysGroups_217]
        exact this
    · have nf : ∀ o, o < O → ¬ (gdS V N s ∧ sW V N s = zN V o) := fun o ho q => by
        by_cases s0 : s = 0
        · have := (zN_ok hG ho).2.1
          rw [s0, s0W] at q
          omega
        · exact g ⟨q.1, by omega⟩
      have v0 : ∀ k, k ≤ O → bP (fun o => gdS V N s ∧ sW V N s = zN V o) k = 0 := fun k hk => bit_eq (fun i => by
        rw [Nat.zero_testBit]
        exact bP_no (fun o => gdS V N s ∧ sW V N s = zN V o) (fun q => nf i (by omega) q.2))
      have ex : Wp X mX10_laysGroups (rmo (d + 1) 0 0) (d + 1) Q 0 0 226 [some (.ref 190), some (.int (nI s)), some (.int (nI (sW V N s))), some (.int (nI b)), some (.int (nI p)), some (.int (nI o)), none] [] τ' := by
        refine Wp.fog 2 (Wp.fog 3 (Wp.fog 4 (Wp.fog 5 (fin τ' F ⟨?_, h2, b, hb, h3, hb2⟩ h4))))
        rw [h1, v0 o (by omega)]
        exact congrArg nI (v0 O (Nat.le_refl _)).symm
      by_cases p1 : p = 1
      · have b1' : b = 1 := by
          refine Classical.byContradiction (fun q => g ⟨gt.mpr ⟨(hp2.mp p1).2, fun z => q (hb2.mpr z)⟩, (hp2.mp p1).1⟩)
        rw [p1, b1'] at ex ⊢
        refine wp_blk kX10_laysGroups_169 ?_
        simp (disch := first | decide | omega) only [mxa, vxa, vxb, vxc, vnd, vne, Nat.reduceAdd, Nat.reduceSub, Nat.reduceLeDiff, Nat.reduceLT, Int32.reduceLT, Int32.reduceLE, Int32.reduceAdd, Int32.reduceSub, Int32.reduceMul, Int32.reduceToNatClampNeg, not_false_eq_true, not_true_eq_false, false_implies, true_implies, Nat.zero_add, reduceIte, Nat.reduceMul, Nat.reduceEqDiff, nxa, nxc, lgn, nL_of, swx, Int.reduceAdd, gI_a, gI_k, gL_a, gL_k, gI_r, gL_r, nI_and, nI_or, nI_xor, nI_ndf, nI_shl, nI_shr, ne_eq, and_true, true_and, eq_self, true_or, or_true, false_or, or_false, Option.toList, List.cons_append, List.nil_append, List.length_nil, List.length_cons, Nat.not_lt_zero, bX10_laysGroups_169, kdx s1, grx r1, o1, show ¬ O ≤ o by omega]
        exact ex
      · have p0 : p = 0 := by omega
        rw [p0] at ex ⊢
        refine wp_blk kX10_laysGroups_169 ?_
        simp (disch := first | decide | omega) only [mxa, vxa, vxb, vxc, vnd, vne, Nat.reduceAdd, Nat.reduceSub, Nat.reduceLeDiff, Nat.reduceLT, Int32.reduceLT, Int32.reduceLE, Int32.reduceAdd, Int32.reduceSub, Int32.reduceMul, Int32.reduceToNatClampNeg, not_false_eq_true, not_true_eq_false, false_implies, true_implies, Nat.zero_add, reduceIte, Nat.reduceMul, Nat.reduceEqDiff, nxa, nxc, lgn, nL_of, swx, Int.reduceAdd, gI_a, gI_k, gL_a, gL_k, gI_r, gL_r, nI_and, nI_or, nI_xor, nI_ndf, nI_shl, nI_shr, ne_eq, and_true, true_and, eq_self, true_or, or_true, false_or, or_false, Option.toList, List.cons_append, List.nil_append, List.length_nil, List.length_cons, Nat.not_lt_zero, bX10_laysGroups_169, kdx s1, grx r1, o1, show ¬ O ≤ o by omega]
        exact ex) (fun τ' F h1 h2 h3 h4 => by
    have s1 := F.Sh hs
    have r1 := F.Rf hr
    have o1 : gI τ' 191 1 = nI O := (F.2.2.1 191 (by omega) 1).trans o0
    refine wp_blk kX10_laysGroups_169 ?_
    simp (disch := first | decide | omega) only [mxa, vxa, vxb, vxc, vnd, vne, Nat.reduceAdd, Nat.reduceSub, Nat.reduceLeDiff, Nat.reduceLT, Int32.reduceLT, Int32.reduceLE, Int32.reduceAdd, Int32.reduceSub, Int32.reduceMul, Int32.reduceToNatClampNeg, not_false_eq_true, not_true_eq_false, false_implies, true_implies, Nat.zero_add, reduceIte, Nat.reduceMul, Nat.reduceEqDiff, nxa, nxc, lgn, nL_of, swx, Int.reduceAdd, gI_a, gI_k, gL_a, gL_k, gI_r, gL_r, nI_and, nI_or, nI_xor, nI_ndf, nI_shl, nI_shr, ne_eq, and_true, true_and, eq_self, true_or, or_true, false_or, or_false, Option.toList, List.cons_append, List.nil_append, List.length_nil, List.length_cons, Nat.not_lt_zero, bX10_laysGroups_169, kdx s1, grx r1, o1, Nat.le_refl]
    exact Wp.fog 2 (Wp.fog 3 (Wp.fog 4 (Wp.fog 5 (fin τ' F ⟨h1, h2, b, hb, h3, hb2⟩ h4)))))
  refine wp_blk kX10_laysGroups_145 ?_
  simp (disch := first | decide | omega) only [mxa, vxa, vxb, vxc, vnd, vne, Nat.reduceAdd, Nat.reduceSub, Nat.reduceLeDiff, Nat.reduceLT, Int32.reduceLT, Int32.reduceLE, Int32.reduceAdd, Int32.reduceSub, Int32.reduceMul, Int32.reduceToNatClampNeg, not_false_eq_true, not_true_eq_false, false_implies, true_implies, Nat.zero_add, reduceIte, Nat.reduceMul, Nat.reduceEqDiff, nxa, nxc, lgn, nL_of, swx, Int.reduceAdd, gI_a, gI_k, gL_a, gL_k, gI_r, gL_r, nI_and, nI_or, nI_xor, nI_ndf, nI_shl, nI_shr, ne_eq, and_true, true_and, eq_self, true_or, or_true, false_or, or_false, Option.toList, List.cons_append, List.nil_append, List.length_nil, List.length_cons, Nat.not_lt_zero, bX10_laysGroups_145, kdx hs, grx hr, b1]
  refine go _ (((Fr.sI (by omega)).tr (Fr.sI (by omega))).tr (Fr.sI (by omega))) ?_ ?_ ?_ (fun r hr' => ⟨?_, ?_, ?_⟩)
  · rw [gI_same]; exact congrArg nI (bit_eq (fun i => by rw [Nat.zero_testBit, bP_no _ (fun q => absurd q.1 (by omega))]))
  · rw [gI_a (by decide), gI_a (by decide), gI_same]
  · rw [gI_a (by decide), gI_same, show (1 : Int32) = nI 1 from rfl, nI_and, b1]
  · rw [gI_k hr', gI_a (by decide), gI_a (by decide)]
  · rw [gI_a (by decide), gI_a (by decide), gI_k hr']
  · rw [gI_a (by decide), gI_k hr', gI_a (by decide)]
theorem c_laysGroups (X : Cx) (d : Nat) (σ : Mm) (V : Nat → Int32) (t N O K : Nat) (hs : Sh σ) (hr : Rf σ) (hV : gI σ 191 = V) (hG : Gd V t N O K) (Q : Po) (hQ : ∀ τ : Mm, Fr (fun c => c = 200 ∨ c = 201 ∨ c = 202) σ τ → (∀ s, s < 2 ^ N → GL V N O τ s) → Q none τ) : Call X (d + 1) 0 0 mX10_laysGroups [.ref 190] σ Q := by
  have hN10 := hG.1.2
  have pw := pow_le hN10
  have n0 : gI σ 191 0 = nI N := by rw [hV]; exact hG.1.1
  have go := wfor (fun s => ∀ τ : Mm, Fr (fun c => c = 200 ∨ c = 201 ∨ c = 202) σ τ → (∀ r, r < s → GL V N O τ r) → Wp X mX10_laysGroups (rmo (d + 1) 0 0) (d + 1) Q 0 0 2 [some (.ref 190), some (.int (nI s)), none, none, none, none, none] [] τ) (2 ^ N) (fun s hs2 hP τ F h => by
    have s1 := F.Sh hs
    have r1 := F.Rf hr
    have v1 : gI τ 191 = V := by
      rw [← hV]; exact funext (F.2.2.1 191 (by omega))
    have n1 : gI τ 191 0 = nI N := by rw [v1]; exact hG.1.1
    have rest := lg_f X d τ V t N O K s s1 r1 v1 hG hs2 Q (fun b p hb hp hb2 hp2 => lg_o X d τ V t N O K s b p s1 r1 v1 hG hs2 Q hb hp hb2 hp2 (fun τ' F' g k => by
      refine wp_blk kX10_laysGroups_226 ?_
      simp (disch := first | decide | omega) only [mxa, vxa, vxb, vxc, vnd, vne, Nat.reduceAdd, Nat.reduceSub, Nat.reduceLeDiff, Nat.reduceLT, Int32.reduceLT, Int32.reduceLE, Int32.reduceAdd, Int32.reduceSub, Int32.reduceMul, Int32.reduceToNatClampNeg, not_false_eq_true, not_true_eq_false, false_implies, true_implies, Nat.zero_add, reduceIte, Nat.reduceMul, Nat.reduceEqDiff, nxa, nxc, lgn, nL_of, swx, Int.reduceAdd, gI_a, gI_k, gL_a, gL_k, gI_r, gL_r, nI_and, nI_or, nI_xor, nI_ndf, nI_shl, nI_shr, ne_eq, and_true, true_and, eq_self, true_or, or_true, false_or, or_false, Option.toList, List.cons_append, List.nil_append, List.length_nil, List.length_cons, Nat.not_lt_zero, bX10_laysGroups_226]
      refine hP τ' (F.tr F') (fun r hr' => ?_)
      by_cases e : r = s
      · rw [e]; exact g
      · obtain ⟨k1, k2, k3⟩ := k r e
        obtain ⟨l1, l2, b', l3, l4, l5⟩ := h r (by omega)
        exact ⟨k1.trans l1, k2.trans l2, b', l3, k3.trans l4, l5⟩))
    by_cases s0 : 0 < s
    · refine wp_blk kX10_laysGroups_2 ?_
      simp (disch := first | decide | omega) only [mxa, vxa, vxb, vxc, vnd, vne, Nat.reduceAdd, Nat.reduceSub, Nat.reduceLeDiff, Nat.reduceLT, Int32.reduceLT, Int32.reduceLE, Int32.reduceAdd, Int32.reduceSub, Int32.reduceMul, Int32.reduceToNatClampNeg, not_false_eq_true, not_true_eq_false, false_implies, true_implies, Nat.zero_add, reduceIte, Nat.reduceMul, Nat.reduceEqDiff, nxa, nxc, lgn, nL_of, swx, Int.reduceAdd, gI_a, gI_k, gL_a, gL_k, gI_r, gL_r, nI_and, nI_or, nI_xor, nI_ndf, nI_shl, nI_shr, ne_eq, and_true, true_and, eq_self, true_or, or_true, false_or, or_false, Option.toList, List.cons_append, List.nil_append, List.length_nil, List.length_cons, Nat.not_lt_zero, bX10_laysGroups_2, kdx s1, grx r1, n1, Nat.one_mul, show ¬ 2 ^ N ≤ s by omega, show ¬ s ≤ 0 by omega]
      refine wp_blk kX10_laysGroups_27 ?_
      simp (disch := first | decide | omega) only [mxa, vxa, vxb, vxc, vnd, vne, Nat.reduceAdd, Nat.reduceSub, Nat.reduceLeDiff, Nat.reduceLT, Int32.reduceLT, Int32.reduceLE, Int32.reduceAdd, Int32.reduceSub, Int32.reduceMul, Int32.reduceToNatClampNeg, not_false_eq_true, not_true_eq_false, false_implies, true_implies, Nat.zero_add, reduceIte, Nat.reduceMul, Nat.reduceEqDiff, nxa, nxc, lgn, nL_of, swx, Int.reduceAdd, gI_a, gI_k, gL_a, gL_k, gI_r, gL_r, nI_and, nI_or, nI_xor, nI_ndf, nI_shl, nI_shr, ne_eq, and_true, true_and, eq_self, true_or, or_true, false_or, or_false, Option.toList, List.cons_append, List.nil_append, List.length_nil, List.length_cons, Nat.not_lt_zero, bX10_laysGroups_27]
      exact rest 1 (by omega) ⟨fun _ => s0, fun _ => rfl⟩
    · refine wp_blk kX10_laysGroups_2 ?_
      simp (disch := first | decide | omega) only [mxa, vxa, vxb, vxc, vnd, vne, Nat.reduceAdd, Nat.reduceSub, Nat.reduceLeDiff, Nat.reduceLT, Int32.reduceLT, Int32.reduceLE, Int32.reduceAdd, Int32.reduceSub, Int32.reduceMul, Int32.reduceToNatClampNeg, not_false_eq_true, not_true_eq_false, false_implies, true_implies, Nat.zero_add, reduceIte, Nat.reduceMul, Nat.reduceEqDiff, nxa, nxc, lgn, nL_of, swx, Int.reduceAdd, gI_a, gI_k, gL_a, gL_k, gI_r, gL_r, nI_and, nI_or, nI_xor, nI_ndf, nI_shl, nI_shr, ne_eq, and_true, true_and, eq_self, true_or, or_true, false_or, or_false, Option.toList, List.cons_append, List.nil_append, List.length_nil, List.length_cons, Nat.not_lt_zero, bX10_laysGroups_2, kdx s1, grx r1, n1, Nat.one_mul, show ¬ 2 ^ N ≤ s by omega, show s ≤ 0 by omega]
      refine wp_blk kX10_laysGroups_26 ?_
      simp (disch := first | decide | omega) only [mxa, vxa, vxb, vxc, vnd, vne, Nat.reduceAdd, Nat.reduceSub, Nat.reduceLeDiff, Nat.reduceLT, Int32.reduceLT, Int32.reduceLE, Int32.reduceAdd, Int32.reduceSub, Int32.reduceMul, Int32.reduceToNatClampNeg, not_false_eq_true, not_true_eq_false, false_implies, true_implies, Nat.zero_add, reduceIte, Nat.reduceMul, Nat.reduceEqDiff, nxa, nxc, lgn, nL_of, swx, Int.reduceAdd, gI_a, gI_k, gL_a, gL_k, gI_r, gL_r, nI_and, nI_or, nI_xor, nI_ndf, nI_shl, nI_shr, ne_eq, and_true, true_and, eq_self, true_or, or_true, false_or, or_false, Option.toList, List.cons_append, List.nil_append, List.length_nil, List.length_cons, Nat.not_lt_zero, bX10_laysGroups_26]
      refine wp_blk kX10_laysGroups_27 ?_
      simp (disch := first | decide | omega) only [mxa, vxa, vxb, vxc, vnd, vne, Nat.reduceAdd, Nat.reduceSub, Nat.reduceLeDiff, Nat.reduceLT, Int32.reduceLT, Int32.reduceLE, Int32.reduceAdd, Int32.reduceSub, Int32.reduceMul, Int32.reduceToNatClampNeg, not_false_eq_true, not_true_eq_false, false_implies, true_implies, Nat.zero_add, reduceIte, Nat.reduceMul, Nat.reduceEqDiff, nxa, nxc, lgn, nL_of, swx, Int.reduceAdd, gI_a, gI_k, gL_a, gL_k, gI_r, gL_r, nI_and, nI_or, nI_xor, nI_ndf, nI_shl, nI_shr, ne_eq, and_true, true_and, eq_self, true_or, or_true, false_or, or_false, Option.toList, List.cons_append, List.nil_append, List.length_nil, List.length_cons, Nat.not_lt_zero, bX10_laysGroups_27]
      exact rest 0 (by omega) ⟨fun q => absurd q (by decide), fun q => absurd q s0⟩) (fun τ F h => by
    have s1 := F.Sh hs
    have r1 := F.Rf hr
    have n1 : gI τ 191 0 = nI N := (F.2.2.1 191 (by omega) 0).trans n0
    refine wp_blk kX10_laysGroups_2 ?_
    simp (disch := first | decide | omega) only [mxa, vxa, vxb, vxc, vnd, vne, Nat.reduceAdd, Nat.reduceSub, Nat.reduceLeDiff, Nat.reduceLT, Int32.reduceLT, Int32.reduceLE, Int32.reduceAdd, Int32.reduceSub, Int32.reduceMul, Int32.reduceToNatClampNeg, not_false_eq_true, not_true_eq_false, false_implies, true_implies, Nat.zero_add, reduceIte, Nat.reduceMul, Nat.reduceEqDiff, nxa, nxc, lgn, nL_of, swx, Int.reduceAdd, gI_a, gI_k, gL_a, gL_k, gI_r, gL_r, nI_and, nI_or, nI_xor, nI_ndf, nI_shl, nI_shr, ne_eq, and_true, true_and, eq_self, true_or, or_true, false_or, or_false, Option.toList, List.cons_append, List.nil_append, List.length_nil, List.length_cons, Nat.not_lt_zero, bX10_laysGroups_2, kdx s1, grx r1, n1, Nat.one_mul, Nat.le_refl]
    refine wp_blk kX10_laysGroups_232 ?_
    simp (disch := first | decide | omega) only [mxa, vxa, vxb, vxc, vnd, vne, Nat.reduceAdd, Nat.reduceSub, Nat.reduceLeDiff, Nat.reduceLT, Int32.reduceLT, Int32.reduceLE, Int32.reduceAdd, Int32.reduceSub, Int32.reduceMul, Int32.reduceToNatClampNeg, not_false_eq_true, not_true_eq_false, false_implies, true_implies, Nat.zero_add, reduceIte, Nat.reduceMul, Nat.reduceEqDiff, nxa, nxc, lgn, nL_of, swx, Int.reduceAdd, gI_a, gI_k, gL_a, gL_k, gI_r, gL_r, nI_and, nI_or, nI_xor, nI_ndf, nI_shl, nI_shr, ne_eq, and_true, true_and, eq_self, true_or, or_true, false_or, or_false, Option.toList, List.cons_append, List.nil_append, List.length_nil, List.length_cons, Nat.not_lt_zero, bX10_laysGroups_232]
    exact hQ τ F h)
  refine call_of eX10_laysGroups rfl ?_
  refine wp_blk kX10_laysGroups_0 ?_
  simp (disch := first | decide | omega) only [mxa, vxa, vxb, vxc, vnd, vne, Nat.reduceAdd, Nat.reduceSub, Nat.reduceLeDiff, Nat.reduceLT, Int32.reduceLT, Int32.reduceLE, Int32.reduceAdd, Int32.reduceSub, Int32.reduceMul, Int32.reduceToNatClampNeg, not_false_eq_true, not_true_eq_false, false_implies, true_implies, Nat.zero_add, reduceIte, Nat.reduceMul, Nat.reduceEqDiff, nxa, nxc, lgn, nL_of, swx, Int.reduceAdd, gI_a, gI_k, gL_a, gL_k, gI_r, gL_r, nI_and, nI_or, nI_xor, nI_ndf, nI_shl, nI_shr, ne_eq, and_true, true_and, eq_self, true_or, or_true, false_or, or_false, Option.toList, List.cons_append, List.nil_append, List.length_nil, List.length_cons, Nat.not_lt_zero, bX10_laysGroups_0]
  exact go σ Fr.rf (fun r hr' => absurd hr' (by omega))
