/-! served: the class -/
set_option maxRecDepth 20000
theorem c_fitGroups (X : Cx) (d : Nat) (σ : Mm) (V : Nat → Int32) (N O : Nat) (hs : Sh σ) (hr : Rf σ) (hN : N ≤ 10) (hS : SV V N O σ) (Q : Po) (hQ : ∀ R : Nat → Int32, (∀ x, x < 2 ^ N → ∃ b, b ≤ 1 ∧ R x = nI b ∧ (b = 1 ↔ fil V N O x)) → Q none (rI σ 155 R)) : Call X d 0 0 mX3_fitGroups [.ref 151] σ Q := by
  have pw := pow_le hN
  obtain ⟨S1', -, S3, -, S5⟩ := hS
  have z0 : nI 0 &&& (1 : Int32) = nI 0 := by decide
  have z1 : nI 1 &&& (1 : Int32) = nI 1 := by decide
  have up : cntP (fil V N O) (2 ^ N) ≤ 2 ^ N := cntP_n _
  have two := wfor (fun s => ∀ R : Nat → Int32, (∀ x, x < 2 ^ N → ∃ b, b ≤ 1 ∧ R x = nI b ∧ (b = 1 ↔ x < s ∧ fil V N O x)) → Wp X mX3_fitGroups (rmo d 0 0) d Q 0 0 25 [some (.ref 151), some (.int (nI (cntP (fil V N O) s)))] [] (rI σ 155 R)) (2 ^ N) (fun s hs2 hP R h => by
    by_cases hf : fil V N O s
    · have S5' := S5 s hs2 hf
      have lt : cntP (fil V N O) (s + 1) ≤ cntP (fil V N O) (2 ^ N) := cntP_mono (by omega)
      rw [cntP_y hf] at lt hP
      refine wp_blk kX3_fitGroups_25 ?_
      simp (disch := first | decide | omega) only [mxa, vxa, vxb, vxc, vnd, vne, Nat.reduceAdd, Nat.reduceSub, Nat.reduceLeDiff, Nat.reduceLT, Int32.reduceLT, Int32.reduceLE, Int32.reduceAdd, Int32.reduceSub, Int32.reduceMul, Int32.reduceToNatClampNeg, not_false_eq_true, not_true_eq_false, false_implies, true_implies, Nat.zero_add, reduceIte, Nat.reduceMul, Nat.reduceEqDiff, nxa, nxc, lgn, nL_of, swx, Int.reduceAdd, gI_a, gI_k, gL_a, gL_k, gI_r, gL_r, nI_and, nI_or, nI_xor, nI_ndf, nI_shl, nI_shr, ne_eq, and_true, true_and, eq_self, true_or, or_true, false_or, or_false, Option.toList, List.cons_append, List.nil_append, List.length_nil, List.length_cons, Nat.not_lt_zero, bX3_fitGroups_25, kdx hs, grx hr, S3, S5', z1, sI_rI, show ¬ cntP (fil V N O) (2 ^ N) ≤ cntP (fil V N O) s by omega]
      refine hP _ (fun x hx => ?_)
      by_cases e : x = s
      · exact ⟨1, by omega, by rw [e, upd_s], ⟨fun _ => ⟨by omega, by rw [e]; exact hf⟩, fun _ => rfl⟩⟩
      · obtain ⟨b, b1, b2, b3⟩ := h x hx
        exact ⟨b, b1, (upd_n e).trans b2, b3.trans ⟨fun q => ⟨by omega, q.2⟩, fun q => ⟨by omega, q.2⟩⟩⟩
    · rw [cntP_no hf] at hP
      refine hP R (fun x hx => ?_)
      obtain ⟨b, b1, b2, b3⟩ := h x hx
      refine ⟨b, b1, b2, b3.trans ⟨fun q => ⟨by omega, q.2⟩, fun q => ⟨?_, q.2⟩⟩⟩
      by_cases e : x = s
      · rw [e] at q; exact absurd q.2 hf
      · omega) (fun R h => by
    refine wp_blk kX3_fitGroups_25 ?_
    simp (disch := first | decide | omega) only [mxa, vxa, vxb, vxc, vnd, vne, Nat.reduceAdd, Nat.reduceSub, Nat.reduceLeDiff, Nat.reduceLT, Int32.reduceLT, Int32.reduceLE, Int32.reduceAdd, Int32.reduceSub, Int32.reduceMul, Int32.reduceToNatClampNeg, not_false_eq_true, not_true_eq_false, false_implies, true_implies, Nat.zero_add, reduceIte, Nat.reduceMul, Nat.reduceEqDiff, nxa, nxc, lgn, nL_of, swx, Int.reduceAdd, gI_a, gI_k, gL_a, gL_k, gI_r, gL_r, nI_and, nI_or, nI_xor, nI_ndf, nI_shl, nI_shr, ne_eq, and_true, true_and, eq_self, true_or, or_true, false_or, or_false, Option.toList, List.cons_append, List.nil_append, List.length_nil, List.length_cons, Nat.not_lt_zero, bX3_fitGroups_25, kdx hs, grx hr, S3, Nat.le_refl]
    refine wp_blk kX3_fitGroups_51 ?_
    simp (disch := first | decide | omega) only [mxa, vxa, vxb, vxc, vnd, vne, Nat.reduceAdd, Nat.reduceSub, Nat.reduceLeDiff, Nat.reduceLT, Int32.reduceLT, Int32.reduceLE, Int32.reduceAdd, Int32.reduceSub, Int32.reduceMul, Int32.reduceToNatClampNeg, not_false_eq_true, not_true_eq_false, false_implies, true_implies, Nat.zero_add, reduceIte, Nat.reduceMul, Nat.reduceEqDiff, nxa, nxc, lgn, nL_of, swx, Int.reduceAdd, gI_a, gI_k, gL_a, gL_k, gI_r, gL_r, nI_and, nI_or, nI_xor, nI_ndf, nI_shl, nI_shr, ne_eq, and_true, true_and, eq_self, true_or, or_true, false_or, or_false, Option.toList, List.cons_append, List.nil_append, List.length_nil, List.length_cons, Nat.not_lt_zero, bX3_fitGroups_51]
    refine hQ R (fun x hx => ?_)
    obtain ⟨b, b1, b2, b3⟩ := h x hx
    exact ⟨b, b1, b2, b3.trans ⟨fun q => q.2, fun q => ⟨hx, q⟩⟩⟩)
  have one := wfor (fun m => ∀ R : Nat → Int32, (∀ x, x < m → R x = nI 0) → Wp X mX3_fitGroups (rmo d 0 0) d Q 0 0 2 [some (.ref 151), some (.int (nI m))] [] (rI σ 155 R)) (2 ^ N) (fun m hm hP R h => by
    refine wp_blk kX3_fitGroups_2 ?_
    simp (disch := first | decide | omega) only [mxa, vxa, vxb, vxc, vnd, vne, Nat.reduceAdd, Nat.reduceSub, Nat.reduceLeDiff, Nat.reduceLT, Int32.reduceLT, Int32.reduceLE, Int32.reduceAdd, Int32.reduceSub, Int32.reduceMul, Int32.reduceToNatClampNeg, not_false_eq_true, not_true_eq_false, false_implies, true_implies, Nat.zero_add, reduceIte, Nat.reduceMul, Nat.reduceEqDiff, nxa, nxc, lgn, nL_of, swx, Int.reduceAdd, gI_a, gI_k, gL_a, gL_k, gI_r, gL_r, nI_and, nI_or, nI_xor, nI_ndf, nI_shl, nI_shr, ne_eq, and_true, true_and, eq_self, true_or, or_true, false_or, or_false, Option.toList, List.cons_append, List.nil_append, List.length_nil, List.length_cons, Nat.not_lt_zero, bX3_fitGroups_2, kdx hs, grx hr, S1', z0, sI_rI, show ¬ 2 ^ N - 1 < m by omega]
    refine hP _ (fun x hx => ?_)
    by_cases e : x = m
    · rw [e, upd_s]
    · rw [upd_n e]; exact h x (by omega)) (fun R h => by
    refine wp_blk kX3_fitGroups_2 ?_
    simp (disch := first | decide | omega) only [mxa, vxa, vxb, vxc, vnd, vne, Nat.reduceAdd, Nat.reduceSub, Nat.reduceLeDiff, Nat.reduceLT, Int32.reduceLT, Int32.reduceLE, Int32.reduceAdd, Int32.reduceSub, Int32.reduceMul, Int32.reduceToNatClampNeg, not_false_eq_true, not_true_eq_false, false_implies, true_implies, Nat.zero_add, reduceIte, Nat.reduceMul, Nat.reduceEqDiff, nxa, nxc, lgn, nL_of, swx, Int.reduceAdd, gI_a, gI_k, gL_a, gL_k, gI_r, gL_r, nI_and, nI_or, nI_xor, nI_ndf, nI_shl, nI_shr, ne_eq, and_true, true_and, eq_self, true_or, or_true, false_or, or_false, Option.toList, List.cons_append, List.nil_append, List.length_nil, List.length_cons, Nat.not_lt_zero, bX3_fitGroups_2, kdx hs, grx hr, S1', show 2 ^ N - 1 < 2 ^ N by omega]
    refine wp_blk kX3_fitGroups_23 ?_
    simp (disch := first | decide | omega) only [mxa, vxa, vxb, vxc, vnd, vne, Nat.reduceAdd, Nat.reduceSub, Nat.reduceLeDiff, Nat.reduceLT, Int32.reduceLT, Int32.reduceLE, Int32.reduceAdd, Int32.reduceSub, Int32.reduceMul, Int32.reduceToNatClampNeg, not_false_eq_true, not_true_eq_false, false_implies, true_implies, Nat.zero_add, reduceIte, Nat.reduceMul, Nat.reduceEqDiff, nxa, nxc, lgn, nL_of, swx, Int.reduceAdd, gI_a, gI_k, gL_a, gL_k, gI_r, gL_r, nI_and, nI_or, nI_xor, nI_ndf, nI_shl, nI_shr, ne_eq, and_true, true_and, eq_self, true_or, or_true, false_or, or_false, Option.toList, List.cons_append, List.nil_append, List.length_nil, List.length_cons, Nat.not_lt_zero, bX3_fitGroups_23]
    exact two R (fun x hx => ⟨0, by omega, h x hx, ⟨fun q => absurd q (by decide), fun q => absurd q.1 (by omega)⟩⟩))
  have := one (gI σ 155) (fun x hx => absurd hx (by omega))
  rw [rI_self] at this
  refine call_of eX3_fitGroups rfl ?_
  refine wp_blk kX3_fitGroups_0 ?_
  simp (disch := first | decide | omega) only [mxa, vxa, vxb, vxc, vnd, vne, Nat.reduceAdd, Nat.reduceSub, Nat.reduceLeDiff, Nat.reduceLT, Int32.reduceLT, Int32.reduceLE, Int32.reduceAdd, Int32.reduceSub, Int32.reduceMul, Int32.reduceToNatClampNeg, not_false_eq_true, not_true_eq_false, false_implies, true_implies, Nat.zero_add, reduceIte, Nat.reduceMul, Nat.reduceEqDiff, nxa, nxc, lgn, nL_of, swx, Int.reduceAdd, gI_a, gI_k, gL_a, gL_k, gI_r, gL_r, nI_and, nI_or, nI_xor, nI_ndf, nI_shl, nI_shr, ne_eq, and_true, true_and, eq_self, true_or, or_true, false_or, or_false, Option.toList, List.cons_append, List.nil_append, List.length_nil, List.length_cons, Nat.not_lt_zero, bX3_fitGroups_0]
  exact this
theorem pc_cmp : ∀ a, a ≤ 10 → ∀ b, b ≤ 10 → ((nI 0 < nI a - nI b) ↔ b < a) ∧ ((nI a - nI b = nI 0) ↔ a = b) := by decide
def btr (T : Nat → Int32) (s b : Nat) : Prop := pcN b 10 < pcN s 10 ∨ (pcN s 10 = pcN b 10 ∧ T s < T b)
theorem c_servesBetter (X : Cx) (d : Nat) (σ : Mm) (s b : Nat) (hs : Sh σ) (hr : Rf σ) (hb : gI σ 151 1 = nI b) (s2 : s < 1024) (b2 : b < 1024) (Q : Po) (hy : btr (gI σ 153) s b → Q (some (.int (nI 1))) σ) (hn : ¬ btr (gI σ 153) s b → Q (some (.int (nI 0))) σ) : Call X (d + 1) 0 0 mX3_servesBetter [.ref 151, .int (nI s)] σ Q := by
  obtain ⟨c1, c2⟩ := pc_cmp (pcN s 10) (pcN_le s 10) (pcN b 10) (pcN_le b 10)
  have yes : btr (gI σ 153) s b → ∀ x : Int32, Wp X mX3_servesBetter (rmo (d + 1) 0 0) (d + 1) Q 0 0 39 [some (.ref 151), some (.int (nI s)), some (.int x)] [] σ := by
    intro h x
    have := hy h
    repeat (first | ((with_reducible refine wp_blk kX3_servesBetter_0 ?_); simp (disch := first | decide | omega) only [mxa, vxa, vxb, vxc, vnd, vne, Nat.reduceAdd, Nat.reduceSub, Nat.reduceLeDiff, Nat.reduceLT, Int32.reduceLT, Int32.reduceLE, Int32.reduceAdd, Int32.reduceSub, Int32.reduceMul, Int32.reduceToNatClampNeg, not_false_eq_true, not_true_eq_false, false_implies, true_implies, Nat.zero_add, reduceIte, Nat.reduceMul, Nat.reduceEqDiff, nxa, nxc, lgn, nL_of, swx, Int.reduceAdd, gI_a, gI_k, gL_a, gL_k, gI_r, gL_r, nI_and, nI_or, nI_xor, nI_ndf, nI_shl, nI_shr, ne_eq, and_true, true_and, eq_self, true_or, or_true, false_or, or_false, Option.toList, List.cons_append, List.nil_append, List.length_nil, List.length_cons, Nat.not_lt_zero, bX3_servesBetter_0]) | ((with_reducible refine wp_blk kX3_servesBetter_39 ?_); simp (disch := first | decide | omega) only [mxa, vxa, vxb, vxc, vnd, vne, Nat.reduceAdd, Nat.reduceSub, Nat.reduceLeDiff, Nat.reduceLT, Int32.reduceLT, Int32.reduceLE, Int32.reduceAdd, Int32.reduceSub, Int32.reduceMul, Int32.reduceToNatClampNeg, not_false_eq_true, not_true_eq_false, false_implies, true_implies, Nat.zero_add, reduceIte, Nat.reduceMul, Nat.reduceEqDiff, nxa, nxc, lgn, nL_of, swx, Int.reduceAdd, gI_a, gI_k, gL_a, gL_k, gI_r, gL_r, nI_and, nI_or, nI_xor, nI_ndf, nI_shl, nI_shr, ne_eq, and_true, true_and, eq_self, true_or, or_true, false_or, or_false, Option.toList, List.cons_append, List.nil_append, List.length_nil, List.length_cons, Nat.not_lt_zero, bX3_servesBetter_39]) | ((with_reducible refine wp_blk kX3_servesBetter_43 ?_); simp (disch := first | decide | omega) only [mxa, vxa, vxb, vxc, vnd, vne, Nat.reduceAdd, Nat.reduceSub, Nat.reduceLeDiff, Nat.reduceLT, Int32.reduceLT, Int32.reduceLE, Int32.reduceAdd, Int32.reduceSub, Int32.reduceMul, Int32.reduceToNatClampNeg, not_false_eq_true, not_true_eq_false, false_implies, true_implies, Nat.zero_add, reduceIte, Nat.reduceMul, Nat.reduceEqDiff, nxa, nxc, lgn, nL_of, swx, Int.reduceAdd, gI_a, gI_k, gL_a, gL_k, gI_r, gL_r, nI_and, nI_or, nI_xor, nI_ndf, nI_shl, nI_shr, ne_eq, and_true, true_and, eq_self, true_or, or_true, false_or, or_false, Option.toList, List.cons_append, List.nil_append, List.length_nil, List.length_cons, Nat.not_lt_zero, bX3_servesBetter_43]) | ((with_reducible refine wp_blk kX3_servesBetter_44 ?_); simp (disch := first | decide | omega) only [mxa, vxa, vxb, vxc, vnd, vne, Nat.reduceAdd, Nat.reduceSub, Nat.reduceLeDiff, Nat.reduceLT, Int32.reduceLT, Int32.reduceLE, Int32.reduceAdd, Int32.reduceSub, Int32.reduceMul, Int32.reduceToNatClampNeg, not_false_eq_true, not_true_eq_false, false_implies, true_implies, Nat.zero_add, reduceIte, Nat.reduceMul, Nat.reduceEqDiff, nxa, nxc, lgn, nL_of, swx, Int.reduceAdd, gI_a, gI_k, gL_a, gL_k, gI_r, gL_r, nI_and, nI_or, nI_xor, nI_ndf, nI_shl, nI_shr, ne_eq, and_true, true_and, eq_self, true_or, or_true, false_or, or_false, Option.toList, List.cons_append, List.nil_append, List.length_nil, List.length_cons, Nat.not_lt_zero, bX3_servesBetter_44]))
    exact this
  have no : ¬ btr (gI σ 153) s b → ∀ x : Int32, Wp X mX3_servesBetter (rmo (d + 1) 0 0) (d + 1) Q 0 0 43 [some (.ref 151), some (.int (nI s)), some (.int x)] [] σ := by
    intro h x
    have := hn h
    repeat (first | ((with_reducible refine wp_blk kX3_servesBetter_0 ?_); simp (disch := first | decide | omega) only [mxa, vxa, vxb, vxc, vnd, vne, Nat.reduceAdd, Nat.reduceSub, Nat.reduceLeDiff, Nat.reduceLT, Int32.reduceLT, Int32.reduceLE, Int32.reduceAdd, Int32.reduceSub, Int32.reduceMul, Int32.reduceToNatClampNeg, not_false_eq_true, not_true_eq_false, false_implies, true_implies, Nat.zero_add, reduceIte, Nat.reduceMul, Nat.reduceEqDiff, nxa, nxc, lgn, nL_of, swx, Int.reduceAdd, gI_a, gI_k, gL_a, gL_k, gI_r, gL_r, nI_and, nI_or, nI_xor, nI_ndf, nI_shl, nI_shr, ne_eq, and_true, true_and, eq_self, true_or, or_true, false_or, or_false, Option.toList, List.cons_append, List.nil_append, List.length_nil, List.length_cons, Nat.not_lt_zero, bX3_servesBetter_0]) | ((with_reducible refine wp_blk kX3_servesBetter_39 ?_); simp (disch := first | decide | omega) only [mxa, vxa, vxb, vxc, vnd, vne, Nat.reduceAdd, Nat.reduceSub, Nat.reduceLeDiff, Nat.reduceLT, Int32.reduceLT, Int32.reduceLE, Int32.reduceAdd, Int32.reduceSub, Int32.reduceMul, Int32.reduceToNatClampNeg, not_false_eq_true, not_true_eq_false, false_implies, true_implies, Nat.zero_add, reduceIte, Nat.reduceMul, Nat.reduceEqDiff, nxa, nxc, lgn, nL_of, swx, Int.reduceAdd, gI_a, gI_k, gL_a, gL_k, gI_r, gL_r, nI_and, nI_or, nI_xor, nI_ndf, nI_shl, nI_shr, ne_eq, and_true, true_and, eq_self, true_or, or_true, false_or, or_false, Option.toList, List.cons_append, List.nil_append, List.length_nil, List.length_cons, Nat.not_lt_zero, bX3_servesBetter_39]) | ((with_reducible refine wp_blk kX3_servesBetter_43 ?_); simp (disch := first | decide | omega) only [mxa, vxa, vxb, vxc, vnd, vne, Nat.reduceAdd, Nat.reduceSub, Nat.reduceLeDiff, Nat.reduceLT, Int32.reduceLT, Int32.reduceLE, Int32.reduceAdd, Int32.reduceSub, Int32.reduceMul, Int32.reduceToNatClampNeg, not_false_eq_true, not_true_eq_false, false_implies, true_implies, Nat.zero_add, reduceIte, Nat.reduceMul, Nat.reduceEqDiff, nxa, nxc, lgn, nL_of, swx, Int.reduceAdd, gI_a, gI_k, gL_a, gL_k, gI_r, gL_r, nI_and, nI_or, nI_xor, nI_ndf, nI_shl, nI_shr, ne_eq, and_true, true_and, eq_self, true_or, or_true, false_or, or_false, Option.toList, List.cons_append, List.nil_append, List.length_nil, List.length_cons, Nat.not_lt_zero, bX3_servesBetter_43]) | ((with_reducible refine wp_blk kX3_servesBetter_44 ?_); simp (disch := first | decide | omega) only [mxa, vxa, vxb, vxc, vnd, vne, Nat.reduceAdd, Nat.reduceSub, Nat.reduceLeDiff, Nat.reduceLT, Int32.reduceLT, Int32.reduceLE, Int32.reduceAdd, Int32.reduceSub, Int32.reduceMul, Int32.reduceToNatClampNeg, not_false_eq_true, not_true_eq_false, false_implies, true_implies, Nat.zero_add, reduceIte, Nat.reduceMul, Nat.reduceEqDiff, nxa, nxc, lgn, nL_of, swx, Int.reduceAdd, gI_a, gI_k, gL_a, gL_k, gI_r, gL_r, nI_and, nI_or, nI_xor, nI_ndf, nI_shl, nI_shr, ne_eq, and_true, true_and, eq_self, true_or, or_true, false_or, or_false, Option.toList, List.cons_append, List.nil_append, List.length_nil, List.length_cons, Nat.not_lt_zero, bX3_servesBetter_44]))
    exact this
  refine call_of eX3_servesBetter rfl ?_
  refine wp_blk kX3_servesBetter_0 ?_
  simp (disch := first | decide | omega) only [mxa, vxa, vxb, vxc, vnd, vne, Nat.reduceAdd, Nat.reduceSub, Nat.reduceLeDiff, Nat.reduceLT, Int32.reduceLT, Int32.reduceLE, Int32.reduceAdd, Int32.reduceSub, Int32.reduceMul, Int32.reduceToNatClampNeg, not_false_eq_true, not_true_eq_false, false_implies, true_implies, Nat.zero_add, reduceIte, Nat.reduceMul, Nat.reduceEqDiff, nxa, nxc, lgn, nL_of, swx, Int.reduceAdd, gI_a, gI_k, gL_a, gL_k, gI_r, gL_r, nI_and, nI_or, nI_xor, nI_ndf, nI_shl, nI_shr, ne_eq, and_true, true_and, eq_self, true_or, or_true, false_or, or_false, Option.toList, List.cons_append, List.nil_append, List.length_nil, List.length_cons, Nat.not_lt_zero, bX3_servesBetter_0]
  refine c_bitCount X _ σ s s2 _ ?_
  simp (disch := first | decide | omega) only [mxa, vxa, vxb, vxc, vnd, vne, Nat.reduceAdd, Nat.reduceSub, Nat.reduceLeDiff, Nat.reduceLT, Int32.reduceLT, Int32.reduceLE, Int32.reduceAdd, Int32.reduceSub, Int32.reduceMul, Int32.reduceToNatClampNeg, not_false_eq_true, not_true_eq_false, false_implies, true_implies, Nat.zero_add, reduceIte, Nat.reduceMul, Nat.reduceEqDiff, nxa, nxc, lgn, nL_of, swx, Int.reduceAdd, gI_a, gI_k, gL_a, gL_k, gI_r, gL_r, nI_and, nI_or, nI_xor, nI_ndf, nI_shl, nI_shr, ne_eq, and_true, true_and, eq_self, true_or, or_true, false_or, or_false, Option.toList, List.cons_append, List.nil_append, List.length_nil, List.length_cons, Nat.not_lt_zero, kdx hs, grx hr, hb]
  refine c_bitCount X _ σ b b2 _ ?_
  simp (disch := first | decide | omega) only [mxa, vxa, vxb, vxc, vnd, vne, Nat.reduceAdd, Nat.reduceSub, Nat.reduceLeDiff, Nat.reduceLT, Int32.reduceLT, Int32.reduceLE, Int32.reduceAdd, Int32.reduceSub, Int32.reduceMul, Int32.reduceToNatClampNeg, not_false_eq_true, not_true_eq_false, false_implies, true_implies, Nat.zero_add, reduceIte, Nat.reduceMul, Nat.reduceEqDiff, nxa, nxc, lgn, nL_of, swx, Int.reduceAdd, gI_a, gI_k, gL_a, gL_k, gI_r, gL_r, nI_and, nI_or, nI_xor, nI_ndf, nI_shl, nI_shr, ne_eq, and_true, true_and, eq_self, true_or, or_true, false_or, or_false, Option.toList, List.cons_append, List.nil_append, List.length_nil, List.length_cons, Nat.not_lt_zero, kdx hs, grx hr, hb]
  refine ⟨fun q => yes (Or.inl (c1.mp q)) _, fun q => ⟨fun q2 => no (fun z => ?_) _, fun q2 => ⟨fun q3 => ?_, fun q3 => ?_⟩⟩⟩
  · rcases z with z | z
    · exact q (c1.mpr z)
    · exact q2 (c2.mpr z.1)
  · refine no (fun z => ?_) _
    rcases z with z | z
    · exact q (c1.mpr z)
    · have z2 := z.2
      rw [Int32.lt_iff_toInt_lt] at z2
      rw [Int32.le_iff_toInt_le] at q3
      omega
  · refine yes (Or.inr ⟨c2.mp q2, ?_⟩) _
    rw [Int32.le_iff_toInt_le] at q3
    rw [Int32.lt_iff_toInt_lt]
    omega
/-- the best of the sets up to m -/
noncomputable def bsN (C : Nat → Prop) (B : Nat → Nat → Prop) : Nat → Nat
  | 0 => 0
  | m + 1 => by
    classical
    exact if C (m + 1) ∧ B (m + 1) (bsN C B m) then m + 1 else bsN C B m
theorem bsN_y {C : Nat → Prop} {B : Nat → Nat → Prop} {m : Nat} (h : C (m + 1)) (h2 : B (m + 1) (bsN C B m)) : bsN C B (m + 1) = m + 1 := if_pos ⟨h, h2⟩
theorem bsN_n {C : Nat → Prop} {B : Nat → Nat → Prop} {m : Nat} (h : ¬ (C (m + 1) ∧ B (m + 1) (bsN C B m))) : bsN C B (m + 1) = bsN C B m := if_neg h
theorem bsN_le {C : Nat → Prop} {B : Nat → Nat → Prop} : ∀ m, bsN C B m ≤ m
  | 0 => Nat.le_refl _
  | m + 1 => by
    have := bsN_le (C := C) (B := B) m
    by_cases h : C (m + 1) ∧ B (m + 1) (bsN C B m)
    · rw [bsN_y h.1 h.2]; exact Nat.le_refl _
    · rw [bsN_n h]; omega
theorem bsN_in {C : Nat → Prop} {B : Nat → Nat → Prop} : ∀ m, bsN C B m = 0 ∨ C (bsN C B m)
  | 0 => Or.inl rfl
  | m + 1 => by
    by_cases h : C (m + 1) ∧ B (m + 1) (bsN C B m)
    · rw [bsN_y h.1 h.2]; exact Or.inr h.1
    · rw [bsN_n h]; exact bsN_in m
def okC (w : Nat) (T : Nat → Int32) (s : Nat) : Prop := s &&& w = s ∧ T s < nI 1048576
theorem c_findServed (X : Cx) (d : Nat) (σ : Mm) (V : Nat → Int32) (N O w : Nat) (hs : Sh σ) (hr : Rf σ) (hN : N ≤ 10) (hS : SV V N O σ) (hw : gI σ 151 0 = nI w) (w2 : w < 2 ^ N) (Q : Po) (hQ : ∀ τ : Mm, Fr (fun c => c = 151 ∨ c = 153 ∨ c = 155) σ τ → TB 0 w (fil V N O) (gI τ 153) → gI τ 151 1 = nI (bsN (okC w (gI τ 153)) (btr (gI τ 153)) w) → Q none τ) : Call X (d + 4) 0 0 mX3_findServed [.ref 151] σ Q := by
  have pw := pow_le hN
  refine call_of eX3_findServed rfl ?_
  refine wp_blk kX3_findServed_0 ?_
  simp (disch := first | decide | omega) only [mxa, vxa, vxb, vxc, vnd, vne, Nat.reduceAdd, Nat.reduceSub, Nat.reduceLeDiff, Nat.reduceLT, Int32.reduceLT, Int32.reduceLE, Int32.reduceAdd, Int32.reduceSub, Int32.reduceMul, Int32.reduceToNatClampNeg, not_false_eq_true, not_true_eq_false, false_implies, true_implies, Nat.zero_add, reduceIte, Nat.reduceMul, Nat.reduceEqDiff, nxa, nxc, lgn, nL_of, swx, Int.reduceAdd, gI_a, gI_k, gL_a, gL_k, gI_r, gL_r, nI_and, nI_or, nI_xor, nI_ndf, nI_shl, nI_shr, ne_eq, and_true, true_and, eq_self, true_or, or_true, false_or, or_false, Option.toList, List.cons_append, List.nil_append, List.length_nil, List.length_cons, Nat.not_lt_zero, bX3_findServed_0, kdx hs]
  refine c_fitGroups X _ σ V N O hs hr hN hS _ (fun R hR => ?_)
  simp (disch := first | decide | omega) only [mxa, vxa, vxb, vxc, vnd, vne, Nat.reduceAdd, Nat.reduceSub, Nat.reduceLeDiff, Nat.reduceLT, Int32.reduceLT, Int32.reduceLE, Int32.reduceAdd, Int32.reduceSub, Int32.reduceMul, Int32.reduceToNatClampNeg, not_false_eq_true, not_true_eq_false, false_implies, true_implies, Nat.zero_add, reduceIte, Nat.reduceMul, Nat.reduceEqDiff, nxa, nxc, lgn, nL_of, swx, Int.reduceAdd, gI_a, gI_k, gL_a, gL_k, gI_r, gL_r, nI_and, nI_or, nI_xor, nI_ndf, nI_shl, nI_shr, ne_eq, and_true, true_and, eq_self, true_or, or_true, false_or, or_false, Option.toList, List.cons_append, List.nil_append, List.length_nil, List.length_cons, Nat.not_lt_zero, kdx hs, grx hr]
  refine c_fillTable X _ (rI σ 155 R) 0 w (by exact hs) (by exact hr) (by omega) ((gI_r (by decide)).trans hw) (by omega) (fil V N O) (fun x hx => ?_) _ (fun T hT => ?_)
  · rw [gI_rS]; exact hR x (by omega)
  · have go := wfor (fun m => ∀ τ : Mm, Fr (fun c => c = 151) (rI (rI σ 155 R) 153 T) τ → gI τ 151 0 = nI w → gI τ 151 1 = nI (bsN (okC w T) (btr T) m) → Wp X mX3_findServed (rmo (d + 4) 0 0) (d + 4) Q 0 0 16 [some (.ref 151), some (.int (nI (m + 1)))] [] τ) w (fun m hm hP τ F h0 h1 => by
      have s1 : Sh τ := F.1.trans hs
      have r1 : Rf τ := F.Rf (by exact hr)
      have tt : gI τ 153 = T := by rw [funext (F.2.2.1 153 (by omega)), gI_rS]
      have bl := bsN_le (C := okC w T) (B := btr T) m
      have skip : ¬ (okC w T (m + 1) ∧ btr T (m + 1) (bsN (okC w T) (btr T) m)) → Wp X mX3_findServed (rmo (d + 4) 0 0) (d + 4) Q 0 0 56 [some (.ref 151), some (.int (nI (m + 1)))] [] τ := by
        intro h
        rw [bsN_n h] at hP
        refine wp_blk kX3_findServed_56 ?_
        simp (disch := first | decide | omega) only [mxa, vxa, vxb, vxc, vnd, vne, Nat.reduceAdd, Nat.reduceSub, Nat.reduceLeDiff, Nat.reduceLT, Int32.reduceLT, Int32.reduceLE, Int32.reduceAdd, Int32.reduceSub, Int32.reduceMul, Int32.reduceToNatClampNeg, not_false_eq_true, not_true_eq_false, false_implies, true_implies, Nat.zero_add, reduceIte, Nat.reduceMul, Nat.reduceEqDiff, nxa, nxc, lgn, nL_of, swx, Int.reduceAdd, gI_a, gI_k, gL_a, gL_k, gI_r, gL_r, nI_and, nI_or, nI_xor, nI_ndf, nI_shl, nI_shr, ne_eq, and_true, true_and, eq_self, true_or, or_true, false_or, or_false, Option.toList, List.cons_append, List.nil_append, List.length_nil, List.length_cons, Nat.not_lt_zero, bX3_findServed_56]
        exact hP τ F h0 h1
      refine wp_blk kX3_findServed_16 ?_
      simp (disch := first | decide | omega) only [mxa, vxa, vxb, vxc, vnd, vne, Nat.reduceAdd, Nat.reduceSub, Nat.reduceLeDiff, Nat.reduceLT, Int32.reduceLT, Int32.reduceLE, Int32.reduceAdd, Int32.reduceSub, Int32.reduceMul, Int32.reduceToNatClampNeg, not_false_eq_true, not_true_eq_false, false_implies, true_implies, Nat.zero_add, reduceIte, Nat.reduceMul, Nat.reduceEqDiff, nxa, nxc, lgn, nL_of, swx, Int.reduceAdd, gI_a, gI_k, gL_a, gL_k, gI_r, gL_r, nI_and, nI_or, nI_xor, nI_ndf, nI_shl, nI_shr, ne_eq, and_true, true_and, eq_self, true_or, or_true, false_or, or_false, Option.toList, List.cons_append, List.nil_append, List.length_nil, List.length_cons, Nat.not_lt_zero, bX3_findServed_16, kdx s1, grx r1, h0, show ¬ w < m + 1 by omega]
      refine c_isOfWishers X _ _ (m + 1) w s1 h0 (by omega) _ (fun y => ?_) (fun y => ?_)
      · by_cases lt : T (m + 1) < nI 1048576
        · have nl : ¬ nI 1048576 ≤ T (m + 1) := fun q => by
            rw [Int32.lt_iff_toInt_lt] at lt
            rw [Int32.le_iff_toInt_le] at q
            omega
          simp (disch := first | decide | omega) only [mxa, vxa, vxb, vxc, vnd, vne, Nat.reduceAdd, Nat.reduceSub, Nat.reduceLeDiff, Nat.reduceLT, Int32.reduceLT, Int32.reduceLE, Int32.reduceAdd, Int32.reduceSub, Int32.reduceMul, Int32.reduceToNatClampNeg, not_false_eq_true, not_true_eq_false, false_implies, true_implies, Nat.zero_add, reduceIte, Nat.reduceMul, Nat.reduceEqDiff, nxa, nxc, lgn, nL_of, swx, Int.reduceAdd, gI_a, gI_k, gL_a, gL_k, gI_r, gL_r, nI_and, nI_or, nI_xor, nI_ndf, nI_shl, nI_shr, ne_eq, and_true, true_and, eq_self, true_or, or_true, false_or, or_false, Option.toList, List.cons_append, List.nil_append, List.length_nil, List.length_cons, Nat.not_lt_zero, kdx s1, grx r1, tt, nl]
          refine c_servesBetter X _ τ (m + 1) _ s1 r1 h1 (by omega) (by omega) _ (fun z => ?_) (fun z => ?_)
          · rw [tt] at z
            rw [bsN_y ⟨y, lt⟩ z] at hP
            simp (disch := first | decide | omega) only [mxa, vxa, vxb, vxc, vnd, vne, Nat.reduceAdd, Nat.reduceSub, Nat.reduceLeDiff, Nat.reduceLT, Int32.reduceLT, Int32.reduceLE, Int32.reduceAdd, Int32.reduceSub, Int32.reduceMul, Int32.reduceToNatClampNeg, not_false_eq_true, not_true_eq_false, false_implies, true_implies, Nat.zero_add, reduceIte, Nat.reduceMul, Nat.reduceEqDiff, nxa, nxc, lgn, nL_of, swx, Int.reduceAdd, gI_a, gI_k, gL_a, gL_k, gI_r, gL_r, nI_and, nI_or, nI_xor, nI_ndf, nI_shl, nI_shr, ne_eq, and_true, true_and, eq_self, true_or, or_true, false_or, or_false, Option.toList, List.cons_append, List.nil_append, List.length_nil, List.length_cons, Nat.not_lt_zero, kdx s1, grx r1]
            refine wp_blk kX3_findServed_56 ?_
            simp (disch := first | decide | omega) only [mxa, vxa, vxb, vxc, vnd, vne, Nat.reduceAdd, Nat.reduceSub, Nat.reduceLeDiff, Nat.reduceLT, Int32.reduceLT, Int32.reduceLE, Int32.reduceAdd, Int32.reduceSub, Int32.reduceMul, Int32.reduceToNatClampNeg, not_false_eq_true, not_true_eq_false, false_implies, true_implies, Nat.zero_add, reduceIte, Nat.reduceMul, Nat.reduceEqDiff, nxa, nxc, lgn, nL_of, swx, Int.reduceAdd, gI_a, gI_k, gL_a, gL_k, gI_r, gL_r, nI_and, nI_or, nI_xor, nI_ndf, nI_shl, nI_shr, ne_eq, and_true, true_and, eq_self, true_or, or_true, false_or, or_false, Option.toList, List.cons_append, List.nil_append, List.length_nil, List.length_cons, Nat.not_lt_zero, bX3_findServed_56]
            refine hP _ (F.tr (Fr.sI rfl)) ?_ ?_
            · rw [gI_k (by decide)]; exact h0
            · rw [gI_same]
          · rw [tt] at z
            simp (disch := first | decide | omega) only [mxa, vxa, vxb, vxc, vnd, vne, Nat.reduceAdd, Nat.reduceSub, Nat.reduceLeDiff, Nat.reduceLT, Int32.reduceLT, Int32.reduceLE, Int32.reduceAdd, Int32.reduceSub, Int32.reduceMul, Int32.reduceToNatClampNeg, not_false_eq_true, not_true_eq_false, false_implies, true_implies, Nat.zero_add, reduceIte, Nat.reduceMul, Nat.reduceEqDiff, nxa, nxc, lgn, nL_of, swx, Int.reduceAdd, gI_a, gI_k, gL_a, gL_k, gI_r, gL_r, nI_and, nI_or, nI_xor, nI_ndf, nI_shl, nI_shr, ne_eq, and_true, true_and, eq_self, true_or, or_true, false_or, or_false, Option.toList, List.cons_append, List.nil_append, List.length_nil, List.length_cons, Nat.not_lt_zero]
            exact skip (fun q => z q.2)
        · have nl : nI 1048576 ≤ T (m + 1) := by
            rw [Int32.lt_iff_toInt_lt] at lt
            rw [Int32.le_iff_toInt_le]
            omega
          simp (disch := first | decide | omega) only [mxa, vxa, vxb, vxc, vnd, vne, Nat.reduceAdd, Nat.reduceSub, Nat.reduceLeDiff, Nat.reduceLT, Int32.reduceLT, Int32.reduceLE, Int32.reduceAdd, Int32.reduceSub, Int32.reduceMul, Int32.reduceToNatClampNeg, not_false_eq_true, not_true_eq_false, false_implies, true_implies, Nat.zero_add, reduceIte, Nat.reduceMul, Nat.reduceEqDiff, nxa, nxc, lgn, nL_of, swx, Int.reduceAdd, gI_a, gI_k, gL_a, gL_k, gI_r, gL_r, nI_and, nI_or, nI_xor, nI_ndf, nI_shl, nI_shr, ne_eq, and_true, true_and, eq_self, true_or, or_true, false_or, or_false, Option.toList, List.cons_append, List.nil_append, List.length_nil, List.length_cons, Nat.not_lt_zero, kdx s1, grx r1, tt, nl]
          exact skip (fun q => lt q.1.2)
      · simp (disch := first | decide | omega) only [mxa, vxa, vxb, vxc, vnd, vne, Nat.reduceAdd, Nat.reduceSub, Nat.reduceLeDiff, Nat.reduceLT, Int32.reduceLT, Int32.reduceLE, Int32.reduceAdd, Int32.reduceSub, Int32.reduceMul, Int32.reduceToNatClampNeg, not_false_eq_true, not_true_eq_false, false_implies, true_implies, Nat.zero_add, reduceIte, Nat.reduceMul, Nat.reduceEqDiff, nxa, nxc, lgn, nL_of, swx, Int.reduceAdd, gI_a, gI_k, gL_a, gL_k, gI_r, gL_r, nI_and, nI_or, nI_xor, nI_ndf, nI_shl, nI_shr, ne_eq, and_true, true_and, eq_self, true_or, or_true, false_or, or_false, Option.toList, List.cons_append, List.nil_append, List.length_nil, List.length_cons, Nat.not_lt_zero]
        exact skip (fun q => y q.1.1)) (fun τ F h0 h1 => by
      have s1 : Sh τ := F.1.trans hs
      have tt : gI τ 153 = T := by rw [funext (F.2.2.1 153 (by omega)), gI_rS]
      refine wp_blk kX3_findServed_16 ?_
      simp (disch := first | decide | omega) only [mxa, vxa, vxb, vxc, vnd, vne, Nat.reduceAdd, Nat.reduceSub, Nat.reduceLeDiff, Nat.reduceLT, Int32.reduceLT, Int32.reduceLE, Int32.reduceAdd, Int32.reduceSub, Int32.reduceMul, Int32.reduceToNatClampNeg, not_false_eq_true, not_true_eq_false, false_implies, true_implies, Nat.zero_add, reduceIte, Nat.reduceMul, Nat.reduceEqDiff, nxa, nxc, lgn, nL_of, swx, Int.reduceAdd, gI_a, gI_k, gL_a, gL_k, gI_r, gL_r, nI_and, nI_or, nI_xor, nI_ndf, nI_shl, nI_shr, ne_eq, and_true, true_and, eq_self, true_or, or_true, false_or, or_false, Option.toList, List.cons_append, List.nil_append, List.length_nil, List.length_cons, Nat.not_lt_zero, bX3_findServed_16, kdx s1, h0, show w < w + 1 by omega]
      refine wp_blk kX3_findServed_62 ?_
      simp (disch := first | decide | omega) only [mxa, vxa, vxb, vxc, vnd, vne, Nat.reduceAdd, Nat.reduceSub, Nat.reduceLeDiff, Nat.reduceLT, Int32.reduceLT, Int32.reduceLE, Int32.reduceAdd, Int32.reduceSub, Int32.reduceMul, Int32.reduceToNatClampNeg, not_false_eq_true, not_true_eq_false, false_implies, true_implies, Nat.zero_add, reduceIte, Nat.reduceMul, Nat.reduceEqDiff, nxa, nxc, lgn, nL_of, swx, Int.reduceAdd, gI_a, gI_k, gL_a, gL_k, gI_r, gL_r, nI_and, nI_or, nI_xor, nI_ndf, nI_shl, nI_shr, ne_eq, and_true, true_and, eq_self, true_or, or_true, false_or, or_false, Option.toList, List.cons_append, List.nil_append, List.length_nil, List.length_cons, Nat.not_lt_zero, bX3_findServed_62]
      refine hQ τ (((Fr.rI (by omega)).tr (Fr.rI (by omega))).tr (F.mono (fun c q => Or.inl q))) ?_ ?_
      · rw [tt]; exact hT
      · rw [tt]; exact h1)
    simp (disch := first | decide | omega) only [mxa, vxa, vxb, vxc, vnd, vne, Nat.reduceAdd, Nat.reduceSub, Nat.reduceLeDiff, Nat.reduceLT, Int32.reduceLT, Int32.reduceLE, Int32.reduceAdd, Int32.reduceSub, Int32.reduceMul, Int32.reduceToNatClampNeg, not_false_eq_true, not_true_eq_false, false_implies, true_implies, Nat.zero_add, reduceIte, Nat.reduceMul, Nat.reduceEqDiff, nxa, nxc, lgn, nL_of, swx, Int.reduceAdd, gI_a, gI_k, gL_a, gL_k, gI_r, gL_r, nI_and, nI_or, nI_xor, nI_ndf, nI_shl, nI_shr, ne_eq, and_true, true_and, eq_self, true_or, or_true, false_or, or_false, Option.toList, List.cons_append, List.nil_append, List.length_nil, List.length_cons, Nat.not_lt_zero, kdx hs, grx hr]
    refine go _ (Fr.sI rfl) ?_ ?_
    · rw [gI_k (by decide), gI_r (by decide), gI_r (by decide)]; exact hw
    · rw [gI_same]; rfl
