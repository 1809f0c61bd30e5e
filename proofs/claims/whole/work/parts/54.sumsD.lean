/-! pairs: upTo, gap -/
set_option maxRecDepth 20000
theorem x_from (X : Cx) (d : Nat) (σ : Mm) (Z : Nat → Nat) (O n : Nat) (R : Nat → Int32) (hs : Sh σ) (hr : Rf σ) (hm : gI σ 148 1 = nI (mdl Z O)) (hZ : 0 < O → 1 ≤ Z 0 ∧ Z 0 ≤ 60) (hR : 0 < O → ∀ r, r < Z 0 → R r = nI (svD Z (O - 1) r)) (hn : n ≤ 1900) (Q : Po) (k : Nat) (hk : k ≤ 61) (no : ∀ j, j < k → ¬ Rc Z O (n + j)) (hQ : k < 61 → Rc Z O (n + k) ∧ Q (some (.int (nI (n + k)))) (rI σ 149 R)) (hQ' : k = 61 → Q (some (.int (-1))) (rI σ 149 R)) : Call X (d + 1) 0 0 mX7_leastFrom [.ref 148, .int (nI n)] (rI σ 149 R) Q := by
  refine call_of eX7_leastFrom rfl ?_
  refine wp_blk kX7_leastFrom_0 ?_
  simp (disch := first | decide | omega) only [mxa, vxa, vxb, vxc, vnd, vne, Nat.reduceAdd, Nat.reduceSub, Nat.reduceLeDiff, Nat.reduceLT, Int32.reduceLT, Int32.reduceLE, Int32.reduceAdd, Int32.reduceSub, Int32.reduceMul, Int32.reduceToNatClampNeg, not_false_eq_true, not_true_eq_false, false_implies, true_implies, Nat.zero_add, reduceIte, Nat.reduceMul, Nat.reduceEqDiff, nxa, nxc, lgn, nL_of, swx, Int.reduceAdd, gI_a, gI_k, gL_a, gL_k, gI_r, gL_r, nI_and, nI_or, nI_xor, nI_ndf, nI_shl, nI_shr, ne_eq, and_true, true_and, eq_self, true_or, or_true, false_or, or_false, Option.toList, List.cons_append, List.nil_append, List.length_nil, List.length_cons, Nat.not_lt_zero, bX7_leastFrom_0]
  have key := wfor (fun j => Wp X mX7_leastFrom (rmo (d + 1) 0 0) (d + 1) Q 0 0 2 [some (.ref 148), some (.int (nI n)), some (.int (nI (n + j)))] [] (rI σ 149 R)) k (fun j hj hP => by
    refine wp_blk kX7_leastFrom_2 ?_
    simp (disch := first | decide | omega) only [mxa, vxa, vxb, vxc, vnd, vne, Nat.reduceAdd, Nat.reduceSub, Nat.reduceLeDiff, Nat.reduceLT, Int32.reduceLT, Int32.reduceLE, Int32.reduceAdd, Int32.reduceSub, Int32.reduceMul, Int32.reduceToNatClampNeg, not_false_eq_true, not_true_eq_false, false_implies, true_implies, Nat.zero_add, reduceIte, Nat.reduceMul, Nat.reduceEqDiff, nxa, nxc, lgn, nL_of, swx, Int.reduceAdd, gI_a, gI_k, gL_a, gL_k, gI_r, gL_r, nI_and, nI_or, nI_xor, nI_ndf, nI_shl, nI_shr, ne_eq, and_true, true_and, eq_self, true_or, or_true, false_or, or_false, Option.toList, List.cons_append, List.nil_append, List.length_nil, List.length_cons, Nat.not_lt_zero, bX7_leastFrom_2, kdx hs, grx hr, show ¬ n + 60 < n + j by omega]
    refine c_isBaked X _ _ Z O (n + j) R hs hr hm hZ hR (by omega) _ (fun q => absurd q (no j hj)) (fun q => ?_)
    simp (disch := first | decide | omega) only [mxa, vxa, vxb, vxc, vnd, vne, Nat.reduceAdd, Nat.reduceSub, Nat.reduceLeDiff, Nat.reduceLT, Int32.reduceLT, Int32.reduceLE, Int32.reduceAdd, Int32.reduceSub, Int32.reduceMul, Int32.reduceToNatClampNeg, not_false_eq_true, not_true_eq_false, false_implies, true_implies, Nat.zero_add, reduceIte, Nat.reduceMul, Nat.reduceEqDiff, nxa, nxc, lgn, nL_of, swx, Int.reduceAdd, gI_a, gI_k, gL_a, gL_k, gI_r, gL_r, nI_and, nI_or, nI_xor, nI_ndf, nI_shl, nI_shr, ne_eq, and_true, true_and, eq_self, true_or, or_true, false_or, or_false, Option.toList, List.cons_append, List.nil_append, List.length_nil, List.length_cons, Nat.not_lt_zero]
    refine wp_blk kX7_leastFrom_20 ?_
    simp (disch := first | decide | omega) only [mxa, vxa, vxb, vxc, vnd, vne, Nat.reduceAdd, Nat.reduceSub, Nat.reduceLeDiff, Nat.reduceLT, Int32.reduceLT, Int32.reduceLE, Int32.reduceAdd, Int32.reduceSub, Int32.reduceMul, Int32.reduceToNatClampNeg, not_false_eq_true, not_true_eq_false, false_implies, true_implies, Nat.zero_add, reduceIte, Nat.reduceMul, Nat.reduceEqDiff, nxa, nxc, lgn, nL_of, swx, Int.reduceAdd, gI_a, gI_k, gL_a, gL_k, gI_r, gL_r, nI_and, nI_or, nI_xor, nI_ndf, nI_shl, nI_shr, ne_eq, and_true, true_and, eq_self, true_or, or_true, false_or, or_false, Option.toList, List.cons_append, List.nil_append, List.length_nil, List.length_cons, Nat.not_lt_zero, bX7_leastFrom_20]
    exact hP) (by
    by_cases h : k < 61
    · obtain ⟨q1, q2⟩ := hQ h
      refine wp_blk kX7_leastFrom_2 ?_
      simp (disch := first | decide | omega) only [mxa, vxa, vxb, vxc, vnd, vne, Nat.reduceAdd, Nat.reduceSub, Nat.reduceLeDiff, Nat.reduceLT, Int32.reduceLT, Int32.reduceLE, Int32.reduceAdd, Int32.reduceSub, Int32.reduceMul, Int32.reduceToNatClampNeg, not_false_eq_true, not_true_eq_false, false_implies, true_implies, Nat.zero_add, reduceIte, Nat.reduceMul, Nat.reduceEqDiff, nxa, nxc, lgn, nL_of, swx, Int.reduceAdd, gI_a, gI_k, gL_a, gL_k, gI_r, gL_r, nI_and, nI_or, nI_xor, nI_ndf, nI_shl, nI_shr, ne_eq, and_true, true_and, eq_self, true_or, or_true, false_or, or_false, Option.toList, List.cons_append, List.nil_append, List.length_nil, List.length_cons, Nat.not_lt_zero, bX7_leastFrom_2, kdx hs, grx hr, show ¬ n + 60 < n + k by omega]
      refine c_isBaked X _ _ Z O (n + k) R hs hr hm hZ hR (by omega) _ (fun q => ?_) (fun q => absurd q1 q)
      simp (disch := first | decide | omega) only [mxa, vxa, vxb, vxc, vnd, vne, Nat.reduceAdd, Nat.reduceSub, Nat.reduceLeDiff, Nat.reduceLT, Int32.reduceLT, Int32.reduceLE, Int32.reduceAdd, Int32.reduceSub, Int32.reduceMul, Int32.reduceToNatClampNeg, not_false_eq_true, not_true_eq_false, false_implies, true_implies, Nat.zero_add, reduceIte, Nat.reduceMul, Nat.reduceEqDiff, nxa, nxc, lgn, nL_of, swx, Int.reduceAdd, gI_a, gI_k, gL_a, gL_k, gI_r, gL_r, nI_and, nI_or, nI_xor, nI_ndf, nI_shl, nI_shr, ne_eq, and_true, true_and, eq_self, true_or, or_true, false_or, or_false, Option.toList, List.cons_append, List.nil_append, List.length_nil, List.length_cons, Nat.not_lt_zero]
      exact q2
    · refine wp_blk kX7_leastFrom_2 ?_
      simp (disch := first | decide | omega) only [mxa, vxa, vxb, vxc, vnd, vne, Nat.reduceAdd, Nat.reduceSub, Nat.reduceLeDiff, Nat.reduceLT, Int32.reduceLT, Int32.reduceLE, Int32.reduceAdd, Int32.reduceSub, Int32.reduceMul, Int32.reduceToNatClampNeg, not_false_eq_true, not_true_eq_false, false_implies, true_implies, Nat.zero_add, reduceIte, Nat.reduceMul, Nat.reduceEqDiff, nxa, nxc, lgn, nL_of, swx, Int.reduceAdd, gI_a, gI_k, gL_a, gL_k, gI_r, gL_r, nI_and, nI_or, nI_xor, nI_ndf, nI_shl, nI_shr, ne_eq, and_true, true_and, eq_self, true_or, or_true, false_or, or_false, Option.toList, List.cons_append, List.nil_append, List.length_nil, List.length_cons, Nat.not_lt_zero, bX7_leastFrom_2, show n + 60 < n + k by omega]
      refine wp_blk kX7_leastFrom_26 ?_
      simp (disch := first | decide | omega) only [mxa, vxa, vxb, vxc, vnd, vne, Nat.reduceAdd, Nat.reduceSub, Nat.reduceLeDiff, Nat.reduceLT, Int32.reduceLT, Int32.reduceLE, Int32.reduceAdd, Int32.reduceSub, Int32.reduceMul, Int32.reduceToNatClampNeg, not_false_eq_true, not_true_eq_false, false_implies, true_implies, Nat.zero_add, reduceIte, Nat.reduceMul, Nat.reduceEqDiff, nxa, nxc, lgn, nL_of, swx, Int.reduceAdd, gI_a, gI_k, gL_a, gL_k, gI_r, gL_r, nI_and, nI_or, nI_xor, nI_ndf, nI_shl, nI_shr, ne_eq, and_true, true_and, eq_self, true_or, or_true, false_or, or_false, Option.toList, List.cons_append, List.nil_append, List.length_nil, List.length_cons, Nat.not_lt_zero, bX7_leastFrom_26]
      exact hQ' (by omega))
  exact key
theorem next_mul {Z : Nat → Nat} {O : Nat} (hO : 0 < O) (h1 : 1 ≤ Z 0) (h2 : Z 0 ≤ 60) (n : Nat) : ∃ k, k < 60 ∧ Rc Z O (n + k) := by
  have e := Nat.div_add_mod n (Z 0)
  have hl := Nat.mod_lt n (show 0 < Z 0 by omega)
  by_cases h : n % Z 0 = 0
  · refine ⟨0, by omega, ?_⟩
    rw [show n + 0 = 0 + n / Z 0 * Z 0 by rw [Nat.mul_comm]; omega]
    exact Rc_mul hO (Rc_zero Z O) _
  · refine ⟨Z 0 - n % Z 0, by omega, ?_⟩
    rw [show n + (Z 0 - n % Z 0) = 0 + (n / Z 0 + 1) * Z 0 by rw [Nat.succ_mul, Nat.mul_comm]; omega]
    exact Rc_mul hO (Rc_zero Z O) _
theorem pr_upTo (X : Cx) (d t : Nat) (σ : Mm) (n : Int32) (hI : Inv t σ) (ht : t < 512) : Call X (d + 9) 0 0 mX9_upTo [.ref 0, .int n] σ (Eq2 (t + 1) X (d + 9) mX10_upTo [.ref 190, .int n]) := by
  obtain ⟨N, O, K, hG, hV⟩ := hI.2.2.2.1
  have hs := hI.2.1.1
  have hr := hI.2.1.2.1
  have hN := hG.1.1
  have hN10 := hG.1.2
  have hO := hG.2.1.1
  have hO3 := hG.2.1.2
  have e0 : gI σ 1 0 = nI N := hV.1.1.trans hN
  have e1 : gI σ 1 1 = nI O := hV.1.2.1.trans hO
  obtain ⟨o1, o2⟩ := ov_pack hI.2.1 hG hV
  rcases rg n 0 1900 (by omega) (by omega) with ⟨hn, w0⟩ | ⟨hn, hn2, w0⟩ | ⟨m, -, hm, rfl⟩
  · refine call_of eX9_upTo rfl ?_
    refine wp_blk kX9_upTo_0 ?_
    simp (disch := first | decide | omega) only [mxa, vxa, vxb, vxc, vnd, vne, Nat.reduceAdd, Nat.reduceSub, Nat.reduceLeDiff, Nat.reduceLT, Int32.reduceLT, Int32.reduceLE, Int32.reduceAdd, Int32.reduceSub, Int32.reduceMul, Int32.reduceToNatClampNeg, not_false_eq_true, not_true_eq_false, false_implies, true_implies, Nat.zero_add, reduceIte, Nat.reduceMul, Nat.reduceEqDiff, nxa, nxc, lgn, nL_of, swx, Int.reduceAdd, gI_a, gI_k, gL_a, gL_k, gI_r, gL_r, nI_and, nI_or, nI_xor, nI_ndf, nI_shl, nI_shr, ne_eq, and_true, true_and, eq_self, true_or, or_true, false_or, or_false, Option.toList, List.cons_append, List.nil_append, List.length_nil, List.length_cons, Nat.not_lt_zero, bX9_upTo_0, hn]
    repeat (first | ((with_reducible refine wp_blk kX9_upTo_0 ?_); simp (disch := first | decide | omega) only [mxa, vxa, vxb, vxc, vnd, vne, Nat.reduceAdd, Nat.reduceSub, Nat.reduceLeDiff, Nat.reduceLT, Int32.reduceLT, Int32.reduceLE, Int32.reduceAdd, Int32.reduceSub, Int32.reduceMul, Int32.reduceToNatClampNeg, not_false_eq_true, not_true_eq_false, false_implies, true_implies, Nat.zero_add, reduceIte, Nat.reduceMul, Nat.reduceEqDiff, nxa, nxc, lgn, nL_of, swx, Int.reduceAdd, gI_a, gI_k, gL_a, gL_k, gI_r, gL_r, nI_and, nI_or, nI_xor, nI_ndf, nI_shl, nI_shr, ne_eq, and_true, true_and, eq_self, true_or, or_true, false_or, or_false, Option.toList, List.cons_append, List.nil_append, List.length_nil, List.length_cons, Nat.not_lt_zero, bX9_upTo_0]) | ((with_reducible refine wp_blk kX9_upTo_11 ?_); simp (disch := first | decide | omega) only [mxa, vxa, vxb, vxc, vnd, vne, Nat.reduceAdd, Nat.reduceSub, Nat.reduceLeDiff, Nat.reduceLT, Int32.reduceLT, Int32.reduceLE, Int32.reduceAdd, Int32.reduceSub, Int32.reduceMul, Int32.reduceToNatClampNeg, not_false_eq_true, not_true_eq_false, false_implies, true_implies, Nat.zero_add, reduceIte, Nat.reduceMul, Nat.reduceEqDiff, nxa, nxc, lgn, nL_of, swx, Int.reduceAdd, gI_a, gI_k, gL_a, gL_k, gI_r, gL_r, nI_and, nI_or, nI_xor, nI_ndf, nI_shl, nI_shr, ne_eq, and_true, true_and, eq_self, true_or, or_true, false_or, or_false, Option.toList, List.cons_append, List.nil_append, List.length_nil, List.length_cons, Nat.not_lt_zero, bX9_upTo_11]) | ((with_reducible refine wp_blk kX9_upTo_14 ?_); simp (disch := first | decide | omega) only [mxa, vxa, vxb, vxc, vnd, vne, Nat.reduceAdd, Nat.reduceSub, Nat.reduceLeDiff, Nat.reduceLT, Int32.reduceLT, Int32.reduceLE, Int32.reduceAdd, Int32.reduceSub, Int32.reduceMul, Int32.reduceToNatClampNeg, not_false_eq_true, not_true_eq_false, false_implies, true_implies, Nat.zero_add, reduceIte, Nat.reduceMul, Nat.reduceEqDiff, nxa, nxc, lgn, nL_of, swx, Int.reduceAdd, gI_a, gI_k, gL_a, gL_k, gI_r, gL_r, nI_and, nI_or, nI_xor, nI_ndf, nI_shl, nI_shr, ne_eq, and_true, true_and, eq_self, true_or, or_true, false_or, or_false, Option.toList, List.cons_append, List.nil_append, List.length_nil, List.length_cons, Nat.not_lt_zero, bX9_upTo_14]))
    unfold Eq2
    refine call_of eX10_upTo rfl ?_
    refine wp_blk kX10_upTo_0 ?_
    simp (disch := first | decide | omega) only [mxa, vxa, vxb, vxc, vnd, vne, Nat.reduceAdd, Nat.reduceSub, Nat.reduceLeDiff, Nat.reduceLT, Int32.reduceLT, Int32.reduceLE, Int32.reduceAdd, Int32.reduceSub, Int32.reduceMul, Int32.reduceToNatClampNeg, not_false_eq_true, not_true_eq_false, false_implies, true_implies, Nat.zero_add, reduceIte, Nat.reduceMul, Nat.reduceEqDiff, nxa, nxc, lgn, nL_of, swx, Int.reduceAdd, gI_a, gI_k, gL_a, gL_k, gI_r, gL_r, nI_and, nI_or, nI_xor, nI_ndf, nI_shl, nI_shr, ne_eq, and_true, true_and, eq_self, true_or, or_true, false_or, or_false, Option.toList, List.cons_append, List.nil_append, List.length_nil, List.length_cons, Nat.not_lt_zero, bX10_upTo_0, kdx hs, grx hr]
    repeat (first | ((with_reducible refine wp_blk kX10_upTo_0 ?_); simp (disch := first | decide | omega) only [mxa, vxa, vxb, vxc, vnd, vne, Nat.reduceAdd, Nat.reduceSub, Nat.reduceLeDiff, Nat.reduceLT, Int32.reduceLT, Int32.reduceLE, Int32.reduceAdd, Int32.reduceSub, Int32.reduceMul, Int32.reduceToNatClampNeg, not_false_eq_true, not_true_eq_false, false_implies, true_implies, Nat.zero_add, reduceIte, Nat.reduceMul, Nat.reduceEqDiff, nxa, nxc, lgn, nL_of, swx, Int.reduceAdd, gI_a, gI_k, gL_a, gL_k, gI_r, gL_r, nI_and, nI_or, nI_xor, nI_ndf, nI_shl, nI_shr, ne_eq, and_true, true_and, eq_self, true_or, or_true, false_or, or_false, Option.toList, List.cons_append, List.nil_append, List.length_nil, List.length_cons, Nat.not_lt_zero, bX10_upTo_0, w0]) | ((with_reducible refine wp_blk kX10_upTo_20 ?_); simp (disch := first | decide | omega) only [mxa, vxa, vxb, vxc, vnd, vne, Nat.reduceAdd, Nat.reduceSub, Nat.reduceLeDiff, Nat.reduceLT, Int32.reduceLT, Int32.reduceLE, Int32.reduceAdd, Int32.reduceSub, Int32.reduceMul, Int32.reduceToNatClampNeg, not_false_eq_true, not_true_eq_false, false_implies, true_implies, Nat.zero_add, reduceIte, Nat.reduceMul, Nat.reduceEqDiff, nxa, nxc, lgn, nL_of, swx, Int.reduceAdd, gI_a, gI_k, gL_a, gL_k, gI_r, gL_r, nI_and, nI_or, nI_xor, nI_ndf, nI_shl, nI_shr, ne_eq, and_true, true_and, eq_self, true_or, or_true, false_or, or_false, Option.toList, List.cons_append, List.nil_append, List.length_nil, List.length_cons, Nat.not_lt_zero, bX10_upTo_20, w0]) | ((with_reducible refine wp_blk kX10_upTo_35 ?_); simp (disch := first | decide | omega) only [mxa, vxa, vxb, vxc, vnd, vne, Nat.reduceAdd, Nat.reduceSub, Nat.reduceLeDiff, Nat.reduceLT, Int32.reduceLT, Int32.reduceLE, Int32.reduceAdd, Int32.reduceSub, Int32.reduceMul, Int32.reduceToNatClampNeg, not_false_eq_true, not_true_eq_false, false_implies, true_implies, Nat.zero_add, reduceIte, Nat.reduceMul, Nat.reduceEqDiff, nxa, nxc, lgn, nL_of, swx, Int.reduceAdd, gI_a, gI_k, gL_a, gL_k, gI_r, gL_r, nI_and, nI_or, nI_xor, nI_ndf, nI_shl, nI_shr, ne_eq, and_true, true_and, eq_self, true_or, or_true, false_or, or_false, Option.toList, List.cons_append, List.nil_append, List.length_nil, List.length_cons, Nat.not_lt_zero, bX10_upTo_35, w0]) | ((with_reducible refine wp_blk kX10_upTo_41 ?_); simp (disch := first | decide | omega) only [mxa, vxa, vxb, vxc, vnd, vne, Nat.reduceAdd, Nat.reduceSub, Nat.reduceLeDiff, Nat.reduceLT, Int32.reduceLT, Int32.reduceLE, Int32.reduceAdd, Int32.reduceSub, Int32.reduceMul, Int32.reduceToNatClampNeg, not_false_eq_true, not_true_eq_false, false_implies, true_implies, Nat.zero_add, reduceIte, Nat.reduceMul, Nat.reduceEqDiff, nxa, nxc, lgn, nL_of, swx, Int.reduceAdd, gI_a, gI_k, gL_a, gL_k, gI_r, gL_r, nI_and, nI_or, nI_xor, nI_ndf, nI_shl, nI_shr, ne_eq, and_true, true_and, eq_self, true_or, or_true, false_or, or_false, Option.toList, List.cons_append, List.nil_append, List.length_nil, List.length_cons, Nat.not_lt_zero, bX10_upTo_41, w0]) | ((with_reducible refine wp_blk kX10_upTo_56 ?_); simp (disch := first | decide | omega) only [mxa, vxa, vxb, vxc, vnd, vne, Nat.reduceAdd, Nat.reduceSub, Nat.reduceLeDiff, Nat.reduceLT, Int32.reduceLT, Int32.reduceLE, Int32.reduceAdd, Int32.reduceSub, Int32.reduceMul, Int32.reduceToNatClampNeg, not_false_eq_true, not_true_eq_false, false_implies, true_implies, Nat.zero_add, reduceIte, Nat.reduceMul, Nat.reduceEqDiff, nxa, nxc, lgn, nL_of, swx, Int.reduceAdd, gI_a, gI_k, gL_a, gL_k, gI_r, gL_r, nI_and, nI_or, nI_xor, nI_ndf, nI_shl, nI_shr, ne_eq, and_true, true_and, eq_self, true_or, or_true, false_or, or_false, Option.toList, List.cons_append, List.nil_append, List.length_nil, List.length_cons, Nat.not_lt_zero, bX10_upTo_56, w0]) | ((with_reducible show Call _ _ _ _ mX10_within _ _ _); refine c_within X _ _ _ _ _ _ ?_; simp (disch := first | decide | omega) only [mxa, vxa, vxb, vxc, vnd, vne, Nat.reduceAdd, Nat.reduceSub, Nat.reduceLeDiff, Nat.reduceLT, Int32.reduceLT, Int32.reduceLE, Int32.reduceAdd, Int32.reduceSub, Int32.reduceMul, Int32.reduceToNatClampNeg, not_false_eq_true, not_true_eq_false, false_implies, true_implies, Nat.zero_add, reduceIte, Nat.reduceMul, Nat.reduceEqDiff, nxa, nxc, lgn, nL_of, swx, Int.reduceAdd, gI_a, gI_k, gL_a, gL_k, gI_r, gL_r, nI_and, nI_or, nI_xor, nI_ndf, nI_shl, nI_shr, ne_eq, and_true, true_and, eq_self, true_or, or_true, false_or, or_false, Option.toList, List.cons_append, List.nil_append, List.length_nil, List.length_cons, Nat.not_lt_zero, w0]))
    exact ⟨⟨_, rfl, rfl⟩, hI.thr ht⟩
  · refine call_of eX9_upTo rfl ?_
    refine wp_blk kX9_upTo_0 ?_
    simp (disch := first | decide | omega) only [mxa, vxa, vxb, vxc, vnd, vne, Nat.reduceAdd, Nat.reduceSub, Nat.reduceLeDiff, Nat.reduceLT, Int32.reduceLT, Int32.reduceLE, Int32.reduceAdd, Int32.reduceSub, Int32.reduceMul, Int32.reduceToNatClampNeg, not_false_eq_true, not_true_eq_false, false_implies, true_implies, Nat.zero_add, reduceIte, Nat.reduceMul, Nat.reduceEqDiff, nxa, nxc, lgn, nL_of, swx, Int.reduceAdd, gI_a, gI_k, gL_a, gL_k, gI_r, gL_r, nI_and, nI_or, nI_xor, nI_ndf, nI_shl, nI_shr, ne_eq, and_true, true_and, eq_self, true_or, or_true, false_or, or_false, Option.toList, List.cons_append, List.nil_append, List.length_nil, List.length_cons, Nat.not_lt_zero, bX9_upTo_0, hn, hn2]
    repeat (first | ((with_reducible refine wp_blk kX9_upTo_0 ?_); simp (disch := first | decide | omega) only [mxa, vxa, vxb, vxc, vnd, vne, Nat.reduceAdd, Nat.reduceSub, Nat.reduceLeDiff, Nat.reduceLT, Int32.reduceLT, Int32.reduceLE, Int32.reduceAdd, Int32.reduceSub, Int32.reduceMul, Int32.reduceToNatClampNeg, not_false_eq_true, not_true_eq_false, false_implies, true_implies, Nat.zero_add, reduceIte, Nat.reduceMul, Nat.reduceEqDiff, nxa, nxc, lgn, nL_of, swx, Int.reduceAdd, gI_a, gI_k, gL_a, gL_k, gI_r, gL_r, nI_and, nI_or, nI_xor, nI_ndf, nI_shl, nI_shr, ne_eq, and_true, true_and, eq_self, true_or, or_true, false_or, or_false, Option.toList, List.cons_append, List.nil_append, List.length_nil, List.length_cons, Nat.not_lt_zero, bX9_upTo_0]) | ((with_reducible refine wp_blk kX9_upTo_11 ?_); simp (disch := first | decide | omega) only [mxa, vxa, vxb, vxc, vnd, vne, Nat.reduceAdd, Nat.reduceSub, Nat.reduceLeDiff, Nat.reduceLT, Int32.reduceLT, Int32.reduceLE, Int32.reduceAdd, Int32.reduceSub, Int32.reduceMul, Int32.reduceToNatClampNeg, not_false_eq_true, not_true_eq_false, false_implies, true_implies, Nat.zero_add, reduceIte, Nat.reduceMul, Nat.reduceEqDiff, nxa, nxc, lgn, nL_of, swx, Int.reduceAdd, gI_a, gI_k, gL_a, gL_k, gI_r, gL_r, nI_and, nI_or, nI_xor, nI_ndf, nI_shl, nI_shr, ne_eq, and_true, true_and, eq_self, true_or, or_true, false_or, or_false, Option.toList, List.cons_append, List.nil_append, List.length_nil, List.length_cons, Nat.not_lt_zero, bX9_upTo_11]) | ((with_reducible refine wp_blk kX9_upTo_14 ?_); simp (disch := first | decide | omega) only [mxa, vxa, vxb, vxc, vnd, vne, Nat.reduceAdd, Nat.reduceSub, Nat.reduceLeDiff, Nat.reduceLT, Int32.reduceLT, Int32.reduceLE, Int32.reduceAdd, Int32.reduceSub, Int32.reduceMul, Int32.reduceToNatClampNeg, not_false_eq_true, not_true_eq_false, false_implies, true_implies, Nat.zero_add, reduceIte, Nat.reduceMul, Nat.reduceEqDiff, nxa, nxc, lgn, nL_of, swx, Int.reduceAdd, gI_a, gI_k, gL_a, gL_k, gI_r, gL_r, nI_and, nI_or, nI_xor, nI_ndf, nI_shl, nI_shr, ne_eq, and_true, true_and, eq_self, true_or, or_true, false_or, or_false, Option.toList, List.cons_append, List.nil_append, List.length_nil, List.length_cons, Nat.not_lt_zero, bX9_upTo_14]))
    unfold Eq2
    refine call_of eX10_upTo rfl ?_
    refine wp_blk kX10_upTo_0 ?_
    simp (disch := first | decide | omega) only [mxa, vxa, vxb, vxc, vnd, vne, Nat.reduceAdd, Nat.reduceSub, Nat.reduceLeDiff, Nat.reduceLT, Int32.reduceLT, Int32.reduceLE, Int32.reduceAdd, Int32.reduceSub, Int32.reduceMul, Int32.reduceToNatClampNeg, not_false_eq_true, not_true_eq_false, false_implies, true_implies, Nat.zero_add, reduceIte, Nat.reduceMul, Nat.reduceEqDiff, nxa, nxc, lgn, nL_of, swx, Int.reduceAdd, gI_a, gI_k, gL_a, gL_k, gI_r, gL_r, nI_and, nI_or, nI_xor, nI_ndf, nI_shl, nI_shr, ne_eq, and_true, true_and, eq_self, true_or, or_true, false_or, or_false, Option.toList, List.cons_append, List.nil_append, List.length_nil, List.length_cons, Nat.not_lt_zero, bX10_upTo_0, kdx hs, grx hr]
    repeat (first | ((with_reducible refine wp_blk kX10_upTo_0 ?_); simp (disch := first | decide | omega) only [mxa, vxa, vxb, vxc, vnd, vne, Nat.reduceAdd, Nat.reduceSub, Nat.reduceLeDiff, Nat.reduceLT, Int32.reduceLT, Int32.reduceLE, Int32.reduceAdd, Int32.reduceSub, Int32.reduceMul, Int32.reduceToNatClampNeg, not_false_eq_true, not_true_eq_false, false_implies, true_implies, Nat.zero_add, reduceIte, Nat.reduceMul, Nat.reduceEqDiff, nxa, nxc, lgn, nL_of, swx, Int.reduceAdd, gI_a, gI_k, gL_a, gL_k, gI_r, gL_r, nI_and, nI_or, nI_xor, nI_ndf, nI_shl, nI_shr, ne_eq, and_true, true_and, eq_self, true_or, or_true, false_or, or_false, Option.toList, List.cons_append, List.nil_append, List.length_nil, List.length_cons, Nat.not_lt_zero, bX10_upTo_0, w0]) | ((with_reducible refine wp_blk kX10_upTo_20 ?_); simp (disch := first | decide | omega) only [mxa, vxa, vxb, vxc, vnd, vne, Nat.reduceAdd, Nat.reduceSub, Nat.reduceLeDiff, Nat.reduceLT, Int32.reduceLT, Int32.reduceLE, Int32.reduceAdd, Int32.reduceSub, Int32.reduceMul, Int32.reduceToNatClampNeg, not_false_eq_true, not_true_eq_false, false_implies, true_implies, Nat.zero_add, reduceIte, Nat.reduceMul, Nat.reduceEqDiff, nxa, nxc, lgn, nL_of, swx, Int.reduceAdd, gI_a, gI_k, gL_a, gL_k, gI_r, gL_r, nI_and, nI_or, nI_xor, nI_ndf, nI_shl, nI_shr, ne_eq, and_true, true_and, eq_self, true_or, or_true, false_or, or_false, Option.toList, List.cons_append, List.nil_append, List.length_nil, List.length_cons, Nat.not_lt_zero, bX10_upTo_20, w0]) | ((with_reducible refine wp_blk kX10_upTo_35 ?_); simp (disch := first | decide | omega) only [mxa, vxa, vxb, vxc, vnd, vne, Nat.reduceAdd, Nat.reduceSub, Nat.reduceLeDiff, Nat.reduceLT, Int32.reduceLT, Int32.reduceLE, Int32.reduceAdd, Int32.reduceSub, Int32.reduceMul, Int32.reduceToNatClampNeg, not_false_eq_true, not_true_eq_false, false_implies, true_implies, Nat.zero_add, reduceIte, Nat.reduceMul, Nat.reduceEqDiff, nxa, nxc, lgn, nL_of, swx, Int.reduceAdd, gI_a, gI_k, gL_a, gL_k, gI_r, gL_r, nI_and, nI_or, nI_xor, nI_ndf, nI_shl, nI_shr, ne_eq, and_true, true_and, eq_self, true_or, or_true, false_or, or_false, Option.toList, List.cons_append, List.nil_append, List.length_nil, List.length_cons, Nat.not_lt_zero, bX10_upTo_35, w0]) | ((with_reducible refine wp_blk kX10_upTo_41 ?_); simp (disch := first | decide | omega) only [mxa, vxa, vxb, vxc, vnd, vne, Nat.reduceAdd, Nat.reduceSub, Nat.reduceLeDiff, Nat.reduceLT, Int32.reduceLT, Int32.reduceLE, Int32.reduceAdd, Int32.reduceSub, Int32.reduceMul, Int32.reduceToNatClampNeg, not_false_eq_true, not_true_eq_false, false_implies, true_implies, Nat.zero_add, reduceIte, Nat.reduceMul, Nat.reduceEqDiff, nxa, nxc, lgn, nL_of, swx, Int.reduceAdd, gI_a, gI_k, gL_a, gL_k, gI_r, gL_r, nI_and, nI_or, nI_xor, nI_ndf, nI_shl, nI_shr, ne_eq, and_true, true_and, eq_self, true_or, or_true, false_or, or_false, Option.toList, List.cons_append, List.nil_append, List.length_nil, List.length_cons, Nat.not_lt_zero, bX10_upTo_41, w0]) | ((with_reducible refine wp_blk kX10_upTo_56 ?_); simp (disch := first | decide | omega) only [mxa, vxa, vxb, vxc, vnd, vne, Nat.reduceAdd, Nat.reduceSub, Nat.reduceLeDiff, Nat.reduceLT, Int32.reduceLT, Int32.reduceLE, Int32.reduceAdd, Int32.reduceSub, Int32.reduceMul, Int32.reduceToNatClampNeg, not_false_eq_true, not_true_eq_false, false_implies, true_implies, Nat.zero_add, reduceIte, Nat.reduceMul, Nat.reduceEqDiff, nxa, nxc, lgn, nL_of, swx, Int.reduceAdd, gI_a, gI_k, gL_a, gL_k, gI_r, gL_r, nI_and, nI_or, nI_xor, nI_ndf, nI_shl, nI_shr, ne_eq, and_true, true_and, eq_self, true_or, or_true, false_or, or_false, Option.toList, List.cons_append, List.nil_append, List.length_nil, List.length_cons, Nat.not_lt_zero, bX10_upTo_56, w0]) | ((with_reducible show Call _ _ _ _ mX10_within _ _ _); refine c_within X _ _ _ _ _ _ ?_; simp (disch := first | decide | omega) only [mxa, vxa, vxb, vxc, vnd, vne, Nat.reduceAdd, Nat.reduceSub, Nat.reduceLeDiff, Nat.reduceLT, Int32.reduceLT, Int32.reduceLE, Int32.reduceAdd, Int32.reduceSub, Int32.reduceMul, Int32.reduceToNatClampNeg, not_false_eq_true, not_true_eq_false, false_implies, true_implies, Nat.zero_add, reduceIte, Nat.reduceMul, Nat.reduceEqDiff, nxa, nxc, lgn, nL_of, swx, Int.reduceAdd, gI_a, gI_k, gL_a, gL_k, gI_r, gL_r, nI_and, nI_or, nI_xor, nI_ndf, nI_shl, nI_shr, ne_eq, and_true, true_and, eq_self, true_or, or_true, false_or, or_false, Option.toList, List.cons_append, List.nil_append, List.length_nil, List.length_cons, Nat.not_lt_zero, w0]))
    exact ⟨⟨_, rfl, rfl⟩, hI.thr ht⟩
  · refine call_of eX9_upTo rfl ?_
    refine wp_blk kX9_upTo_0 ?_
    simp (disch := first | decide | omega) only [mxa, vxa, vxb, vxc, vnd, vne, Nat.reduceAdd, Nat.reduceSub, Nat.reduceLeDiff, Nat.reduceLT, Int32.reduceLT, Int32.reduceLE, Int32.reduceAdd, Int32.reduceSub, Int32.reduceMul, Int32.reduceToNatClampNeg, not_false_eq_true, not_true_eq_false, false_implies, true_implies, Nat.zero_add, reduceIte, Nat.reduceMul, Nat.reduceEqDiff, nxa, nxc, lgn, nL_of, swx, Int.reduceAdd, gI_a, gI_k, gL_a, gL_k, gI_r, gL_r, nI_and, nI_or, nI_xor, nI_ndf, nI_shl, nI_shr, ne_eq, and_true, true_and, eq_self, true_or, or_true, false_or, or_false, Option.toList, List.cons_append, List.nil_append, List.length_nil, List.length_cons, Nat.not_lt_zero, bX9_upTo_0, hm]
    refine wp_blk kX9_upTo_14 ?_
    simp (disch := first | decide | omega) only [mxa, vxa, vxb, vxc, vnd, vne, Nat.reduceAdd, Nat.reduceSub, Nat.reduceLeDiff, Nat.reduceLT, Int32.reduceLT, Int32.reduceLE, Int32.reduceAdd, Int32.reduceSub, Int32.reduceMul, Int32.reduceToNatClampNeg, not_false_eq_true, not_true_eq_false, false_implies, true_implies, Nat.zero_add, reduceIte, Nat.reduceMul, Nat.reduceEqDiff, nxa, nxc, lgn, nL_of, swx, Int.reduceAdd, gI_a, gI_k, gL_a, gL_k, gI_r, gL_r, nI_and, nI_or, nI_xor, nI_ndf, nI_shl, nI_shr, ne_eq, and_true, true_and, eq_self, true_or, or_true, false_or, or_false, Option.toList, List.cons_append, List.nil_append, List.length_nil, List.length_cons, Nat.not_lt_zero, bX9_upTo_14, kdx hs, grx hr]
    refine c_survey7 X _ _ (zN (gI σ 191)) O hs hr o1 hO3 o2 _ (fun R hR => ?_)
    simp (disch := first | decide | omega) only [mxa, vxa, vxb, vxc, vnd, vne, Nat.reduceAdd, Nat.reduceSub, Nat.reduceLeDiff, Nat.reduceLT, Int32.reduceLT, Int32.reduceLE, Int32.reduceAdd, Int32.reduceSub, Int32.reduceMul, Int32.reduceToNatClampNeg, not_false_eq_true, not_true_eq_false, false_implies, true_implies, Nat.zero_add, reduceIte, Nat.reduceMul, Nat.reduceEqDiff, nxa, nxc, lgn, nL_of, swx, Int.reduceAdd, gI_a, gI_k, gL_a, gL_k, gI_r, gL_r, nI_and, nI_or, nI_xor, nI_ndf, nI_shl, nI_shr, ne_eq, and_true, true_and, eq_self, true_or, or_true, false_or, or_false, Option.toList, List.cons_append, List.nil_append, List.length_nil, List.length_cons, Nat.not_lt_zero, kdx hs, grx hr]
    have fr : Fr S1 σ (thr (rI (sI σ 148 1 (nI (mdl (zN (gI σ 191)) O))) 149 R)) := (Fr.sI (by unfold S1; omega)).tr ((Fr.rI (by unfold S1; omega)).tr (Fr.sI (by unfold S1; omega)))
    have found : ∀ k, k < 61 → Rc (zN (gI σ 191)) O (m + k) → (∀ j, j < k → ¬ Rc (zN (gI σ 191)) O (m + j)) → (m = 0 ∨ ¬ O = 0) → Eq2 (t + 1) X (d + 9) mX10_upTo [.ref 190, .int (nI m)] (some (.int (nI (m + k)))) (rI (sI σ 148 1 (nI (mdl (zN (gI σ 191)) O))) 149 R) := by
      intro k hk q1 q2 q3
      unfold Eq2
      have go : Wp X mX10_upTo (rmo (d + 9) 0 0) (d + 9) (fun r' σ2 => (∃ z : Int32, some (Value.int (nI (m + k))) = some (.int z) ∧ r' = some (.int z)) ∧ Inv (t + 1) σ2) 0 0 35 [some (.ref 190), some (.int (nI m)), none] [] (sI (rI (sI σ 148 1 (nI (mdl (zN (gI σ 191)) O))) 149 R) 190 0 (nI 0)) := by
        refine wp_blk kX10_upTo_35 ?_
        simp (disch := first | decide | omega) only [mxa, vxa, vxb, vxc, vnd, vne, Nat.reduceAdd, Nat.reduceSub, Nat.reduceLeDiff, Nat.reduceLT, Int32.reduceLT, Int32.reduceLE, Int32.reduceAdd, Int32.reduceSub, Int32.reduceMul, Int32.reduceToNatClampNeg, not_false_eq_true, not_true_eq_false, false_implies, true_implies, Nat.zero_add, reduceIte, Nat.reduceMul, Nat.reduceEqDiff, nxa, nxc, lgn, nL_of, swx, Int.reduceAdd, gI_a, gI_k, gL_a, gL_k, gI_r, gL_r, nI_and, nI_or, nI_xor, nI_ndf, nI_shl, nI_shr, ne_eq, and_true, true_and, eq_self, true_or, or_true, false_or, or_false, Option.toList, List.cons_append, List.nil_append, List.length_nil, List.length_cons, Nat.not_lt_zero, bX10_upTo_35, kdx hs, grx hr]
        refine c_laysSums X _ _ (zN (gI σ 191)) O (by exact hs) (by exact hr) ((thr_192 _ 1).trans ((gI_r (by decide)).trans ((gI_a (by decide)).trans hO))) hO3 (fun o ho => ⟨(thr_192 _ _).trans ((gI_r (by decide)).trans ((gI_a (by decide)).trans (zN_ok hG ho).1)), (zN_ok hG ho).2⟩) _ (fun R1 R2 h1 h2 => ?_)
        simp (disch := first | decide | omega) only [mxa, vxa, vxb, vxc, vnd, vne, Nat.reduceAdd, Nat.reduceSub, Nat.reduceLeDiff, Nat.reduceLT, Int32.reduceLT, Int32.reduceLE, Int32.reduceAdd, Int32.reduceSub, Int32.reduceMul, Int32.reduceToNatClampNeg, not_false_eq_true, not_true_eq_false, false_implies, true_implies, Nat.zero_add, reduceIte, Nat.reduceMul, Nat.reduceEqDiff, nxa, nxc, lgn, nL_of, swx, Int.reduceAdd, gI_a, gI_k, gL_a, gL_k, gI_r, gL_r, nI_and, nI_or, nI_xor, nI_ndf, nI_shl, nI_shr, ne_eq, and_true, true_and, eq_self, true_or, or_true, false_or, or_false, Option.toList, List.cons_append, List.nil_append, List.length_nil, List.length_cons, Nat.not_lt_zero]
        refine wfor (fun j => Wp X mX10_upTo (rmo (d + 9) 0 0) (d + 9) (fun r' σ2 => (∃ z : Int32, some (Value.int (nI (m + k))) = some (.int z) ∧ r' = some (.int z)) ∧ Inv (t + 1) σ2) 0 0 41 [some (.ref 190), some (.int (nI m)), some (.int (nI (m + j)))] [] (rI (rI (sI (rI (sI σ 148 1 (nI (mdl (zN (gI σ 191)) O))) 149 R) 190 0 (nI 0)) 198 R1) 199 R2)) k (fun j hj hP => ?_) ?_
        · have wp := wy_pos (Z := zN (gI σ 191)) O (m + j) (fun o h => (o2 o h).2.1)
          have w0 : wy (zN (gI σ 191)) O (m + j) = 0 := by
            by_cases h : 0 < wy (zN (gI σ 191)) O (m + j)
            · exact absurd (wp.mp h) (q2 j hj)
            · omega
          refine wp_blk kX10_upTo_41 ?_
          simp (disch := first | decide | omega) only [mxa, vxa, vxb, vxc, vnd, vne, Nat.reduceAdd, Nat.reduceSub, Nat.reduceLeDiff, Nat.reduceLT, Int32.reduceLT, Int32.reduceLE, Int32.reduceAdd, Int32.reduceSub, Int32.reduceMul, Int32.reduceToNatClampNeg, not_false_eq_true, not_true_eq_false, false_implies, true_implies, Nat.zero_add, reduceIte, Nat.reduceMul, Nat.reduceEqDiff, nxa, nxc, lgn, nL_of, swx, Int.reduceAdd, gI_a, gI_k, gL_a, gL_k, gI_r, gL_r, nI_and, nI_or, nI_xor, nI_ndf, nI_shl, nI_shr, ne_eq, and_true, true_and, eq_self, true_or, or_true, false_or, or_false, Option.toList, List.cons_append, List.nil_append, List.length_nil, List.length_cons, Nat.not_lt_zero, bX10_upTo_41, kdx hs, grx hr, h2 (m + j) (by omega), w0]
          exact hP
        · have wp := wy_pos (Z := zN (gI σ 191)) O (m + k) (fun o h => (o2 o h).2.1)
          have wb := wy_bd (Z := zN (gI σ 191)) hO3 (fun o h => (o2 o h).2.1) (m + k) (by omega)
          have w0 : ¬ wy (zN (gI σ 191)) O (m + k) = 0 := by have := wp.mpr q1; omega
          refine wp_blk kX10_upTo_41 ?_
          simp (disch := first | decide | omega) only [mxa, vxa, vxb, vxc, vnd, vne, Nat.reduceAdd, Nat.reduceSub, Nat.reduceLeDiff, Nat.reduceLT, Int32.reduceLT, Int32.reduceLE, Int32.reduceAdd, Int32.reduceSub, Int32.reduceMul, Int32.reduceToNatClampNeg, not_false_eq_true, not_true_eq_false, false_implies, true_implies, Nat.zero_add, reduceIte, Nat.reduceMul, Nat.reduceEqDiff, nxa, nxc, lgn, nL_of, swx, Int.reduceAdd, gI_a, gI_k, gL_a, gL_k, gI_r, gL_r, nI_and, nI_or, nI_xor, nI_ndf, nI_shl, nI_shr, ne_eq, and_true, true_and, eq_self, true_or, or_true, false_or, or_false, Option.toList, List.cons_append, List.nil_append, List.length_nil, List.length_cons, Nat.not_lt_zero, bX10_upTo_41, kdx hs, grx hr, h2 (m + k) (by omega), w0]
          refine wp_blk kX10_upTo_56 ?_
          simp (disch := first | decide | omega) only [mxa, vxa, vxb, vxc, vnd, vne, Nat.reduceAdd, Nat.reduceSub, Nat.reduceLeDiff, Nat.reduceLT, Int32.reduceLT, Int32.reduceLE, Int32.reduceAdd, Int32.reduceSub, Int32.reduceMul, Int32.reduceToNatClampNeg, not_false_eq_true, not_true_eq_false, false_implies, true_implies, Nat.zero_add, reduceIte, Nat.reduceMul, Nat.reduceEqDiff, nxa, nxc, lgn, nL_of, swx, Int.reduceAdd, gI_a, gI_k, gL_a, gL_k, gI_r, gL_r, nI_and, nI_or, nI_xor, nI_ndf, nI_shl, nI_shr, ne_eq, and_true, true_and, eq_self, true_or, or_true, false_or, or_false, Option.toList, List.cons_append, List.nil_append, List.length_nil, List.length_cons, Nat.not_lt_zero, bX10_upTo_56]
          refine ⟨⟨_, rfl, rfl⟩, hI.read ht (fr.tr ((Fr.rI ?_).tr (Fr.rI ?_))) ⟨?_, ?_, ?_⟩⟩
          · unfold S1; omega
          · unfold S1; omega
          · simp (disch := first | decide | omega) only [mxa, vxa, vxb, vxc, vnd, vne, Nat.reduceAdd, Nat.reduceSub, Nat.reduceLeDiff, Nat.reduceLT, Int32.reduceLT, Int32.reduceLE, Int32.reduceAdd, Int32.reduceSub, Int32.reduceMul, Int32.reduceToNatClampNeg, not_false_eq_true, not_true_eq_false, false_implies, true_implies, Nat.zero_add, reduceIte, Nat.reduceMul, Nat.reduceEqDiff, nxa, nxc, lgn, nL_of, swx, Int.reduceAdd, gI_a, gI_k, gL_a, gL_k, gI_r, gL_r, nI_and, nI_or, nI_xor, nI_ndf, nI_shl, nI_shr, ne_eq, and_true, true_and, eq_self, true_or, or_true, false_or, or_false, Option.toList, List.cons_append, List.nil_append, List.length_nil, List.length_cons, Nat.not_lt_zero]
          · simp (disch := first | decide | omega) only [mxa, vxa, vxb, vxc, vnd, vne, Nat.reduceAdd, Nat.reduceSub, Nat.reduceLeDiff, Nat.reduceLT, Int32.reduceLT, Int32.reduceLE, Int32.reduceAdd, Int32.reduceSub, Int32.reduceMul, Int32.reduceToNatClampNeg, not_false_eq_true, not_true_eq_false, false_implies, true_implies, Nat.zero_add, reduceIte, Nat.reduceMul, Nat.reduceEqDiff, nxa, nxc, lgn, nL_of, swx, Int.reduceAdd, gI_a, gI_k, gL_a, gL_k, gI_r, gL_r, nI_and, nI_or, nI_xor, nI_ndf, nI_shl, nI_shr, ne_eq, and_true, true_and, eq_self, true_or, or_true, false_or, or_false, Option.toList, List.cons_append, List.nil_append, List.length_nil, List.length_cons, Nat.not_lt_zero]
          · simp (disch := first | decide | omega) only [mxa, vxa, vxb, vxc, vnd, vne, Nat.reduceAdd, Nat.reduceSub, Nat.reduceLeDiff, Nat.reduceLT, Int32.reduceLT, Int32.reduceLE, Int32.reduceAdd, Int32.reduceSub, Int32.reduceMul, Int32.reduceToNatClampNeg, not_false_eq_true, not_true_eq_false, false_implies, true_implies, Nat.zero_add, reduceIte, Nat.reduceMul, Nat.reduceEqDiff, nxa, nxc, lgn, nL_of, swx, Int.reduceAdd, gI_a, gI_k, gL_a, gL_k, gI_r, gL_r, nI_and, nI_or, nI_xor, nI_ndf, nI_shl, nI_shr, ne_eq, and_true, true_and, eq_self, true_or, or_true, false_or, or_false, Option.toList, List.cons_append, List.nil_append, List.length_nil, List.length_cons, Nat.not_lt_zero]
      refine call_of eX10_upTo rfl ?_
      refine wp_blk kX10_upTo_0 ?_
      simp (disch := first | decide | omega) only [mxa, vxa, vxb, vxc, vnd, vne, Nat.reduceAdd, Nat.reduceSub, Nat.reduceLeDiff, Nat.reduceLT, Int32.reduceLT, Int32.reduceLE, Int32.reduceAdd, Int32.reduceSub, Int32.reduceMul, Int32.reduceToNatClampNeg, not_false_eq_true, not_true_eq_false, false_implies, true_implies, Nat.zero_add, reduceIte, Nat.reduceMul, Nat.reduceEqDiff, nxa, nxc, lgn, nL_of, swx, Int.reduceAdd, gI_a, gI_k, gL_a, gL_k, gI_r, gL_r, nI_and, nI_or, nI_xor, nI_ndf, nI_shl, nI_shr, ne_eq, and_true, true_and, eq_self, true_or, or_true, false_or, or_false, Option.toList, List.cons_append, List.nil_append, List.length_nil, List.length_cons, Nat.not_lt_zero, bX10_upTo_0, kdx hs, grx hr]
      by_cases hm0 : m = 0
      · repeat (first | ((with_reducible refine wp_blk kX10_upTo_0 ?_); simp (disch := first | decide | omega) only [mxa, vxa, vxb, vxc, vnd, vne, Nat.reduceAdd, Nat.reduceSub, Nat.reduceLeDiff, Nat.reduceLT, Int32.reduceLT, Int32.reduceLE, Int32.reduceAdd, Int32.reduceSub, Int32.reduceMul, Int32.reduceToNatClampNeg, not_false_eq_true, not_true_eq_false, false_implies, true_implies, Nat.zero_add, reduceIte, Nat.reduceMul, Nat.reduceEqDiff, nxa, nxc, lgn, nL_of, swx, Int.reduceAdd, gI_a, gI_k, gL_a, gL_k, gI_r, gL_r, nI_and, nI_or, nI_xor, nI_ndf, nI_shl, nI_shr, ne_eq, and_true, true_and, eq_self, true_or, or_true, false_or, or_false, Option.toList, List.cons_append, List.nil_append, List.length_nil, List.length_cons, Nat.not_lt_zero, bX10_upTo_0, kdx hs, grx hr, show m ≤ 0 by omega]) | ((with_reducible refine wp_blk kX10_upTo_20 ?_); simp (disch := first | decide | omega) only [mxa, vxa, vxb, vxc, vnd, vne, Nat.reduceAdd, Nat.reduceSub, Nat.reduceLeDiff, Nat.reduceLT, Int32.reduceLT, Int32.reduceLE, Int32.reduceAdd, Int32.reduceSub, Int32.reduceMul, Int32.reduceToNatClampNeg, not_false_eq_true, not_true_eq_false, false_implies, true_implies, Nat.zero_add, reduceIte, Nat.reduceMul, Nat.reduceEqDiff, nxa, nxc, lgn, nL_of, swx, Int.reduceAdd, gI_a, gI_k, gL_a, gL_k, gI_r, gL_r, nI_and, nI_or, nI_xor, nI_ndf, nI_shl, nI_shr, ne_eq, and_true, true_and, eq_self, true_or, or_true, false_or, or_false, Option.toList, List.cons_append, List.nil_append, List.length_nil, List.length_cons, Nat.not_lt_zero, bX10_upTo_20, kdx hs, grx hr, show m ≤ 0 by omega]) | ((with_reducible refine wp_blk kX10_upTo_41 ?_); simp (disch := first | decide | omega) only [mxa, vxa, vxb, vxc, vnd, vne, Nat.reduceAdd, Nat.reduceSub, Nat.reduceLeDiff, Nat.reduceLT, Int32.reduceLT, Int32.reduceLE, Int32.reduceAdd, Int32.reduceSub, Int32.reduceMul, Int32.reduceToNatClampNeg, not_false_eq_true, not_true_eq_false, false_implies, true_implies, Nat.zero_add, reduceIte, Nat.reduceMul, Nat.reduceEqDiff, nxa, nxc, lgn, nL_of, swx, Int.reduceAdd, gI_a, gI_k, gL_a, gL_k, gI_r, gL_r, nI_and, nI_or, nI_xor, nI_ndf, nI_shl, nI_shr, ne_eq, and_true, true_and, eq_self, true_or, or_true, false_or, or_false, Option.toList, List.cons_append, List.nil_append, List.length_nil, List.length_cons, Nat.not_lt_zero, bX10_upTo_41, kdx hs, grx hr, show m ≤ 0 by omega]) | ((with_reducible refine wp_blk kX10_upTo_56 ?_); simp (disch := first | decide | omega) only [mxa, vxa, vxb, vxc, vnd, vne, Nat.reduceAdd, Nat.reduceSub, Nat.reduceLeDiff, Nat.reduceLT, Int32.reduceLT, Int32.reduceLE, Int32.reduceAdd, Int32.reduceSub, Int32.reduceMul, Int32.reduceToNatClampNeg, not_false_eq_true, not_true_eq_false, false_implies, true_implies, Nat.zero_add, reduceIte, Nat.reduceMul, Nat.reduceEqDiff, nxa, nxc, lgn, nL_of, swx, Int.reduceAdd, gI_a, gI_k, gL_a, gL_k, gI_r, gL_r, nI_and, nI_or, nI_xor, nI_ndf, nI_shl, nI_shr, ne_eq, and_true, true_and, eq_self, true_or, or_true, false_or, or_false, Option.toList, List.cons_append, List.nil_append, List.length_nil, List.length_cons, Nat.not_lt_zero, bX10_upTo_56, kdx hs, grx hr, show m ≤ 0 by omega]) | ((with_reducible show Call _ _ _ _ mX10_within _ _ _); refine c_within X _ _ _ _ _ _ ?_; simp (disch := first | decide | omega) only [mxa, vxa, vxb, vxc, vnd, vne, Nat.reduceAdd, Nat.reduceSub, Nat.reduceLeDiff, Nat.reduceLT, Int32.reduceLT, Int32.reduceLE, Int32.reduceAdd, Int32.reduceSub, Int32.reduceMul, Int32.reduceToNatClampNeg, not_false_eq_true, not_true_eq_false, false_implies, true_implies, Nat.zero_add, reduceIte, Nat.reduceMul, Nat.reduceEqDiff, nxa, nxc, lgn, nL_of, swx, Int.reduceAdd, gI_a, gI_k, gL_a, gL_k, gI_r, gL_r, nI_and, nI_or, nI_xor, nI_ndf, nI_shl, nI_shr, ne_eq, and_true, true_and, eq_self, true_or, or_true, false_or, or_false, Option.toList, List.cons_append, List.nil_append, List.length_nil, List.length_cons, Nat.not_lt_zero, kdx hs, grx hr, show m ≤ 0 by omega]))
        exact go
      · repeat (first | ((with_reducible refine wp_blk kX10_upTo_0 ?_); simp (disch := first | decide | omega) only [mxa, vxa, vxb, vxc, vnd, vne, Nat.reduceAdd, Nat.reduceSub, Nat.reduceLeDiff, Nat.reduceLT, Int32.reduceLT, Int32.reduceLE, Int32.reduceAdd, Int32.reduceSub, Int32.reduceMul, Int32.reduceToNatClampNeg, not_false_eq_true, not_true_eq_false, false_implies, true_implies, Nat.zero_add, reduceIte, Nat.reduceMul, Nat.reduceEqDiff, nxa, nxc, lgn, nL_of, swx, Int.reduceAdd, gI_a, gI_k, gL_a, gL_k, gI_r, gL_r, nI_and, nI_or, nI_xor, nI_ndf, nI_shl, nI_shr, ne_eq, and_true, true_and, eq_self, true_or, or_true, false_or, or_false, Option.toList, List.cons_append, List.nil_append, List.length_nil, List.length_cons, Nat.not_lt_zero, bX10_upTo_0, kdx hs, grx hr, hO, show ¬ m ≤ 0 by omega, q3.resolve_left hm0]) | ((with_reducible refine wp_blk kX10_upTo_20 ?_); simp (disch := first | decide | omega) only [mxa, vxa, vxb, vxc, vnd, vne, Nat.reduceAdd, Nat.reduceSub, Nat.reduceLeDiff, Nat.reduceLT, Int32.reduceLT, Int32.reduceLE, Int32.reduceAdd, Int32.reduceSub, Int32.reduceMul, Int32.reduceToNatClampNeg, not_false_eq_true, not_true_eq_false, false_implies, true_implies, Nat.zero_add, reduceIte, Nat.reduceMul, Nat.reduceEqDiff, nxa, nxc, lgn, nL_of, swx, Int.reduceAdd, gI_a, gI_k, gL_a, gL_k, gI_r, gL_r, nI_and, nI_or, nI_xor, nI_ndf, nI_shl, nI_shr, ne_eq, and_true, true_and, eq_self, true_or, or_true, false_or, or_false, Option.toList, List.cons_append, List.nil_append, List.length_nil, List.length_cons, Nat.not_lt_zero, bX10_upTo_20, kdx hs, grx hr, hO, show ¬ m ≤ 0 by omega, q3.resolve_left hm0]) | ((with_reducible refine wp_blk kX10_upTo_41 ?_); simp (disch := first | decide | omega) only [mxa, vxa, vxb, vxc, vnd, vne, Nat.reduceAdd, Nat.reduceSub, Nat.reduceLeDiff, Nat.reduceLT, Int32.reduceLT, Int32.reduceLE, Int32.reduceAdd, Int32.reduceSub, Int32.reduceMul, Int32.reduceToNatClampNeg, not_false_eq_true, not_true_eq_false, false_implies, true_implies, Nat.zero_add, reduceIte, Nat.reduceMul, Nat.reduceEqDiff, nxa, nxc, lgn, nL_of, swx, Int.reduceAdd, gI_a, gI_k, gL_a, gL_k, gI_r, gL_r, nI_and, nI_or, nI_xor, nI_ndf, nI_shl, nI_shr, ne_eq, and_true, true_and, eq_self, true_or, or_true, false_or, or_false, Option.toList, List.cons_append, List.nil_append, List.length_nil, List.length_cons, Nat.not_lt_zero, bX10_upTo_41, kdx hs, grx hr, hO, show ¬ m ≤ 0 by omega, q3.resolve_left hm0]) | ((with_reducible refine wp_blk kX10_upTo_56 ?_); simp (disch := first | decide | omega) only [mxa, vxa, vxb, vxc, vnd, vne, Nat.reduceAdd, Nat.reduceSub, Nat.reduceLeDiff, Nat.reduceLT, Int32.reduceLT, Int32.reduceLE, Int32.reduceAdd, Int32.reduceSub, Int32.reduceMul, Int32.reduceToNatClampNeg, not_false_eq_true, not_true_eq_false, false_implies, true_implies, Nat.zero_add, reduceIte, Nat.reduceMul, Nat.reduceEqDiff, nxa, nxc, lgn, nL_of, swx, Int.reduceAdd, gI_a, gI_k, gL_a, gL_k, gI_r, gL_r, nI_and, nI_or, nI_xor, nI_ndf, nI_shl, nI_shr, ne_eq, and_true, true_and, eq_self, true_or, or_true, false_or, or_false, Option.toList, List.cons_append, List.nil_append, List.length_nil, List.length_cons, Nat.not_lt_zero, bX10_upTo_56, kdx hs, grx hr, hO, show ¬ m ≤ 0 by omega, q3.resolve_left hm0]) | ((with_reducible show Call _ _ _ _ mX10_within _ _ _); refine c_within X _ _ _ _ _ _ ?_; simp (disch := first | decide | omega) only [mxa, vxa, vxb, vxc, vnd, vne, Nat.reduceAdd, Nat.reduceSub, Nat.reduceLeDiff, Nat.reduceLT, Int32.reduceLT, Int32.reduceLE, Int32.reduceAdd, Int32.reduceSub, Int32.reduceMul, Int32.reduceToNatClampNeg, not_false_eq_true, not_true_eq_false, false_implies, true_implies, Nat.zero_add, reduceIte, Nat.reduceMul, Nat.reduceEqDiff, nxa, nxc, lgn, nL_of, swx, Int.reduceAdd, gI_a, gI_k, gL_a, gL_k, gI_r, gL_r, nI_and, nI_or, nI_xor, nI_ndf, nI_shl, nI_shr, ne_eq, and_true, true_and, eq_self, true_or, or_true, false_or, or_false, Option.toList, List.cons_append, List.nil_append, List.length_nil, List.length_cons, Nat.not_lt_zero, kdx hs, grx hr, hO, show ¬ m ≤ 0 by omega, q3.resolve_left hm0]))
        exact go
    by_cases h0 : m = 0 ∨ ¬ O = 0
    · have ex : ∃ k, k < 60 ∧ Rc (zN (gI σ 191)) O (m + k) := by
        by_cases hO0 : O = 0
        · have : m = 0 := h0.resolve_right (fun q => q hO0)
          subst this
          exact ⟨0, by omega, Rc_zero _ _⟩
        · exact next_mul (by omega) (o2 0 (by omega)).2.1 (o2 0 (by omega)).2.2 m
      obtain ⟨k0, hk0, hr0⟩ := ex
      obtain ⟨k, hk, hmin⟩ := pk_least (fun k => Rc (zN (gI σ 191)) O (m + k)) ⟨k0, hr0⟩
      have hkk : k ≤ k0 := by
        rcases Nat.lt_or_ge k0 k with q | q
        · exact absurd hr0 (hmin k0 q)
        · exact q
      refine x_from X _ _ (zN (gI σ 191)) O m R (by exact hs) (by exact hr) (gI_same _ _ _ _) (fun q => (o2 0 q).2) hR hm _ k (by omega) hmin (fun _ => ⟨hk, ?_⟩) (fun q => absurd q (by omega))
      simp (disch := first | decide | omega) only [mxa, vxa, vxb, vxc, vnd, vne, Nat.reduceAdd, Nat.reduceSub, Nat.reduceLeDiff, Nat.reduceLT, Int32.reduceLT, Int32.reduceLE, Int32.reduceAdd, Int32.reduceSub, Int32.reduceMul, Int32.reduceToNatClampNeg, not_false_eq_true, not_true_eq_false, false_implies, true_implies, Nat.zero_add, reduceIte, Nat.reduceMul, Nat.reduceEqDiff, nxa, nxc, lgn, nL_of, swx, Int.reduceAdd, gI_a, gI_k, gL_a, gL_k, gI_r, gL_r, nI_and, nI_or, nI_xor, nI_ndf, nI_shl, nI_shr, ne_eq, and_true, true_and, eq_self, true_or, or_true, false_or, or_false, Option.toList, List.cons_append, List.nil_append, List.length_nil, List.length_cons, Nat.not_lt_zero]
      exact found k (by omega) hk hmin h0
    · have hO0 : O = 0 := by omega
      have hm0 : ¬ m = 0 := by omega
      refine x_from X _ _ (zN (gI σ 191)) O m R (by exact hs) (by exact hr) (gI_same _ _ _ _) (fun q => (o2 0 q).2) hR hm _ 61 (by omega) (fun j hj => ?_) (fun q => absurd q (by omega)) (fun _ => ?_)
      · rw [hO0]
        rintro ⟨n, q, -⟩
        omega
      · simp (disch := first | decide | omega) only [mxa, vxa, vxb, vxc, vnd, vne, Nat.reduceAdd, Nat.reduceSub, Nat.reduceLeDiff, Nat.reduceLT, Int32.reduceLT, Int32.reduceLE, Int32.reduceAdd, Int32.reduceSub, Int32.reduceMul, Int32.reduceToNatClampNeg, not_false_eq_true, not_true_eq_false, false_implies, true_implies, Nat.zero_add, reduceIte, Nat.reduceMul, Nat.reduceEqDiff, nxa, nxc, lgn, nL_of, swx, Int.reduceAdd, gI_a, gI_k, gL_a, gL_k, gI_r, gL_r, nI_and, nI_or, nI_xor, nI_ndf, nI_shl, nI_shr, ne_eq, and_true, true_and, eq_self, true_or, or_true, false_or, or_false, Option.toList, List.cons_append, List.nil_append, List.length_nil, List.length_cons, Nat.not_lt_zero]
        unfold Eq2
        refine call_of eX10_upTo rfl ?_
        refine wp_blk kX10_upTo_0 ?_
        simp (disch := first | decide | omega) only [mxa, vxa, vxb, vxc, vnd, vne, Nat.reduceAdd, Nat.reduceSub, Nat.reduceLeDiff, Nat.reduceLT, Int32.reduceLT, Int32.reduceLE, Int32.reduceAdd, Int32.reduceSub, Int32.reduceMul, Int32.reduceToNatClampNeg, not_false_eq_true, not_true_eq_false, false_implies, true_implies, Nat.zero_add, reduceIte, Nat.reduceMul, Nat.reduceEqDiff, nxa, nxc, lgn, nL_of, swx, Int.reduceAdd, gI_a, gI_k, gL_a, gL_k, gI_r, gL_r, nI_and, nI_or, nI_xor, nI_ndf, nI_shl, nI_shr, ne_eq, and_true, true_and, eq_self, true_or, or_true, false_or, or_false, Option.toList, List.cons_append, List.nil_append, List.length_nil, List.length_cons, Nat.not_lt_zero, bX10_upTo_0, kdx hs, grx hr]
        repeat (first | ((with_reducible refine wp_blk kX10_upTo_0 ?_); simp (disch := first | decide | omega) only [mxa, vxa, vxb, vxc, vnd, vne, Nat.reduceAdd, Nat.reduceSub, Nat.reduceLeDiff, Nat.reduceLT, Int32.reduceLT, Int32.reduceLE, Int32.reduceAdd, Int32.reduceSub, Int32.reduceMul, Int32.reduceToNatClampNeg, not_false_eq_true, not_true_eq_false, false_implies, true_implies, Nat.zero_add, reduceIte, Nat.reduceMul, Nat.reduceEqDiff, nxa, nxc, lgn, nL_of, swx, Int.reduceAdd, gI_a, gI_k, gL_a, gL_k, gI_r, gL_r, nI_and, nI_or, nI_xor, nI_ndf, nI_shl, nI_shr, ne_eq, and_true, true_and, eq_self, true_or, or_true, false_or, or_false, Option.toList, List.cons_append, List.nil_append, List.length_nil, List.length_cons, Nat.not_lt_zero, bX10_upTo_0, kdx hs, grx hr, hO, hO0, show ¬ m ≤ 0 by omega]) | ((with_reducible refine wp_blk kX10_upTo_20 ?_); simp (disch := first | decide | omega) only [mxa, vxa, vxb, vxc, vnd, vne, Nat.reduceAdd, Nat.reduceSub, Nat.reduceLeDiff, Nat.reduceLT, Int32.reduceLT, Int32.reduceLE, Int32.reduceAdd, Int32.reduceSub, Int32.reduceMul, Int32.reduceToNatClampNeg, not_false_eq_true, not_true_eq_false, false_implies, true_implies, Nat.zero_add, reduceIte, Nat.reduceMul, Nat.reduceEqDiff, nxa, nxc, lgn, nL_of, swx, Int.reduceAdd, gI_a, gI_k, gL_a, gL_k, gI_r, gL_r, nI_and, nI_or, nI_xor, nI_ndf, nI_shl, nI_shr, ne_eq, and_true, true_and, eq_self, true_or, or_true, false_or, or_false, Option.toList, List.cons_append, List.nil_append, List.length_nil, List.length_cons, Nat.not_lt_zero, bX10_upTo_20, kdx hs, grx hr, hO, hO0, show ¬ m ≤ 0 by omega]) | ((with_reducible refine wp_blk kX10_upTo_35 ?_); simp (disch := first | decide | omega) only [mxa, vxa, vxb, vxc, vnd, vne, Nat.reduceAdd, Nat.reduceSub, Nat.reduceLeDiff, Nat.reduceLT, Int32.reduceLT, Int32.reduceLE, Int32.reduceAdd, Int32.reduceSub, Int32.reduceMul, Int32.reduceToNatClampNeg, not_false_eq_true, not_true_eq_false, false_implies, true_implies, Nat.zero_add, reduceIte, Nat.reduceMul, Nat.reduceEqDiff, nxa, nxc, lgn, nL_of, swx, Int.reduceAdd, gI_a, gI_k, gL_a, gL_k, gI_r, gL_r, nI_and, nI_or, nI_xor, nI_ndf, nI_shl, nI_shr, ne_eq, and_true, true_and, eq_self, true_or, or_true, false_or, or_false, Option.toList, List.cons_append, List.nil_append, List.length_nil, List.length_cons, Nat.not_lt_zero, bX10_upTo_35, kdx hs, grx hr, hO, hO0, show ¬ m ≤ 0 by omega]) | ((with_reducible refine wp_blk kX10_upTo_41 ?_); simp (disch := first | decide | omega) only [mxa, vxa, vxb, vxc, vnd, vne, Nat.reduceAdd, Nat.reduceSub, Nat.reduceLeDiff, Nat.reduceLT, Int32.reduceLT, Int32.reduceLE, Int32.reduceAdd, Int32.reduceSub, Int32.reduceMul, Int32.reduceToNatClampNeg, not_false_eq_true, not_true_eq_false, false_implies, true_implies, Nat.zero_add, reduceIte, Nat.reduceMul, Nat.reduceEqDiff, nxa, nxc, lgn, nL_of, swx, Int.reduceAdd, gI_a, gI_k, gL_a, gL_k, gI_r, gL_r, nI_and, nI_or, nI_xor, nI_ndf, nI_shl, nI_shr, ne_eq, and_true, true_and, eq_self, true_or, or_true, false_or, or_false, Option.toList, List.cons_append, List.nil_append, List.length_nil, List.length_cons, Nat.not_lt_zero, bX10_upTo_41, kdx hs, grx hr, hO, hO0, show ¬ m ≤ 0 by omega]) | ((with_reducible refine wp_blk kX10_upTo_56 ?_); simp (disch := first | decide | omega) only [mxa, vxa, vxb, vxc, vnd, vne, Nat.reduceAdd, Nat.reduceSub, Nat.reduceLeDiff, Nat.reduceLT, Int32.reduceLT, Int32.reduceLE, Int32.reduceAdd, Int32.reduceSub, Int32.reduceMul, Int32.reduceToNatClampNeg, not_false_eq_true, not_true_eq_false, false_implies, true_implies, Nat.zero_add, reduceIte, Nat.reduceMul, Nat.reduceEqDiff, nxa, nxc, lgn, nL_of, swx, Int.reduceAdd, gI_a, gI_k, gL_a, gL_k, gI_r, gL_r, nI_and, nI_or, nI_xor, nI_ndf, nI_shl, nI_shr, ne_eq, and_true, true_and, eq_self, true_or, or_true, false_or, or_false, Option.toList, List.cons_append, List.nil_append, List.length_nil, List.length_cons, Nat.not_lt_zero, bX10_upTo_56, kdx hs, grx hr, hO, hO0, show ¬ m ≤ 0 by omega]) | ((with_reducible show Call _ _ _ _ mX10_within _ _ _); refine c_within X _ _ _ _ _ _ ?_; simp (disch := first | decide | omega) only [mxa, vxa, vxb, vxc, vnd, vne, Nat.reduceAdd, Nat.reduceSub, Nat.reduceLeDiff, Nat.reduceLT, Int32.reduceLT, Int32.reduceLE, Int32.reduceAdd, Int32.reduceSub, Int32.reduceMul, Int32.reduceToNatClampNeg, not_false_eq_true, not_true_eq_false, false_implies, true_implies, Nat.zero_add, reduceIte, Nat.reduceMul, Nat.reduceEqDiff, nxa, nxc, lgn, nL_of, swx, Int.reduceAdd, gI_a, gI_k, gL_a, gL_k, gI_r, gL_r, nI_and, nI_or, nI_xor, nI_ndf, nI_shl, nI_shr, ne_eq, and_true, true_and, eq_self, true_or, or_true, false_or, or_false, Option.toList, List.cons_append, List.nil_append, List.length_nil, List.length_cons, Nat.not_lt_zero, kdx hs, grx hr, hO, hO0, show ¬ m ≤ 0 by omega]))
        rw [hO0] at fr
        refine ⟨⟨_, rfl, rfl⟩, hI.read ht fr ⟨?_, ?_, ?_⟩⟩
        · simp (disch := first | decide | omega) only [mxa, vxa, vxb, vxc, vnd, vne, Nat.reduceAdd, Nat.reduceSub, Nat.reduceLeDiff, Nat.reduceLT, Int32.reduceLT, Int32.reduceLE, Int32.reduceAdd, Int32.reduceSub, Int32.reduceMul, Int32.reduceToNatClampNeg, not_false_eq_true, not_true_eq_false, false_implies, true_implies, Nat.zero_add, reduceIte, Nat.reduceMul, Nat.reduceEqDiff, nxa, nxc, lgn, nL_of, swx, Int.reduceAdd, gI_a, gI_k, gL_a, gL_k, gI_r, gL_r, nI_and, nI_or, nI_xor, nI_ndf, nI_shl, nI_shr, ne_eq, and_true, true_and, eq_self, true_or, or_true, false_or, or_false, Option.toList, List.cons_append, List.nil_append, List.length_nil, List.length_cons, Nat.not_lt_zero]
        · simp (disch := first | decide | omega) only [mxa, vxa, vxb, vxc, vnd, vne, Nat.reduceAdd, Nat.reduceSub, Nat.reduceLeDiff, Nat.reduceLT, Int32.reduceLT, Int32.reduceLE, Int32.reduceAdd, Int32.reduceSub, Int32.reduceMul, Int32.reduceToNatClampNeg, not_false_eq_true, not_true_eq_false, false_implies, true_implies, Nat.zero_add, reduceIte, Nat.reduceMul, Nat.reduceEqDiff, nxa, nxc, lgn, nL_of, swx, Int.reduceAdd, gI_a, gI_k, gL_a, gL_k, gI_r, gL_r, nI_and, nI_or, nI_xor, nI_ndf, nI_shl, nI_shr, ne_eq, and_true, true_and, eq_self, true_or, or_true, false_or, or_false, Option.toList, List.cons_append, List.nil_append, List.length_nil, List.length_cons, Nat.not_lt_zero]
        · simp (disch := first | decide | omega) only [mxa, vxa, vxb, vxc, vnd, vne, Nat.reduceAdd, Nat.reduceSub, Nat.reduceLeDiff, Nat.reduceLT, Int32.reduceLT, Int32.reduceLE, Int32.reduceAdd, Int32.reduceSub, Int32.reduceMul, Int32.reduceToNatClampNeg, not_false_eq_true, not_true_eq_false, false_implies, true_implies, Nat.zero_add, reduceIte, Nat.reduceMul, Nat.reduceEqDiff, nxa, nxc, lgn, nL_of, swx, Int.reduceAdd, gI_a, gI_k, gL_a, gL_k, gI_r, gL_r, nI_and, nI_or, nI_xor, nI_ndf, nI_shl, nI_shr, ne_eq, and_true, true_and, eq_self, true_or, or_true, false_or, or_false, Option.toList, List.cons_append, List.nil_append, List.length_nil, List.length_cons, Nat.not_lt_zero]
/-! gap -/
def Gf (Z : Nat → Nat) : Nat → Nat
  | 0 => 0
  | o + 1 => Nat.gcd (Z o) (Gf Z o)
theorem Gf_dvd {Z : Nat → Nat} : ∀ {o s : Nat}, Rc Z o s → Gf Z o ∣ s
  | 0, s, ⟨n, h, _⟩ => by rw [h]; exact Nat.dvd_zero _
  | o + 1, s, h => by
    obtain ⟨k, s0, h0, e⟩ := Rc_de h
    rw [e]
    exact Nat.dvd_add (Nat.dvd_trans (Nat.gcd_dvd_right _ _) (Gf_dvd h0)) (Nat.dvd_trans (Nat.gcd_dvd_left _ _) (Nat.dvd_mul_left _ _))
theorem Gf_0 {Z : Nat → Nat} : ∀ o, Gf Z (o + 1) ∣ Z 0
  | 0 => Nat.gcd_dvd_left _ _
  | o + 1 => Nat.dvd_trans (Nat.gcd_dvd_right _ _) (Gf_0 o)
theorem ab_le (a b m : Nat) (h : m = a * b) (hm : 0 < m) : a + b ≤ m + 1 := by
  cases a with
  | zero => rw [Nat.zero_mul] at h; omega
  | succ a =>
    cases b with
    | zero => rw [Nat.mul_zero] at h; omega
    | succ b =>
      rw [Nat.succ_mul, Nat.mul_succ] at h
      omega
theorem reach_all {Z : Nat → Nat} {O : Nat} (hO1 : 1 ≤ O) (hO3 : O ≤ 3) (hZ : ∀ o, o < O → 1 ≤ Z o ∧ Z o ≤ 60) (hG : Gf Z O = 1) (r : Nat) (hr : r < Z 0) : ∃ s, s ≤ 3540 ∧ Rc Z O s ∧ s % Z 0 = r := by
  have z0 := hZ 0 (by omega)
  rcases (by omega : O = 1 ∨ O = 2 ∨ O = 3) with rfl | rfl | rfl
  · have : Z 0 = 1 := by
      have : Gf Z 1 = Z 0 := Nat.gcd_zero_right _
      omega
    exact ⟨0, by omega, Rc_zero Z 1, by rw [this]; omega⟩
  · have g1 : Nat.gcd (Z 1) (Z 0) = 1 := by
      have : Gf Z 2 = Nat.gcd (Z 1) (Nat.gcd (Z 0) 0) := rfl
      rw [Nat.gcd_zero_right] at this
      omega
    obtain ⟨i, hi, ei⟩ := cover (z := Z 1) (m := Z 0) (by omega) r hr
    rw [g1, Nat.div_one] at hi
    rw [g1, Nat.mod_one] at ei
    have z1 := hZ 1 (by omega)
    refine ⟨0 + i * Z 1, ?_, Rc_mul (by omega) (Rc_zero Z 2) i, ei⟩
    have : i * Z 1 ≤ 59 * 60 := Nat.mul_le_mul (by omega) z1.2
    omega
  · have z1 := hZ 1 (by omega)
    have z2 := hZ 2 (by omega)
    have hg1 : 0 < Nat.gcd (Z 1) (Z 0) := Nat.gcd_pos_of_pos_right _ (by omega)
    have g2 : Nat.gcd (Z 2) (Nat.gcd (Z 1) (Z 0)) = 1 := by
      have : Gf Z 3 = Nat.gcd (Z 2) (Nat.gcd (Z 1) (Nat.gcd (Z 0) 0)) := rfl
      rw [Nat.gcd_zero_right] at this
      omega
    obtain ⟨j, hj, ej⟩ := cover (z := Z 2) (m := Nat.gcd (Z 1) (Z 0)) hg1 (r % Nat.gcd (Z 1) (Z 0)) (Nat.mod_lt _ hg1)
    rw [g2, Nat.div_one] at hj
    rw [g2, Nat.mod_one, Nat.zero_add] at ej
    have hdm : Nat.gcd (Z 1) (Z 0) ∣ Z 0 := Nat.gcd_dvd_right _ _
    have hle : j * Z 2 ≤ Z 0 * (j * Z 2) := Nat.le_mul_of_pos_left _ (by omega)
    have dv : (r + Z 0 * (j * Z 2) - j * Z 2) % Nat.gcd (Z 1) (Z 0) = 0 := by
      refine Nat.sub_mod_eq_zero_of_mod_eq ?_
      rw [ej, ← Nat.mod_add_mod, Nat.add_mod, Nat.mod_eq_zero_of_dvd (Nat.dvd_trans hdm (Nat.dvd_mul_right (Z 0) (j * Z 2))), Nat.add_zero, Nat.mod_mod, Nat.mod_mod]
    have rl := Nat.mod_lt (r + Z 0 * (j * Z 2) - j * Z 2) (show 0 < Z 0 by omega)
    obtain ⟨i, hi, ei⟩ := cover (z := Z 1) (m := Z 0) (by omega) ((r + Z 0 * (j * Z 2) - j * Z 2) % Z 0) rl
    rw [Nat.mod_mod_of_dvd _ hdm, dv, Nat.zero_add] at ei
    refine ⟨0 + j * Z 2 + i * Z 1, ?_, Rc_mul (by omega) (Rc_mul (by omega) (Rc_zero Z 3) j) i, ?_⟩
    · obtain ⟨m', hm'⟩ := hdm
      have hL : Z 0 / Nat.gcd (Z 1) (Z 0) = m' := Nat.div_eq_of_eq_mul_right hg1 hm'
      have ab := ab_le _ _ _ hm' (by omega)
      have q1 : j * Z 2 ≤ j * 60 := Nat.mul_le_mul_left _ z2.2
      have q2 : i * Z 1 ≤ i * 60 := Nat.mul_le_mul_left _ z1.2
      omega
    · rw [Nat.zero_add, Nat.add_mod, ei, Nat.add_mod_mod, Nat.mod_add_mod, show j * Z 2 + (r + Z 0 * (j * Z 2) - j * Z 2) = r + Z 0 * (j * Z 2) by omega, Nat.add_mul_mod_self_left]
      exact Nat.mod_eq_of_lt hr
def mxD (D : Nat → Nat) : Nat → Nat
  | 0 => 0
  | n + 1 => max (mxD D n) (D n)
theorem mxD_ge {D : Nat → Nat} : ∀ {n r : Nat}, r < n → D r ≤ mxD D n
  | n + 1, r, h => by
    show D r ≤ max (mxD D n) (D n)
    by_cases e : r = n
    · subst e; omega
    · have := mxD_ge (D := D) (show r < n by omega); omega
theorem mxD_at {D : Nat → Nat} : ∀ n, mxD D n = 0 ∨ ∃ r, r < n ∧ D r = mxD D n
  | 0 => Or.inl rfl
  | n + 1 => by
    show max (mxD D n) (D n) = 0 ∨ ∃ r, r < n + 1 ∧ D r = max (mxD D n) (D n)
    by_cases h : mxD D n ≤ D n
    · exact Or.inr ⟨n, by omega, by omega⟩
    · rcases mxD_at (D := D) n with q | ⟨r, q1, q2⟩
      · omega
      · exact Or.inr ⟨r, by omega, by omega⟩
theorem mxD_le {D : Nat → Nat} {n b : Nat} (h : ∀ r, r < n → D r ≤ b) : mxD D n ≤ b := by
  rcases mxD_at (D := D) n with q | ⟨r, q1, q2⟩
  · omega
  · have := h r q1; omega
/-- the greatest gap: with a common divisor above 1 there is none -/
theorem gap_no {Z : Nat → Nat} {O : Nat} (hO1 : 1 ≤ O) (hZ : ∀ o, o < O → 1 ≤ Z o ∧ Z o ≤ 60) (hG : ¬ Gf Z O = 1) : 1048576 ≤ mxD (svD Z (O - 1)) (Z 0) := by
  have z0 := hZ 0 (by omega)
  have hd : Gf Z O ∣ Z 0 := by
    have := Gf_0 (Z := Z) (O - 1)
    rwa [show O - 1 + 1 = O by omega] at this
  have hpos : 0 < Gf Z O := Nat.pos_of_dvd_of_pos hd (by omega)
  have hle := Nat.le_of_dvd (by omega) hd
  obtain ⟨h1, h2⟩ := svD_ok (Z := Z) (by omega) (O - 1)
  rw [show O - 1 + 1 = O by omega] at h1 h2
  have ge := mxD_ge (D := svD Z (O - 1)) (show 1 < Z 0 by omega)
  rcases Nat.lt_or_ge (svD Z (O - 1) 1) 1048576 with q | q
  · obtain ⟨a, b⟩ := (h1 1 (by omega)).2 q
    have d1 := Gf_dvd a
    have d2 : Gf Z O ∣ svD Z (O - 1) 1 % Z 0 := (Nat.dvd_mod_iff hd).mpr d1
    rw [b] at d2
    exact absurd (Nat.dvd_one.mp d2) hG
  · omega
theorem gap_yes {Z : Nat → Nat} {O : Nat} (hO1 : 1 ≤ O) (hO3 : O ≤ 3) (hZ : ∀ o, o < O → 1 ≤ Z o ∧ Z o ≤ 60) (hG : Gf Z O = 1) : mxD (svD Z (O - 1)) (Z 0) ≤ 3540 ∧ ∀ s, s ≤ 4000 → (Rc Z O s ↔ ¬ (Z 0 < mxD (svD Z (O - 1)) (Z 0)) ∨ mxD (svD Z (O - 1)) (Z 0) - Z 0 < s) ∨ (Rc Z O s ∧ s < mxD (svD Z (O - 1)) (Z 0) - Z 0) ∨ (¬ Rc Z O s ∧ s < mxD (svD Z (O - 1)) (Z 0) - Z 0) := by
  have z0 := hZ 0 (by omega)
  obtain ⟨h1, h2⟩ := svD_ok (Z := Z) (by omega) (O - 1)
  rw [show O - 1 + 1 = O by omega] at h1 h2
  have hD : ∀ r, r < Z 0 → svD Z (O - 1) r ≤ 3540 := by
    intro r hr
    obtain ⟨s, q1, q2, q3⟩ := reach_all hO1 hO3 hZ hG r hr
    have := h2 s q2
    rw [q3] at this
    omega
  have hM := mxD_le hD
  have D0 : svD Z (O - 1) 0 = 0 := by
    have := h2 0 (Rc_zero Z O)
    rw [Nat.zero_mod] at this
    omega
  refine ⟨hM, fun s hs => ?_⟩
  have bk := baked (Z := Z) (o := O - 1) (s := s) (by omega) (by omega)
  rw [show O - 1 + 1 = O by omega] at bk
  have hlt := Nat.mod_lt s (show 0 < Z 0 by omega)
  have ge := mxD_ge (D := svD Z (O - 1)) hlt
  have cg : s < svD Z (O - 1) (s % Z 0) → s + Z 0 ≤ svD Z (O - 1) (s % Z 0) := by
    intro q
    have b := ((h1 (s % Z 0) hlt).2 (by have := hD _ hlt; omega)).2
    have d : (svD Z (O - 1) (s % Z 0) - s) % Z 0 = 0 := Nat.sub_mod_eq_zero_of_mod_eq b
    have := Nat.le_of_dvd (by omega) (Nat.dvd_of_mod_eq_zero d)
    omega
  by_cases hR : Rc Z O s
  · by_cases hc : ¬ (Z 0 < mxD (svD Z (O - 1)) (Z 0)) ∨ mxD (svD Z (O - 1)) (Z 0) - Z 0 < s
    · exact Or.inl ⟨fun _ => hc, fun _ => hR⟩
    · by_cases hlt2 : s < mxD (svD Z (O - 1)) (Z 0) - Z 0
      · exact Or.inr (Or.inl ⟨hR, hlt2⟩)
      · exfalso
        have es : s = mxD (svD Z (O - 1)) (Z 0) - Z 0 := by omega
        rcases mxD_at (D := svD Z (O - 1)) (Z 0) with q | ⟨r, q1, q2⟩
        · omega
        · have b := ((h1 r q1).2 (by have := hD _ q1; omega)).2
          have hb := bk.mpr hR
          have er : s % Z 0 = r := by
            rw [es, ← q2, ← Nat.mod_eq_sub_mod (by omega)]
            exact b
          rw [er] at hb
          omega
  · have nb := mt bk.mp hR
    have := cg (by omega)
    by_cases hlt2 : s < mxD (svD Z (O - 1)) (Z 0) - Z 0
    · exact Or.inr (Or.inr ⟨hR, hlt2⟩)
    · refine Or.inl ⟨fun q => absurd q hR, fun q => ?_⟩
      exfalso
      rcases q with q | q
      · have hs0 : s = 0 := by omega
        subst hs0
        rw [Nat.zero_mod, D0] at this
        omega
      · omega
theorem c_greatestGap (X : Cx) (d : Nat) (σ : Mm) (Z : Nat → Nat) (O : Nat) (R : Nat → Int32) (hs : Sh σ) (hr : Rf σ) (hm : gI σ 148 1 = nI (mdl Z O)) (hZ : 0 < O → 1 ≤ Z 0 ∧ Z 0 ≤ 60) (hR : 0 < O → ∀ r, r < Z 0 → R r = nI (svD Z (O - 1) r)) (Q : Po) (h0 : O = 0 ∨ 1048576 ≤ mxD (svD Z (O - 1)) (Z 0) → Q (some (.int (-4))) (rI σ 149 R)) (h1 : 0 < O → mxD (svD Z (O - 1)) (Z 0) < 1048576 → Z 0 < mxD (svD Z (O - 1)) (Z 0) → Q (some (.int (nI (mxD (svD Z (O - 1)) (Z 0) - Z 0)))) (rI σ 149 R)) (h2 : 0 < O → mxD (svD Z (O - 1)) (Z 0) < 1048576 → ¬ Z 0 < mxD (svD Z (O - 1)) (Z 0) → Q (some (.int (-1))) (rI σ 149 R)) : Call X (d + 1) 0 0 mX7_greatestGap [.ref 148] (rI σ 149 R) Q := by
  by_cases hO : O = 0
  · subst hO
    rw [show mdl Z 0 = 0 from rfl] at hm
    refine call_of eX7_greatestGap rfl ?_
    refine wp_blk kX7_greatestGap_0 ?_
    simp (disch := first | decide | omega) only [mxa, vxa, vxb, vxc, vnd, vne, Nat.reduceAdd, Nat.reduceSub, Nat.reduceLeDiff, Nat.reduceLT, Int32.reduceLT, Int32.reduceLE, Int32.reduceAdd, Int32.reduceSub, Int32.reduceMul, Int32.reduceToNatClampNeg, not_false_eq_true, not_true_eq_false, false_implies, true_implies, Nat.zero_add, reduceIte, Nat.reduceMul, Nat.reduceEqDiff, nxa, nxc, lgn, nL_of, swx, Int.reduceAdd, gI_a, gI_k, gL_a, gL_k, gI_r, gL_r, nI_and, nI_or, nI_xor, nI_ndf, nI_shl, nI_shr, ne_eq, and_true, true_and, eq_self, true_or, or_true, false_or, or_false, Option.toList, List.cons_append, List.nil_append, List.length_nil, List.length_cons, Nat.not_lt_zero, bX7_greatestGap_0, kdx hs, grx hr, hm]
    exact h0 (Or.inl rfl)
  · obtain ⟨z1, z2⟩ := hZ (by omega)
    rw [show mdl Z O = Z 0 from if_neg hO] at hm
    have hD : ∀ r, r < Z 0 → svD Z (O - 1) r ≤ 1048576 := fun r hr => ((svD_ok (Z := Z) (by omega) (O - 1)).1 r hr).1
    refine call_of eX7_greatestGap rfl ?_
    refine wp_blk kX7_greatestGap_0 ?_
    simp (disch := first | decide | omega) only [mxa, vxa, vxb, vxc, vnd, vne, Nat.reduceAdd, Nat.reduceSub, Nat.reduceLeDiff, Nat.reduceLT, Int32.reduceLT, Int32.reduceLE, Int32.reduceAdd, Int32.reduceSub, Int32.reduceMul, Int32.reduceToNatClampNeg, not_false_eq_true, not_true_eq_false, false_implies, true_implies, Nat.zero_add, reduceIte, Nat.reduceMul, Nat.reduceEqDiff, nxa, nxc, lgn, nL_of, swx, Int.reduceAdd, gI_a, gI_k, gL_a, gL_k, gI_r, gL_r, nI_and, nI_or, nI_xor, nI_ndf, nI_shl, nI_shr, ne_eq, and_true, true_and, eq_self, true_or, or_true, false_or, or_false, Option.toList, List.cons_append, List.nil_append, List.length_nil, List.length_cons, Nat.not_lt_zero, bX7_greatestGap_0, kdx hs, grx hr, hm, z1]
    refine wp_blk kX7_greatestGap_11 ?_
    simp (disch := first | decide | omega) only [mxa, vxa, vxb, vxc, vnd, vne, Nat.reduceAdd, Nat.reduceSub, Nat.reduceLeDiff, Nat.reduceLT, Int32.reduceLT, Int32.reduceLE, Int32.reduceAdd, Int32.reduceSub, Int32.reduceMul, Int32.reduceToNatClampNeg, not_false_eq_true, not_true_eq_false, false_implies, true_implies, Nat.zero_add, reduceIte, Nat.reduceMul, Nat.reduceEqDiff, nxa, nxc, lgn, nL_of, swx, Int.reduceAdd, gI_a, gI_k, gL_a, gL_k, gI_r, gL_r, nI_and, nI_or, nI_xor, nI_ndf, nI_shl, nI_shr, ne_eq, and_true, true_and, eq_self, true_or, or_true, false_or, or_false, Option.toList, List.cons_append, List.nil_append, List.length_nil, List.length_cons, Nat.not_lt_zero, bX7_greatestGap_11]
    refine wfor (fun k => Wp X mX7_greatestGap (rmo (d + 1) 0 0) (d + 1) Q 0 0 15 [some (.ref 148), some (.int (nI (mxD (svD Z (O - 1)) k))), some (.int (nI k))] [] (rI σ 149 R)) (Z 0) (fun k hk hP => ?_) ?_
    · have a := hR (by omega) k hk
      have b := hD k hk
      have c := mxD_le (n := k) (fun r hr => hD r (by omega))
      refine wp_blk kX7_greatestGap_15 ?_
      simp (disch := first | decide | omega) only [mxa, vxa, vxb, vxc, vnd, vne, Nat.reduceAdd, Nat.reduceSub, Nat.reduceLeDiff, Nat.reduceLT, Int32.reduceLT, Int32.reduceLE, Int32.reduceAdd, Int32.reduceSub, Int32.reduceMul, Int32.reduceToNatClampNeg, not_false_eq_true, not_true_eq_false, false_implies, true_implies, Nat.zero_add, reduceIte, Nat.reduceMul, Nat.reduceEqDiff, nxa, nxc, lgn, nL_of, swx, Int.reduceAdd, gI_a, gI_k, gL_a, gL_k, gI_r, gL_r, nI_and, nI_or, nI_xor, nI_ndf, nI_shl, nI_shr, ne_eq, and_true, true_and, eq_self, true_or, or_true, false_or, or_false, Option.toList, List.cons_append, List.nil_append, List.length_nil, List.length_cons, Nat.not_lt_zero, bX7_greatestGap_15, kdx hs, grx hr, hm, show ¬ Z 0 ≤ k by omega, a, imx_n]
      exact hP
    · have c := mxD_le (n := Z 0) hD
      refine wp_blk kX7_greatestGap_15 ?_
      simp (disch := first | decide | omega) only [mxa, vxa, vxb, vxc, vnd, vne, Nat.reduceAdd, Nat.reduceSub, Nat.reduceLeDiff, Nat.reduceLT, Int32.reduceLT, Int32.reduceLE, Int32.reduceAdd, Int32.reduceSub, Int32.reduceMul, Int32.reduceToNatClampNeg, not_false_eq_true, not_true_eq_false, false_implies, true_implies, Nat.zero_add, reduceIte, Nat.reduceMul, Nat.reduceEqDiff, nxa, nxc, lgn, nL_of, swx, Int.reduceAdd, gI_a, gI_k, gL_a, gL_k, gI_r, gL_r, nI_and, nI_or, nI_xor, nI_ndf, nI_shl, nI_shr, ne_eq, and_true, true_and, eq_self, true_or, or_true, false_or, or_false, Option.toList, List.cons_append, List.nil_append, List.length_nil, List.length_cons, Nat.not_lt_zero, bX7_greatestGap_15, kdx hs, grx hr, hm, Nat.le_refl]
      by_cases q : mxD (svD Z (O - 1)) (Z 0) < 1048576
      · refine wp_blk kX7_greatestGap_40 ?_
        simp (disch := first | decide | omega) only [mxa, vxa, vxb, vxc, vnd, vne, Nat.reduceAdd, Nat.reduceSub, Nat.reduceLeDiff, Nat.reduceLT, Int32.reduceLT, Int32.reduceLE, Int32.reduceAdd, Int32.reduceSub, Int32.reduceMul, Int32.reduceToNatClampNeg, not_false_eq_true, not_true_eq_false, false_implies, true_implies, Nat.zero_add, reduceIte, Nat.reduceMul, Nat.reduceEqDiff, nxa, nxc, lgn, nL_of, swx, Int.reduceAdd, gI_a, gI_k, gL_a, gL_k, gI_r, gL_r, nI_and, nI_or, nI_xor, nI_ndf, nI_shl, nI_shr, ne_eq, and_true, true_and, eq_self, true_or, or_true, false_or, or_false, Option.toList, List.cons_append, List.nil_append, List.length_nil, List.length_cons, Nat.not_lt_zero, bX7_greatestGap_40, q]
        by_cases q2 : Z 0 < mxD (svD Z (O - 1)) (Z 0)
        · refine wp_blk kX7_greatestGap_49 ?_
          simp (disch := first | decide | omega) only [mxa, vxa, vxb, vxc, vnd, vne, Nat.reduceAdd, Nat.reduceSub, Nat.reduceLeDiff, Nat.reduceLT, Int32.reduceLT, Int32.reduceLE, Int32.reduceAdd, Int32.reduceSub, Int32.reduceMul, Int32.reduceToNatClampNeg, not_false_eq_true, not_true_eq_false, false_implies, true_implies, Nat.zero_add, reduceIte, Nat.reduceMul, Nat.reduceEqDiff, nxa, nxc, lgn, nL_of, swx, Int.reduceAdd, gI_a, gI_k, gL_a, gL_k, gI_r, gL_r, nI_and, nI_or, nI_xor, nI_ndf, nI_shl, nI_shr, ne_eq, and_true, true_and, eq_self, true_or, or_true, false_or, or_false, Option.toList, List.cons_append, List.nil_append, List.length_nil, List.length_cons, Nat.not_lt_zero, bX7_greatestGap_49, kdx hs, grx hr, hm, show ¬ mxD (svD Z (O - 1)) (Z 0) ≤ Z 0 by omega]
          refine wp_blk kX7_greatestGap_67 ?_
          simp (disch := first | decide | omega) only [mxa, vxa, vxb, vxc, vnd, vne, Nat.reduceAdd, Nat.reduceSub, Nat.reduceLeDiff, Nat.reduceLT, Int32.reduceLT, Int32.reduceLE, Int32.reduceAdd, Int32.reduceSub, Int32.reduceMul, Int32.reduceToNatClampNeg, not_false_eq_true, not_true_eq_false, false_implies, true_implies, Nat.zero_add, reduceIte, Nat.reduceMul, Nat.reduceEqDiff, nxa, nxc, lgn, nL_of, swx, Int.reduceAdd, gI_a, gI_k, gL_a, gL_k, gI_r, gL_r, nI_and, nI_or, nI_xor, nI_ndf, nI_shl, nI_shr, ne_eq, and_true, true_and, eq_self, true_or, or_true, false_or, or_false, Option.toList, List.cons_append, List.nil_append, List.length_nil, List.length_cons, Nat.not_lt_zero, bX7_greatestGap_67]
          exact h1 (by omega) q q2
        · refine wp_blk kX7_greatestGap_49 ?_
          simp (disch := first | decide | omega) only [mxa, vxa, vxb, vxc, vnd, vne, Nat.reduceAdd, Nat.reduceSub, Nat.reduceLeDiff, Nat.reduceLT, Int32.reduceLT, Int32.reduceLE, Int32.reduceAdd, Int32.reduceSub, Int32.reduceMul, Int32.reduceToNatClampNeg, not_false_eq_true, not_true_eq_false, false_implies, true_implies, Nat.zero_add, reduceIte, Nat.reduceMul, Nat.reduceEqDiff, nxa, nxc, lgn, nL_of, swx, Int.reduceAdd, gI_a, gI_k, gL_a, gL_k, gI_r, gL_r, nI_and, nI_or, nI_xor, nI_ndf, nI_shl, nI_shr, ne_eq, and_true, true_and, eq_self, true_or, or_true, false_or, or_false, Option.toList, List.cons_append, List.nil_append, List.length_nil, List.length_cons, Nat.not_lt_zero, bX7_greatestGap_49, kdx hs, grx hr, hm, show mxD (svD Z (O - 1)) (Z 0) ≤ Z 0 by omega]
          refine wp_blk kX7_greatestGap_66 ?_
          simp (disch := first | decide | omega) only [mxa, vxa, vxb, vxc, vnd, vne, Nat.reduceAdd, Nat.reduceSub, Nat.reduceLeDiff, Nat.reduceLT, Int32.reduceLT, Int32.reduceLE, Int32.reduceAdd, Int32.reduceSub, Int32.reduceMul, Int32.reduceToNatClampNeg, not_false_eq_true, not_true_eq_false, false_implies, true_implies, Nat.zero_add, reduceIte, Nat.reduceMul, Nat.reduceEqDiff, nxa, nxc, lgn, nL_of, swx, Int.reduceAdd, gI_a, gI_k, gL_a, gL_k, gI_r, gL_r, nI_and, nI_or, nI_xor, nI_ndf, nI_shl, nI_shr, ne_eq, and_true, true_and, eq_self, true_or, or_true, false_or, or_false, Option.toList, List.cons_append, List.nil_append, List.length_nil, List.length_cons, Nat.not_lt_zero, bX7_greatestGap_66]
          refine wp_blk kX7_greatestGap_67 ?_
          simp (disch := first | decide | omega) only [mxa, vxa, vxb, vxc, vnd, vne, Nat.reduceAdd, Nat.reduceSub, Nat.reduceLeDiff, Nat.reduceLT, Int32.reduceLT, Int32.reduceLE, Int32.reduceAdd, Int32.reduceSub, Int32.reduceMul, Int32.reduceToNatClampNeg, not_false_eq_true, not_true_eq_false, false_implies, true_implies, Nat.zero_add, reduceIte, Nat.reduceMul, Nat.reduceEqDiff, nxa, nxc, lgn, nL_of, swx, Int.reduceAdd, gI_a, gI_k, gL_a, gL_k, gI_r, gL_r, nI_and, nI_or, nI_xor, nI_ndf, nI_shl, nI_shr, ne_eq, and_true, true_and, eq_self, true_or, or_true, false_or, or_false, Option.toList, List.cons_append, List.nil_append, List.length_nil, List.length_cons, Nat.not_lt_zero, bX7_greatestGap_67]
          exact h2 (by omega) q q2
      · refine wp_blk kX7_greatestGap_40 ?_
        simp (disch := first | decide | omega) only [mxa, vxa, vxb, vxc, vnd, vne, Nat.reduceAdd, Nat.reduceSub, Nat.reduceLeDiff, Nat.reduceLT, Int32.reduceLT, Int32.reduceLE, Int32.reduceAdd, Int32.reduceSub, Int32.reduceMul, Int32.reduceToNatClampNeg, not_false_eq_true, not_true_eq_false, false_implies, true_implies, Nat.zero_add, reduceIte, Nat.reduceMul, Nat.reduceEqDiff, nxa, nxc, lgn, nL_of, swx, Int.reduceAdd, gI_a, gI_k, gL_a, gL_k, gI_r, gL_r, nI_and, nI_or, nI_xor, nI_ndf, nI_shl, nI_shr, ne_eq, and_true, true_and, eq_self, true_or, or_true, false_or, or_false, Option.toList, List.cons_append, List.nil_append, List.length_nil, List.length_cons, Nat.not_lt_zero, bX7_greatestGap_40, q]
        exact h0 (Or.inr (by omega))
theorem pr_gap (X : Cx) (d t : Nat) (σ : Mm) (hI : Inv t σ) (ht : t < 512) : Call X (d + 99) 0 0 mX9_gap [.ref 0] σ (Eq2 (t + 1) X (d + 99) mX10_gap [.ref 190]) := by
  obtain ⟨N, O, K, hG, hV⟩ := hI.2.2.2.1
  have hs := hI.2.1.1
  have hr := hI.2.1.2.1
  have hN := hG.1.1
  have hN10 := hG.1.2
  have hO := hG.2.1.1
  have hO3 := hG.2.1.2
  have e0 : gI σ 1 0 = nI N := hV.1.1.trans hN
  have e1 : gI σ 1 1 = nI O := hV.1.2.1.trans hO
  obtain ⟨o1, o2⟩ := ov_pack hI.2.1 hG hV
  refine call_of eX9_gap rfl ?_
  refine wp_blk kX9_gap_0 ?_
  simp (disch := first | decide | omega) only [mxa, vxa, vxb, vxc, vnd, vne, Nat.reduceAdd, Nat.reduceSub, Nat.reduceLeDiff, Nat.reduceLT, Int32.reduceLT, Int32.reduceLE, Int32.reduceAdd, Int32.reduceSub, Int32.reduceMul, Int32.reduceToNatClampNeg, not_false_eq_true, not_true_eq_false, false_implies, true_implies, Nat.zero_add, reduceIte, Nat.reduceMul, Nat.reduceEqDiff, nxa, nxc, lgn, nL_of, swx, Int.reduceAdd, gI_a, gI_k, gL_a, gL_k, gI_r, gL_r, nI_and, nI_or, nI_xor, nI_ndf, nI_shl, nI_shr, ne_eq, and_true, true_and, eq_self, true_or, or_true, false_or, or_false, Option.toList, List.cons_append, List.nil_append, List.length_nil, List.length_cons, Nat.not_lt_zero, bX9_gap_0, kdx hs, grx hr]
  refine c_survey7 X _ _ (zN (gI σ 191)) O hs hr o1 hO3 o2 _ (fun R hR => ?_)
  simp (disch := first | decide | omega) only [mxa, vxa, vxb, vxc, vnd, vne, Nat.reduceAdd, Nat.reduceSub, Nat.reduceLeDiff, Nat.reduceLT, Int32.reduceLT, Int32.reduceLE, Int32.reduceAdd, Int32.reduceSub, Int32.reduceMul, Int32.reduceToNatClampNeg, not_false_eq_true, not_true_eq_false, false_implies, true_implies, Nat.zero_add, reduceIte, Nat.reduceMul, Nat.reduceEqDiff, nxa, nxc, lgn, nL_of, swx, Int.reduceAdd, gI_a, gI_k, gL_a, gL_k, gI_r, gL_r, nI_and, nI_or, nI_xor, nI_ndf, nI_shl, nI_shr, ne_eq, and_true, true_and, eq_self, true_or, or_true, false_or, or_false, Option.toList, List.cons_append, List.nil_append, List.length_nil, List.length_cons, Nat.not_lt_zero, kdx hs, grx hr]
  have fr : Fr S1 σ (thr (rI (sI σ 148 1 (nI (mdl (zN (gI σ 191)) O))) 149 R)) := (Fr.sI (by unfold S1; omega)).tr ((Fr.rI (by unfold S1; omega)).tr (Fr.sI (by unfold S1; omega)))
  have r192 : ∀ k, gI (thr (rI (sI σ 148 1 (nI (mdl (zN (gI σ 191)) O))) 149 R)) 191 k = gI σ 191 k := fun k => (thr_192 _ _).trans ((gI_r (by decide)).trans (gI_a (by decide)))
  have r191 : ∀ k, k ≠ 0 → gI (thr (rI (sI σ 148 1 (nI (mdl (zN (gI σ 191)) O))) 149 R)) 190 k = gI σ 190 k := fun k hk => (gI_k hk).trans ((gI_r (by decide)).trans (gI_a (by decide)))
  have hs1 : Sh (thr (rI (sI σ 148 1 (nI (mdl (zN (gI σ 191)) O))) 149 R)) := hs
  have hr1 : Rf (thr (rI (sI σ 148 1 (nI (mdl (zN (gI σ 191)) O))) 149 R)) := hr
  have model : ∀ z : Int32, (¬ Gf (zN (gI σ 191)) O = 1 → z = -4) → (Gf (zN (gI σ 191)) O = 1 → (∃ s, s ≤ 4000 ∧ z = nI s ∧ ¬ Rc (zN (gI σ 191)) O s ∧ ∀ j, s < j → j ≤ 4000 → Rc (zN (gI σ 191)) O j) ∨ (z = -1 ∧ ∀ j, j ≤ 4000 → Rc (zN (gI σ 191)) O j)) → Eq2 (t + 1) X (d + 99) mX10_gap [.ref 190] (some (.int z)) (rI (sI σ 148 1 (nI (mdl (zN (gI σ 191)) O))) 149 R) := by
    intro z hz0 hz1
    unfold Eq2
    refine call_of eX10_gap rfl ?_
    refine wp_blk kX10_gap_0 ?_
    simp (disch := first | decide | omega) only [mxa, vxa, vxb, vxc, vnd, vne, Nat.reduceAdd, Nat.reduceSub, Nat.reduceLeDiff, Nat.reduceLT, Int32.reduceLT, Int32.reduceLE, Int32.reduceAdd, Int32.reduceSub, Int32.reduceMul, Int32.reduceToNatClampNeg, not_false_eq_true, not_true_eq_false, false_implies, true_implies, Nat.zero_add, reduceIte, Nat.reduceMul, Nat.reduceEqDiff, nxa, nxc, lgn, nL_of, swx, Int.reduceAdd, gI_a, gI_k, gL_a, gL_k, gI_r, gL_r, nI_and, nI_or, nI_xor, nI_ndf, nI_shl, nI_shr, ne_eq, and_true, true_and, eq_self, true_or, or_true, false_or, or_false, Option.toList, List.cons_append, List.nil_append, List.length_nil, List.length_cons, Nat.not_lt_zero, bX10_gap_0, kdx hs, grx hr]
    change Wp X mX10_gap _ _ _ _ _ _ _ _ (thr (rI (sI σ 148 1 (nI (mdl (zN (gI σ 191)) O))) 149 R))
    generalize thr (rI (sI σ 148 1 (nI (mdl (zN (gI σ 191)) O))) 149 R) = σ1 at fr r192 r191 hs1 hr1
    have gle : ∀ k, k ≤ O → Gf (zN (gI σ 191)) k ≤ 60 := by
      intro k hk
      cases k with
      | zero => exact Nat.zero_le _
      | succ k =>
        have z := o2 k (by omega)
        have : Gf (zN (gI σ 191)) (k + 1) ≤ zN (gI σ 191) k := Nat.le_of_dvd (by omega) (Nat.gcd_dvd_left _ _)
        omega
    refine wfor (fun k => Wp X mX10_gap (rmo (d + 99) 0 0) (d + 99) (fun r' σ2 => (∃ z' : Int32, some (Value.int z) = some (.int z') ∧ r' = some (.int z')) ∧ Inv (t + 1) σ2) 0 0 9 [some (.ref 190), some (.int (nI (Gf (zN (gI σ 191)) k))), some (.int (nI k))] [] σ1) O (fun k hk hP => ?_) ?_
    · have z := zN_ok hG hk
      have g := gle k (by omega)
      refine wp_blk kX10_gap_9 ?_
      simp (disch := first | decide | omega) only [mxa, vxa, vxb, vxc, vnd, vne, Nat.reduceAdd, Nat.reduceSub, Nat.reduceLeDiff, Nat.reduceLT, Int32.reduceLT, Int32.reduceLE, Int32.reduceAdd, Int32.reduceSub, Int32.reduceMul, Int32.reduceToNatClampNeg, not_false_eq_true, not_true_eq_false, false_implies, true_implies, Nat.zero_add, reduceIte, Nat.reduceMul, Nat.reduceEqDiff, nxa, nxc, lgn, nL_of, swx, Int.reduceAdd, gI_a, gI_k, gL_a, gL_k, gI_r, gL_r, nI_and, nI_or, nI_xor, nI_ndf, nI_shl, nI_shr, ne_eq, and_true, true_and, eq_self, true_or, or_true, false_or, or_false, Option.toList, List.cons_append, List.nil_append, List.length_nil, List.length_cons, Nat.not_lt_zero, bX10_gap_9, kdx hs1, grx hr1, r192, hO, z.1, show ¬ O ≤ k by omega]
      refine c_common X _ (Gf (zN (gI σ 191)) k) (zN (gI σ 191) k) (d + 98) (by omega) (by omega) (by omega) _ ?_
      simp (disch := first | decide | omega) only [mxa, vxa, vxb, vxc, vnd, vne, Nat.reduceAdd, Nat.reduceSub, Nat.reduceLeDiff, Nat.reduceLT, Int32.reduceLT, Int32.reduceLE, Int32.reduceAdd, Int32.reduceSub, Int32.reduceMul, Int32.reduceToNatClampNeg, not_false_eq_true, not_true_eq_false, false_implies, true_implies, Nat.zero_add, reduceIte, Nat.reduceMul, Nat.reduceEqDiff, nxa, nxc, lgn, nL_of, swx, Int.reduceAdd, gI_a, gI_k, gL_a, gL_k, gI_r, gL_r, nI_and, nI_or, nI_xor, nI_ndf, nI_shl, nI_shr, ne_eq, and_true, true_and, eq_self, true_or, or_true, false_or, or_false, Option.toList, List.cons_append, List.nil_append, List.length_nil, List.length_cons, Nat.not_lt_zero]
      exact hP
    · have g := gle O (Nat.le_refl _)
      refine wp_blk kX10_gap_9 ?_
      simp (disch := first | decide | omega) only [mxa, vxa, vxb, vxc, vnd, vne, Nat.reduceAdd, Nat.reduceSub, Nat.reduceLeDiff, Nat.reduceLT, Int32.reduceLT, Int32.reduceLE, Int32.reduceAdd, Int32.reduceSub, Int32.reduceMul, Int32.reduceToNatClampNeg, not_false_eq_true, not_true_eq_false, false_implies, true_implies, Nat.zero_add, reduceIte, Nat.reduceMul, Nat.reduceEqDiff, nxa, nxc, lgn, nL_of, swx, Int.reduceAdd, gI_a, gI_k, gL_a, gL_k, gI_r, gL_r, nI_and, nI_or, nI_xor, nI_ndf, nI_shl, nI_shr, ne_eq, and_true, true_and, eq_self, true_or, or_true, false_or, or_false, Option.toList, List.cons_append, List.nil_append, List.length_nil, List.length_cons, Nat.not_lt_zero, bX10_gap_9, kdx hs1, grx hr1, r192, hO, Nat.le_refl]
      by_cases h1 : Gf (zN (gI σ 191)) O = 1
      · refine wp_blk kX10_gap_39 ?_
        simp (disch := first | decide | omega) only [mxa, vxa, vxb, vxc, vnd, vne, Nat.reduceAdd, Nat.reduceSub, Nat.reduceLeDiff, Nat.reduceLT, Int32.reduceLT, Int32.reduceLE, Int32.reduceAdd, Int32.reduceSub, Int32.reduceMul, Int32.reduceToNatClampNeg, not_false_eq_true, not_true_eq_false, false_implies, true_implies, Nat.zero_add, reduceIte, Nat.reduceMul, Nat.reduceEqDiff, nxa, nxc, lgn, nL_of, swx, Int.reduceAdd, gI_a, gI_k, gL_a, gL_k, gI_r, gL_r, nI_and, nI_or, nI_xor, nI_ndf, nI_shl, nI_shr, ne_eq, and_true, true_and, eq_self, true_or, or_true, false_or, or_false, Option.toList, List.cons_append, List.nil_append, List.length_nil, List.length_cons, Nat.not_lt_zero, bX10_gap_39, h1]
        refine wp_blk kX10_gap_47 ?_
        simp (disch := first | decide | omega) only [mxa, vxa, vxb, vxc, vnd, vne, Nat.reduceAdd, Nat.reduceSub, Nat.reduceLeDiff, Nat.reduceLT, Int32.reduceLT, Int32.reduceLE, Int32.reduceAdd, Int32.reduceSub, Int32.reduceMul, Int32.reduceToNatClampNeg, not_false_eq_true, not_true_eq_false, false_implies, true_implies, Nat.zero_add, reduceIte, Nat.reduceMul, Nat.reduceEqDiff, nxa, nxc, lgn, nL_of, swx, Int.reduceAdd, gI_a, gI_k, gL_a, gL_k, gI_r, gL_r, nI_and, nI_or, nI_xor, nI_ndf, nI_shl, nI_shr, ne_eq, and_true, true_and, eq_self, true_or, or_true, false_or, or_false, Option.toList, List.cons_append, List.nil_append, List.length_nil, List.length_cons, Nat.not_lt_zero, bX10_gap_47, kdx hs1]
        refine c_laysSums X _ _ (zN (gI σ 191)) O hs1 hr1 ((r192 1).trans hO) hO3 (fun o ho => ⟨(r192 _).trans (zN_ok hG ho).1, (zN_ok hG ho).2⟩) _ (fun R1 R2 h1' h2 => ?_)
        simp (disch := first | decide | omega) only [mxa, vxa, vxb, vxc, vnd, vne, Nat.reduceAdd, Nat.reduceSub, Nat.reduceLeDiff, Nat.reduceLT, Int32.reduceLT, Int32.reduceLE, Int32.reduceAdd, Int32.reduceSub, Int32.reduceMul, Int32.reduceToNatClampNeg, not_false_eq_true, not_true_eq_false, false_implies, true_implies, Nat.zero_add, reduceIte, Nat.reduceMul, Nat.reduceEqDiff, nxa, nxc, lgn, nL_of, swx, Int.reduceAdd, gI_a, gI_k, gL_a, gL_k, gI_r, gL_r, nI_and, nI_or, nI_xor, nI_ndf, nI_shl, nI_shr, ne_eq, and_true, true_and, eq_self, true_or, or_true, false_or, or_false, Option.toList, List.cons_append, List.nil_append, List.length_nil, List.length_cons, Nat.not_lt_zero]
        have fin : Inv (t + 1) (rI (rI σ1 198 R1) 199 R2) := hI.read ht (fr.tr ((Fr.rI (by unfold S1; omega)).tr (Fr.rI (by unfold S1; omega)))) ⟨by rw [gI_r (by decide), gI_r (by decide)]; exact r191 5 (by decide), by rw [gI_r (by decide), gI_r (by decide)]; exact r191 13 (by decide), by rw [gI_r (by decide), gI_r (by decide)]; exact r191 14 (by decide)⟩
        have wpos : ∀ j, j ≤ 4000 → Rc (zN (gI σ 191)) O j → ¬ wy (zN (gI σ 191)) O j ≤ 0 := fun j hj q => by
          have := (wy_pos (Z := zN (gI σ 191)) O j (fun o h => (o2 o h).2.1)).mpr q
          omega
        have wbd : ∀ j, j ≤ 4000 → wy (zN (gI σ 191)) O j ≤ 20000000 := fun j hj => wy_bd (Z := zN (gI σ 191)) hO3 (fun o h => (o2 o h).2.1) j hj
        rcases hz1 h1 with ⟨s, q1, rfl, q3, q4⟩ | ⟨rfl, q2⟩
        · have loop : ∀ n, s < n → n ≤ 4001 → Wp X mX10_gap (rmo (d + 99) 0 0) (d + 99) (fun r' σ2 => (∃ z' : Int32, some (Value.int (nI s)) = some (.int z') ∧ r' = some (.int z')) ∧ Inv (t + 1) σ2) 0 0 55 [some (.ref 190), some (.int (nI 1)), some (.int (nI n + (-1)))] [] (rI (rI σ1 198 R1) 199 R2) := by
            intro n
            induction n with
            | zero => intro h; omega
            | succ n ih =>
              intro h hn
              rw [dn]
              have wb := wbd n (by omega)
              by_cases e : n = s
              · have w0 : wy (zN (gI σ 191)) O s ≤ 0 := by
                  rcases Nat.eq_zero_or_pos (wy (zN (gI σ 191)) O s) with q | q
                  · omega
                  · exact absurd ((wy_pos (Z := zN (gI σ 191)) O s (fun o h => (o2 o h).2.1)).mp q) q3
                rw [e]
                refine wp_blk kX10_gap_55 ?_
                simp (disch := first | decide | omega) only [mxa, vxa, vxb, vxc, vnd, vne, Nat.reduceAdd, Nat.reduceSub, Nat.reduceLeDiff, Nat.reduceLT, Int32.reduceLT, Int32.reduceLE, Int32.reduceAdd, Int32.reduceSub, Int32.reduceMul, Int32.reduceToNatClampNeg, not_false_eq_true, not_true_eq_false, false_implies, true_implies, Nat.zero_add, reduceIte, Nat.reduceMul, Nat.reduceEqDiff, nxa, nxc, lgn, nL_of, swx, Int.reduceAdd, gI_a, gI_k, gL_a, gL_k, gI_r, gL_r, nI_and, nI_or, nI_xor, nI_ndf, nI_shl, nI_shr, ne_eq, and_true, true_and, eq_self, true_or, or_true, false_or, or_false, Option.toList, List.cons_append, List.nil_append, List.length_nil, List.length_cons, Nat.not_lt_zero, bX10_gap_55, kdx hs1, grx hr1, h2 s q1, w0]
                refine wp_blk kX10_gap_74 ?_
                simp (disch := first | decide | omega) only [mxa, vxa, vxb, vxc, vnd, vne, Nat.reduceAdd, Nat.reduceSub, Nat.reduceLeDiff, Nat.reduceLT, Int32.reduceLT, Int32.reduceLE, Int32.reduceAdd, Int32.reduceSub, Int32.reduceMul, Int32.reduceToNatClampNeg, not_false_eq_true, not_true_eq_false, false_implies, true_implies, Nat.zero_add, reduceIte, Nat.reduceMul, Nat.reduceEqDiff, nxa, nxc, lgn, nL_of, swx, Int.reduceAdd, gI_a, gI_k, gL_a, gL_k, gI_r, gL_r, nI_and, nI_or, nI_xor, nI_ndf, nI_shl, nI_shr, ne_eq, and_true, true_and, eq_self, true_or, or_true, false_or, or_false, Option.toList, List.cons_append, List.nil_append, List.length_nil, List.length_cons, Nat.not_lt_zero, bX10_gap_74]
                exact ⟨⟨_, rfl, rfl⟩, fin⟩
              · refine wp_blk kX10_gap_55 ?_
                simp (disch := first | decide | omega) only [mxa, vxa, vxb, vxc, vnd, vne, Nat.reduceAdd, Nat.reduceSub, Nat.reduceLeDiff, Nat.reduceLT, Int32.reduceLT, Int32.reduceLE, Int32.reduceAdd, Int32.reduceSub, Int32.reduceMul, Int32.reduceToNatClampNeg, not_false_eq_true, not_true_eq_false, false_implies, true_implies, Nat.zero_add, reduceIte, Nat.reduceMul, Nat.reduceEqDiff, nxa, nxc, lgn, nL_of, swx, Int.reduceAdd, gI_a, gI_k, gL_a, gL_k, gI_r, gL_r, nI_and, nI_or, nI_xor, nI_ndf, nI_shl, nI_shr, ne_eq, and_true, true_and, eq_self, true_or, or_true, false_or, or_false, Option.toList, List.cons_append, List.nil_append, List.length_nil, List.length_cons, Nat.not_lt_zero, bX10_gap_55, kdx hs1, grx hr1, h2 n (by omega), wpos n (by omega) (q4 n (by omega) (by omega))]
                exact ih (by omega) (by omega)
          have := loop 4001 (by omega) (by omega)
          rw [show nI 4001 + (-1) = nI 4000 from dn 4000] at this
          exact this
        · have loop : ∀ n, n ≤ 4001 → Wp X mX10_gap (rmo (d + 99) 0 0) (d + 99) (fun r' σ2 => (∃ z' : Int32, some (Value.int (-1)) = some (.int z') ∧ r' = some (.int z')) ∧ Inv (t + 1) σ2) 0 0 55 [some (.ref 190), some (.int (nI 1)), some (.int (nI n + (-1)))] [] (rI (rI σ1 198 R1) 199 R2) := by
            intro n
            induction n with
            | zero =>
              intro _
              rw [show nI 0 + (-1) = (-1 : Int32) from by decide]
              refine wp_blk kX10_gap_55 ?_
              simp (disch := first | decide | omega) only [mxa, vxa, vxb, vxc, vnd, vne, Nat.reduceAdd, Nat.reduceSub, Nat.reduceLeDiff, Nat.reduceLT, Int32.reduceLT, Int32.reduceLE, Int32.reduceAdd, Int32.reduceSub, Int32.reduceMul, Int32.reduceToNatClampNeg, not_false_eq_true, not_true_eq_false, false_implies, true_implies, Nat.zero_add, reduceIte, Nat.reduceMul, Nat.reduceEqDiff, nxa, nxc, lgn, nL_of, swx, Int.reduceAdd, gI_a, gI_k, gL_a, gL_k, gI_r, gL_r, nI_and, nI_or, nI_xor, nI_ndf, nI_shl, nI_shr, ne_eq, and_true, true_and, eq_self, true_or, or_true, false_or, or_false, Option.toList, List.cons_append, List.nil_append, List.length_nil, List.length_cons, Nat.not_lt_zero, bX10_gap_55, show ((-1 : Int32) < nI 0) = True from eq_true (by decide)]
              refine wp_blk kX10_gap_74 ?_
              simp (disch := first | decide | omega) only [mxa, vxa, vxb, vxc, vnd, vne, Nat.reduceAdd, Nat.reduceSub, Nat.reduceLeDiff, Nat.reduceLT, Int32.reduceLT, Int32.reduceLE, Int32.reduceAdd, Int32.reduceSub, Int32.reduceMul, Int32.reduceToNatClampNeg, not_false_eq_true, not_true_eq_false, false_implies, true_implies, Nat.zero_add, reduceIte, Nat.reduceMul, Nat.reduceEqDiff, nxa, nxc, lgn, nL_of, swx, Int.reduceAdd, gI_a, gI_k, gL_a, gL_k, gI_r, gL_r, nI_and, nI_or, nI_xor, nI_ndf, nI_shl, nI_shr, ne_eq, and_true, true_and, eq_self, true_or, or_true, false_or, or_false, Option.toList, List.cons_append, List.nil_append, List.length_nil, List.length_cons, Nat.not_lt_zero, bX10_gap_74]
              exact ⟨⟨_, rfl, rfl⟩, fin⟩
            | succ n ih =>
              intro hn
              rw [dn]
              have wb := wbd n (by omega)
              refine wp_blk kX10_gap_55 ?_
              simp (disch := first | decide | omega) only [mxa, vxa, vxb, vxc, vnd, vne, Nat.reduceAdd, Nat.reduceSub, Nat.reduceLeDiff, Nat.reduceLT, Int32.reduceLT, Int32.reduceLE, Int32.reduceAdd, Int32.reduceSub, Int32.reduceMul, Int32.reduceToNatClampNeg, not_false_eq_true, not_true_eq_false, false_implies, true_implies, Nat.zero_add, reduceIte, Nat.reduceMul, Nat.reduceEqDiff, nxa, nxc, lgn, nL_of, swx, Int.reduceAdd, gI_a, gI_k, gL_a, gL_k, gI_r, gL_r, nI_and, nI_or, nI_xor, nI_ndf, nI_shl, nI_shr, ne_eq, and_true, true_and, eq_self, true_or, or_true, false_or, or_false, Option.toList, List.cons_append, List.nil_append, List.length_nil, List.length_cons, Nat.not_lt_zero, bX10_gap_55, kdx hs1, grx hr1, h2 n (by omega), wpos n (by omega) (q2 n (by omega))]
              exact ih (by omega)
          have := loop 4001 (by omega)
          rw [show nI 4001 + (-1) = nI 4000 from dn 4000] at this
          exact this
      · refine wp_blk kX10_gap_39 ?_
        simp (disch := first | decide | omega) only [mxa, vxa, vxb, vxc, vnd, vne, Nat.reduceAdd, Nat.reduceSub, Nat.reduceLeDiff, Nat.reduceLT, Int32.reduceLT, Int32.reduceLE, Int32.reduceAdd, Int32.reduceSub, Int32.reduceMul, Int32.reduceToNatClampNeg, not_false_eq_true, not_true_eq_false, false_implies, true_implies, Nat.zero_add, reduceIte, Nat.reduceMul, Nat.reduceEqDiff, nxa, nxc, lgn, nL_of, swx, Int.reduceAdd, gI_a, gI_k, gL_a, gL_k, gI_r, gL_r, nI_and, nI_or, nI_xor, nI_ndf, nI_shl, nI_shr, ne_eq, and_true, true_and, eq_self, true_or, or_true, false_or, or_false, Option.toList, List.cons_append, List.nil_append, List.length_nil, List.length_cons, Nat.not_lt_zero, bX10_gap_39, h1]
        refine ⟨⟨_, rfl, by rw [hz0 h1]⟩, hI.read ht fr ⟨r191 5 (by decide), r191 13 (by decide), r191 14 (by decide)⟩⟩
  refine c_greatestGap X _ _ (zN (gI σ 191)) O R (by exact hs) (by exact hr) (gI_same _ _ _ _) (fun q => (o2 0 q).2) hR _ (fun q => ?_) (fun q1 q2 q3 => ?_) (fun q1 q2 q3 => ?_)
  · simp (disch := first | decide | omega) only [mxa, vxa, vxb, vxc, vnd, vne, Nat.reduceAdd, Nat.reduceSub, Nat.reduceLeDiff, Nat.reduceLT, Int32.reduceLT, Int32.reduceLE, Int32.reduceAdd, Int32.reduceSub, Int32.reduceMul, Int32.reduceToNatClampNeg, not_false_eq_true, not_true_eq_false, false_implies, true_implies, Nat.zero_add, reduceIte, Nat.reduceMul, Nat.reduceEqDiff, nxa, nxc, lgn, nL_of, swx, Int.reduceAdd, gI_a, gI_k, gL_a, gL_k, gI_r, gL_r, nI_and, nI_or, nI_xor, nI_ndf, nI_shl, nI_shr, ne_eq, and_true, true_and, eq_self, true_or, or_true, false_or, or_false, Option.toList, List.cons_append, List.nil_append, List.length_nil, List.length_cons, Nat.not_lt_zero]
    refine model (-4) (fun _ => rfl) (fun hg => ?_)
    exfalso
    rcases q with q | q
    · subst q
      exact absurd (show (0 : Nat) = 1 from hg) (by decide)
    · by_cases hO0 : O = 0
      · subst hO0
        exact absurd (show (0 : Nat) = 1 from hg) (by decide)
      · have := (gap_yes (by omega) hO3 (fun o h => (o2 o h).2) hg).1
        omega
  · have hg : Gf (zN (gI σ 191)) O = 1 := by
      by_cases h : Gf (zN (gI σ 191)) O = 1
      · exact h
      · have := gap_no (by omega) (fun o h => (o2 o h).2) h
        omega
    obtain ⟨y1, y2⟩ := gap_yes (by omega) hO3 (fun o h => (o2 o h).2) hg
    simp (disch := first | decide | omega) only [mxa, vxa, vxb, vxc, vnd, vne, Nat.reduceAdd, Nat.reduceSub, Nat.reduceLeDiff, Nat.reduceLT, Int32.reduceLT, Int32.reduceLE, Int32.reduceAdd, Int32.reduceSub, Int32.reduceMul, Int32.reduceToNatClampNeg, not_false_eq_true, not_true_eq_false, false_implies, true_implies, Nat.zero_add, reduceIte, Nat.reduceMul, Nat.reduceEqDiff, nxa, nxc, lgn, nL_of, swx, Int.reduceAdd, gI_a, gI_k, gL_a, gL_k, gI_r, gL_r, nI_and, nI_or, nI_xor, nI_ndf, nI_shl, nI_shr, ne_eq, and_true, true_and, eq_self, true_or, or_true, false_or, or_false, Option.toList, List.cons_append, List.nil_append, List.length_nil, List.length_cons, Nat.not_lt_zero]
    refine model _ (fun q => absurd hg q) (fun _ => Or.inl ⟨_, by omega, rfl, ?_, fun j h1 h2 => ?_⟩)
    · rcases y2 (mxD (svD (zN (gI σ 191)) (O - 1)) (zN (gI σ 191) 0) - zN (gI σ 191) 0) (by omega) with h | h | h
      · intro q
        have := h.mp q
        omega
      · omega
      · omega
    · rcases y2 j h2 with h | h | h
      · exact h.mpr (Or.inr h1)
      · omega
      · omega
  · have hg : Gf (zN (gI σ 191)) O = 1 := by
      by_cases h : Gf (zN (gI σ 191)) O = 1
      · exact h
      · have := gap_no (by omega) (fun o h => (o2 o h).2) h
        omega
    obtain ⟨y1, y2⟩ := gap_yes (by omega) hO3 (fun o h => (o2 o h).2) hg
    simp (disch := first | decide | omega) only [mxa, vxa, vxb, vxc, vnd, vne, Nat.reduceAdd, Nat.reduceSub, Nat.reduceLeDiff, Nat.reduceLT, Int32.reduceLT, Int32.reduceLE, Int32.reduceAdd, Int32.reduceSub, Int32.reduceMul, Int32.reduceToNatClampNeg, not_false_eq_true, not_true_eq_false, false_implies, true_implies, Nat.zero_add, reduceIte, Nat.reduceMul, Nat.reduceEqDiff, nxa, nxc, lgn, nL_of, swx, Int.reduceAdd, gI_a, gI_k, gL_a, gL_k, gI_r, gL_r, nI_and, nI_or, nI_xor, nI_ndf, nI_shl, nI_shr, ne_eq, and_true, true_and, eq_self, true_or, or_true, false_or, or_false, Option.toList, List.cons_append, List.nil_append, List.length_nil, List.length_cons, Nat.not_lt_zero]
    refine model _ (fun q => absurd hg q) (fun _ => Or.inr ⟨rfl, fun j h2 => ?_⟩)
    rcases y2 j h2 with h | h | h
    · exact h.mpr (Or.inl q3)
    · omega
    · omega
