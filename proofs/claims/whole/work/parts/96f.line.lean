/-! lines: the class -/
set_option maxRecDepth 20000
theorem CT.mv {σ τ : Mm} {n b : Nat} {B : Nat → Nat} (h : CT σ n B b) (e : ∀ j, 5 ≤ j → gI τ 144 j = gI σ 144 j) : CT τ n B b := ⟨(e 7 (by omega)).trans h.1, (e 8 (by omega)).trans h.2.1, (e 5 (by omega)).trans h.2.2.1, fun q => (e 6 (by omega)).trans (h.2.2.2 q)⟩
theorem cc_is {k j : Nat} (hk : k ≤ 12) (hj : 9 ≤ j ∧ j ≤ 12) : cc k = cc j ↔ k = j := cc_inj k hk j hj.2 hj.1
theorem c_blame0 (X : Cx) (d : Nat) (τ : Mm) (n b k : Nat) (B : Nat → Nat) (hs : Sh τ) (hC : CT τ n B b) (h0 : gI τ 144 1 = nI 0) (hk : k ≤ 9) (Q : Po) (hQ : Q none (sI (sI τ 144 1 (nI (fT n B b k))) 144 2 (nI (tP n B b)))) : Call X d 0 0 mX5_blame [.ref 144, .int (nI k)] τ Q := by
  obtain ⟨kl, -⟩ := tK_le (n := n) (B := B) (b := b)
  have cl := cc_le _ kl
  unfold fT at hQ
  by_cases h : tK n B b = 12
  · rw [if_pos h] at hQ
    have c1 : cc (tK n B b) = 5 := by rw [h]; rfl
    refine call_of eX5_blame rfl ?_
    refine wp_blk kX5_blame_0 ?_
    simp (disch := first | decide | omega) only [mxa, vxa, vxb, vxc, vnd, vne, Nat.reduceAdd, Nat.reduceSub, Nat.reduceLeDiff, Nat.reduceLT, Int32.reduceLT, Int32.reduceLE, Int32.reduceAdd, Int32.reduceSub, Int32.reduceMul, Int32.reduceToNatClampNeg, not_false_eq_true, not_true_eq_false, false_implies, true_implies, Nat.zero_add, reduceIte, Nat.reduceMul, Nat.reduceEqDiff, nxa, nxc, lgn, nL_of, swx, Int.reduceAdd, gI_a, gI_k, gL_a, gL_k, gI_r, gL_r, nI_and, nI_or, nI_xor, nI_ndf, nI_shl, nI_shr, ne_eq, and_true, true_and, eq_self, true_or, or_true, false_or, or_false, Option.toList, List.cons_append, List.nil_append, List.length_nil, List.length_cons, Nat.not_lt_zero, bX5_blame_0, kdx hs, h0, hC.2.2.1, c1]
    refine wp_blk kX5_blame_21 ?_
    simp (disch := first | decide | omega) only [mxa, vxa, vxb, vxc, vnd, vne, Nat.reduceAdd, Nat.reduceSub, Nat.reduceLeDiff, Nat.reduceLT, Int32.reduceLT, Int32.reduceLE, Int32.reduceAdd, Int32.reduceSub, Int32.reduceMul, Int32.reduceToNatClampNeg, not_false_eq_true, not_true_eq_false, false_implies, true_implies, Nat.zero_add, reduceIte, Nat.reduceMul, Nat.reduceEqDiff, nxa, nxc, lgn, nL_of, swx, Int.reduceAdd, gI_a, gI_k, gL_a, gL_k, gI_r, gL_r, nI_and, nI_or, nI_xor, nI_ndf, nI_shl, nI_shr, ne_eq, and_true, true_and, eq_self, true_or, or_true, false_or, or_false, Option.toList, List.cons_append, List.nil_append, List.length_nil, List.length_cons, Nat.not_lt_zero, bX5_blame_21, kdx hs, hC.1]
    refine wp_blk kX5_blame_32 ?_
    simp (disch := first | decide | omega) only [mxa, vxa, vxb, vxc, vnd, vne, Nat.reduceAdd, Nat.reduceSub, Nat.reduceLeDiff, Nat.reduceLT, Int32.reduceLT, Int32.reduceLE, Int32.reduceAdd, Int32.reduceSub, Int32.reduceMul, Int32.reduceToNatClampNeg, not_false_eq_true, not_true_eq_false, false_implies, true_implies, Nat.zero_add, reduceIte, Nat.reduceMul, Nat.reduceEqDiff, nxa, nxc, lgn, nL_of, swx, Int.reduceAdd, gI_a, gI_k, gL_a, gL_k, gI_r, gL_r, nI_and, nI_or, nI_xor, nI_ndf, nI_shl, nI_shr, ne_eq, and_true, true_and, eq_self, true_or, or_true, false_or, or_false, Option.toList, List.cons_append, List.nil_append, List.length_nil, List.length_cons, Nat.not_lt_zero, bX5_blame_32]
    exact hQ
  · rw [if_neg h] at hQ
    have c1 : ¬ cc (tK n B b) = 5 := fun q => h ((cc_is kl (show 9 ≤ 12 ∧ 12 ≤ 12 by omega)).mp (q.trans rfl))
    refine call_of eX5_blame rfl ?_
    refine wp_blk kX5_blame_0 ?_
    simp (disch := first | decide | omega) only [mxa, vxa, vxb, vxc, vnd, vne, Nat.reduceAdd, Nat.reduceSub, Nat.reduceLeDiff, Nat.reduceLT, Int32.reduceLT, Int32.reduceLE, Int32.reduceAdd, Int32.reduceSub, Int32.reduceMul, Int32.reduceToNatClampNeg, not_false_eq_true, not_true_eq_false, false_implies, true_implies, Nat.zero_add, reduceIte, Nat.reduceMul, Nat.reduceEqDiff, nxa, nxc, lgn, nL_of, swx, Int.reduceAdd, gI_a, gI_k, gL_a, gL_k, gI_r, gL_r, nI_and, nI_or, nI_xor, nI_ndf, nI_shl, nI_shr, ne_eq, and_true, true_and, eq_self, true_or, or_true, false_or, or_false, Option.toList, List.cons_append, List.nil_append, List.length_nil, List.length_cons, Nat.not_lt_zero, bX5_blame_0, kdx hs, h0, hC.2.2.1, c1]
    refine wp_blk kX5_blame_20 ?_
    simp (disch := first | decide | omega) only [mxa, vxa, vxb, vxc, vnd, vne, Nat.reduceAdd, Nat.reduceSub, Nat.reduceLeDiff, Nat.reduceLT, Int32.reduceLT, Int32.reduceLE, Int32.reduceAdd, Int32.reduceSub, Int32.reduceMul, Int32.reduceToNatClampNeg, not_false_eq_true, not_true_eq_false, false_implies, true_implies, Nat.zero_add, reduceIte, Nat.reduceMul, Nat.reduceEqDiff, nxa, nxc, lgn, nL_of, swx, Int.reduceAdd, gI_a, gI_k, gL_a, gL_k, gI_r, gL_r, nI_and, nI_or, nI_xor, nI_ndf, nI_shl, nI_shr, ne_eq, and_true, true_and, eq_self, true_or, or_true, false_or, or_false, Option.toList, List.cons_append, List.nil_append, List.length_nil, List.length_cons, Nat.not_lt_zero, bX5_blame_20]
    refine wp_blk kX5_blame_21 ?_
    simp (disch := first | decide | omega) only [mxa, vxa, vxb, vxc, vnd, vne, Nat.reduceAdd, Nat.reduceSub, Nat.reduceLeDiff, Nat.reduceLT, Int32.reduceLT, Int32.reduceLE, Int32.reduceAdd, Int32.reduceSub, Int32.reduceMul, Int32.reduceToNatClampNeg, not_false_eq_true, not_true_eq_false, false_implies, true_implies, Nat.zero_add, reduceIte, Nat.reduceMul, Nat.reduceEqDiff, nxa, nxc, lgn, nL_of, swx, Int.reduceAdd, gI_a, gI_k, gL_a, gL_k, gI_r, gL_r, nI_and, nI_or, nI_xor, nI_ndf, nI_shl, nI_shr, ne_eq, and_true, true_and, eq_self, true_or, or_true, false_or, or_false, Option.toList, List.cons_append, List.nil_append, List.length_nil, List.length_cons, Nat.not_lt_zero, bX5_blame_21, kdx hs, hC.1]
    refine wp_blk kX5_blame_32 ?_
    simp (disch := first | decide | omega) only [mxa, vxa, vxb, vxc, vnd, vne, Nat.reduceAdd, Nat.reduceSub, Nat.reduceLeDiff, Nat.reduceLT, Int32.reduceLT, Int32.reduceLE, Int32.reduceAdd, Int32.reduceSub, Int32.reduceMul, Int32.reduceToNatClampNeg, not_false_eq_true, not_true_eq_false, false_implies, true_implies, Nat.zero_add, reduceIte, Nat.reduceMul, Nat.reduceEqDiff, nxa, nxc, lgn, nL_of, swx, Int.reduceAdd, gI_a, gI_k, gL_a, gL_k, gI_r, gL_r, nI_and, nI_or, nI_xor, nI_ndf, nI_shl, nI_shr, ne_eq, and_true, true_and, eq_self, true_or, or_true, false_or, or_false, Option.toList, List.cons_append, List.nil_append, List.length_nil, List.length_cons, Nat.not_lt_zero, bX5_blame_32]
    exact hQ
theorem c_blameF (X : Cx) (d : Nat) (τ : Mm) (k f : Nat) (hs : Sh τ) (h0 : gI τ 144 1 = nI f) (hf : 1 ≤ f) (hf4 : f ≤ 4) (Q : Po) (hQ : Q none τ) : Call X d 0 0 mX5_blame [.ref 144, .int (nI k)] τ Q := by
  refine call_of eX5_blame rfl ?_
  refine wp_blk kX5_blame_0 ?_
  simp (disch := first | decide | omega) only [mxa, vxa, vxb, vxc, vnd, vne, Nat.reduceAdd, Nat.reduceSub, Nat.reduceLeDiff, Nat.reduceLT, Int32.reduceLT, Int32.reduceLE, Int32.reduceAdd, Int32.reduceSub, Int32.reduceMul, Int32.reduceToNatClampNeg, not_false_eq_true, not_true_eq_false, false_implies, true_implies, Nat.zero_add, reduceIte, Nat.reduceMul, Nat.reduceEqDiff, nxa, nxc, lgn, nL_of, swx, Int.reduceAdd, gI_a, gI_k, gL_a, gL_k, gI_r, gL_r, nI_and, nI_or, nI_xor, nI_ndf, nI_shl, nI_shr, ne_eq, and_true, true_and, eq_self, true_or, or_true, false_or, or_false, Option.toList, List.cons_append, List.nil_append, List.length_nil, List.length_cons, Nat.not_lt_zero, bX5_blame_0, kdx hs, h0, show ¬ f = 0 by omega]
  refine wp_blk kX5_blame_32 ?_
  simp (disch := first | decide | omega) only [mxa, vxa, vxb, vxc, vnd, vne, Nat.reduceAdd, Nat.reduceSub, Nat.reduceLeDiff, Nat.reduceLT, Int32.reduceLT, Int32.reduceLE, Int32.reduceAdd, Int32.reduceSub, Int32.reduceMul, Int32.reduceToNatClampNeg, not_false_eq_true, not_true_eq_false, false_implies, true_implies, Nat.zero_add, reduceIte, Nat.reduceMul, Nat.reduceEqDiff, nxa, nxc, lgn, nL_of, swx, Int.reduceAdd, gI_a, gI_k, gL_a, gL_k, gI_r, gL_r, nI_and, nI_or, nI_xor, nI_ndf, nI_shl, nI_shr, ne_eq, and_true, true_and, eq_self, true_or, or_true, false_or, or_false, Option.toList, List.cons_append, List.nil_append, List.length_nil, List.length_cons, Nat.not_lt_zero, bX5_blame_32]
  exact hQ
theorem c_numY (X : Cx) (d : Nat) (τ : Mm) (n b lo H : Nat) (hi : Int32) (B : Nat → Nat) (hs : Sh τ) (hr : Rf τ) (hT : TX τ n B) (hb : b ≤ n) (hC : CT τ n B b) (hlo : lo ≤ 999) (cle : ∀ v, v ≤ 999 → (nI v ≤ hi ↔ v < H)) (h0 : gI τ 144 1 = nI 0) (Q : Po) (hy : okNum n B b lo H → ∀ τ2 : Mm, FrT τ τ2 → CT τ2 n B (tD n B b) → Q (some (.int (nI (vN n B b)))) τ2) (hn : ¬ okNum n B b lo H → Q (some (.int (nI 0))) (sI (sI τ 144 1 (nI (nFt n B b))) 144 2 (nI (tP n B b)))) : Call X (d + 8) 0 0 mX5_readNumber [.ref 144, .int (nI lo), .int hi] τ Q := by
  obtain ⟨kl, -, k9, -⟩ := tK_le (n := n) (B := B) (b := b)
  obtain ⟨e1, e2, e3⟩ := tE_le (B := B) hb
  have cl := cc_le _ kl
  by_cases h : tK n B b = 9
  · have c1 : cc (tK n B b) = 3 := by rw [h]; rfl
    have v9 := vN_le hb (k9 h).1
    have v5 := hC.2.2.2 h
    have nf : nFt n B b = 3 := by unfold nFt; rw [if_neg (by omega), if_pos h]
    have f3 : fT n B b 3 = 3 := by unfold fT; rw [if_neg (by omega)]
    have bad : ¬ okNum n B b lo H → Wp X mX5_readNumber (rmo (d + 8) 0 0) (d + 8) Q 0 0 31 [some (.ref 144), some (.int (nI lo)), some (.int hi), none] [] τ := fun z => by
      have q := hn z
      rw [nf] at q
      refine wp_blk kX5_readNumber_31 ?_
      simp (disch := first | decide | omega) only [mxa, vxa, vxb, vxc, vnd, vne, Nat.reduceAdd, Nat.reduceSub, Nat.reduceLeDiff, Nat.reduceLT, Int32.reduceLT, Int32.reduceLE, Int32.reduceAdd, Int32.reduceSub, Int32.reduceMul, Int32.reduceToNatClampNeg, not_false_eq_true, not_true_eq_false, false_implies, true_implies, Nat.zero_add, reduceIte, Nat.reduceMul, Nat.reduceEqDiff, nxa, nxc, lgn, nL_of, swx, Int.reduceAdd, gI_a, gI_k, gL_a, gL_k, gI_r, gL_r, nI_and, nI_or, nI_xor, nI_ndf, nI_shl, nI_shr, ne_eq, and_true, true_and, eq_self, true_or, or_true, false_or, or_false, Option.toList, List.cons_append, List.nil_append, List.length_nil, List.length_cons, Nat.not_lt_zero, bX5_readNumber_31, kdx hs, grx hr]
      refine c_blame0 X _ τ n b 3 B hs hC h0 (by omega) _ ?_
      rw [f3]
      simp (disch := first | decide | omega) only [mxa, vxa, vxb, vxc, vnd, vne, Nat.reduceAdd, Nat.reduceSub, Nat.reduceLeDiff, Nat.reduceLT, Int32.reduceLT, Int32.reduceLE, Int32.reduceAdd, Int32.reduceSub, Int32.reduceMul, Int32.reduceToNatClampNeg, not_false_eq_true, not_true_eq_false, false_implies, true_implies, Nat.zero_add, reduceIte, Nat.reduceMul, Nat.reduceEqDiff, nxa, nxc, lgn, nL_of, swx, Int.reduceAdd, gI_a, gI_k, gL_a, gL_k, gI_r, gL_r, nI_and, nI_or, nI_xor, nI_ndf, nI_shl, nI_shr, ne_eq, and_true, true_and, eq_self, true_or, or_true, false_or, or_false, Option.toList, List.cons_append, List.nil_append, List.length_nil, List.length_cons, Nat.not_lt_zero]
      exact q
    refine call_of eX5_readNumber rfl ?_
    refine wp_blk kX5_readNumber_0 ?_
    simp (disch := first | decide | omega) only [mxa, vxa, vxb, vxc, vnd, vne, Nat.reduceAdd, Nat.reduceSub, Nat.reduceLeDiff, Nat.reduceLT, Int32.reduceLT, Int32.reduceLE, Int32.reduceAdd, Int32.reduceSub, Int32.reduceMul, Int32.reduceToNatClampNeg, not_false_eq_true, not_true_eq_false, false_implies, true_implies, Nat.zero_add, reduceIte, Nat.reduceMul, Nat.reduceEqDiff, nxa, nxc, lgn, nL_of, swx, Int.reduceAdd, gI_a, gI_k, gL_a, gL_k, gI_r, gL_r, nI_and, nI_or, nI_xor, nI_ndf, nI_shl, nI_shr, ne_eq, and_true, true_and, eq_self, true_or, or_true, false_or, or_false, Option.toList, List.cons_append, List.nil_append, List.length_nil, List.length_cons, Nat.not_lt_zero, bX5_readNumber_0, kdx hs, grx hr, hC.2.2.1, c1]
    by_cases l : vN n B b < lo
    · refine wp_blk kX5_readNumber_15 ?_
      simp (disch := first | decide | omega) only [mxa, vxa, vxb, vxc, vnd, vne, Nat.reduceAdd, Nat.reduceSub, Nat.reduceLeDiff, Nat.reduceLT, Int32.reduceLT, Int32.reduceLE, Int32.reduceAdd, Int32.reduceSub, Int32.reduceMul, Int32.reduceToNatClampNeg, not_false_eq_true, not_true_eq_false, false_implies, true_implies, Nat.zero_add, reduceIte, Nat.reduceMul, Nat.reduceEqDiff, nxa, nxc, lgn, nL_of, swx, Int.reduceAdd, gI_a, gI_k, gL_a, gL_k, gI_r, gL_r, nI_and, nI_or, nI_xor, nI_ndf, nI_shl, nI_shr, ne_eq, and_true, true_and, eq_self, true_or, or_true, false_or, or_false, Option.toList, List.cons_append, List.nil_append, List.length_nil, List.length_cons, Nat.not_lt_zero, bX5_readNumber_15, kdx hs, grx hr, v5, l]
      exact bad (fun z => by have := z.2.1; omega)
    · by_cases u : vN n B b < H
      · have q := hy ⟨h, by omega, u⟩
        refine wp_blk kX5_readNumber_15 ?_
        simp (disch := first | decide | omega) only [mxa, vxa, vxb, vxc, vnd, vne, Nat.reduceAdd, Nat.reduceSub, Nat.reduceLeDiff, Nat.reduceLT, Int32.reduceLT, Int32.reduceLE, Int32.reduceAdd, Int32.reduceSub, Int32.reduceMul, Int32.reduceToNatClampNeg, not_false_eq_true, not_true_eq_false, false_implies, true_implies, Nat.zero_add, reduceIte, Nat.reduceMul, Nat.reduceEqDiff, nxa, nxc, lgn, nL_of, swx, Int.reduceAdd, gI_a, gI_k, gL_a, gL_k, gI_r, gL_r, nI_and, nI_or, nI_xor, nI_ndf, nI_shl, nI_shr, ne_eq, and_true, true_and, eq_self, true_or, or_true, false_or, or_false, Option.toList, List.cons_append, List.nil_append, List.length_nil, List.length_cons, Nat.not_lt_zero, bX5_readNumber_15, kdx hs, grx hr, v5, l, (cle _ v9).mpr u]
        refine wp_blk kX5_readNumber_38 ?_
        simp (disch := first | decide | omega) only [mxa, vxa, vxb, vxc, vnd, vne, Nat.reduceAdd, Nat.reduceSub, Nat.reduceLeDiff, Nat.reduceLT, Int32.reduceLT, Int32.reduceLE, Int32.reduceAdd, Int32.reduceSub, Int32.reduceMul, Int32.reduceToNatClampNeg, not_false_eq_true, not_true_eq_false, false_implies, true_implies, Nat.zero_add, reduceIte, Nat.reduceMul, Nat.reduceEqDiff, nxa, nxc, lgn, nL_of, swx, Int.reduceAdd, gI_a, gI_k, gL_a, gL_k, gI_r, gL_r, nI_and, nI_or, nI_xor, nI_ndf, nI_shl, nI_shr, ne_eq, and_true, true_and, eq_self, true_or, or_true, false_or, or_false, Option.toList, List.cons_append, List.nil_append, List.length_nil, List.length_cons, Nat.not_lt_zero, bX5_readNumber_38, kdx hs, grx hr, v5]
        refine c_advance X _ τ n (tD n B b) B hs hr hT e2 hC.2.1 _ (fun τ2 F2 C2 => ?_)
        simp (disch := first | decide | omega) only [mxa, vxa, vxb, vxc, vnd, vne, Nat.reduceAdd, Nat.reduceSub, Nat.reduceLeDiff, Nat.reduceLT, Int32.reduceLT, Int32.reduceLE, Int32.reduceAdd, Int32.reduceSub, Int32.reduceMul, Int32.reduceToNatClampNeg, not_false_eq_true, not_true_eq_false, false_implies, true_implies, Nat.zero_add, reduceIte, Nat.reduceMul, Nat.reduceEqDiff, nxa, nxc, lgn, nL_of, swx, Int.reduceAdd, gI_a, gI_k, gL_a, gL_k, gI_r, gL_r, nI_and, nI_or, nI_xor, nI_ndf, nI_shl, nI_shr, ne_eq, and_true, true_and, eq_self, true_or, or_true, false_or, or_false, Option.toList, List.cons_append, List.nil_append, List.length_nil, List.length_cons, Nat.not_lt_zero]
        exact q τ2 F2 C2
      · have nu : ¬ nI (vN n B b) ≤ hi := fun z => u ((cle _ v9).mp z)
        refine wp_blk kX5_readNumber_15 ?_
        simp (disch := first | decide | omega) only [mxa, vxa, vxb, vxc, vnd, vne, Nat.reduceAdd, Nat.reduceSub, Nat.reduceLeDiff, Nat.reduceLT, Int32.reduceLT, Int32.reduceLE, Int32.reduceAdd, Int32.reduceSub, Int32.reduceMul, Int32.reduceToNatClampNeg, not_false_eq_true, not_true_eq_false, false_implies, true_implies, Nat.zero_add, reduceIte, Nat.reduceMul, Nat.reduceEqDiff, nxa, nxc, lgn, nL_of, swx, Int.reduceAdd, gI_a, gI_k, gL_a, gL_k, gI_r, gL_r, nI_and, nI_or, nI_xor, nI_ndf, nI_shl, nI_shr, ne_eq, and_true, true_and, eq_self, true_or, or_true, false_or, or_false, Option.toList, List.cons_append, List.nil_append, List.length_nil, List.length_cons, Nat.not_lt_zero, bX5_readNumber_15, kdx hs, grx hr, v5, l, nu]
        exact bad (fun z => u z.2.2)
  · have c1 : ¬ cc (tK n B b) = 3 := fun q => h ((cc_is kl (show 9 ≤ 9 ∧ 9 ≤ 12 by omega)).mp (q.trans rfl))
    have nf : nFt n B b = fT n B b 2 := by unfold nFt fT; rw [if_neg h]
    have q := hn (fun z => h z.1)
    rw [nf] at q
    refine call_of eX5_readNumber rfl ?_
    refine wp_blk kX5_readNumber_0 ?_
    simp (disch := first | decide | omega) only [mxa, vxa, vxb, vxc, vnd, vne, Nat.reduceAdd, Nat.reduceSub, Nat.reduceLeDiff, Nat.reduceLT, Int32.reduceLT, Int32.reduceLE, Int32.reduceAdd, Int32.reduceSub, Int32.reduceMul, Int32.reduceToNatClampNeg, not_false_eq_true, not_true_eq_false, false_implies, true_implies, Nat.zero_add, reduceIte, Nat.reduceMul, Nat.reduceEqDiff, nxa, nxc, lgn, nL_of, swx, Int.reduceAdd, gI_a, gI_k, gL_a, gL_k, gI_r, gL_r, nI_and, nI_or, nI_xor, nI_ndf, nI_shl, nI_shr, ne_eq, and_true, true_and, eq_self, true_or, or_true, false_or, or_false, Option.toList, List.cons_append, List.nil_append, List.length_nil, List.length_cons, Nat.not_lt_zero, bX5_readNumber_0, kdx hs, grx hr, hC.2.2.1, c1]
    refine c_blame0 X _ τ n b 2 B hs hC h0 (by omega) _ ?_
    simp (disch := first | decide | omega) only [mxa, vxa, vxb, vxc, vnd, vne, Nat.reduceAdd, Nat.reduceSub, Nat.reduceLeDiff, Nat.reduceLT, Int32.reduceLT, Int32.reduceLE, Int32.reduceAdd, Int32.reduceSub, Int32.reduceMul, Int32.reduceToNatClampNeg, not_false_eq_true, not_true_eq_false, false_implies, true_implies, Nat.zero_add, reduceIte, Nat.reduceMul, Nat.reduceEqDiff, nxa, nxc, lgn, nL_of, swx, Int.reduceAdd, gI_a, gI_k, gL_a, gL_k, gI_r, gL_r, nI_and, nI_or, nI_xor, nI_ndf, nI_shl, nI_shr, ne_eq, and_true, true_and, eq_self, true_or, or_true, false_or, or_false, Option.toList, List.cons_append, List.nil_append, List.length_nil, List.length_cons, Nat.not_lt_zero]
    exact q
theorem c_numF (X : Cx) (d : Nat) (τ : Mm) (n b k : Nat) (lo hi : Int32) (B : Nat → Nat) (hs : Sh τ) (hr : Rf τ) (hT : TX τ n B) (hb : b ≤ n) (hC : CT τ n B b) (h0 : gI τ 144 1 = nI k) (hk : 1 ≤ k) (hk4 : k ≤ 4) (Q : Po) (hQ : ∀ (τ2 : Mm) (b2 : Nat) (x : Int32), FrT τ τ2 → b2 ≤ n → CT τ2 n B b2 → Q (some (.int x)) τ2) : Call X (d + 8) 0 0 mX5_readNumber [.ref 144, .int lo, .int hi] τ Q := by
  obtain ⟨kl, -, k9, -⟩ := tK_le (n := n) (B := B) (b := b)
  obtain ⟨e1, e2, e3⟩ := tE_le (B := B) hb
  have cl := cc_le _ kl
  have bad : Wp X mX5_readNumber (rmo (d + 8) 0 0) (d + 8) Q 0 0 31 [some (.ref 144), some (.int lo), some (.int hi), none] [] τ := by
    have q := hQ τ b (nI 0) FrT.rf hb hC
    refine wp_blk kX5_readNumber_31 ?_
    simp (disch := first | decide | omega) only [mxa, vxa, vxb, vxc, vnd, vne, Nat.reduceAdd, Nat.reduceSub, Nat.reduceLeDiff, Nat.reduceLT, Int32.reduceLT, Int32.reduceLE, Int32.reduceAdd, Int32.reduceSub, Int32.reduceMul, Int32.reduceToNatClampNeg, not_false_eq_true, not_true_eq_false, false_implies, true_implies, Nat.zero_add, reduceIte, Nat.reduceMul, Nat.reduceEqDiff, nxa, nxc, lgn, nL_of, swx, Int.reduceAdd, gI_a, gI_k, gL_a, gL_k, gI_r, gL_r, nI_and, nI_or, nI_xor, nI_ndf, nI_shl, nI_shr, ne_eq, and_true, true_and, eq_self, true_or, or_true, false_or, or_false, Option.toList, List.cons_append, List.nil_append, List.length_nil, List.length_cons, Nat.not_lt_zero, bX5_readNumber_31, kdx hs, grx hr]
    refine c_blameF X _ τ 3 k hs h0 hk hk4 _ ?_
    simp (disch := first | decide | omega) only [mxa, vxa, vxb, vxc, vnd, vne, Nat.reduceAdd, Nat.reduceSub, Nat.reduceLeDiff, Nat.reduceLT, Int32.reduceLT, Int32.reduceLE, Int32.reduceAdd, Int32.reduceSub, Int32.reduceMul, Int32.reduceToNatClampNeg, not_false_eq_true, not_true_eq_false, false_implies, true_implies, Nat.zero_add, reduceIte, Nat.reduceMul, Nat.reduceEqDiff, nxa, nxc, lgn, nL_of, swx, Int.reduceAdd, gI_a, gI_k, gL_a, gL_k, gI_r, gL_r, nI_and, nI_or, nI_xor, nI_ndf, nI_shl, nI_shr, ne_eq, and_true, true_and, eq_self, true_or, or_true, false_or, or_false, Option.toList, List.cons_append, List.nil_append, List.length_nil, List.length_cons, Nat.not_lt_zero]
    exact q
  by_cases h : tK n B b = 9
  · have c1 : cc (tK n B b) = 3 := by rw [h]; rfl
    have v5 := hC.2.2.2 h
    refine call_of eX5_readNumber rfl ?_
    refine wp_blk kX5_readNumber_0 ?_
    simp (disch := first | decide | omega) only [mxa, vxa, vxb, vxc, vnd, vne, Nat.reduceAdd, Nat.reduceSub, Nat.reduceLeDiff, Nat.reduceLT, Int32.reduceLT, Int32.reduceLE, Int32.reduceAdd, Int32.reduceSub, Int32.reduceMul, Int32.reduceToNatClampNeg, not_false_eq_true, not_true_eq_false, false_implies, true_implies, Nat.zero_add, reduceIte, Nat.reduceMul, Nat.reduceEqDiff, nxa, nxc, lgn, nL_of, swx, Int.reduceAdd, gI_a, gI_k, gL_a, gL_k, gI_r, gL_r, nI_and, nI_or, nI_xor, nI_ndf, nI_shl, nI_shr, ne_eq, and_true, true_and, eq_self, true_or, or_true, false_or, or_false, Option.toList, List.cons_append, List.nil_append, List.length_nil, List.length_cons, Nat.not_lt_zero, bX5_readNumber_0, kdx hs, grx hr, hC.2.2.1, c1]
    by_cases l : nI (vN n B b) < lo
    · refine wp_blk kX5_readNumber_15 ?_
      simp (disch := first | decide | omega) only [mxa, vxa, vxb, vxc, vnd, vne, Nat.reduceAdd, Nat.reduceSub, Nat.reduceLeDiff, Nat.reduceLT, Int32.reduceLT, Int32.reduceLE, Int32.reduceAdd, Int32.reduceSub, Int32.reduceMul, Int32.reduceToNatClampNeg, not_false_eq_true, not_true_eq_false, false_implies, true_implies, Nat.zero_add, reduceIte, Nat.reduceMul, Nat.reduceEqDiff, nxa, nxc, lgn, nL_of, swx, Int.reduceAdd, gI_a, gI_k, gL_a, gL_k, gI_r, gL_r, nI_and, nI_or, nI_xor, nI_ndf, nI_shl, nI_shr, ne_eq, and_true, true_and, eq_self, true_or, or_true, false_or, or_false, Option.toList, List.cons_append, List.nil_append, List.length_nil, List.length_cons, Nat.not_lt_zero, bX5_readNumber_15, kdx hs, grx hr, v5, l]
      exact bad
    · by_cases u : nI (vN n B b) ≤ hi
      · refine wp_blk kX5_readNumber_15 ?_
        simp (disch := first | decide | omega) only [mxa, vxa, vxb, vxc, vnd, vne, Nat.reduceAdd, Nat.reduceSub, Nat.reduceLeDiff, Nat.reduceLT, Int32.reduceLT, Int32.reduceLE, Int32.reduceAdd, Int32.reduceSub, Int32.reduceMul, Int32.reduceToNatClampNeg, not_false_eq_true, not_true_eq_false, false_implies, true_implies, Nat.zero_add, reduceIte, Nat.reduceMul, Nat.reduceEqDiff, nxa, nxc, lgn, nL_of, swx, Int.reduceAdd, gI_a, gI_k, gL_a, gL_k, gI_r, gL_r, nI_and, nI_or, nI_xor, nI_ndf, nI_shl, nI_shr, ne_eq, and_true, true_and, eq_self, true_or, or_true, false_or, or_false, Option.toList, List.cons_append, List.nil_append, List.length_nil, List.length_cons, Nat.not_lt_zero, bX5_readNumber_15, kdx hs, grx hr, v5, l, u]
        refine wp_blk kX5_readNumber_38 ?_
        simp (disch := first | decide | omega) only [mxa, vxa, vxb, vxc, vnd, vne, Nat.reduceAdd, Nat.reduceSub, Nat.reduceLeDiff, Nat.reduceLT, Int32.reduceLT, Int32.reduceLE, Int32.reduceAdd, Int32.reduceSub, Int32.reduceMul, Int32.reduceToNatClampNeg, not_false_eq_true, not_true_eq_false, false_implies, true_implies, Nat.zero_add, reduceIte, Nat.reduceMul, Nat.reduceEqDiff, nxa, nxc, lgn, nL_of, swx, Int.reduceAdd, gI_a, gI_k, gL_a, gL_k, gI_r, gL_r, nI_and, nI_or, nI_xor, nI_ndf, nI_shl, nI_shr, ne_eq, and_true, true_and, eq_self, true_or, or_true, false_or, or_false, Option.toList, List.cons_append, List.nil_append, List.length_nil, List.length_cons, Nat.not_lt_zero, bX5_readNumber_38, kdx hs, grx hr, v5]
        refine c_advance X _ τ n (tD n B b) B hs hr hT e2 hC.2.1 _ (fun τ2 F2 C2 => ?_)
        simp (disch := first | decide | omega) only [mxa, vxa, vxb, vxc, vnd, vne, Nat.reduceAdd, Nat.reduceSub, Nat.reduceLeDiff, Nat.reduceLT, Int32.reduceLT, Int32.reduceLE, Int32.reduceAdd, Int32.reduceSub, Int32.reduceMul, Int32.reduceToNatClampNeg, not_false_eq_true, not_true_eq_false, false_implies, true_implies, Nat.zero_add, reduceIte, Nat.reduceMul, Nat.reduceEqDiff, nxa, nxc, lgn, nL_of, swx, Int.reduceAdd, gI_a, gI_k, gL_a, gL_k, gI_r, gL_r, nI_and, nI_or, nI_xor, nI_ndf, nI_shl, nI_shr, ne_eq, and_true, true_and, eq_self, true_or, or_true, false_or, or_false, Option.toList, List.cons_append, List.nil_append, List.length_nil, List.length_cons, Nat.not_lt_zero]
        exact hQ τ2 _ _ F2 e2 C2
      · refine wp_blk kX5_readNumber_15 ?_
        simp (disch := first | decide | omega) only [mxa, vxa, vxb, vxc, vnd, vne, Nat.reduceAdd, Nat.reduceSub, Nat.reduceLeDiff, Nat.reduceLT, Int32.reduceLT, Int32.reduceLE, Int32.reduceAdd, Int32.reduceSub, Int32.reduceMul, Int32.reduceToNatClampNeg, not_false_eq_true, not_true_eq_false, false_implies, true_implies, Nat.zero_add, reduceIte, Nat.reduceMul, Nat.reduceEqDiff, nxa, nxc, lgn, nL_of, swx, Int.reduceAdd, gI_a, gI_k, gL_a, gL_k, gI_r, gL_r, nI_and, nI_or, nI_xor, nI_ndf, nI_shl, nI_shr, ne_eq, and_true, true_and, eq_self, true_or, or_true, false_or, or_false, Option.toList, List.cons_append, List.nil_append, List.length_nil, List.length_cons, Nat.not_lt_zero, bX5_readNumber_15, kdx hs, grx hr, v5, l, u]
        exact bad
  · have c1 : ¬ cc (tK n B b) = 3 := fun q => h ((cc_is kl (show 9 ≤ 9 ∧ 9 ≤ 12 by omega)).mp (q.trans rfl))
    have q := hQ τ b (nI 0) FrT.rf hb hC
    refine call_of eX5_readNumber rfl ?_
    refine wp_blk kX5_readNumber_0 ?_
    simp (disch := first | decide | omega) only [mxa, vxa, vxb, vxc, vnd, vne, Nat.reduceAdd, Nat.reduceSub, Nat.reduceLeDiff, Nat.reduceLT, Int32.reduceLT, Int32.reduceLE, Int32.reduceAdd, Int32.reduceSub, Int32.reduceMul, Int32.reduceToNatClampNeg, not_false_eq_true, not_true_eq_false, false_implies, true_implies, Nat.zero_add, reduceIte, Nat.reduceMul, Nat.reduceEqDiff, nxa, nxc, lgn, nL_of, swx, Int.reduceAdd, gI_a, gI_k, gL_a, gL_k, gI_r, gL_r, nI_and, nI_or, nI_xor, nI_ndf, nI_shl, nI_shr, ne_eq, and_true, true_and, eq_self, true_or, or_true, false_or, or_false, Option.toList, List.cons_append, List.nil_append, List.length_nil, List.length_cons, Nat.not_lt_zero, bX5_readNumber_0, kdx hs, grx hr, hC.2.2.1, c1]
    refine c_blameF X _ τ 2 k hs h0 hk hk4 _ ?_
    simp (disch := first | decide | omega) only [mxa, vxa, vxb, vxc, vnd, vne, Nat.reduceAdd, Nat.reduceSub, Nat.reduceLeDiff, Nat.reduceLT, Int32.reduceLT, Int32.reduceLE, Int32.reduceAdd, Int32.reduceSub, Int32.reduceMul, Int32.reduceToNatClampNeg, not_false_eq_true, not_true_eq_false, false_implies, true_implies, Nat.zero_add, reduceIte, Nat.reduceMul, Nat.reduceEqDiff, nxa, nxc, lgn, nL_of, swx, Int.reduceAdd, gI_a, gI_k, gL_a, gL_k, gI_r, gL_r, nI_and, nI_or, nI_xor, nI_ndf, nI_shl, nI_shr, ne_eq, and_true, true_and, eq_self, true_or, or_true, false_or, or_false, Option.toList, List.cons_append, List.nil_append, List.length_nil, List.length_cons, Nat.not_lt_zero]
    exact q
theorem brS_e {n K f a b : Nat} {B : Nat → Nat} (h : a ≠ 0 ∧ tK n B b ≠ 9) : brS n B K (f + 1) a b = .inr (a, b) := if_pos h
theorem brS_k {n K f a b : Nat} {B : Nat → Nat} (h : ¬ (a ≠ 0 ∧ tK n B b ≠ 9)) (o : okNum n B b 0 100) (e : a = K) : brS n B K (f + 1) a b = .inl (4, tP n B b) := (if_neg h).trans ((if_pos o).trans (if_pos e))
theorem brS_y {n K f a b : Nat} {B : Nat → Nat} (h : ¬ (a ≠ 0 ∧ tK n B b ≠ 9)) (o : okNum n B b 0 100) (e : ¬ a = K) : brS n B K (f + 1) a b = brS n B K f (a + 1) (tD n B b) := (if_neg h).trans ((if_pos o).trans (if_neg e))
theorem brS_n {n K f a b : Nat} {B : Nat → Nat} (h : ¬ (a ≠ 0 ∧ tK n B b ≠ 9)) (o : ¬ okNum n B b 0 100) : brS n B K (f + 1) a b = .inl (nFt n B b, tP n B b) := (if_neg h).trans (if_neg o)
theorem itE_s (n : Nat) (B : Nat → Nat) : ∀ a b, itE n B (a + 1) b = tD n B (itE n B a b)
  | 0, _ => rfl
  | a + 1, b => itE_s n B a (tD n B b)
theorem nF_le (n : Nat) (B : Nat → Nat) (b : Nat) : 1 ≤ nFt n B b ∧ nFt n B b ≤ 4 := by
  unfold nFt
  split
  · omega
  · split <;> omega
theorem fT_le {n b k : Nat} {B : Nat → Nat} (h1 : 1 ≤ k) (h4 : k ≤ 4) : 1 ≤ fT n B b k ∧ fT n B b k ≤ 4 := by
  unfold fT
  split <;> omega
/-- within a line the class only touches its reader and one row -/
def FrL (A : Nat) (σ τ : Mm) : Prop := Fr (fun c => c = 144 ∨ c = A) σ τ ∧ (gI τ 144 4 = gI σ 144 4 ∧ gI τ 144 0 = gI σ 144 0) ∧ (gI τ 144 1 = nI 0 → gI σ 144 1 = nI 0 ∧ gI τ 144 2 = gI σ 144 2)
theorem FrL.tr {A : Nat} {a b c : Mm} (h : FrL A a b) (g : FrL A b c) : FrL A a c := ⟨h.1.tr g.1, ⟨g.2.1.1.trans h.2.1.1, g.2.1.2.trans h.2.1.2⟩, fun q => by
  obtain ⟨x, y⟩ := g.2.2 q
  obtain ⟨z, w⟩ := h.2.2 x
  exact ⟨z, y.trans w⟩⟩
theorem FrT.L {A : Nat} {σ τ : Mm} (h : FrT σ τ) : FrL A σ τ := ⟨h.1.mono (fun c q => Or.inl q), ⟨h.2 4 (by omega), h.2 0 (by omega)⟩, fun q => ⟨(h.2 1 (by omega)).symm.trans q, h.2 2 (by omega)⟩⟩
theorem k_ne {k : Nat} (h1 : 1 ≤ k) (h4 : k ≤ 4) : ¬ nI k = nI 0 := fun e => by
  have := nI_inj (by omega) (by omega) e
  omega
theorem FrL.b2 {A k : Nat} {σ : Mm} {v : Int32} (h1 : 1 ≤ k) (h4 : k ≤ 4) : FrL A σ (sI (sI σ 144 1 (nI k)) 144 2 v) := ⟨(Fr.sI (Or.inl rfl)).tr (Fr.sI (Or.inl rfl)), ⟨(gI_k (by decide)).trans (gI_k (by decide)), (gI_k (by decide)).trans (gI_k (by decide))⟩, fun q => absurd (((gI_k (by decide)).trans (gI_same _ _ _ _)).symm.trans q) (k_ne h1 h4)⟩
theorem FrL.put {A a : Nat} {σ : Mm} {x : Int32} (h : A ≠ 144) : FrL A σ (sI σ A a x) := ⟨Fr.sI (Or.inr rfl), ⟨gI_a (Ne.symm h), gI_a (Ne.symm h)⟩, fun q => ⟨(gI_a (Ne.symm h)).symm.trans q, gI_a (Ne.symm h)⟩⟩
theorem TX.keepL {σ τ : Mm} {n A : Nat} {B : Nat → Nat} (h : TX σ n B) (F : FrL A σ τ) (hA : A ≠ 145) : TX τ n B := ⟨F.2.1.1.trans h.1, h.2.1, h.2.2.1, fun i hi => (F.1.2.2.1 145 (by omega) i).trans (h.2.2.2 i hi)⟩
theorem c_bread (X : Cx) (d : Nat) (σ : Mm) (n b A K : Nat) (B : Nat → Nat) (hs : Sh σ) (hr : Rf σ) (hA : Fm σ A) (A1 : 37 ≤ A) (A2 : A ≤ 64) (hT : TX σ n B) (n7 : 7 ≤ n) (hb : b ≤ n) (hC : CT σ n B b) (K1 : 1 ≤ K) (K5 : K ≤ 5) (h0 : gI σ 144 1 = nI 0) (Q : Po) (hy : ∀ m b', brS n B K 7 0 b = .inr (m, b') → ∀ τ : Mm, FrL (A + 1) σ τ → b' ≤ n → CT τ n B b' → gI τ 144 1 = nI 0 → m ≤ K → (∀ a, a < m → gI τ (A + 1) a = nI (vN n B (itE n B a b)) ∧ vN n B (itE n B a b) ≤ 99) → (∀ a, m ≤ a → gI τ (A + 1) a = gI σ (A + 1) a) → Q none τ) (hn : ∀ k p, brS n B K 7 0 b = .inl (k, p) → ∀ τ : Mm, FrL (A + 1) σ τ → (∃ b2, b2 ≤ n ∧ CT τ n B b2) → gI τ 144 1 = nI k → gI τ 144 2 = nI p → 1 ≤ k → k ≤ 4 → Q none τ) : Call X (d + 9) 0 0 mX5_readBread [.ref 144, .ref A, .int (nI K)] σ Q := by
  obtain ⟨a1, a2, a3, a4, a5⟩ := hA
  have n9 := hT.2.1
  have c99 : ∀ v, v ≤ 999 → (nI v ≤ nI 99 ↔ v < 100) := fun v hv => by
    rw [Int32.le_iff_toInt_le, nI_toInt (by omega), nI_toInt (by omega)]; omega
  have stop : ∀ k p a, brS n B K 7 0 b = .inl (k, p) → 1 ≤ k → k ≤ 4 → a ≤ 10 → ∀ τ : Mm, FrL (A + 1) σ τ → (∃ b2, b2 ≤ n ∧ CT τ n B b2) → gI τ 144 1 = nI k → gI τ 144 2 = nI p → Wp X mX5_readBread (rmo (d + 9) 0 0) (d + 9) Q 0 0 15 [some (.ref 144), some (.ref A), some (.int (nI K)), some (.int (nI a)), none, none] [] τ := by
    intro k p a hbr k1 k4 ha τ F ⟨b2, hb2, C2⟩ t0 t1
    have st : Sh τ := F.1.Sh hs
    have q := hn k p hbr τ F ⟨b2, hb2, C2⟩ t0 t1 k1 k4
    have tT := hT.keepL F (by omega)
    have cl := cc_le _ (tK_le (n := n) (B := B) (b := b2)).1
    have e : Wp X mX5_readBread (rmo (d + 9) 0 0) (d + 9) Q 0 0 102 [some (.ref 144), some (.ref A), some (.int (nI K)), some (.int (nI a)), none, none] [] τ := by
      refine wp_blk kX5_readBread_102 ?_
      simp (disch := first | decide | omega) only [mxa, vxa, vxb, vxc, vnd, vne, Nat.reduceAdd, Nat.reduceSub, Nat.reduceLeDiff, Nat.reduceLT, Int32.reduceLT, Int32.reduceLE, Int32.reduceAdd, Int32.reduceSub, Int32.reduceMul, Int32.reduceToNatClampNeg, not_false_eq_true, not_true_eq_false, false_implies, true_implies, Nat.zero_add, reduceIte, Nat.reduceMul, Nat.reduceEqDiff, nxa, nxc, lgn, nL_of, swx, Int.reduceAdd, gI_a, gI_k, gL_a, gL_k, gI_r, gL_r, nI_and, nI_or, nI_xor, nI_ndf, nI_shl, nI_shr, ne_eq, and_true, true_and, eq_self, true_or, or_true, false_or, or_false, Option.toList, List.cons_append, List.nil_append, List.length_nil, List.length_cons, Nat.not_lt_zero, bX5_readBread_102]
      exact q
    by_cases z : n ≤ a
    · refine wp_blk kX5_readBread_15 ?_
      simp (disch := first | decide | omega) only [mxa, vxa, vxb, vxc, vnd, vne, Nat.reduceAdd, Nat.reduceSub, Nat.reduceLeDiff, Nat.reduceLT, Int32.reduceLT, Int32.reduceLE, Int32.reduceAdd, Int32.reduceSub, Int32.reduceMul, Int32.reduceToNatClampNeg, not_false_eq_true, not_true_eq_false, false_implies, true_implies, Nat.zero_add, reduceIte, Nat.reduceMul, Nat.reduceEqDiff, nxa, nxc, lgn, nL_of, swx, Int.reduceAdd, gI_a, gI_k, gL_a, gL_k, gI_r, gL_r, nI_and, nI_or, nI_xor, nI_ndf, nI_shl, nI_shr, ne_eq, and_true, true_and, eq_self, true_or, or_true, false_or, or_false, Option.toList, List.cons_append, List.nil_append, List.length_nil, List.length_cons, Nat.not_lt_zero, bX5_readBread_15, kdx st, tT.1, z]
      exact e
    · by_cases y : cc (tK n B b2) = 3
      · refine wp_blk kX5_readBread_15 ?_
        simp (disch := first | decide | omega) only [mxa, vxa, vxb, vxc, vnd, vne, Nat.reduceAdd, Nat.reduceSub, Nat.reduceLeDiff, Nat.reduceLT, Int32.reduceLT, Int32.reduceLE, Int32.reduceAdd, Int32.reduceSub, Int32.reduceMul, Int32.reduceToNatClampNeg, not_false_eq_true, not_true_eq_false, false_implies, true_implies, Nat.zero_add, reduceIte, Nat.reduceMul, Nat.reduceEqDiff, nxa, nxc, lgn, nL_of, swx, Int.reduceAdd, gI_a, gI_k, gL_a, gL_k, gI_r, gL_r, nI_and, nI_or, nI_xor, nI_ndf, nI_shl, nI_shr, ne_eq, and_true, true_and, eq_self, true_or, or_true, false_or, or_false, Option.toList, List.cons_append, List.nil_append, List.length_nil, List.length_cons, Nat.not_lt_zero, bX5_readBread_15, kdx st, tT.1, C2.2.2.1, t0, z, y, show ¬ k = 0 by omega]
        exact e
      · refine wp_blk kX5_readBread_15 ?_
        simp (disch := first | decide | omega) only [mxa, vxa, vxb, vxc, vnd, vne, Nat.reduceAdd, Nat.reduceSub, Nat.reduceLeDiff, Nat.reduceLT, Int32.reduceLT, Int32.reduceLE, Int32.reduceAdd, Int32.reduceSub, Int32.reduceMul, Int32.reduceToNatClampNeg, not_false_eq_true, not_true_eq_false, false_implies, true_implies, Nat.zero_add, reduceIte, Nat.reduceMul, Nat.reduceEqDiff, nxa, nxc, lgn, nL_of, swx, Int.reduceAdd, gI_a, gI_k, gL_a, gL_k, gI_r, gL_r, nI_and, nI_or, nI_xor, nI_ndf, nI_shl, nI_shr, ne_eq, and_true, true_and, eq_self, true_or, or_true, false_or, or_false, Option.toList, List.cons_append, List.nil_append, List.length_nil, List.length_cons, Nat.not_lt_zero, bX5_readBread_15, kdx st, tT.1, C2.2.2.1, z, y]
        exact e
  have put : ∀ (a : Nat) (x : Int32), a < 5 → ∀ τ : Mm, FrL (A + 1) σ τ → FrL (A + 1) σ (sI τ (A + 1) a x) := fun a x ha τ F => F.tr (FrL.put (by omega))
  have loop : ∀ f a b2, f + a = 7 → 1 ≤ a → a ≤ K → brS n B K f a b2 = brS n B K 7 0 b → b2 = itE n B a b → b2 ≤ n → ∀ τ : Mm, FrL (A + 1) σ τ → CT τ n B b2 → gI τ 144 1 = nI 0 → (∀ i, i < a → gI τ (A + 1) i = nI (vN n B (itE n B i b)) ∧ vN n B (itE n B i b) ≤ 99) → (∀ i, a ≤ i → gI τ (A + 1) i = gI σ (A + 1) i) → Wp X mX5_readBread (rmo (d + 9) 0 0) (d + 9) Q 0 0 15 [some (.ref 144), some (.ref A), some (.int (nI K)), some (.int (nI a)), none, none] [] τ := by
    intro f
    induction f with
    | zero => intro a b2 e; omega
    | succ f ih =>
      intro a b2 fa ha haK hbr hit hb2 τ F C2 t0 g1 g2
      have st : Sh τ := F.1.Sh hs
      have rt : Rf τ := F.1.Rf hr
      have tT := hT.keepL F (by omega)
      obtain ⟨kl, -, k9, -⟩ := tK_le (n := n) (B := B) (b := b2)
      obtain ⟨e1, e2, e3⟩ := tE_le (B := B) hb2
      have cl := cc_le _ kl
      have m1 : kd τ A = some (0, 2) := (F.1.kd _).trans a1
      have m2 : kd τ (A + 1) = some (1, 5) := (F.1.kd _).trans a2
      have m4 : gR τ A 7 = some (A + 1) := (F.1.gR _ _).trans a4
      by_cases h9 : tK n B b2 = 9
      · have c1 : cc (tK n B b2) = 3 := by rw [h9]; rfl
        have v9 := vN_le hb2 (k9 h9).1
        have v5 := C2.2.2.2 h9
        have nz : ¬ (a ≠ 0 ∧ tK n B b2 ≠ 9) := fun z => z.2 h9
        by_cases aK : a < K
        · have at74 : Wp X mX5_readBread (rmo (d + 9) 0 0) (d + 9) Q 0 0 74 [some (.ref 144), some (.ref A), some (.int (nI K)), some (.int (nI a)), some (.int (nI 1)), none] [] τ := by
            refine wp_blk kX5_readBread_74 ?_
            simp (disch := first | decide | omega) only [mxa, vxa, vxb, vxc, vnd, vne, Nat.reduceAdd, Nat.reduceSub, Nat.reduceLeDiff, Nat.reduceLT, Int32.reduceLT, Int32.reduceLE, Int32.reduceAdd, Int32.reduceSub, Int32.reduceMul, Int32.reduceToNatClampNeg, not_false_eq_true, not_true_eq_false, false_implies, true_implies, Nat.zero_add, reduceIte, Nat.reduceMul, Nat.reduceEqDiff, nxa, nxc, lgn, nL_of, swx, Int.reduceAdd, gI_a, gI_k, gL_a, gL_k, gI_r, gL_r, nI_and, nI_or, nI_xor, nI_ndf, nI_shl, nI_shr, ne_eq, and_true, true_and, eq_self, true_or, or_true, false_or, or_false, Option.toList, List.cons_append, List.nil_append, List.length_nil, List.length_cons, Nat.not_lt_zero, bX5_readBread_74, kdx st]
            refine c_numY X _ τ n b2 0 100 (nI 99) B st rt tT hb2 C2 (by omega) c99 t0 _ (fun ok τ2 F2 C3 => ?_) (fun nok => ?_)
            · have F3 : FrL (A + 1) σ τ2 := F.tr F2.L
              have st2 : Sh τ2 := F3.1.Sh hs
              simp (disch := first | decide | omega) only [mxa, vxa, vxb, vxc, vnd, vne, Nat.reduceAdd, Nat.reduceSub, Nat.reduceLeDiff, Nat.reduceLT, Int32.reduceLT, Int32.reduceLE, Int32.reduceAdd, Int32.reduceSub, Int32.reduceMul, Int32.reduceToNatClampNeg, not_false_eq_true, not_true_eq_false, false_implies, true_implies, Nat.zero_add, reduceIte, Nat.reduceMul, Nat.reduceEqDiff, nxa, nxc, lgn, nL_of, swx, Int.reduceAdd, gI_a, gI_k, gL_a, gL_k, gI_r, gL_r, nI_and, nI_or, nI_xor, nI_ndf, nI_shl, nI_shr, ne_eq, and_true, true_and, eq_self, true_or, or_true, false_or, or_false, Option.toList, List.cons_append, List.nil_append, List.length_nil, List.length_cons, Nat.not_lt_zero, (F3.1.kd A).trans a1, (F3.1.kd (A + 1)).trans a2, (F3.1.gR A 7).trans a4]
              refine wp_blk kX5_readBread_96 ?_
              simp (disch := first | decide | omega) only [mxa, vxa, vxb, vxc, vnd, vne, Nat.reduceAdd, Nat.reduceSub, Nat.reduceLeDiff, Nat.reduceLT, Int32.reduceLT, Int32.reduceLE, Int32.reduceAdd, Int32.reduceSub, Int32.reduceMul, Int32.reduceToNatClampNeg, not_false_eq_true, not_true_eq_false, false_implies, true_implies, Nat.zero_add, reduceIte, Nat.reduceMul, Nat.reduceEqDiff, nxa, nxc, lgn, nL_of, swx, Int.reduceAdd, gI_a, gI_k, gL_a, gL_k, gI_r, gL_r, nI_and, nI_or, nI_xor, nI_ndf, nI_shl, nI_shr, ne_eq, and_true, true_and, eq_self, true_or, or_true, false_or, or_false, Option.toList, List.cons_append, List.nil_append, List.length_nil, List.length_cons, Nat.not_lt_zero, bX5_readBread_96]
              refine Wp.fog 4 (Wp.fog 5 (ih (a + 1) (tD n B b2) (by omega) (by omega) (by omega) (by rw [← brS_y nz ok (by omega)]; exact hbr) (by rw [itE_s, hit]) e2 _ (put a _ (by omega) τ2 F3) (C3.mv (fun j _ => gI_a (by omega))) ((gI_a (by omega)).trans ((F2.2 1 (by omega)).trans t0)) (fun i hi => ?_) (fun i hi => ?_)))
              · by_cases z : i = a
                · rw [z, gI_same, ← hit]; exact ⟨rfl, by have := ok.2.2; omega⟩
                · rw [gI_k z, F2.1.2.2.1 _ (by omega)]; exact g1 i (by omega)
              · rw [gI_k (by omega), F2.1.2.2.1 _ (by omega)]; exact g2 i (by omega)
            · have q := stop _ _ (a + 1) (hbr.symm.trans (brS_n nz nok)) (nF_le n B b2).1 (nF_le n B b2).2 (by omega)
              have F3 : FrL (A + 1) σ (sI (sI τ 144 1 (nI (nFt n B b2))) 144 2 (nI (tP n B b2))) := F.tr (FrL.b2 (nF_le n B b2).1 (nF_le n B b2).2)
              simp (disch := first | decide | omega) only [mxa, vxa, vxb, vxc, vnd, vne, Nat.reduceAdd, Nat.reduceSub, Nat.reduceLeDiff, Nat.reduceLT, Int32.reduceLT, Int32.reduceLE, Int32.reduceAdd, Int32.reduceSub, Int32.reduceMul, Int32.reduceToNatClampNeg, not_false_eq_true, not_true_eq_false, false_implies, true_implies, Nat.zero_add, reduceIte, Nat.reduceMul, Nat.reduceEqDiff, nxa, nxc, lgn, nL_of, swx, Int.reduceAdd, gI_a, gI_k, gL_a, gL_k, gI_r, gL_r, nI_and, nI_or, nI_xor, nI_ndf, nI_shl, nI_shr, ne_eq, and_true, true_and, eq_self, true_or, or_true, false_or, or_false, Option.toList, List.cons_append, List.nil_append, List.length_nil, List.length_cons, Nat.not_lt_zero, m1, m2, m4]
              refine wp_blk kX5_readBread_96 ?_
              simp (disch := first | decide | omega) only [mxa, vxa, vxb, vxc, vnd, vne, Nat.reduceAdd, Nat.reduceSub, Nat.reduceLeDiff, Nat.reduceLT, Int32.reduceLT, Int32.reduceLE, Int32.reduceAdd, Int32.reduceSub, Int32.reduceMul, Int32.reduceToNatClampNeg, not_false_eq_true, not_true_eq_false, false_implies, true_implies, Nat.zero_add, reduceIte, Nat.reduceMul, Nat.reduceEqDiff, nxa, nxc, lgn, nL_of, swx, Int.reduceAdd, gI_a, gI_k, gL_a, gL_k, gI_r, gL_r, nI_and, nI_or, nI_xor, nI_ndf, nI_shl, nI_shr, ne_eq, and_true, true_and, eq_self, true_or, or_true, false_or, or_false, Option.toList, List.cons_append, List.nil_append, List.length_nil, List.length_cons, Nat.not_lt_zero, bX5_readBread_96]
              refine Wp.fog 4 (Wp.fog 5 (q _ (put a _ (by omega) _ F3) ⟨b2, hb2, C2.mv (fun j hj => (gI_a (by omega)).trans ((gI_k (by omega)).trans (gI_k (by omega))))⟩ ((gI_a (by omega)).trans ((gI_k (by decide)).trans (gI_same _ _ _ _))) ((gI_a (by omega)).trans (gI_same _ _ _ _))))
          refine wp_blk kX5_readBread_15 ?_
          simp (disch := first | decide | omega) only [mxa, vxa, vxb, vxc, vnd, vne, Nat.reduceAdd, Nat.reduceSub, Nat.reduceLeDiff, Nat.reduceLT, Int32.reduceLT, Int32.reduceLE, Int32.reduceAdd, Int32.reduceSub, Int32.reduceMul, Int32.reduceToNatClampNeg, not_false_eq_true, not_true_eq_false, false_implies, true_implies, Nat.zero_add, reduceIte, Nat.reduceMul, Nat.reduceEqDiff, nxa, nxc, lgn, nL_of, swx, Int.reduceAdd, gI_a, gI_k, gL_a, gL_k, gI_r, gL_r, nI_and, nI_or, nI_xor, nI_ndf, nI_shl, nI_shr, ne_eq, and_true, true_and, eq_self, true_or, or_true, false_or, or_false, Option.toList, List.cons_append, List.nil_append, List.length_nil, List.length_cons, Nat.not_lt_zero, bX5_readBread_15, kdx st, tT.1, C2.2.2.1, c1, t0, show ¬ n ≤ a by omega, show ¬ K ≤ a by omega, show ¬ 5 ≤ a by omega]
          refine wp_blk kX5_readBread_53 ?_
          simp (disch := first | decide | omega) only [mxa, vxa, vxb, vxc, vnd, vne, Nat.reduceAdd, Nat.reduceSub, Nat.reduceLeDiff, Nat.reduceLT, Int32.reduceLT, Int32.reduceLE, Int32.reduceAdd, Int32.reduceSub, Int32.reduceMul, Int32.reduceToNatClampNeg, not_false_eq_true, not_true_eq_false, false_implies, true_implies, Nat.zero_add, reduceIte, Nat.reduceMul, Nat.reduceEqDiff, nxa, nxc, lgn, nL_of, swx, Int.reduceAdd, gI_a, gI_k, gL_a, gL_k, gI_r, gL_r, nI_and, nI_or, nI_xor, nI_ndf, nI_shl, nI_shr, ne_eq, and_true, true_and, eq_self, true_or, or_true, false_or, or_false, Option.toList, List.cons_append, List.nil_append, List.length_nil, List.length_cons, Nat.not_lt_zero, bX5_readBread_53]
          exact at74
        · have eK : a = K := by omega
          have fin : ∀ (k p : Nat), brS n B K 7 0 b = .inl (k, p) → 1 ≤ k → k ≤ 4 → ∀ τ2 : Mm, FrL (A + 1) σ τ2 → (∃ b2, b2 ≤ n ∧ CT τ2 n B b2) → gI τ2 144 1 = nI k → gI τ2 144 2 = nI p → ∀ x : Int32, Wp X mX5_readBread (rmo (d + 9) 0 0) (d + 9) Q 0 0 96 [some (.ref 144), some (.ref A), some (.int (nI K)), some (.int (nI a)), some (.int (nI 0)), some (.int x)] [] τ2 := fun k p hb k1 k4 τ2 F2 h u0 u1 x => by
            refine wp_blk kX5_readBread_96 ?_
            simp (disch := first | decide | omega) only [mxa, vxa, vxb, vxc, vnd, vne, Nat.reduceAdd, Nat.reduceSub, Nat.reduceLeDiff, Nat.reduceLT, Int32.reduceLT, Int32.reduceLE, Int32.reduceAdd, Int32.reduceSub, Int32.reduceMul, Int32.reduceToNatClampNeg, not_false_eq_true, not_true_eq_false, false_implies, true_implies, Nat.zero_add, reduceIte, Nat.reduceMul, Nat.reduceEqDiff, nxa, nxc, lgn, nL_of, swx, Int.reduceAdd, gI_a, gI_k, gL_a, gL_k, gI_r, gL_r, nI_and, nI_or, nI_xor, nI_ndf, nI_shl, nI_shr, ne_eq, and_true, true_and, eq_self, true_or, or_true, false_or, or_false, Option.toList, List.cons_append, List.nil_append, List.length_nil, List.length_cons, Nat.not_lt_zero, bX5_readBread_96]
            exact Wp.fog 4 (Wp.fog 5 (stop k p (a + 1) hb k1 k4 (by omega) τ2 F2 h u0 u1))
          refine wp_blk kX5_readBread_15 ?_
          simp (disch := first | decide | omega) only [mxa, vxa, vxb, vxc, vnd, vne, Nat.reduceAdd, Nat.reduceSub, Nat.reduceLeDiff, Nat.reduceLT, Int32.reduceLT, Int32.reduceLE, Int32.reduceAdd, Int32.reduceSub, Int32.reduceMul, Int32.reduceToNatClampNeg, not_false_eq_true, not_true_eq_false, false_implies, true_implies, Nat.zero_add, reduceIte, Nat.reduceMul, Nat.reduceEqDiff, nxa, nxc, lgn, nL_of, swx, Int.reduceAdd, gI_a, gI_k, gL_a, gL_k, gI_r, gL_r, nI_and, nI_or, nI_xor, nI_ndf, nI_shl, nI_shr, ne_eq, and_true, true_and, eq_self, true_or, or_true, false_or, or_false, Option.toList, List.cons_append, List.nil_append, List.length_nil, List.length_cons, Nat.not_lt_zero, bX5_readBread_15, kdx st, tT.1, C2.2.2.1, c1, t0, show ¬ n ≤ a by omega, show K ≤ a by omega]
          refine wp_blk kX5_readBread_52 ?_
          simp (disch := first | decide | omega) only [mxa, vxa, vxb, vxc, vnd, vne, Nat.reduceAdd, Nat.reduceSub, Nat.reduceLeDiff, Nat.reduceLT, Int32.reduceLT, Int32.reduceLE, Int32.reduceAdd, Int32.reduceSub, Int32.reduceMul, Int32.reduceToNatClampNeg, not_false_eq_true, not_true_eq_false, false_implies, true_implies, Nat.zero_add, reduceIte, Nat.reduceMul, Nat.reduceEqDiff, nxa, nxc, lgn, nL_of, swx, Int.reduceAdd, gI_a, gI_k, gL_a, gL_k, gI_r, gL_r, nI_and, nI_or, nI_xor, nI_ndf, nI_shl, nI_shr, ne_eq, and_true, true_and, eq_self, true_or, or_true, false_or, or_false, Option.toList, List.cons_append, List.nil_append, List.length_nil, List.length_cons, Nat.not_lt_zero, bX5_readBread_52]
          by_cases v : vN n B b2 ≤ 99
          · have ok : okNum n B b2 0 100 := ⟨h9, by omega, by omega⟩
            have f4 : fT n B b2 4 = 4 := by unfold fT; rw [if_neg (by omega)]
            refine wp_blk kX5_readBread_53 ?_
            simp (disch := first | decide | omega) only [mxa, vxa, vxb, vxc, vnd, vne, Nat.reduceAdd, Nat.reduceSub, Nat.reduceLeDiff, Nat.reduceLT, Int32.reduceLT, Int32.reduceLE, Int32.reduceAdd, Int32.reduceSub, Int32.reduceMul, Int32.reduceToNatClampNeg, not_false_eq_true, not_true_eq_false, false_implies, true_implies, Nat.zero_add, reduceIte, Nat.reduceMul, Nat.reduceEqDiff, nxa, nxc, lgn, nL_of, swx, Int.reduceAdd, gI_a, gI_k, gL_a, gL_k, gI_r, gL_r, nI_and, nI_or, nI_xor, nI_ndf, nI_shl, nI_shr, ne_eq, and_true, true_and, eq_self, true_or, or_true, false_or, or_false, Option.toList, List.cons_append, List.nil_append, List.length_nil, List.length_cons, Nat.not_lt_zero, bX5_readBread_53, kdx st, v5, show ¬ 99 < vN n B b2 by omega]
            refine c_blame0 X _ τ n b2 4 B st C2 t0 (by omega) _ ?_
            rw [f4]
            simp (disch := first | decide | omega) only [mxa, vxa, vxb, vxc, vnd, vne, Nat.reduceAdd, Nat.reduceSub, Nat.reduceLeDiff, Nat.reduceLT, Int32.reduceLT, Int32.reduceLE, Int32.reduceAdd, Int32.reduceSub, Int32.reduceMul, Int32.reduceToNatClampNeg, not_false_eq_true, not_true_eq_false, false_implies, true_implies, Nat.zero_add, reduceIte, Nat.reduceMul, Nat.reduceEqDiff, nxa, nxc, lgn, nL_of, swx, Int.reduceAdd, gI_a, gI_k, gL_a, gL_k, gI_r, gL_r, nI_and, nI_or, nI_xor, nI_ndf, nI_shl, nI_shr, ne_eq, and_true, true_and, eq_self, true_or, or_true, false_or, or_false, Option.toList, List.cons_append, List.nil_append, List.length_nil, List.length_cons, Nat.not_lt_zero]
            have F3 : FrL (A + 1) σ (sI (sI τ 144 1 (nI 4)) 144 2 (nI (tP n B b2))) := F.tr (FrL.b2 (by omega) (by omega))
            have C3 : CT (sI (sI τ 144 1 (nI 4)) 144 2 (nI (tP n B b2))) n B b2 := C2.mv (fun j hj => (gI_k (by omega)).trans (gI_k (by omega)))
            have u0 : gI (sI (sI τ 144 1 (nI 4)) 144 2 (nI (tP n B b2))) 144 1 = nI 4 := (gI_k (by decide)).trans (gI_same _ _ _ _)
            have u1 : gI (sI (sI τ 144 1 (nI 4)) 144 2 (nI (tP n B b2))) 144 2 = nI (tP n B b2) := gI_same _ _ _ _
            generalize sI (sI τ 144 1 (nI 4)) 144 2 (nI (tP n B b2)) = μ at *
            have sm : Sh μ := F3.1.Sh hs
            refine wp_blk kX5_readBread_74 ?_
            simp (disch := first | decide | omega) only [mxa, vxa, vxb, vxc, vnd, vne, Nat.reduceAdd, Nat.reduceSub, Nat.reduceLeDiff, Nat.reduceLT, Int32.reduceLT, Int32.reduceLE, Int32.reduceAdd, Int32.reduceSub, Int32.reduceMul, Int32.reduceToNatClampNeg, not_false_eq_true, not_true_eq_false, false_implies, true_implies, Nat.zero_add, reduceIte, Nat.reduceMul, Nat.reduceEqDiff, nxa, nxc, lgn, nL_of, swx, Int.reduceAdd, gI_a, gI_k, gL_a, gL_k, gI_r, gL_r, nI_and, nI_or, nI_xor, nI_ndf, nI_shl, nI_shr, ne_eq, and_true, true_and, eq_self, true_or, or_true, false_or, or_false, Option.toList, List.cons_append, List.nil_append, List.length_nil, List.length_cons, Nat.not_lt_zero, bX5_readBread_74, kdx sm]
            refine c_numF X _ μ n b2 4 (nI 0) (nI 99) B sm (F3.1.Rf hr) (hT.keepL F3 (by omega)) hb2 C3 u0 (by omega) (by omega) _ (fun τ2 b3 x F2 hb3 C4 => ?_)
            simp (disch := first | decide | omega) only [mxa, vxa, vxb, vxc, vnd, vne, Nat.reduceAdd, Nat.reduceSub, Nat.reduceLeDiff, Nat.reduceLT, Int32.reduceLT, Int32.reduceLE, Int32.reduceAdd, Int32.reduceSub, Int32.reduceMul, Int32.reduceToNatClampNeg, not_false_eq_true, not_true_eq_false, false_implies, true_implies, Nat.zero_add, reduceIte, Nat.reduceMul, Nat.reduceEqDiff, nxa, nxc, lgn, nL_of, swx, Int.reduceAdd, gI_a, gI_k, gL_a, gL_k, gI_r, gL_r, nI_and, nI_or, nI_xor, nI_ndf, nI_shl, nI_shr, ne_eq, and_true, true_and, eq_self, true_or, or_true, false_or, or_false, Option.toList, List.cons_append, List.nil_append, List.length_nil, List.length_cons, Nat.not_lt_zero]
            exact fin 4 (tP n B b2) (hbr.symm.trans (brS_k nz ok eK)) (by omega) (by omega) τ2 (F3.tr F2.L) ⟨b3, hb3, C4⟩ ((F2.2 1 (by omega)).trans u0) ((F2.2 2 (by omega)).trans u1) x
          · refine wp_blk kX5_readBread_53 ?_
            simp (disch := first | decide | omega) only [mxa, vxa, vxb, vxc, vnd, vne, Nat.reduceAdd, Nat.reduceSub, Nat.reduceLeDiff, Nat.reduceLT, Int32.reduceLT, Int32.reduceLE, Int32.reduceAdd, Int32.reduceSub, Int32.reduceMul, Int32.reduceToNatClampNeg, not_false_eq_true, not_true_eq_false, false_implies, true_implies, Nat.zero_add, reduceIte, Nat.reduceMul, Nat.reduceEqDiff, nxa, nxc, lgn, nL_of, swx, Int.reduceAdd, gI_a, gI_k, gL_a, gL_k, gI_r, gL_r, nI_and, nI_or, nI_xor, nI_ndf, nI_shl, nI_shr, ne_eq, and_true, true_and, eq_self, true_or, or_true, false_or, or_false, Option.toList, List.cons_append, List.nil_append, List.length_nil, List.length_cons, Nat.not_lt_zero, bX5_readBread_53, kdx st, v5, show 99 < vN n B b2 by omega]
            refine wp_blk kX5_readBread_74 ?_
            simp (disch := first | decide | omega) only [mxa, vxa, vxb, vxc, vnd, vne, Nat.reduceAdd, Nat.reduceSub, Nat.reduceLeDiff, Nat.reduceLT, Int32.reduceLT, Int32.reduceLE, Int32.reduceAdd, Int32.reduceSub, Int32.reduceMul, Int32.reduceToNatClampNeg, not_false_eq_true, not_true_eq_false, false_implies, true_implies, Nat.zero_add, reduceIte, Nat.reduceMul, Nat.reduceEqDiff, nxa, nxc, lgn, nL_of, swx, Int.reduceAdd, gI_a, gI_k, gL_a, gL_k, gI_r, gL_r, nI_and, nI_or, nI_xor, nI_ndf, nI_shl, nI_shr, ne_eq, and_true, true_and, eq_self, true_or, or_true, false_or, or_false, Option.toList, List.cons_append, List.nil_append, List.length_nil, List.length_cons, Nat.not_lt_zero, bX5_readBread_74, kdx st]
            refine c_numY X _ τ n b2 0 100 (nI 99) B st rt tT hb2 C2 (by omega) c99 t0 _ (fun ok τ2 F2 C3 => absurd ok.2.2 (by omega)) (fun nok => ?_)
            have F3 : FrL (A + 1) σ (sI (sI τ 144 1 (nI (nFt n B b2))) 144 2 (nI (tP n B b2))) := F.tr (FrL.b2 (nF_le n B b2).1 (nF_le n B b2).2)
            simp (disch := first | decide | omega) only [mxa, vxa, vxb, vxc, vnd, vne, Nat.reduceAdd, Nat.reduceSub, Nat.reduceLeDiff, Nat.reduceLT, Int32.reduceLT, Int32.reduceLE, Int32.reduceAdd, Int32.reduceSub, Int32.reduceMul, Int32.reduceToNatClampNeg, not_false_eq_true, not_true_eq_false, false_implies, true_implies, Nat.zero_add, reduceIte, Nat.reduceMul, Nat.reduceEqDiff, nxa, nxc, lgn, nL_of, swx, Int.reduceAdd, gI_a, gI_k, gL_a, gL_k, gI_r, gL_r, nI_and, nI_or, nI_xor, nI_ndf, nI_shl, nI_shr, ne_eq, and_true, true_and, eq_self, true_or, or_true, false_or, or_false, Option.toList, List.cons_append, List.nil_append, List.length_nil, List.length_cons, Nat.not_lt_zero]
            exact fin _ _ (hbr.symm.trans (brS_n nz nok)) (nF_le n B b2).1 (nF_le n B b2).2 _ F3 ⟨b2, hb2, C2.mv (fun j hj => (gI_k (by omega)).trans (gI_k (by omega)))⟩ ((gI_k (by decide)).trans (gI_same _ _ _ _)) (gI_same _ _ _ _) _
      · have c1 : ¬ cc (tK n B b2) = 3 := fun q => h9 ((cc_is kl (show 9 ≤ 9 ∧ 9 ≤ 12 by omega)).mp (q.trans rfl))
        have q := hy a b2 (hbr.symm.trans (brS_e ⟨by omega, h9⟩)) τ F hb2 C2 t0 haK g1 g2
        refine wp_blk kX5_readBread_15 ?_
        simp (disch := first | decide | omega) only [mxa, vxa, vxb, vxc, vnd, vne, Nat.reduceAdd, Nat.reduceSub, Nat.reduceLeDiff, Nat.reduceLT, Int32.reduceLT, Int32.reduceLE, Int32.reduceAdd, Int32.reduceSub, Int32.reduceMul, Int32.reduceToNatClampNeg, not_false_eq_true, not_true_eq_false, false_implies, true_implies, Nat.zero_add, reduceIte, Nat.reduceMul, Nat.reduceEqDiff, nxa, nxc, lgn, nL_of, swx, Int.reduceAdd, gI_a, gI_k, gL_a, gL_k, gI_r, gL_r, nI_and, nI_or, nI_xor, nI_ndf, nI_shl, nI_shr, ne_eq, and_true, true_and, eq_self, true_or, or_true, false_or, or_false, Option.toList, List.cons_append, List.nil_append, List.length_nil, List.length_cons, Nat.not_lt_zero, bX5_readBread_15, kdx st, tT.1, C2.2.2.1, c1, show ¬ n ≤ a by omega]
        refine wp_blk kX5_readBread_102 ?_
        simp (disch := first | decide | omega) only [mxa, vxa, vxb, vxc, vnd, vne, Nat.reduceAdd, Nat.reduceSub, Nat.reduceLeDiff, Nat.reduceLT, Int32.reduceLT, Int32.reduceLE, Int32.reduceAdd, Int32.reduceSub, Int32.reduceMul, Int32.reduceToNatClampNeg, not_false_eq_true, not_true_eq_false, false_implies, true_implies, Nat.zero_add, reduceIte, Nat.reduceMul, Nat.reduceEqDiff, nxa, nxc, lgn, nL_of, swx, Int.reduceAdd, gI_a, gI_k, gL_a, gL_k, gI_r, gL_r, nI_and, nI_or, nI_xor, nI_ndf, nI_shl, nI_shr, ne_eq, and_true, true_and, eq_self, true_or, or_true, false_or, or_false, Option.toList, List.cons_append, List.nil_append, List.length_nil, List.length_cons, Nat.not_lt_zero, bX5_readBread_102]
        exact q
  obtain ⟨e1, e2, e3⟩ := tE_le (B := B) hb
  have nz : ¬ (0 ≠ 0 ∧ tK n B b ≠ 9) := fun z => z.1 rfl
  refine call_of eX5_readBread rfl ?_
  refine wp_blk kX5_readBread_0 ?_
  simp (disch := first | decide | omega) only [mxa, vxa, vxb, vxc, vnd, vne, Nat.reduceAdd, Nat.reduceSub, Nat.reduceLeDiff, Nat.reduceLT, Int32.reduceLT, Int32.reduceLE, Int32.reduceAdd, Int32.reduceSub, Int32.reduceMul, Int32.reduceToNatClampNeg, not_false_eq_true, not_true_eq_false, false_implies, true_implies, Nat.zero_add, reduceIte, Nat.reduceMul, Nat.reduceEqDiff, nxa, nxc, lgn, nL_of, swx, Int.reduceAdd, gI_a, gI_k, gL_a, gL_k, gI_r, gL_r, nI_and, nI_or, nI_xor, nI_ndf, nI_shl, nI_shr, ne_eq, and_true, true_and, eq_self, true_or, or_true, false_or, or_false, Option.toList, List.cons_append, List.nil_append, List.length_nil, List.length_cons, Nat.not_lt_zero, bX5_readBread_0, kdx hs, grx hr, a1, a4]
  refine c_numY X _ σ n b 0 100 (nI 99) B hs hr hT hb hC (by omega) c99 h0 _ (fun ok τ2 F2 C3 => ?_) (fun nok => ?_)
  · have F3 : FrL (A + 1) σ τ2 := F2.L
    simp (disch := first | decide | omega) only [mxa, vxa, vxb, vxc, vnd, vne, Nat.reduceAdd, Nat.reduceSub, Nat.reduceLeDiff, Nat.reduceLT, Int32.reduceLT, Int32.reduceLE, Int32.reduceAdd, Int32.reduceSub, Int32.reduceMul, Int32.reduceToNatClampNeg, not_false_eq_true, not_true_eq_false, false_implies, true_implies, Nat.zero_add, reduceIte, Nat.reduceMul, Nat.reduceEqDiff, nxa, nxc, lgn, nL_of, swx, Int.reduceAdd, gI_a, gI_k, gL_a, gL_k, gI_r, gL_r, nI_and, nI_or, nI_xor, nI_ndf, nI_shl, nI_shr, ne_eq, and_true, true_and, eq_self, true_or, or_true, false_or, or_false, Option.toList, List.cons_append, List.nil_append, List.length_nil, List.length_cons, Nat.not_lt_zero, (F3.1.kd (A + 1)).trans a2]
    refine loop 6 1 (tD n B b) (by omega) (by omega) (by omega) (brS_y nz ok (by omega)).symm rfl e2 _ (put 0 _ (by omega) τ2 F3) (C3.mv (fun j _ => gI_a (by omega))) ((gI_a (by omega)).trans ((F2.2 1 (by omega)).trans h0)) (fun i hi => ?_) (fun i hi => ?_)
    · have i0 : i = 0 := by omega
      rw [i0, gI_same]
      exact ⟨rfl, by have := ok.2.2; show vN n B b ≤ 99; omega⟩
    · rw [gI_k (by omega), F2.1.2.2.1 _ (by omega)]
  · have F3 : FrL (A + 1) σ (sI (sI σ 144 1 (nI (nFt n B b))) 144 2 (nI (tP n B b))) := (FrL.b2 (nF_le n B b).1 (nF_le n B b).2)
    simp (disch := first | decide | omega) only [mxa, vxa, vxb, vxc, vnd, vne, Nat.reduceAdd, Nat.reduceSub, Nat.reduceLeDiff, Nat.reduceLT, Int32.reduceLT, Int32.reduceLE, Int32.reduceAdd, Int32.reduceSub, Int32.reduceMul, Int32.reduceToNatClampNeg, not_false_eq_true, not_true_eq_false, false_implies, true_implies, Nat.zero_add, reduceIte, Nat.reduceMul, Nat.reduceEqDiff, nxa, nxc, lgn, nL_of, swx, Int.reduceAdd, gI_a, gI_k, gL_a, gL_k, gI_r, gL_r, nI_and, nI_or, nI_xor, nI_ndf, nI_shl, nI_shr, ne_eq, and_true, true_and, eq_self, true_or, or_true, false_or, or_false, Option.toList, List.cons_append, List.nil_append, List.length_nil, List.length_cons, Nat.not_lt_zero, a2]
    exact stop _ _ 1 (brS_n nz nok) (nF_le n B b).1 (nF_le n B b).2 (by omega) _ (put 0 _ (by omega) _ F3) ⟨b, hb, hC.mv (fun j hj => (gI_a (by omega)).trans ((gI_k (by omega)).trans (gI_k (by omega))))⟩ ((gI_a (by omega)).trans ((gI_k (by decide)).trans (gI_same _ _ _ _))) ((gI_a (by omega)).trans (gI_same _ _ _ _))
theorem c_breadF (X : Cx) (d : Nat) (σ : Mm) (n b A k : Nat) (K : Int32) (B : Nat → Nat) (hs : Sh σ) (hr : Rf σ) (hA : Fm σ A) (A1 : 37 ≤ A) (A2 : A ≤ 64) (hT : TX σ n B) (hb : b ≤ n) (hC : CT σ n B b) (h0 : gI σ 144 1 = nI k) (hk : 1 ≤ k) (hk4 : k ≤ 4) (Q : Po) (hQ : ∀ τ : Mm, FrL (A + 1) σ τ → (∃ b2, b2 ≤ n ∧ CT τ n B b2) → gI τ 144 1 = nI k → gI τ 144 2 = gI σ 144 2 → Q none τ) : Call X (d + 9) 0 0 mX5_readBread [.ref 144, .ref A, .int K] σ Q := by
  obtain ⟨a1, a2, a3, a4, a5⟩ := hA
  have n9 := hT.2.1
  refine call_of eX5_readBread rfl ?_
  refine wp_blk kX5_readBread_0 ?_
  simp (disch := first | decide | omega) only [mxa, vxa, vxb, vxc, vnd, vne, Nat.reduceAdd, Nat.reduceSub, Nat.reduceLeDiff, Nat.reduceLT, Int32.reduceLT, Int32.reduceLE, Int32.reduceAdd, Int32.reduceSub, Int32.reduceMul, Int32.reduceToNatClampNeg, not_false_eq_true, not_true_eq_false, false_implies, true_implies, Nat.zero_add, reduceIte, Nat.reduceMul, Nat.reduceEqDiff, nxa, nxc, lgn, nL_of, swx, Int.reduceAdd, gI_a, gI_k, gL_a, gL_k, gI_r, gL_r, nI_and, nI_or, nI_xor, nI_ndf, nI_shl, nI_shr, ne_eq, and_true, true_and, eq_self, true_or, or_true, false_or, or_false, Option.toList, List.cons_append, List.nil_append, List.length_nil, List.length_cons, Nat.not_lt_zero, bX5_readBread_0, kdx hs, grx hr, a1, a4]
  refine c_numF X _ σ n b k (nI 0) (nI 99) B hs hr hT hb hC h0 hk hk4 _ (fun τ2 b2 x F2 hb2 C2 => ?_)
  have F3 : FrL (A + 1) σ (sI τ2 (A + 1) 0 x) := F2.L.tr (FrL.put (by omega))
  have C3 : CT (sI τ2 (A + 1) 0 x) n B b2 := C2.mv (fun j _ => gI_a (by omega))
  have t0 : gI (sI τ2 (A + 1) 0 x) 144 1 = nI k := (gI_a (by omega)).trans ((F2.2 1 (by omega)).trans h0)
  have q := hQ _ F3 ⟨b2, hb2, C3⟩ t0 ((gI_a (by omega)).trans (F2.2 2 (by omega)))
  simp (disch := first | decide | omega) only [mxa, vxa, vxb, vxc, vnd, vne, Nat.reduceAdd, Nat.reduceSub, Nat.reduceLeDiff, Nat.reduceLT, Int32.reduceLT, Int32.reduceLE, Int32.reduceAdd, Int32.reduceSub, Int32.reduceMul, Int32.reduceToNatClampNeg, not_false_eq_true, not_true_eq_false, false_implies, true_implies, Nat.zero_add, reduceIte, Nat.reduceMul, Nat.reduceEqDiff, nxa, nxc, lgn, nL_of, swx, Int.reduceAdd, gI_a, gI_k, gL_a, gL_k, gI_r, gL_r, nI_and, nI_or, nI_xor, nI_ndf, nI_shl, nI_shr, ne_eq, and_true, true_and, eq_self, true_or, or_true, false_or, or_false, Option.toList, List.cons_append, List.nil_append, List.length_nil, List.length_cons, Nat.not_lt_zero, (F2.1.kd (A + 1)).trans a2]
  generalize sI τ2 (A + 1) 0 x = μ at *
  have st : Sh μ := F3.1.Sh hs
  have tT := hT.keepL F3 (by omega)
  have cl := cc_le _ (tK_le (n := n) (B := B) (b := b2)).1
  have e : Wp X mX5_readBread (rmo (d + 9) 0 0) (d + 9) Q 0 0 102 [some (.ref 144), some (.ref A), some (.int K), some (.int (nI 1)), none, none] [] μ := by
    refine wp_blk kX5_readBread_102 ?_
    simp (disch := first | decide | omega) only [mxa, vxa, vxb, vxc, vnd, vne, Nat.reduceAdd, Nat.reduceSub, Nat.reduceLeDiff, Nat.reduceLT, Int32.reduceLT, Int32.reduceLE, Int32.reduceAdd, Int32.reduceSub, Int32.reduceMul, Int32.reduceToNatClampNeg, not_false_eq_true, not_true_eq_false, false_implies, true_implies, Nat.zero_add, reduceIte, Nat.reduceMul, Nat.reduceEqDiff, nxa, nxc, lgn, nL_of, swx, Int.reduceAdd, gI_a, gI_k, gL_a, gL_k, gI_r, gL_r, nI_and, nI_or, nI_xor, nI_ndf, nI_shl, nI_shr, ne_eq, and_true, true_and, eq_self, true_or, or_true, false_or, or_false, Option.toList, List.cons_append, List.nil_append, List.length_nil, List.length_cons, Nat.not_lt_zero, bX5_readBread_102]
    exact q
  by_cases z : n ≤ 1
  · refine wp_blk kX5_readBread_15 ?_
    simp (disch := first | decide | omega) only [mxa, vxa, vxb, vxc, vnd, vne, Nat.reduceAdd, Nat.reduceSub, Nat.reduceLeDiff, Nat.reduceLT, Int32.reduceLT, Int32.reduceLE, Int32.reduceAdd, Int32.reduceSub, Int32.reduceMul, Int32.reduceToNatClampNeg, not_false_eq_true, not_true_eq_false, false_implies, true_implies, Nat.zero_add, reduceIte, Nat.reduceMul, Nat.reduceEqDiff, nxa, nxc, lgn, nL_of, swx, Int.reduceAdd, gI_a, gI_k, gL_a, gL_k, gI_r, gL_r, nI_and, nI_or, nI_xor, nI_ndf, nI_shl, nI_shr, ne_eq, and_true, true_and, eq_self, true_or, or_true, false_or, or_false, Option.toList, List.cons_append, List.nil_append, List.length_nil, List.length_cons, Nat.not_lt_zero, bX5_readBread_15, kdx st, tT.1, z]
    exact e
  · by_cases y : cc (tK n B b2) = 3
    · refine wp_blk kX5_readBread_15 ?_
      simp (disch := first | decide | omega) only [mxa, vxa, vxb, vxc, vnd, vne, Nat.reduceAdd, Nat.reduceSub, Nat.reduceLeDiff, Nat.reduceLT, Int32.reduceLT, Int32.reduceLE, Int32.reduceAdd, Int32.reduceSub, Int32.reduceMul, Int32.reduceToNatClampNeg, not_false_eq_true, not_true_eq_false, false_implies, true_implies, Nat.zero_add, reduceIte, Nat.reduceMul, Nat.reduceEqDiff, nxa, nxc, lgn, nL_of, swx, Int.reduceAdd, gI_a, gI_k, gL_a, gL_k, gI_r, gL_r, nI_and, nI_or, nI_xor, nI_ndf, nI_shl, nI_shr, ne_eq, and_true, true_and, eq_self, true_or, or_true, false_or, or_false, Option.toList, List.cons_append, List.nil_append, List.length_nil, List.length_cons, Nat.not_lt_zero, bX5_readBread_15, kdx st, tT.1, C3.2.2.1, t0, z, y, show ¬ k = 0 by omega]
      exact e
    · refine wp_blk kX5_readBread_15 ?_
      simp (disch := first | decide | omega) only [mxa, vxa, vxb, vxc, vnd, vne, Nat.reduceAdd, Nat.reduceSub, Nat.reduceLeDiff, Nat.reduceLT, Int32.reduceLT, Int32.reduceLE, Int32.reduceAdd, Int32.reduceSub, Int32.reduceMul, Int32.reduceToNatClampNeg, not_false_eq_true, not_true_eq_false, false_implies, true_implies, Nat.zero_add, reduceIte, Nat.reduceMul, Nat.reduceEqDiff, nxa, nxc, lgn, nL_of, swx, Int.reduceAdd, gI_a, gI_k, gL_a, gL_k, gI_r, gL_r, nI_and, nI_or, nI_xor, nI_ndf, nI_shl, nI_shr, ne_eq, and_true, true_and, eq_self, true_or, or_true, false_or, or_false, Option.toList, List.cons_append, List.nil_append, List.length_nil, List.length_cons, Nat.not_lt_zero, bX5_readBread_15, kdx st, tT.1, C3.2.2.1, z, y]
      exact e
