/-! stones: the model's outer loop -/
set_option maxRecDepth 20000
theorem m_stOut (X : Cx) (d : Nat) (σ : Mm) (V : Nat → Int32) (t N O K o w : Nat) (k : Int32) (hs : Sh σ) (hr : Rf σ) (hG : Gd V t N O K) (ho : o < O) (zz : gI σ 191 (6 + o) = nI (zN V o)) (hL : ∀ s, s < 2 ^ N → GL V N O σ s) (w2 : w < 2 ^ N) (h0 : gI σ 203 0 = nI 0) (Q : Po) (fin : ∀ τ : Mm, Fr (fun c => c = 203) σ τ → gI τ 203 0 = nI 0 → (∀ s, 0 < s → s ≤ w → s &&& w = s → gI τ 203 s = cm (fitM V N (zN V o)) (gI τ 203) s) → Wp X mX10_stones (rmo (d + 2) 0 0) (d + 2) Q 0 0 194 [some (.ref 190), some (.int (nI o)), some (.int k), some (.int (nI w)), none, none, none, none] [] τ) : Wp X mX10_stones (rmo (d + 2) 0 0) (d + 2) Q 0 0 45 [some (.ref 190), some (.int (nI o)), some (.int k), some (.int (nI w)), some (.int (nI 1)), none, none, none] [] σ := by
  have hN10 := hG.1.2
  have pw := pow_le hG.1.2
  have go := wfor (fun m => ∀ τ : Mm, Fr (fun c => c = 203) σ τ → gI τ 203 0 = nI 0 → (∀ s, 0 < s → s ≤ m → s &&& w = s → gI τ 203 s = cm (fitM V N (zN V o)) (gI τ 203) s) → Wp X mX10_stones (rmo (d + 2) 0 0) (d + 2) Q 0 0 45 [some (.ref 190), some (.int (nI o)), some (.int k), some (.int (nI w)), some (.int (nI (m + 1))), none, none, none] [] τ) w (fun m hm hP τ F h1 h2 => by
    have s1 := F.Sh hs
    have r1 := F.Rf hr
    have lI := low_I (m + 1) (by omega)
    have nl : ndf (m + 1) w ≤ m + 1 := sub_le (sub_bit.mpr (fun i hi => by rw [ndf_bit, Bool.and_eq_true] at hi; exact hi.1))
    by_cases y : (m + 1) &&& w = m + 1
    · have inn := m_stIn X d (sI τ 203 (m + 1) (nI 99)) V t N O K (m + 1) o w k (by exact s1) (by exact r1) hG ho ((gI_a (by decide)).trans ((F.2.2.1 191 (by omega) _).trans zz)) (fun s hs' => (hL s hs').keep (fun c hc j => (gI_a (by omega)).trans (F.2.2.1 c (by omega) j))) (by omega) (by omega) Q (fun τ' F' k1 k2 => by
        have eq : ∀ r, r ≠ m + 1 → gI τ' 203 r = gI τ 203 r := fun r hr' => (k1 r hr').trans (gI_k hr')
        refine wp_blk kX10_stones_188 ?_
        simp (disch := first | decide | omega) only [mxa, vxa, vxb, vxc, vnd, vne, Nat.reduceAdd, Nat.reduceSub, Nat.reduceLeDiff, Nat.reduceLT, Int32.reduceLT, Int32.reduceLE, Int32.reduceAdd, Int32.reduceSub, Int32.reduceMul, Int32.reduceToNatClampNeg, not_false_eq_true, not_true_eq_false, false_implies, true_implies, Nat.zero_add, reduceIte, Nat.reduceMul, Nat.reduceEqDiff, nxa, nxc, lgn, nL_of, swx, Int.reduceAdd, gI_a, gI_k, gL_a, gL_k, gI_r, gL_r, nI_and, nI_or, nI_xor, nI_ndf, nI_shl, nI_shr, ne_eq, and_true, true_and, eq_self, true_or, or_true, false_or, or_false, Option.toList, List.cons_append, List.nil_append, List.length_nil, List.length_cons, Nat.not_lt_zero, bX10_stones_188]
        refine hP τ' (F.tr ((Fr.sI (S := fun c => c = 203) rfl).tr F')) ((eq 0 (by omega)).trans h1) (fun s q1 q2 q3 => ?_)
        by_cases e : s = m + 1
        · rw [e, k2]
          exact cm_congr (by omega) (by omega) (fun r r1 _ => (k1 r (by omega)).symm)
        · rw [eq s e, h2 s q1 (by omega) q3]
          exact cm_congr (by omega) q1 (fun r r1 _ => (eq r (by omega)).symm))
      refine wp_blk kX10_stones_45 ?_
      simp (disch := first | decide | omega) only [mxa, vxa, vxb, vxc, vnd, vne, Nat.reduceAdd, Nat.reduceSub, Nat.reduceLeDiff, Nat.reduceLT, Int32.reduceLT, Int32.reduceLE, Int32.reduceAdd, Int32.reduceSub, Int32.reduceMul, Int32.reduceToNatClampNeg, not_false_eq_true, not_true_eq_false, false_implies, true_implies, Nat.zero_add, reduceIte, Nat.reduceMul, Nat.reduceEqDiff, nxa, nxc, lgn, nL_of, swx, Int.reduceAdd, gI_a, gI_k, gL_a, gL_k, gI_r, gL_r, nI_and, nI_or, nI_xor, nI_ndf, nI_shl, nI_shr, ne_eq, and_true, true_and, eq_self, true_or, or_true, false_or, or_false, Option.toList, List.cons_append, List.nil_append, List.length_nil, List.length_cons, Nat.not_lt_zero, bX10_stones_45, ndf_0.mpr y, show ¬ w < m + 1 by omega]
      refine wp_blk kX10_stones_63 ?_
      simp (disch := first | decide | omega) only [mxa, vxa, vxb, vxc, vnd, vne, Nat.reduceAdd, Nat.reduceSub, Nat.reduceLeDiff, Nat.reduceLT, Int32.reduceLT, Int32.reduceLE, Int32.reduceAdd, Int32.reduceSub, Int32.reduceMul, Int32.reduceToNatClampNeg, not_false_eq_true, not_true_eq_false, false_implies, true_implies, Nat.zero_add, reduceIte, Nat.reduceMul, Nat.reduceEqDiff, nxa, nxc, lgn, nL_of, swx, Int.reduceAdd, gI_a, gI_k, gL_a, gL_k, gI_r, gL_r, nI_and, nI_or, nI_xor, nI_ndf, nI_shl, nI_shr, ne_eq, and_true, true_and, eq_self, true_or, or_true, false_or, or_false, Option.toList, List.cons_append, List.nil_append, List.length_nil, List.length_cons, Nat.not_lt_zero, bX10_stones_63, kdx s1, grx r1, lI]
      exact inn (m + 1) (m + 1) (Nat.le_refl _) (Nat.and_self _) _ Fr.rf (fun _ _ => rfl) ((gI_same _ _ _ _).trans fE_top.symm)
    · refine wp_blk kX10_stones_45 ?_
      simp (disch := first | decide | omega) only [mxa, vxa, vxb, vxc, vnd, vne, Nat.reduceAdd, Nat.reduceSub, Nat.reduceLeDiff, Nat.reduceLT, Int32.reduceLT, Int32.reduceLE, Int32.reduceAdd, Int32.reduceSub, Int32.reduceMul, Int32.reduceToNatClampNeg, not_false_eq_true, not_true_eq_false, false_implies, true_implies, Nat.zero_add, reduceIte, Nat.reduceMul, Nat.reduceEqDiff, nxa, nxc, lgn, nL_of, swx, Int.reduceAdd, gI_a, gI_k, gL_a, gL_k, gI_r, gL_r, nI_and, nI_or, nI_xor, nI_ndf, nI_shl, nI_shr, ne_eq, and_true, true_and, eq_self, true_or, or_true, false_or, or_false, Option.toList, List.cons_append, List.nil_append, List.length_nil, List.length_cons, Nat.not_lt_zero, bX10_stones_45, show ¬ ndf (m + 1) w = 0 from fun q => y (ndf_0.mp q), show ¬ w < m + 1 by omega]
      refine wp_blk kX10_stones_188 ?_
      simp (disch := first | decide | omega) only [mxa, vxa, vxb, vxc, vnd, vne, Nat.reduceAdd, Nat.reduceSub, Nat.reduceLeDiff, Nat.reduceLT, Int32.reduceLT, Int32.reduceLE, Int32.reduceAdd, Int32.reduceSub, Int32.reduceMul, Int32.reduceToNatClampNeg, not_false_eq_true, not_true_eq_false, false_implies, true_implies, Nat.zero_add, reduceIte, Nat.reduceMul, Nat.reduceEqDiff, nxa, nxc, lgn, nL_of, swx, Int.reduceAdd, gI_a, gI_k, gL_a, gL_k, gI_r, gL_r, nI_and, nI_or, nI_xor, nI_ndf, nI_shl, nI_shr, ne_eq, and_true, true_and, eq_self, true_or, or_true, false_or, or_false, Option.toList, List.cons_append, List.nil_append, List.length_nil, List.length_cons, Nat.not_lt_zero, bX10_stones_188]
      refine hP τ F h1 (fun s q1 q2 q3 => ?_)
      by_cases e : s = m + 1
      · rw [e] at q3; exact absurd q3 y
      · exact h2 s q1 (by omega) q3) (fun τ F h1 h2 => by
    refine wp_blk kX10_stones_45 ?_
    simp (disch := first | decide | omega) only [mxa, vxa, vxb, vxc, vnd, vne, Nat.reduceAdd, Nat.reduceSub, Nat.reduceLeDiff, Nat.reduceLT, Int32.reduceLT, Int32.reduceLE, Int32.reduceAdd, Int32.reduceSub, Int32.reduceMul, Int32.reduceToNatClampNeg, not_false_eq_true, not_true_eq_false, false_implies, true_implies, Nat.zero_add, reduceIte, Nat.reduceMul, Nat.reduceEqDiff, nxa, nxc, lgn, nL_of, swx, Int.reduceAdd, gI_a, gI_k, gL_a, gL_k, gI_r, gL_r, nI_and, nI_or, nI_xor, nI_ndf, nI_shl, nI_shr, ne_eq, and_true, true_and, eq_self, true_or, or_true, false_or, or_false, Option.toList, List.cons_append, List.nil_append, List.length_nil, List.length_cons, Nat.not_lt_zero, bX10_stones_45, show w < w + 1 by omega]
    exact Wp.fog 4 (fin τ F h1 h2))
  exact go σ Fr.rf h0 (fun s q1 q2 => absurd q2 (by omega))
