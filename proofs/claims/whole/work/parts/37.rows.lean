/-! rows of numbers -/
set_option maxRecDepth 20000
theorem c_fillI (X : Cx) (d : Nat) (σ : Mm) (a n : Nat) (v : Int32) (hk : kd σ a = some (1, n)) (hn : n ≤ 1000000) (Q : Po) (hQ : Q none (rI σ a (fun j => if j < n then v else gI σ a j))) : Call X d 0 0 mJ7_fill_53178 [.ref a, .int v] σ Q := by
  refine call_of eJ7_fill_53178 rfl ?_
  refine wp_blk kJ7_fill_53178_0 ?_
  simp (disch := first | decide | omega) only [mxa, vxa, vxb, vxc, vnd, vne, Nat.reduceAdd, Nat.reduceSub, Nat.reduceLeDiff, Nat.reduceLT, Int32.reduceLT, Int32.reduceLE, Int32.reduceAdd, Int32.reduceSub, Int32.reduceMul, Int32.reduceToNatClampNeg, not_false_eq_true, not_true_eq_false, false_implies, true_implies, Nat.zero_add, reduceIte, Nat.reduceMul, Nat.reduceEqDiff, nxa, nxc, lgn, nL_of, gI_a, gI_k, gL_a, gL_k, gI_r, gL_r, nI_and, nI_or, nI_xor, nI_ndf, nI_shl, nI_shr, ne_eq, and_true, true_and, eq_self, true_or, or_true, false_or, or_false, Option.toList, List.cons_append, List.nil_append, List.length_nil, List.length_cons, Nat.not_lt_zero, bJ7_fill_53178_0, hk]
  have key := wfor (fun k => Wp X mJ7_fill_53178 (rmo d 0 0) d Q 0 0 5 [some (.ref a), some (.int v), some (.int (nI k)), some (.int (nI n))] [] (rI σ a (fun j => if j < k then v else gI σ a j))) n (fun k hkn hP => by
    refine wp_blk kJ7_fill_53178_5 ?_
    simp (disch := first | decide | omega) only [mxa, vxa, vxb, vxc, vnd, vne, Nat.reduceAdd, Nat.reduceSub, Nat.reduceLeDiff, Nat.reduceLT, Int32.reduceLT, Int32.reduceLE, Int32.reduceAdd, Int32.reduceSub, Int32.reduceMul, Int32.reduceToNatClampNeg, not_false_eq_true, not_true_eq_false, false_implies, true_implies, Nat.zero_add, reduceIte, Nat.reduceMul, Nat.reduceEqDiff, nxa, nxc, lgn, nL_of, gI_a, gI_k, gL_a, gL_k, gI_r, gL_r, nI_and, nI_or, nI_xor, nI_ndf, nI_shl, nI_shr, ne_eq, and_true, true_and, eq_self, true_or, or_true, false_or, or_false, Option.toList, List.cons_append, List.nil_append, List.length_nil, List.length_cons, Nat.not_lt_zero, bJ7_fill_53178_5, hk, show ¬ n ≤ k by omega]
    rw [sI_rI]
    refine cast ?_ hP
    congr 2
    funext j
    unfold upd
    by_cases h1 : j = k
    · simp [h1]
    · simp only [h1, if_false]
      by_cases h2 : j < k
      · rw [if_pos h2, if_pos (by omega)]
      · rw [if_neg h2, if_neg (by omega)]) (by
    refine wp_blk kJ7_fill_53178_5 ?_
    simp (disch := first | decide | omega) only [mxa, vxa, vxb, vxc, vnd, vne, Nat.reduceAdd, Nat.reduceSub, Nat.reduceLeDiff, Nat.reduceLT, Int32.reduceLT, Int32.reduceLE, Int32.reduceAdd, Int32.reduceSub, Int32.reduceMul, Int32.reduceToNatClampNeg, not_false_eq_true, not_true_eq_false, false_implies, true_implies, Nat.zero_add, reduceIte, Nat.reduceMul, Nat.reduceEqDiff, nxa, nxc, lgn, nL_of, gI_a, gI_k, gL_a, gL_k, gI_r, gL_r, nI_and, nI_or, nI_xor, nI_ndf, nI_shl, nI_shr, ne_eq, and_true, true_and, eq_self, true_or, or_true, false_or, or_false, Option.toList, List.cons_append, List.nil_append, List.length_nil, List.length_cons, Nat.not_lt_zero, bJ7_fill_53178_5, hk, Nat.le_refl]
    refine wp_blk kJ7_fill_53178_20 ?_
    simp (disch := first | decide | omega) only [mxa, vxa, vxb, vxc, vnd, vne, Nat.reduceAdd, Nat.reduceSub, Nat.reduceLeDiff, Nat.reduceLT, Int32.reduceLT, Int32.reduceLE, Int32.reduceAdd, Int32.reduceSub, Int32.reduceMul, Int32.reduceToNatClampNeg, not_false_eq_true, not_true_eq_false, false_implies, true_implies, Nat.zero_add, reduceIte, Nat.reduceMul, Nat.reduceEqDiff, nxa, nxc, lgn, nL_of, gI_a, gI_k, gL_a, gL_k, gI_r, gL_r, nI_and, nI_or, nI_xor, nI_ndf, nI_shl, nI_shr, ne_eq, and_true, true_and, eq_self, true_or, or_true, false_or, or_false, Option.toList, List.cons_append, List.nil_append, List.length_nil, List.length_cons, Nat.not_lt_zero, bJ7_fill_53178_20]
    exact hQ)
  simp only [Nat.not_lt_zero, if_false, rI_self] at key
  exact key
def updL (f : Nat → Int64) (k : Nat) (v : Int64) : Nat → Int64 := fun j => if j = k then v else f j
theorem rL_self (σ : Mm) (a : Nat) : rL σ a (gL σ a) = σ := by
  unfold rL gL
  congr 3
  funext b j
  by_cases h : b = a
  · simp [h]
  · simp [h]
theorem sL_rL (σ : Mm) (a k : Nat) (f : Nat → Int64) (v : Int64) : sL (rL σ a f) a k v = rL σ a (updL f k v) := by
  unfold sL rL updL
  congr 3
  funext b j
  by_cases h : b = a
  · by_cases hj : j = k
    · simp [h, hj]
    · simp [h, hj]
  · simp [h]
theorem c_fillL (X : Cx) (d : Nat) (σ : Mm) (a n : Nat) (v : Int64) (hk : kd σ a = some (2, n)) (hn : n ≤ 1000000) (Q : Po) (hQ : Q none (rL σ a (fun j => if j < n then v else gL σ a j))) : Call X d 0 0 mJ7_fill_d0a16 [.ref a, .long v] σ Q := by
  refine call_of eJ7_fill_d0a16 rfl ?_
  refine wp_blk kJ7_fill_d0a16_0 ?_
  simp (disch := first | decide | omega) only [mxa, vxa, vxb, vxc, vnd, vne, Nat.reduceAdd, Nat.reduceSub, Nat.reduceLeDiff, Nat.reduceLT, Int32.reduceLT, Int32.reduceLE, Int32.reduceAdd, Int32.reduceSub, Int32.reduceMul, Int32.reduceToNatClampNeg, not_false_eq_true, not_true_eq_false, false_implies, true_implies, Nat.zero_add, reduceIte, Nat.reduceMul, Nat.reduceEqDiff, nxa, nxc, lgn, nL_of, gI_a, gI_k, gL_a, gL_k, gI_r, gL_r, nI_and, nI_or, nI_xor, nI_ndf, nI_shl, nI_shr, ne_eq, and_true, true_and, eq_self, true_or, or_true, false_or, or_false, Option.toList, List.cons_append, List.nil_append, List.length_nil, List.length_cons, Nat.not_lt_zero, bJ7_fill_d0a16_0, hk]
  have key := wfor (fun k => Wp X mJ7_fill_d0a16 (rmo d 0 0) d Q 0 0 6 [some (.ref a), some (.long v), none, some (.int (nI k)), some (.int (nI n))] [] (rL σ a (fun j => if j < k then v else gL σ a j))) n (fun k hkn hP => by
    refine wp_blk kJ7_fill_d0a16_6 ?_
    simp (disch := first | decide | omega) only [mxa, vxa, vxb, vxc, vnd, vne, Nat.reduceAdd, Nat.reduceSub, Nat.reduceLeDiff, Nat.reduceLT, Int32.reduceLT, Int32.reduceLE, Int32.reduceAdd, Int32.reduceSub, Int32.reduceMul, Int32.reduceToNatClampNeg, not_false_eq_true, not_true_eq_false, false_implies, true_implies, Nat.zero_add, reduceIte, Nat.reduceMul, Nat.reduceEqDiff, nxa, nxc, lgn, nL_of, gI_a, gI_k, gL_a, gL_k, gI_r, gL_r, nI_and, nI_or, nI_xor, nI_ndf, nI_shl, nI_shr, ne_eq, and_true, true_and, eq_self, true_or, or_true, false_or, or_false, Option.toList, List.cons_append, List.nil_append, List.length_nil, List.length_cons, Nat.not_lt_zero, bJ7_fill_d0a16_6, hk, show ¬ n ≤ k by omega]
    rw [sL_rL]
    refine cast ?_ hP
    congr 2
    funext j
    unfold updL
    by_cases h1 : j = k
    · simp [h1]
    · simp only [h1, if_false]
      by_cases h2 : j < k
      · rw [if_pos h2, if_pos (by omega)]
      · rw [if_neg h2, if_neg (by omega)]) (by
    refine wp_blk kJ7_fill_d0a16_6 ?_
    simp (disch := first | decide | omega) only [mxa, vxa, vxb, vxc, vnd, vne, Nat.reduceAdd, Nat.reduceSub, Nat.reduceLeDiff, Nat.reduceLT, Int32.reduceLT, Int32.reduceLE, Int32.reduceAdd, Int32.reduceSub, Int32.reduceMul, Int32.reduceToNatClampNeg, not_false_eq_true, not_true_eq_false, false_implies, true_implies, Nat.zero_add, reduceIte, Nat.reduceMul, Nat.reduceEqDiff, nxa, nxc, lgn, nL_of, gI_a, gI_k, gL_a, gL_k, gI_r, gL_r, nI_and, nI_or, nI_xor, nI_ndf, nI_shl, nI_shr, ne_eq, and_true, true_and, eq_self, true_or, or_true, false_or, or_false, Option.toList, List.cons_append, List.nil_append, List.length_nil, List.length_cons, Nat.not_lt_zero, bJ7_fill_d0a16_6, hk, Nat.le_refl]
    refine wp_blk kJ7_fill_d0a16_22 ?_
    simp (disch := first | decide | omega) only [mxa, vxa, vxb, vxc, vnd, vne, Nat.reduceAdd, Nat.reduceSub, Nat.reduceLeDiff, Nat.reduceLT, Int32.reduceLT, Int32.reduceLE, Int32.reduceAdd, Int32.reduceSub, Int32.reduceMul, Int32.reduceToNatClampNeg, not_false_eq_true, not_true_eq_false, false_implies, true_implies, Nat.zero_add, reduceIte, Nat.reduceMul, Nat.reduceEqDiff, nxa, nxc, lgn, nL_of, gI_a, gI_k, gL_a, gL_k, gI_r, gL_r, nI_and, nI_or, nI_xor, nI_ndf, nI_shl, nI_shr, ne_eq, and_true, true_and, eq_self, true_or, or_true, false_or, or_false, Option.toList, List.cons_append, List.nil_append, List.length_nil, List.length_cons, Nat.not_lt_zero, bJ7_fill_d0a16_22]
    exact hQ)
  simp only [Nat.not_lt_zero, if_false, rL_self] at key
  exact key
theorem row_pack {σ : Mm} (hs : Sh σ) (hr : Rf σ) {r : Nat} (h : r < 4) : gR σ 136 r = some (137 + 2 * r) ∧ kd σ (137 + 2 * r) = some (0, 6) ∧ gR σ (137 + 2 * r) 3 = some (138 + 2 * r) ∧ kd σ (138 + 2 * r) = some (2, 40) := by
  rcases (by omega : r = 0 ∨ r = 1 ∨ r = 2 ∨ r = 3) with rfl | rfl | rfl | rfl <;> simp only [kdx hs, grx hr, Nat.reduceAdd, Nat.reduceMul, and_self]
