/-! marry: the model's run, its new row -/
set_option maxRecDepth 20000
theorem c_weds (X : Cx) (d : Nat) (σ : Mm) (V : Nat → Int32) (N f g : Nat) (hs : Sh σ) (hr : Rf σ) (hV : gI σ 191 = V) (hN : V 0 = nI N) (hN10 : N ≤ 10) (hfg : f < g) (hg : g < N) (Q : Po) (hQ : Q none (rI σ 191 (wedV V N f g))) : Call X (d + 3) 0 0 mX10_weds [.ref 190, .int (nI f), .int (nI g)] σ Q := by
  have start : ∀ R : Nat → Int32, rI σ 191 V = σ := fun _ => by rw [← hV]; exact rI_self σ 191
  have jo : ∀ (d b f g : Nat) (l : Int32) (R : Nat → Int32) (Q : Po), b + f < 900 → b + g < 900 → Q none (rI σ 191 (jR f g b l R)) → Call X d 0 0 mX10_joins [.ref 190, .int (nI b), .int (nI f), .int (nI g), .int l] (rI σ 191 R) Q := fun d b f g l R Q h1 h2 h => by
    refine c_joins X d _ b f g l (by exact hs) (by exact hr) h1 h2 _ ?_
    rw [gI_rS, sI_rI]
    exact h
  have cc : ∀ (d b : Nat) (R : Nat → Int32) (Q : Po), b + 10 < 900 → Q none (rI σ 191 (clo b g R)) → Call X d 0 0 mX10_closes [.ref 190, .int (nI b), .int (nI g)] (rI σ 191 R) Q := fun d b R Q h1 h => by
    refine c_closes X d _ b g (by exact hs) (by exact hr) h1 (by omega) _ ?_
    rw [gI_rS, rI_rI]
    exact h
  have ct : ∀ (d b : Nat) (R : Nat → Int32) (Q : Po), b + 110 < 900 → Q none (rI σ 191 (clT b g R)) → Call X (d + 1) 0 0 mX10_closesTwice [.ref 190, .int (nI b), .int (nI g)] (rI σ 191 R) Q := fun d b R Q h1 h => by
    refine c_closesTwice X d _ b g (by exact hs) (by exact hr) h1 (by omega) _ ?_
    rw [gI_rS, rI_rI]
    exact h
  have zero : ∀ R : Nat → Int32, R 0 = nI N → ∀ R7, R7 = clT 119 g (clT 219 g (bsh g R)) → R7 0 = nI N := fun R h R7 h7 => by
    rw [h7, clT_o (by omega), clT_o (by omega), bsh_o (by omega)]; exact h
  have s6 : w5V V N f g 0 = nI N → Wp X mX10_weds (rmo (d + 3) 0 0) (d + 3) Q 0 0 325 [some (.ref 190), some (.int (nI f)), some (.int (nI g)), some (.int (nI 50))] [] (rI σ 191 (bsh g (w5V V N f g))) := fun h0 => by
    have z := zero _ h0 _ rfl
    refine wp_blk kX10_weds_325 ?_
    simp (disch := first | decide | omega) only [mxa, vxa, vxb, vxc, vnd, vne, Nat.reduceAdd, Nat.reduceSub, Nat.reduceLeDiff, Nat.reduceLT, Int32.reduceLT, Int32.reduceLE, Int32.reduceAdd, Int32.reduceSub, Int32.reduceMul, Int32.reduceToNatClampNeg, not_false_eq_true, not_true_eq_false, false_implies, true_implies, Nat.zero_add, reduceIte, Nat.reduceMul, Nat.reduceEqDiff, nxa, nxc, lgn, nL_of, swx, Int.reduceAdd, gI_a, gI_k, gL_a, gL_k, gI_r, gL_r, nI_and, nI_or, nI_xor, nI_ndf, nI_shl, nI_shr, ne_eq, and_true, true_and, eq_self, true_or, or_true, false_or, or_false, Option.toList, List.cons_append, List.nil_append, List.length_nil, List.length_cons, Nat.not_lt_zero, bX10_weds_325, kdx hs, grx hr]
    refine ct _ 219 _ _ (by omega) ?_
    simp (disch := first | decide | omega) only [mxa, vxa, vxb, vxc, vnd, vne, Nat.reduceAdd, Nat.reduceSub, Nat.reduceLeDiff, Nat.reduceLT, Int32.reduceLT, Int32.reduceLE, Int32.reduceAdd, Int32.reduceSub, Int32.reduceMul, Int32.reduceToNatClampNeg, not_false_eq_true, not_true_eq_false, false_implies, true_implies, Nat.zero_add, reduceIte, Nat.reduceMul, Nat.reduceEqDiff, nxa, nxc, lgn, nL_of, swx, Int.reduceAdd, gI_a, gI_k, gL_a, gL_k, gI_r, gL_r, nI_and, nI_or, nI_xor, nI_ndf, nI_shl, nI_shr, ne_eq, and_true, true_and, eq_self, true_or, or_true, false_or, or_false, Option.toList, List.cons_append, List.nil_append, List.length_nil, List.length_cons, Nat.not_lt_zero, kdx hs, grx hr]
    refine ct _ 119 _ _ (by omega) ?_
    simp (disch := first | decide | omega) only [mxa, vxa, vxb, vxc, vnd, vne, Nat.reduceAdd, Nat.reduceSub, Nat.reduceLeDiff, Nat.reduceLT, Int32.reduceLT, Int32.reduceLE, Int32.reduceAdd, Int32.reduceSub, Int32.reduceMul, Int32.reduceToNatClampNeg, not_false_eq_true, not_true_eq_false, false_implies, true_implies, Nat.zero_add, reduceIte, Nat.reduceMul, Nat.reduceEqDiff, nxa, nxc, lgn, nL_of, swx, Int.reduceAdd, gI_a, gI_k, gL_a, gL_k, gI_r, gL_r, nI_and, nI_or, nI_xor, nI_ndf, nI_shl, nI_shr, ne_eq, and_true, true_and, eq_self, true_or, or_true, false_or, or_false, Option.toList, List.cons_append, List.nil_append, List.length_nil, List.length_cons, Nat.not_lt_zero, kdx hs, grx hr, z, nI_dec1 (show 0 < N by omega), sI_rI]
    exact hQ
  have s5 : w5V V N f g 0 = nI N → Wp X mX10_weds (rmo (d + 3) 0 0) (d + 3) Q 0 0 283 [some (.ref 190), some (.int (nI f)), some (.int (nI g)), some (.int (nI (5 * g)))] [] (rI σ 191 (w5V V N f g)) := fun h0 => by
    have go := wfor (fun m => Wp X mX10_weds (rmo (d + 3) 0 0) (d + 3) Q 0 0 283 [some (.ref 190), some (.int (nI f)), some (.int (nI g)), some (.int (nI (5 * g + m)))] [] (rI σ 191 (fun i => if 69 + 5 * g ≤ i ∧ i < 69 + (5 * g + m) then (if i < 114 then w5V V N f g (i + 5) else nI 0) else w5V V N f g i))) (50 - 5 * g) (fun m hm hP => by
      have e : upd (fun i => if 69 + 5 * g ≤ i ∧ i < 69 + (5 * g + m) then (if i < 114 then w5V V N f g (i + 5) else nI 0) else w5V V N f g i) (69 + (5 * g + m)) (if 69 + (5 * g + m) < 114 then w5V V N f g (69 + (5 * g + m) + 5) else nI 0) = (fun i => if 69 + 5 * g ≤ i ∧ i < 69 + (5 * g + (m + 1)) then (if i < 114 then w5V V N f g (i + 5) else nI 0) else w5V V N f g i) := funext fun i => by
        by_cases q : i = 69 + (5 * g + m)
        · rw [q, upd_s, if_pos (show 69 + 5 * g ≤ 69 + (5 * g + m) ∧ 69 + (5 * g + m) < 69 + (5 * g + (m + 1)) by omega)]
        · rw [upd_n q]
          by_cases z : 69 + 5 * g ≤ i ∧ i < 69 + (5 * g + m)
          · rw [if_pos z, if_pos (show 69 + 5 * g ≤ i ∧ i < 69 + (5 * g + (m + 1)) by omega)]
          · rw [if_neg z, if_neg (show ¬ (69 + 5 * g ≤ i ∧ i < 69 + (5 * g + (m + 1))) by omega)]
      rw [← e, ← sI_rI] at hP
      have fin : ∀ z, z = (if 69 + (5 * g + m) < 114 then w5V V N f g (69 + (5 * g + m) + 5) else nI 0) → Wp X mX10_weds (rmo (d + 3) 0 0) (d + 3) Q 0 0 318 [some (.ref 190), some (.int (nI f)), some (.int (nI g)), some (.int (nI (5 * g + m)))] [.int z, .int (nI (69 + (5 * g + m))), .ref 191] (rI σ 191 (fun i => if 69 + 5 * g ≤ i ∧ i < 69 + (5 * g + m) then (if i < 114 then w5V V N f g (i + 5) else nI 0) else w5V V N f g i)) := fun z hz => by
        rw [← hz] at hP
        refine wp_blk kX10_weds_318 ?_
        simp (disch := first | decide | omega) only [mxa, vxa, vxb, vxc, vnd, vne, Nat.reduceAdd, Nat.reduceSub, Nat.reduceLeDiff, Nat.reduceLT, Int32.reduceLT, Int32.reduceLE, Int32.reduceAdd, Int32.reduceSub, Int32.reduceMul, Int32.reduceToNatClampNeg, not_false_eq_true, not_true_eq_false, false_implies, true_implies, Nat.zero_add, reduceIte, Nat.reduceMul, Nat.reduceEqDiff, nxa, nxc, lgn, nL_of, swx, Int.reduceAdd, gI_a, gI_k, gL_a, gL_k, gI_r, gL_r, nI_and, nI_or, nI_xor, nI_ndf, nI_shl, nI_shr, ne_eq, and_true, true_and, eq_self, true_or, or_true, false_or, or_false, Option.toList, List.cons_append, List.nil_append, List.length_nil, List.length_cons, Nat.not_lt_zero, bX10_weds_318, kdx hs, grx hr]
        exact hP
      by_cases c : 45 ≤ 5 * g + m
      · refine wp_blk kX10_weds_283 ?_
        simp (disch := first | decide | omega) only [mxa, vxa, vxb, vxc, vnd, vne, Nat.reduceAdd, Nat.reduceSub, Nat.reduceLeDiff, Nat.reduceLT, Int32.reduceLT, Int32.reduceLE, Int32.reduceAdd, Int32.reduceSub, Int32.reduceMul, Int32.reduceToNatClampNeg, not_false_eq_true, not_true_eq_false, false_implies, true_implies, Nat.zero_add, reduceIte, Nat.reduceMul, Nat.reduceEqDiff, nxa, nxc, lgn, nL_of, swx, Int.reduceAdd, gI_a, gI_k, gL_a, gL_k, gI_r, gL_r, nI_and, nI_or, nI_xor, nI_ndf, nI_shl, nI_shr, ne_eq, and_true, true_and, eq_self, true_or, or_true, false_or, or_false, Option.toList, List.cons_append, List.nil_append, List.length_nil, List.length_cons, Nat.not_lt_zero, bX10_weds_283, kdx hs, grx hr, c, show ¬ 50 ≤ 5 * g + m by omega]
        refine wp_blk kX10_weds_317 ?_
        simp (disch := first | decide | omega) only [mxa, vxa, vxb, vxc, vnd, vne, Nat.reduceAdd, Nat.reduceSub, Nat.reduceLeDiff, Nat.reduceLT, Int32.reduceLT, Int32.reduceLE, Int32.reduceAdd, Int32.reduceSub, Int32.reduceMul, Int32.reduceToNatClampNeg, not_false_eq_true, not_true_eq_false, false_implies, true_implies, Nat.zero_add, reduceIte, Nat.reduceMul, Nat.reduceEqDiff, nxa, nxc, lgn, nL_of, swx, Int.reduceAdd, gI_a, gI_k, gL_a, gL_k, gI_r, gL_r, nI_and, nI_or, nI_xor, nI_ndf, nI_shl, nI_shr, ne_eq, and_true, true_and, eq_self, true_or, or_true, false_or, or_false, Option.toList, List.cons_append, List.nil_append, List.length_nil, List.length_cons, Nat.not_lt_zero, bX10_weds_317]
        exact fin _ (by rw [if_neg (by omega)])
      · refine wp_blk kX10_weds_283 ?_
        simp (disch := first | decide | omega) only [mxa, vxa, vxb, vxc, vnd, vne, Nat.reduceAdd, Nat.reduceSub, Nat.reduceLeDiff, Nat.reduceLT, Int32.reduceLT, Int32.reduceLE, Int32.reduceAdd, Int32.reduceSub, Int32.reduceMul, Int32.reduceToNatClampNeg, not_false_eq_true, not_true_eq_false, false_implies, true_implies, Nat.zero_add, reduceIte, Nat.reduceMul, Nat.reduceEqDiff, nxa, nxc, lgn, nL_of, swx, Int.reduceAdd, gI_a, gI_k, gL_a, gL_k, gI_r, gL_r, nI_and, nI_or, nI_xor, nI_ndf, nI_shl, nI_shr, ne_eq, and_true, true_and, eq_self, true_or, or_true, false_or, or_false, Option.toList, List.cons_append, List.nil_append, List.length_nil, List.length_cons, Nat.not_lt_zero, bX10_weds_283, kdx hs, grx hr, c, show ¬ 50 ≤ 5 * g + m by omega, show ¬ (69 + 5 * g ≤ 69 + (5 * g + m) + 5 ∧ 69 + (5 * g + m) + 5 < 69 + (5 * g + m)) by omega]
        exact fin _ (by rw [if_pos (by omega)])) (by
      have e : (fun i => if 69 + 5 * g ≤ i ∧ i < 69 + (5 * g + (50 - 5 * g)) then (if i < 114 then w5V V N f g (i + 5) else nI 0) else w5V V N f g i) = bsh g (w5V V N f g) := funext fun i => by
        unfold bsh
        by_cases z : 69 + 5 * g ≤ i ∧ i < 119
        · rw [if_pos z, if_pos (by omega)]
        · rw [if_neg z, if_neg (by omega)]
      rw [e, show 5 * g + (50 - 5 * g) = 50 by omega]
      have := s6 h0
      refine wp_blk kX10_weds_283 ?_
      simp (disch := first | decide | omega) only [mxa, vxa, vxb, vxc, vnd, vne, Nat.reduceAdd, Nat.reduceSub, Nat.reduceLeDiff, Nat.reduceLT, Int32.reduceLT, Int32.reduceLE, Int32.reduceAdd, Int32.reduceSub, Int32.reduceMul, Int32.reduceToNatClampNeg, not_false_eq_true, not_true_eq_false, false_implies, true_implies, Nat.zero_add, reduceIte, Nat.reduceMul, Nat.reduceEqDiff, nxa, nxc, lgn, nL_of, swx, Int.reduceAdd, gI_a, gI_k, gL_a, gL_k, gI_r, gL_r, nI_and, nI_or, nI_xor, nI_ndf, nI_shl, nI_shr, ne_eq, and_true, true_and, eq_self, true_or, or_true, false_or, or_false, Option.toList, List.cons_append, List.nil_append, List.length_nil, List.length_cons, Nat.not_lt_zero, bX10_weds_283]
      exact this)
    have e0 : (fun i => if 69 + 5 * g ≤ i ∧ i < 69 + (5 * g + 0) then (if i < 114 then w5V V N f g (i + 5) else nI 0) else w5V V N f g i) = w5V V N f g := funext fun i => if_neg (by omega)
    rw [e0] at go
    exact go
  have h0 : w5V V N f g 0 = nI N := by
    unfold w5V
    rw [cF_o (by omega) (by omega) 6 (by omega), wdV_o (by omega) (by omega) N hN10]
    unfold w3V
    rw [upd_n (by omega), upd_n (by omega), jB_o (by omega) (by omega) 5 (by omega), jF_o (by omega) (by omega) 6 (by omega)]
    exact hN
  have s4 : Wp X mX10_weds (rmo (d + 3) 0 0) (d + 3) Q 0 0 237 [some (.ref 190), some (.int (nI f)), some (.int (nI g)), some (.int (nI N))] [] (rI σ 191 (wdV f g (w3V f g (jB f g (jF f g V 6) 5)) N)) := by
    have := s5 h0
    refine wp_blk kX10_weds_237 ?_
    simp (disch := first | decide | omega) only [mxa, vxa, vxb, vxc, vnd, vne, Nat.reduceAdd, Nat.reduceSub, Nat.reduceLeDiff, Nat.reduceLT, Int32.reduceLT, Int32.reduceLE, Int32.reduceAdd, Int32.reduceSub, Int32.reduceMul, Int32.reduceToNatClampNeg, not_false_eq_true, not_true_eq_false, false_implies, true_implies, Nat.zero_add, reduceIte, Nat.reduceMul, Nat.reduceEqDiff, nxa, nxc, lgn, nL_of, swx, Int.reduceAdd, gI_a, gI_k, gL_a, gL_k, gI_r, gL_r, nI_and, nI_or, nI_xor, nI_ndf, nI_shl, nI_shr, ne_eq, and_true, true_and, eq_self, true_or, or_true, false_or, or_false, Option.toList, List.cons_append, List.nil_append, List.length_nil, List.length_cons, Nat.not_lt_zero, bX10_weds_237, kdx hs, grx hr]
    refine cc _ 9 _ _ (by omega) ?_
    simp (disch := first | decide | omega) only [mxa, vxa, vxb, vxc, vnd, vne, Nat.reduceAdd, Nat.reduceSub, Nat.reduceLeDiff, Nat.reduceLT, Int32.reduceLT, Int32.reduceLE, Int32.reduceAdd, Int32.reduceSub, Int32.reduceMul, Int32.reduceToNatClampNeg, not_false_eq_true, not_true_eq_false, false_implies, true_implies, Nat.zero_add, reduceIte, Nat.reduceMul, Nat.reduceEqDiff, nxa, nxc, lgn, nL_of, swx, Int.reduceAdd, gI_a, gI_k, gL_a, gL_k, gI_r, gL_r, nI_and, nI_or, nI_xor, nI_ndf, nI_shl, nI_shr, ne_eq, and_true, true_and, eq_self, true_or, or_true, false_or, or_false, Option.toList, List.cons_append, List.nil_append, List.length_nil, List.length_cons, Nat.not_lt_zero, kdx hs, grx hr]
    refine cc _ 19 _ _ (by omega) ?_
    simp (disch := first | decide | omega) only [mxa, vxa, vxb, vxc, vnd, vne, Nat.reduceAdd, Nat.reduceSub, Nat.reduceLeDiff, Nat.reduceLT, Int32.reduceLT, Int32.reduceLE, Int32.reduceAdd, Int32.reduceSub, Int32.reduceMul, Int32.reduceToNatClampNeg, not_false_eq_true, not_true_eq_false, false_implies, true_implies, Nat.zero_add, reduceIte, Nat.reduceMul, Nat.reduceEqDiff, nxa, nxc, lgn, nL_of, swx, Int.reduceAdd, gI_a, gI_k, gL_a, gL_k, gI_r, gL_r, nI_and, nI_or, nI_xor, nI_ndf, nI_shl, nI_shr, ne_eq, and_true, true_and, eq_self, true_or, or_true, false_or, or_false, Option.toList, List.cons_append, List.nil_append, List.length_nil, List.length_cons, Nat.not_lt_zero, kdx hs, grx hr]
    refine cc _ 29 _ _ (by omega) ?_
    simp (disch := first | decide | omega) only [mxa, vxa, vxb, vxc, vnd, vne, Nat.reduceAdd, Nat.reduceSub, Nat.reduceLeDiff, Nat.reduceLT, Int32.reduceLT, Int32.reduceLE, Int32.reduceAdd, Int32.reduceSub, Int32.reduceMul, Int32.reduceToNatClampNeg, not_false_eq_true, not_true_eq_false, false_implies, true_implies, Nat.zero_add, reduceIte, Nat.reduceMul, Nat.reduceEqDiff, nxa, nxc, lgn, nL_of, swx, Int.reduceAdd, gI_a, gI_k, gL_a, gL_k, gI_r, gL_r, nI_and, nI_or, nI_xor, nI_ndf, nI_shl, nI_shr, ne_eq, and_true, true_and, eq_self, true_or, or_true, false_or, or_false, Option.toList, List.cons_append, List.nil_append, List.length_nil, List.length_cons, Nat.not_lt_zero, kdx hs, grx hr]
    refine cc _ 39 _ _ (by omega) ?_
    simp (disch := first | decide | omega) only [mxa, vxa, vxb, vxc, vnd, vne, Nat.reduceAdd, Nat.reduceSub, Nat.reduceLeDiff, Nat.reduceLT, Int32.reduceLT, Int32.reduceLE, Int32.reduceAdd, Int32.reduceSub, Int32.reduceMul, Int32.reduceToNatClampNeg, not_false_eq_true, not_true_eq_false, false_implies, true_implies, Nat.zero_add, reduceIte, Nat.reduceMul, Nat.reduceEqDiff, nxa, nxc, lgn, nL_of, swx, Int.reduceAdd, gI_a, gI_k, gL_a, gL_k, gI_r, gL_r, nI_and, nI_or, nI_xor, nI_ndf, nI_shl, nI_shr, ne_eq, and_true, true_and, eq_self, true_or, or_true, false_or, or_false, Option.toList, List.cons_append, List.nil_append, List.length_nil, List.length_cons, Nat.not_lt_zero, kdx hs, grx hr]
    refine cc _ 49 _ _ (by omega) ?_
    simp (disch := first | decide | omega) only [mxa, vxa, vxb, vxc, vnd, vne, Nat.reduceAdd, Nat.reduceSub, Nat.reduceLeDiff, Nat.reduceLT, Int32.reduceLT, Int32.reduceLE, Int32.reduceAdd, Int32.reduceSub, Int32.reduceMul, Int32.reduceToNatClampNeg, not_false_eq_true, not_true_eq_false, false_implies, true_implies, Nat.zero_add, reduceIte, Nat.reduceMul, Nat.reduceEqDiff, nxa, nxc, lgn, nL_of, swx, Int.reduceAdd, gI_a, gI_k, gL_a, gL_k, gI_r, gL_r, nI_and, nI_or, nI_xor, nI_ndf, nI_shl, nI_shr, ne_eq, and_true, true_and, eq_self, true_or, or_true, false_or, or_false, Option.toList, List.cons_append, List.nil_append, List.length_nil, List.length_cons, Nat.not_lt_zero, kdx hs, grx hr]
    refine cc _ 59 _ _ (by omega) ?_
    simp (disch := first | decide | omega) only [mxa, vxa, vxb, vxc, vnd, vne, Nat.reduceAdd, Nat.reduceSub, Nat.reduceLeDiff, Nat.reduceLT, Int32.reduceLT, Int32.reduceLE, Int32.reduceAdd, Int32.reduceSub, Int32.reduceMul, Int32.reduceToNatClampNeg, not_false_eq_true, not_true_eq_false, false_implies, true_implies, Nat.zero_add, reduceIte, Nat.reduceMul, Nat.reduceEqDiff, nxa, nxc, lgn, nL_of, swx, Int.reduceAdd, gI_a, gI_k, gL_a, gL_k, gI_r, gL_r, nI_and, nI_or, nI_xor, nI_ndf, nI_shl, nI_shr, ne_eq, and_true, true_and, eq_self, true_or, or_true, false_or, or_false, Option.toList, List.cons_append, List.nil_append, List.length_nil, List.length_cons, Nat.not_lt_zero, kdx hs, grx hr]
    exact this
  have s3 : Wp X mX10_weds (rmo (d + 3) 0 0) (d + 3) Q 0 0 121 [some (.ref 190), some (.int (nI f)), some (.int (nI g)), some (.int (nI 0))] [] (rI σ 191 (w3V f g (jB f g (jF f g V 6) 5))) := by
    have z0 : ∀ n, n ≤ 10 → wdV f g (w3V f g (jB f g (jF f g V 6) 5)) n 0 = nI N := fun n hn => by
      rw [wdV_o (by omega) (by omega) n hn]
      unfold w3V
      rw [upd_n (by omega), upd_n (by omega), jB_o (by omega) (by omega) 5 (by omega), jF_o (by omega) (by omega) 6 (by omega)]
      exact hN
    refine wfor (fun k => Wp X mX10_weds (rmo (d + 3) 0 0) (d + 3) Q 0 0 121 [some (.ref 190), some (.int (nI f)), some (.int (nI g)), some (.int (nI k))] [] (rI σ 191 (wdV f g (w3V f g (jB f g (jF f g V 6) 5)) k))) N (fun k hk hP => ?_) ?_
    · have zk := z0 k (by omega)
      change Wp X mX10_weds (rmo (d + 3) 0 0) (d + 3) Q 0 0 121 _ _ (rI σ 191 (wdS f g k (wdV f g (w3V f g (jB f g (jF f g V 6) 5)) k))) at hP
      generalize wdV f g (w3V f g (jB f g (jF f g V 6) 5)) k = R at *
      have next : ∀ τ, τ = rI σ 191 (wdS f g k R) → Wp X mX10_weds (rmo (d + 3) 0 0) (d + 3) Q 0 0 231 [some (.ref 190), some (.int (nI f)), some (.int (nI g)), some (.int (nI k))] [] τ := fun τ e => by
        subst e
        refine wp_blk kX10_weds_231 ?_
        simp (disch := first | decide | omega) only [mxa, vxa, vxb, vxc, vnd, vne, Nat.reduceAdd, Nat.reduceSub, Nat.reduceLeDiff, Nat.reduceLT, Int32.reduceLT, Int32.reduceLE, Int32.reduceAdd, Int32.reduceSub, Int32.reduceMul, Int32.reduceToNatClampNeg, not_false_eq_true, not_true_eq_false, false_implies, true_implies, Nat.zero_add, reduceIte, Nat.reduceMul, Nat.reduceEqDiff, nxa, nxc, lgn, nL_of, swx, Int.reduceAdd, gI_a, gI_k, gL_a, gL_k, gI_r, gL_r, nI_and, nI_or, nI_xor, nI_ndf, nI_shl, nI_shr, ne_eq, and_true, true_and, eq_self, true_or, or_true, false_or, or_false, Option.toList, List.cons_append, List.nil_append, List.length_nil, List.length_cons, Nat.not_lt_zero, bX10_weds_231]
        exact hP
      unfold wdS at next
      by_cases c1 : k = f
      · rw [if_pos (Or.inl c1)] at next
        refine wp_blk kX10_weds_121 ?_
        simp (disch := first | decide | omega) only [mxa, vxa, vxb, vxc, vnd, vne, Nat.reduceAdd, Nat.reduceSub, Nat.reduceLeDiff, Nat.reduceLT, Int32.reduceLT, Int32.reduceLE, Int32.reduceAdd, Int32.reduceSub, Int32.reduceMul, Int32.reduceToNatClampNeg, not_false_eq_true, not_true_eq_false, false_implies, true_implies, Nat.zero_add, reduceIte, Nat.reduceMul, Nat.reduceEqDiff, nxa, nxc, lgn, nL_of, swx, Int.reduceAdd, gI_a, gI_k, gL_a, gL_k, gI_r, gL_r, nI_and, nI_or, nI_xor, nI_ndf, nI_shl, nI_shr, ne_eq, and_true, true_and, eq_self, true_or, or_true, false_or, or_false, Option.toList, List.cons_append, List.nil_append, List.length_nil, List.length_cons, Nat.not_lt_zero, bX10_weds_121, kdx hs, grx hr, zk, c1, show ¬ N ≤ f by omega]
        rw [c1] at next
        exact next _ rfl
      · by_cases c2 : k = g
        · rw [if_pos (Or.inr c2)] at next
          refine wp_blk kX10_weds_121 ?_
          simp (disch := first | decide | omega) only [mxa, vxa, vxb, vxc, vnd, vne, Nat.reduceAdd, Nat.reduceSub, Nat.reduceLeDiff, Nat.reduceLT, Int32.reduceLT, Int32.reduceLE, Int32.reduceAdd, Int32.reduceSub, Int32.reduceMul, Int32.reduceToNatClampNeg, not_false_eq_true, not_true_eq_false, false_implies, true_implies, Nat.zero_add, reduceIte, Nat.reduceMul, Nat.reduceEqDiff, nxa, nxc, lgn, nL_of, swx, Int.reduceAdd, gI_a, gI_k, gL_a, gL_k, gI_r, gL_r, nI_and, nI_or, nI_xor, nI_ndf, nI_shl, nI_shr, ne_eq, and_true, true_and, eq_self, true_or, or_true, false_or, or_false, Option.toList, List.cons_append, List.nil_append, List.length_nil, List.length_cons, Nat.not_lt_zero, bX10_weds_121, kdx hs, grx hr, zk, c1, c2, show ¬ N ≤ g by omega, show ¬ g = f by omega]
          rw [c2] at next
          exact next _ rfl
        · rw [if_neg (by omega)] at next
          refine wp_blk kX10_weds_121 ?_
          simp (disch := first | decide | omega) only [mxa, vxa, vxb, vxc, vnd, vne, Nat.reduceAdd, Nat.reduceSub, Nat.reduceLeDiff, Nat.reduceLT, Int32.reduceLT, Int32.reduceLE, Int32.reduceAdd, Int32.reduceSub, Int32.reduceMul, Int32.reduceToNatClampNeg, not_false_eq_true, not_true_eq_false, false_implies, true_implies, Nat.zero_add, reduceIte, Nat.reduceMul, Nat.reduceEqDiff, nxa, nxc, lgn, nL_of, swx, Int.reduceAdd, gI_a, gI_k, gL_a, gL_k, gI_r, gL_r, nI_and, nI_or, nI_xor, nI_ndf, nI_shl, nI_shr, ne_eq, and_true, true_and, eq_self, true_or, or_true, false_or, or_false, Option.toList, List.cons_append, List.nil_append, List.length_nil, List.length_cons, Nat.not_lt_zero, bX10_weds_121, kdx hs, grx hr, zk, c1, c2, show ¬ N ≤ k by omega]
          refine wp_blk kX10_weds_144 ?_
          simp (disch := first | decide | omega) only [mxa, vxa, vxb, vxc, vnd, vne, Nat.reduceAdd, Nat.reduceSub, Nat.reduceLeDiff, Nat.reduceLT, Int32.reduceLT, Int32.reduceLE, Int32.reduceAdd, Int32.reduceSub, Int32.reduceMul, Int32.reduceToNatClampNeg, not_false_eq_true, not_true_eq_false, false_implies, true_implies, Nat.zero_add, reduceIte, Nat.reduceMul, Nat.reduceEqDiff, nxa, nxc, lgn, nL_of, swx, Int.reduceAdd, gI_a, gI_k, gL_a, gL_k, gI_r, gL_r, nI_and, nI_or, nI_xor, nI_ndf, nI_shl, nI_shr, ne_eq, and_true, true_and, eq_self, true_or, or_true, false_or, or_false, Option.toList, List.cons_append, List.nil_append, List.length_nil, List.length_cons, Nat.not_lt_zero, bX10_weds_144, kdx hs, grx hr, sI_rI]
          refine c_quarrels X _ _ g k (by exact hs) (by exact hr) (by omega) (by omega) _ ?_
          rw [gI_rS]
          by_cases c3 : upd (upd R (219 + 10 * f + k) (R (219 + 10 * f + k) + R (219 + 10 * g + k))) (219 + 10 * k + f) (R (219 + 10 * k + f) + R (219 + 10 * k + g)) (119 + 10 * g + k) = nI 1
          · rw [if_pos c3] at next ⊢
            simp (disch := first | decide | omega) only [mxa, vxa, vxb, vxc, vnd, vne, Nat.reduceAdd, Nat.reduceSub, Nat.reduceLeDiff, Nat.reduceLT, Int32.reduceLT, Int32.reduceLE, Int32.reduceAdd, Int32.reduceSub, Int32.reduceMul, Int32.reduceToNatClampNeg, not_false_eq_true, not_true_eq_false, false_implies, true_implies, Nat.zero_add, reduceIte, Nat.reduceMul, Nat.reduceEqDiff, nxa, nxc, lgn, nL_of, swx, Int.reduceAdd, gI_a, gI_k, gL_a, gL_k, gI_r, gL_r, nI_and, nI_or, nI_xor, nI_ndf, nI_shl, nI_shr, ne_eq, and_true, true_and, eq_self, true_or, or_true, false_or, or_false, Option.toList, List.cons_append, List.nil_append, List.length_nil, List.length_cons, Nat.not_lt_zero, kdx hs, grx hr]
            refine c_sets X _ _ 191 957 f k (nI 1) (by simp only [mxa, kdx hs]) (by omega) 119 (by omega) (by omega) (by omega) _ ?_
            simp (disch := first | decide | omega) only [mxa, vxa, vxb, vxc, vnd, vne, Nat.reduceAdd, Nat.reduceSub, Nat.reduceLeDiff, Nat.reduceLT, Int32.reduceLT, Int32.reduceLE, Int32.reduceAdd, Int32.reduceSub, Int32.reduceMul, Int32.reduceToNatClampNeg, not_false_eq_true, not_true_eq_false, false_implies, true_implies, Nat.zero_add, reduceIte, Nat.reduceMul, Nat.reduceEqDiff, nxa, nxc, lgn, nL_of, swx, Int.reduceAdd, gI_a, gI_k, gL_a, gL_k, gI_r, gL_r, nI_and, nI_or, nI_xor, nI_ndf, nI_shl, nI_shr, ne_eq, and_true, true_and, eq_self, true_or, or_true, false_or, or_false, Option.toList, List.cons_append, List.nil_append, List.length_nil, List.length_cons, Nat.not_lt_zero, sI_rI]
            exact next _ rfl
          · rw [if_neg c3] at next ⊢
            simp (disch := first | decide | omega) only [mxa, vxa, vxb, vxc, vnd, vne, Nat.reduceAdd, Nat.reduceSub, Nat.reduceLeDiff, Nat.reduceLT, Int32.reduceLT, Int32.reduceLE, Int32.reduceAdd, Int32.reduceSub, Int32.reduceMul, Int32.reduceToNatClampNeg, not_false_eq_true, not_true_eq_false, false_implies, true_implies, Nat.zero_add, reduceIte, Nat.reduceMul, Nat.reduceEqDiff, nxa, nxc, lgn, nL_of, swx, Int.reduceAdd, gI_a, gI_k, gL_a, gL_k, gI_r, gL_r, nI_and, nI_or, nI_xor, nI_ndf, nI_shl, nI_shr, ne_eq, and_true, true_and, eq_self, true_or, or_true, false_or, or_false, Option.toList, List.cons_append, List.nil_append, List.length_nil, List.length_cons, Nat.not_lt_zero, kdx hs, grx hr]
            exact next _ rfl
    · refine wp_blk kX10_weds_121 ?_
      simp (disch := first | decide | omega) only [mxa, vxa, vxb, vxc, vnd, vne, Nat.reduceAdd, Nat.reduceSub, Nat.reduceLeDiff, Nat.reduceLT, Int32.reduceLT, Int32.reduceLE, Int32.reduceAdd, Int32.reduceSub, Int32.reduceMul, Int32.reduceToNatClampNeg, not_false_eq_true, not_true_eq_false, false_implies, true_implies, Nat.zero_add, reduceIte, Nat.reduceMul, Nat.reduceEqDiff, nxa, nxc, lgn, nL_of, swx, Int.reduceAdd, gI_a, gI_k, gL_a, gL_k, gI_r, gL_r, nI_and, nI_or, nI_xor, nI_ndf, nI_shl, nI_shr, ne_eq, and_true, true_and, eq_self, true_or, or_true, false_or, or_false, Option.toList, List.cons_append, List.nil_append, List.length_nil, List.length_cons, Nat.not_lt_zero, bX10_weds_121, kdx hs, grx hr, z0 N hN10, Nat.le_refl]
      exact s4
  have s2 : ∀ R : Nat → Int32, R = jF f g V 6 → Wp X mX10_weds (rmo (d + 3) 0 0) (d + 3) Q 0 0 60 [some (.ref 190), some (.int (nI f)), some (.int (nI g)), some (.int (nI 0))] [] (rI σ 191 R) := fun R hR => by
    subst hR
    refine wfor (fun a => Wp X mX10_weds (rmo (d + 3) 0 0) (d + 3) Q 0 0 60 [some (.ref 190), some (.int (nI f)), some (.int (nI g)), some (.int (nI a))] [] (rI σ 191 (jB f g (jF f g V 6) a))) 5 (fun a ha hP => ?_) ?_
    · refine wp_blk kX10_weds_60 ?_
      simp (disch := first | decide | omega) only [mxa, vxa, vxb, vxc, vnd, vne, Nat.reduceAdd, Nat.reduceSub, Nat.reduceLeDiff, Nat.reduceLT, Int32.reduceLT, Int32.reduceLE, Int32.reduceAdd, Int32.reduceSub, Int32.reduceMul, Int32.reduceToNatClampNeg, not_false_eq_true, not_true_eq_false, false_implies, true_implies, Nat.zero_add, reduceIte, Nat.reduceMul, Nat.reduceEqDiff, nxa, nxc, lgn, nL_of, swx, Int.reduceAdd, gI_a, gI_k, gL_a, gL_k, gI_r, gL_r, nI_and, nI_or, nI_xor, nI_ndf, nI_shl, nI_shr, ne_eq, and_true, true_and, eq_self, true_or, or_true, false_or, or_false, Option.toList, List.cons_append, List.nil_append, List.length_nil, List.length_cons, Nat.not_lt_zero, bX10_weds_60, kdx hs, grx hr, show ¬ 5 ≤ a by omega]
      refine jo _ (69 + a) (5 * f) (5 * g) (nI 99) _ _ (by omega) (by omega) ?_
      simp (disch := first | decide | omega) only [mxa, vxa, vxb, vxc, vnd, vne, Nat.reduceAdd, Nat.reduceSub, Nat.reduceLeDiff, Nat.reduceLT, Int32.reduceLT, Int32.reduceLE, Int32.reduceAdd, Int32.reduceSub, Int32.reduceMul, Int32.reduceToNatClampNeg, not_false_eq_true, not_true_eq_false, false_implies, true_implies, Nat.zero_add, reduceIte, Nat.reduceMul, Nat.reduceEqDiff, nxa, nxc, lgn, nL_of, swx, Int.reduceAdd, gI_a, gI_k, gL_a, gL_k, gI_r, gL_r, nI_and, nI_or, nI_xor, nI_ndf, nI_shl, nI_shr, ne_eq, and_true, true_and, eq_self, true_or, or_true, false_or, or_false, Option.toList, List.cons_append, List.nil_append, List.length_nil, List.length_cons, Nat.not_lt_zero, kdx hs, grx hr]
      exact hP
    · refine wp_blk kX10_weds_60 ?_
      simp (disch := first | decide | omega) only [mxa, vxa, vxb, vxc, vnd, vne, Nat.reduceAdd, Nat.reduceSub, Nat.reduceLeDiff, Nat.reduceLT, Int32.reduceLT, Int32.reduceLE, Int32.reduceAdd, Int32.reduceSub, Int32.reduceMul, Int32.reduceToNatClampNeg, not_false_eq_true, not_true_eq_false, false_implies, true_implies, Nat.zero_add, reduceIte, Nat.reduceMul, Nat.reduceEqDiff, nxa, nxc, lgn, nL_of, swx, Int.reduceAdd, gI_a, gI_k, gL_a, gL_k, gI_r, gL_r, nI_and, nI_or, nI_xor, nI_ndf, nI_shl, nI_shr, ne_eq, and_true, true_and, eq_self, true_or, or_true, false_or, or_false, Option.toList, List.cons_append, List.nil_append, List.length_nil, List.length_cons, Nat.not_lt_zero, bX10_weds_60]
      refine wp_blk kX10_weds_87 ?_
      simp (disch := first | decide | omega) only [mxa, vxa, vxb, vxc, vnd, vne, Nat.reduceAdd, Nat.reduceSub, Nat.reduceLeDiff, Nat.reduceLT, Int32.reduceLT, Int32.reduceLE, Int32.reduceAdd, Int32.reduceSub, Int32.reduceMul, Int32.reduceToNatClampNeg, not_false_eq_true, not_true_eq_false, false_implies, true_implies, Nat.zero_add, reduceIte, Nat.reduceMul, Nat.reduceEqDiff, nxa, nxc, lgn, nL_of, swx, Int.reduceAdd, gI_a, gI_k, gL_a, gL_k, gI_r, gL_r, nI_and, nI_or, nI_xor, nI_ndf, nI_shl, nI_shr, ne_eq, and_true, true_and, eq_self, true_or, or_true, false_or, or_false, Option.toList, List.cons_append, List.nil_append, List.length_nil, List.length_cons, Nat.not_lt_zero, bX10_weds_87, kdx hs, grx hr, sI_rI]
      exact s3
  rw [← start V]
  refine call_of eX10_weds rfl ?_
  refine wp_blk kX10_weds_0 ?_
  simp (disch := first | decide | omega) only [mxa, vxa, vxb, vxc, vnd, vne, Nat.reduceAdd, Nat.reduceSub, Nat.reduceLeDiff, Nat.reduceLT, Int32.reduceLT, Int32.reduceLE, Int32.reduceAdd, Int32.reduceSub, Int32.reduceMul, Int32.reduceToNatClampNeg, not_false_eq_true, not_true_eq_false, false_implies, true_implies, Nat.zero_add, reduceIte, Nat.reduceMul, Nat.reduceEqDiff, nxa, nxc, lgn, nL_of, swx, Int.reduceAdd, gI_a, gI_k, gL_a, gL_k, gI_r, gL_r, nI_and, nI_or, nI_xor, nI_ndf, nI_shl, nI_shr, ne_eq, and_true, true_and, eq_self, true_or, or_true, false_or, or_false, Option.toList, List.cons_append, List.nil_append, List.length_nil, List.length_cons, Nat.not_lt_zero, bX10_weds_0, kdx hs, grx hr]
  refine jo _ 9 f g (nI 30) _ _ (by omega) (by omega) ?_
  simp (disch := first | decide | omega) only [mxa, vxa, vxb, vxc, vnd, vne, Nat.reduceAdd, Nat.reduceSub, Nat.reduceLeDiff, Nat.reduceLT, Int32.reduceLT, Int32.reduceLE, Int32.reduceAdd, Int32.reduceSub, Int32.reduceMul, Int32.reduceToNatClampNeg, not_false_eq_true, not_true_eq_false, false_implies, true_implies, Nat.zero_add, reduceIte, Nat.reduceMul, Nat.reduceEqDiff, nxa, nxc, lgn, nL_of, swx, Int.reduceAdd, gI_a, gI_k, gL_a, gL_k, gI_r, gL_r, nI_and, nI_or, nI_xor, nI_ndf, nI_shl, nI_shr, ne_eq, and_true, true_and, eq_self, true_or, or_true, false_or, or_false, Option.toList, List.cons_append, List.nil_append, List.length_nil, List.length_cons, Nat.not_lt_zero, kdx hs, grx hr]
  refine jo _ 19 f g (nI 999) _ _ (by omega) (by omega) ?_
  simp (disch := first | decide | omega) only [mxa, vxa, vxb, vxc, vnd, vne, Nat.reduceAdd, Nat.reduceSub, Nat.reduceLeDiff, Nat.reduceLT, Int32.reduceLT, Int32.reduceLE, Int32.reduceAdd, Int32.reduceSub, Int32.reduceMul, Int32.reduceToNatClampNeg, not_false_eq_true, not_true_eq_false, false_implies, true_implies, Nat.zero_add, reduceIte, Nat.reduceMul, Nat.reduceEqDiff, nxa, nxc, lgn, nL_of, swx, Int.reduceAdd, gI_a, gI_k, gL_a, gL_k, gI_r, gL_r, nI_and, nI_or, nI_xor, nI_ndf, nI_shl, nI_shr, ne_eq, and_true, true_and, eq_self, true_or, or_true, false_or, or_false, Option.toList, List.cons_append, List.nil_append, List.length_nil, List.length_cons, Nat.not_lt_zero, kdx hs, grx hr]
  refine jo _ 29 f g (nI 99) _ _ (by omega) (by omega) ?_
  simp (disch := first | decide | omega) only [mxa, vxa, vxb, vxc, vnd, vne, Nat.reduceAdd, Nat.reduceSub, Nat.reduceLeDiff, Nat.reduceLT, Int32.reduceLT, Int32.reduceLE, Int32.reduceAdd, Int32.reduceSub, Int32.reduceMul, Int32.reduceToNatClampNeg, not_false_eq_true, not_true_eq_false, false_implies, true_implies, Nat.zero_add, reduceIte, Nat.reduceMul, Nat.reduceEqDiff, nxa, nxc, lgn, nL_of, swx, Int.reduceAdd, gI_a, gI_k, gL_a, gL_k, gI_r, gL_r, nI_and, nI_or, nI_xor, nI_ndf, nI_shl, nI_shr, ne_eq, and_true, true_and, eq_self, true_or, or_true, false_or, or_false, Option.toList, List.cons_append, List.nil_append, List.length_nil, List.length_cons, Nat.not_lt_zero, kdx hs, grx hr]
  refine jo _ 39 f g (-1) _ _ (by omega) (by omega) ?_
  simp (disch := first | decide | omega) only [mxa, vxa, vxb, vxc, vnd, vne, Nat.reduceAdd, Nat.reduceSub, Nat.reduceLeDiff, Nat.reduceLT, Int32.reduceLT, Int32.reduceLE, Int32.reduceAdd, Int32.reduceSub, Int32.reduceMul, Int32.reduceToNatClampNeg, not_false_eq_true, not_true_eq_false, false_implies, true_implies, Nat.zero_add, reduceIte, Nat.reduceMul, Nat.reduceEqDiff, nxa, nxc, lgn, nL_of, swx, Int.reduceAdd, gI_a, gI_k, gL_a, gL_k, gI_r, gL_r, nI_and, nI_or, nI_xor, nI_ndf, nI_shl, nI_shr, ne_eq, and_true, true_and, eq_self, true_or, or_true, false_or, or_false, Option.toList, List.cons_append, List.nil_append, List.length_nil, List.length_cons, Nat.not_lt_zero, kdx hs, grx hr]
  refine jo _ 49 f g (-1) _ _ (by omega) (by omega) ?_
  simp (disch := first | decide | omega) only [mxa, vxa, vxb, vxc, vnd, vne, Nat.reduceAdd, Nat.reduceSub, Nat.reduceLeDiff, Nat.reduceLT, Int32.reduceLT, Int32.reduceLE, Int32.reduceAdd, Int32.reduceSub, Int32.reduceMul, Int32.reduceToNatClampNeg, not_false_eq_true, not_true_eq_false, false_implies, true_implies, Nat.zero_add, reduceIte, Nat.reduceMul, Nat.reduceEqDiff, nxa, nxc, lgn, nL_of, swx, Int.reduceAdd, gI_a, gI_k, gL_a, gL_k, gI_r, gL_r, nI_and, nI_or, nI_xor, nI_ndf, nI_shl, nI_shr, ne_eq, and_true, true_and, eq_self, true_or, or_true, false_or, or_false, Option.toList, List.cons_append, List.nil_append, List.length_nil, List.length_cons, Nat.not_lt_zero, kdx hs, grx hr]
  refine jo _ 59 f g (-1) _ _ (by omega) (by omega) ?_
  simp (disch := first | decide | omega) only [mxa, vxa, vxb, vxc, vnd, vne, Nat.reduceAdd, Nat.reduceSub, Nat.reduceLeDiff, Nat.reduceLT, Int32.reduceLT, Int32.reduceLE, Int32.reduceAdd, Int32.reduceSub, Int32.reduceMul, Int32.reduceToNatClampNeg, not_false_eq_true, not_true_eq_false, false_implies, true_implies, Nat.zero_add, reduceIte, Nat.reduceMul, Nat.reduceEqDiff, nxa, nxc, lgn, nL_of, swx, Int.reduceAdd, gI_a, gI_k, gL_a, gL_k, gI_r, gL_r, nI_and, nI_or, nI_xor, nI_ndf, nI_shl, nI_shr, ne_eq, and_true, true_and, eq_self, true_or, or_true, false_or, or_false, Option.toList, List.cons_append, List.nil_append, List.length_nil, List.length_cons, Nat.not_lt_zero, kdx hs, grx hr]
  exact s2 _ rfl
/-! what stands in the new row -/
theorem sk_lt {g k N : Nat} (hg : g < N) (hk : k < N - 1) : sk g k < N ∧ sk g k ≠ g := by
  unfold sk
  split <;> omega
theorem wed_0 {V : Nat → Int32} {N f g : Nat} : wedV V N f g 0 = nI (N - 1) := upd_s _ _ _
theorem wed_pass {V : Nat → Int32} {N f g i : Nat} (h : i ≠ 0) (h1 : i < 69 ∨ 319 ≤ i) : wedV V N f g i = w5V V N f g i := by
  unfold wedV w7V
  rw [upd_n h, clT_o (by omega), clT_o (by omega), bsh_o (by omega)]
theorem wed_lo {V : Nat → Int32} {N f g i : Nat} (hN : N ≤ 10) (hf : f < g) (hg : g < N) (h : i ≠ 0) (h1 : i < 9 ∨ 319 ≤ i) : wedV V N f g i = V i := by
  rw [wed_pass h (by omega)]
  unfold w5V
  rw [cF_o (by omega) (by omega) 6 (by omega), wdV_o (by omega) (by omega) N hN]
  unfold w3V
  rw [upd_n (by omega), upd_n (by omega), jB_o (by omega) (by omega) 5 (by omega), jF_o (by omega) (by omega) 6 (by omega)]
theorem wed_f {V : Nat → Int32} {N f g j k : Nat} (hN : N ≤ 10) (hf : f < g) (hg : g < N) (hj : j < 6) (hk : k < N - 1) : wedV V N f g (9 + 10 * j + k) = if sk g k = f then jv (lm j) (V (9 + 10 * j + f) + V (9 + 10 * j + g)) else V (9 + 10 * j + sk g k) := by
  obtain ⟨s1, s2⟩ := sk_lt hg hk
  rw [wed_pass (by omega) (by omega)]
  unfold w5V
  rw [cF_i (by omega) 6 (by omega) j k (by omega) (by omega), wdV_o (by omega) (by omega) N hN]
  unfold w3V
  rw [upd_n (by omega), upd_n (by omega), jB_o (by omega) (by omega) 5 (by omega), jF_i (by omega) (by omega) (by omega) 6 (by omega) j (sk g k) hj (by omega)]
  by_cases e : sk g k = f
  · rw [if_pos e, if_pos ⟨hj, e⟩]
  · rw [if_neg e, if_neg (fun z => e z.2)]
theorem wed_b {V : Nat → Int32} {N f g k a : Nat} (hN : N ≤ 10) (hf : f < g) (hg : g < N) (hk : k < N - 1) (ha : a < 5) : wedV V N f g (69 + 5 * k + a) = if sk g k = f then jv (nI 99) (V (69 + 5 * f + a) + V (69 + 5 * g + a)) else V (69 + 5 * sk g k + a) := by
  obtain ⟨s1, s2⟩ := sk_lt hg hk
  unfold wedV w7V
  rw [upd_n (by omega), clT_o (by omega), clT_o (by omega), bsh_i (by omega) ha]
  unfold w5V
  rw [cF_o (by omega) (by omega) 6 (by omega), wdV_o (by omega) (by omega) N hN]
  unfold w3V
  rw [upd_n (by omega), upd_n (by omega), jB_i (by omega) (by omega) (by omega) 5 (by omega) (sk g k) a (by omega) ha]
  have o : ∀ i, 69 ≤ i → jF f g V 6 i = V i := fun i h => jF_o (by omega) (by omega) 6 (by omega)
  rw [o _ (by omega), o _ (by omega), o _ (by omega)]
  by_cases e : sk g k = f
  · rw [if_pos e, if_pos ⟨ha, e⟩]
  · rw [if_neg e, if_neg (fun z => e z.2)]
theorem wed_q {V : Nat → Int32} {N f g k l : Nat} (hN : N ≤ 10) (hf : f < g) (hg : g < N) (hk : k < 10) (hl : l < 10) : wedV V N f g (119 + 10 * k + l) = if k = 9 ∨ l = 9 then 0 else dQ f g N V (sk g k) (sk g l) := by
  unfold wedV w7V
  rw [upd_n (by omega), clT_i hk hl]
  by_cases e : k = 9 ∨ l = 9
  · rw [if_pos e, if_pos e]
  · rw [if_neg e, if_neg e]
    have sl : sk g k < 10 ∧ sk g l < 10 := by unfold sk; constructor <;> split <;> omega
    rw [clT_o (by omega), bsh_o (by omega)]
    unfold w5V
    rw [cF_o (by omega) (by omega) 6 (by omega), wdV_q (by omega) (by omega) (by omega) N hN _ _ sl.1 sl.2]
    have o : ∀ i, 119 ≤ i → i < 219 → w3V f g (jB f g (jF f g V 6) 5) i = V i := fun i h h2 => by
      unfold w3V
      rw [upd_n (by omega), upd_n (by omega), jB_o (by omega) (by omega) 5 (by omega), jF_o (by omega) (by omega) 6 (by omega)]
    generalize sk g k = i at *
    generalize sk g l = j at *
    have o1 := o (119 + 10 * g + j) (by omega) (by omega)
    have o2 := o (119 + 10 * g + i) (by omega) (by omega)
    have o3 := o (119 + 10 * i + j) (by omega) (by omega)
    by_cases a : (i = f ∧ j < N ∧ j ≠ f ∧ j ≠ g ∧ V (119 + 10 * g + j) = nI 1) ∨ (j = f ∧ i < N ∧ i ≠ f ∧ i ≠ g ∧ V (119 + 10 * g + i) = nI 1)
    · rw [dQ_y a, dQ_y (by rw [o1, o2]; exact a)]
    · rw [dQ_n a, dQ_n (by rw [o1, o2]; exact a), o3]
theorem wed_d {V : Nat → Int32} {N f g k l : Nat} (hN : N ≤ 10) (hf : f < g) (hg : g < N) (hk : k < 10) (hl : l < 10) : wedV V N f g (219 + 10 * k + l) = if k = 9 ∨ l = 9 then 0 else dD f g N V (sk g k) (sk g l) := by
  unfold wedV w7V
  rw [upd_n (by omega), clT_o (by omega), clT_i hk hl]
  by_cases e : k = 9 ∨ l = 9
  · rw [if_pos e, if_pos e]
  · rw [if_neg e, if_neg e]
    have sl : sk g k < 10 ∧ sk g l < 10 ∧ sk g k ≠ g ∧ sk g l ≠ g := by unfold sk; refine ⟨?_, ?_, ?_, ?_⟩ <;> split <;> omega
    rw [bsh_o (by omega)]
    unfold w5V
    rw [cF_o (by omega) (by omega) 6 (by omega), wdV_d (by omega) (by omega) (by omega) N hN _ _ sl.1 sl.2.1]
    have o : ∀ i j, i < 10 → j < 10 → ¬ (i = f ∧ j = g) → ¬ (i = g ∧ j = f) → w3V f g (jB f g (jF f g V 6) 5) (219 + 10 * i + j) = V (219 + 10 * i + j) := fun i j h h2 h3 h4 => by
      unfold w3V
      rw [upd_n (by omega), upd_n (by omega), jB_o (by omega) (by omega) 5 (by omega), jF_o (by omega) (by omega) 6 (by omega)]
    generalize sk g k = i at *
    generalize sk g l = j at *
    by_cases a : i = f ∧ j < N ∧ j ≠ f ∧ j ≠ g
    · rw [dD_a a, dD_a a, o _ _ (by omega) (by omega) (by omega) (by omega), o _ _ (by omega) (by omega) (by omega) (by omega)]
    · by_cases b : j = f ∧ i < N ∧ i ≠ f ∧ i ≠ g
      · rw [dD_b b, dD_b b, o _ _ (by omega) (by omega) (by omega) (by omega), o _ _ (by omega) (by omega) (by omega) (by omega)]
      · rw [dD_c a b, dD_c a b, o _ _ (by omega) (by omega) (by omega) (by omega)]
