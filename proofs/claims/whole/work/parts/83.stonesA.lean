/-! stones: the class -/
set_option maxRecDepth 20000
theorem c_wishers (X : Cx) (d : Nat) (σ : Mm) (V : Nat → Int32) (t N O K : Nat) (hs : Sh σ) (hr : Rf σ) (hV : gI σ 191 = V) (hG : Gd V t N O K) (Q : Po) (hQ : Q (some (.int (nI (wsh V N)))) σ) : Call X d 0 0 mX10_wishers [.ref 190] σ Q := by
  have hN10 := hG.1.2
  have n0 : gI σ 191 0 = nI N := by rw [hV]; exact hG.1.1
  refine call_of eX10_wishers rfl ?_
  refine wp_blk kX10_wishers_0 ?_
  simp (disch := first | decide | omega) only [mxa, vxa, vxb, vxc, vnd, vne, Nat.reduceAdd, Nat.reduceSub, Nat.reduceLeDiff, Nat.reduceLT, Int32.reduceLT, Int32.reduceLE, Int32.reduceAdd, Int32.reduceSub, Int32.reduceMul, Int32.reduceToNatClampNeg, not_false_eq_true, not_true_eq_false, false_implies, true_implies, Nat.zero_add, reduceIte, Nat.reduceMul, Nat.reduceEqDiff, nxa, nxc, lgn, nL_of, swx, Int.reduceAdd, gI_a, gI_k, gL_a, gL_k, gI_r, gL_r, nI_and, nI_or, nI_xor, nI_ndf, nI_shl, nI_shr, ne_eq, and_true, true_and, eq_self, true_or, or_true, false_or, or_false, Option.toList, List.cons_append, List.nil_append, List.length_nil, List.length_cons, Nat.not_lt_zero, bX10_wishers_0]
  refine wfor (fun f => Wp X mX10_wishers (rmo d 0 0) d Q 0 0 4 [some (.ref 190), some (.int (nI (wsh V f))), some (.int (nI f))] [] σ) N (fun f hf hP => ?_) ?_
  · have wl := (wsN_ok hG hf).2
    have ws : gI σ 191 (29 + f) = nI (wsN V f) := by rw [hV]; exact (wsN_ok hG hf).1
    by_cases w0 : 0 < wsN V f
    · have e : wsh V f ||| 1 * 2 ^ f = wsh V (f + 1) := bP_y (fun f => 0 < wsN V f) w0
      refine wp_blk kX10_wishers_4 ?_
      simp (disch := first | decide | omega) only [mxa, vxa, vxb, vxc, vnd, vne, Nat.reduceAdd, Nat.reduceSub, Nat.reduceLeDiff, Nat.reduceLT, Int32.reduceLT, Int32.reduceLE, Int32.reduceAdd, Int32.reduceSub, Int32.reduceMul, Int32.reduceToNatClampNeg, not_false_eq_true, not_true_eq_false, false_implies, true_implies, Nat.zero_add, reduceIte, Nat.reduceMul, Nat.reduceEqDiff, nxa, nxc, lgn, nL_of, swx, Int.reduceAdd, gI_a, gI_k, gL_a, gL_k, gI_r, gL_r, nI_and, nI_or, nI_xor, nI_ndf, nI_shl, nI_shr, ne_eq, and_true, true_and, eq_self, true_or, or_true, false_or, or_false, Option.toList, List.cons_append, List.nil_append, List.length_nil, List.length_cons, Nat.not_lt_zero, bX10_wishers_4, kdx hs, grx hr, n0, ws, show ¬ N ≤ f by omega, show ¬ wsN V f ≤ 0 by omega]
      refine wp_blk kX10_wishers_34 ?_
      simp (disch := first | decide | omega) only [mxa, vxa, vxb, vxc, vnd, vne, Nat.reduceAdd, Nat.reduceSub, Nat.reduceLeDiff, Nat.reduceLT, Int32.reduceLT, Int32.reduceLE, Int32.reduceAdd, Int32.reduceSub, Int32.reduceMul, Int32.reduceToNatClampNeg, not_false_eq_true, not_true_eq_false, false_implies, true_implies, Nat.zero_add, reduceIte, Nat.reduceMul, Nat.reduceEqDiff, nxa, nxc, lgn, nL_of, swx, Int.reduceAdd, gI_a, gI_k, gL_a, gL_k, gI_r, gL_r, nI_and, nI_or, nI_xor, nI_ndf, nI_shl, nI_shr, ne_eq, and_true, true_and, eq_self, true_or, or_true, false_or, or_false, Option.toList, List.cons_append, List.nil_append, List.length_nil, List.length_cons, Nat.not_lt_zero, bX10_wishers_34, e]
      exact hP
    · have e : wsh V f ||| 0 = wsh V (f + 1) := by rw [Nat.or_zero]; exact (bP_n (fun f => 0 < wsN V f) w0).symm
      refine wp_blk kX10_wishers_4 ?_
      simp (disch := first | decide | omega) only [mxa, vxa, vxb, vxc, vnd, vne, Nat.reduceAdd, Nat.reduceSub, Nat.reduceLeDiff, Nat.reduceLT, Int32.reduceLT, Int32.reduceLE, Int32.reduceAdd, Int32.reduceSub, Int32.reduceMul, Int32.reduceToNatClampNeg, not_false_eq_true, not_true_eq_false, false_implies, true_implies, Nat.zero_add, reduceIte, Nat.reduceMul, Nat.reduceEqDiff, nxa, nxc, lgn, nL_of, swx, Int.reduceAdd, gI_a, gI_k, gL_a, gL_k, gI_r, gL_r, nI_and, nI_or, nI_xor, nI_ndf, nI_shl, nI_shr, ne_eq, and_true, true_and, eq_self, true_or, or_true, false_or, or_false, Option.toList, List.cons_append, List.nil_append, List.length_nil, List.length_cons, Nat.not_lt_zero, bX10_wishers_4, kdx hs, grx hr, n0, ws, show ¬ N ≤ f by omega, show wsN V f ≤ 0 by omega]
      refine wp_blk kX10_wishers_33 ?_
      simp (disch := first | decide | omega) only [mxa, vxa, vxb, vxc, vnd, vne, Nat.reduceAdd, Nat.reduceSub, Nat.reduceLeDiff, Nat.reduceLT, Int32.reduceLT, Int32.reduceLE, Int32.reduceAdd, Int32.reduceSub, Int32.reduceMul, Int32.reduceToNatClampNeg, not_false_eq_true, not_true_eq_false, false_implies, true_implies, Nat.zero_add, reduceIte, Nat.reduceMul, Nat.reduceEqDiff, nxa, nxc, lgn, nL_of, swx, Int.reduceAdd, gI_a, gI_k, gL_a, gL_k, gI_r, gL_r, nI_and, nI_or, nI_xor, nI_ndf, nI_shl, nI_shr, ne_eq, and_true, true_and, eq_self, true_or, or_true, false_or, or_false, Option.toList, List.cons_append, List.nil_append, List.length_nil, List.length_cons, Nat.not_lt_zero, bX10_wishers_33]
      refine wp_blk kX10_wishers_34 ?_
      simp (disch := first | decide | omega) only [mxa, vxa, vxb, vxc, vnd, vne, Nat.reduceAdd, Nat.reduceSub, Nat.reduceLeDiff, Nat.reduceLT, Int32.reduceLT, Int32.reduceLE, Int32.reduceAdd, Int32.reduceSub, Int32.reduceMul, Int32.reduceToNatClampNeg, not_false_eq_true, not_true_eq_false, false_implies, true_implies, Nat.zero_add, reduceIte, Nat.reduceMul, Nat.reduceEqDiff, nxa, nxc, lgn, nL_of, swx, Int.reduceAdd, gI_a, gI_k, gL_a, gL_k, gI_r, gL_r, nI_and, nI_or, nI_xor, nI_ndf, nI_shl, nI_shr, ne_eq, and_true, true_and, eq_self, true_or, or_true, false_or, or_false, Option.toList, List.cons_append, List.nil_append, List.length_nil, List.length_cons, Nat.not_lt_zero, bX10_wishers_34, e]
      exact hP
  · refine wp_blk kX10_wishers_4 ?_
    simp (disch := first | decide | omega) only [mxa, vxa, vxb, vxc, vnd, vne, Nat.reduceAdd, Nat.reduceSub, Nat.reduceLeDiff, Nat.reduceLT, Int32.reduceLT, Int32.reduceLE, Int32.reduceAdd, Int32.reduceSub, Int32.reduceMul, Int32.reduceToNatClampNeg, not_false_eq_true, not_true_eq_false, false_implies, true_implies, Nat.zero_add, reduceIte, Nat.reduceMul, Nat.reduceEqDiff, nxa, nxc, lgn, nL_of, swx, Int.reduceAdd, gI_a, gI_k, gL_a, gL_k, gI_r, gL_r, nI_and, nI_or, nI_xor, nI_ndf, nI_shl, nI_shr, ne_eq, and_true, true_and, eq_self, true_or, or_true, false_or, or_false, Option.toList, List.cons_append, List.nil_append, List.length_nil, List.length_cons, Nat.not_lt_zero, bX10_wishers_4, kdx hs, grx hr, n0, Nat.le_refl]
    refine wp_blk kX10_wishers_42 ?_
    simp (disch := first | decide | omega) only [mxa, vxa, vxb, vxc, vnd, vne, Nat.reduceAdd, Nat.reduceSub, Nat.reduceLeDiff, Nat.reduceLT, Int32.reduceLT, Int32.reduceLE, Int32.reduceAdd, Int32.reduceSub, Int32.reduceMul, Int32.reduceToNatClampNeg, not_false_eq_true, not_true_eq_false, false_implies, true_implies, Nat.zero_add, reduceIte, Nat.reduceMul, Nat.reduceEqDiff, nxa, nxc, lgn, nL_of, swx, Int.reduceAdd, gI_a, gI_k, gL_a, gL_k, gI_r, gL_r, nI_and, nI_or, nI_xor, nI_ndf, nI_shl, nI_shr, ne_eq, and_true, true_and, eq_self, true_or, or_true, false_or, or_false, Option.toList, List.cons_append, List.nil_append, List.length_nil, List.length_cons, Nat.not_lt_zero, bX10_wishers_42]
    exact hQ
/-- the greatest wish -/
def gW (V : Nat → Int32) : Nat → Nat
  | 0 => 0
  | n + 1 => if gW V n < wsN V n then wsN V n else gW V n
theorem gW_le {V : Nat → Int32} {z : Nat} : ∀ {n}, gW V n ≤ z ↔ ∀ f, f < n → wsN V f ≤ z
  | 0 => ⟨fun _ f h => absurd h (by omega), fun _ => Nat.zero_le _⟩
  | n + 1 => by
    show (if gW V n < wsN V n then wsN V n else gW V n) ≤ z ↔ _
    have ih := gW_le (V := V) (z := z) (n := n)
    constructor
    · intro h f hf
      have h2 : wsN V n ≤ z ∧ gW V n ≤ z := by split at h <;> omega
      by_cases e : f = n
      · rw [e]; exact h2.1
      · exact ih.mp h2.2 f (by omega)
    · intro h
      have a := h n (by omega)
      have b := ih.mpr (fun f hf => h f (by omega))
      split <;> omega
theorem imx_nn {a b : Nat} (ha : a < 2147483648) (hb : b < 2147483648) : imx (nI a) (nI b) = nI (if a < b then b else a) := by
  unfold imx
  by_cases h : a < b
  · rw [if_pos h, if_pos]
    rw [Int32.lt_iff_toInt_lt, nI_toInt hb, nI_toInt ha]; omega
  · rw [if_neg h, if_neg]
    rw [Int32.lt_iff_toInt_lt, nI_toInt hb, nI_toInt ha]; omega
theorem c_greatestWish (X : Cx) (d : Nat) (σ : Mm) (V : Nat → Int32) (t N O K : Nat) (hs : St σ) (hG : Gd V t N O K) (hV : VR σ 1 V N O) (Q : Po) (hQ : Q (some (.int (nI (gW V N)))) σ) : Call X (d + 1) 0 0 mX8_greatestWish [.ref 1] σ Q := by
  have hN10 := hG.1.2
  have hst := hs.1
  have hrt := hs.2.1
  have e0 : gI σ 1 0 = nI N := hV.1.1.trans hG.1.1
  refine call_of eX8_greatestWish rfl ?_
  refine wp_blk kX8_greatestWish_0 ?_
  simp (disch := first | decide | omega) only [mxa, vxa, vxb, vxc, vnd, vne, Nat.reduceAdd, Nat.reduceSub, Nat.reduceLeDiff, Nat.reduceLT, Int32.reduceLT, Int32.reduceLE, Int32.reduceAdd, Int32.reduceSub, Int32.reduceMul, Int32.reduceToNatClampNeg, not_false_eq_true, not_true_eq_false, false_implies, true_implies, Nat.zero_add, reduceIte, Nat.reduceMul, Nat.reduceEqDiff, nxa, nxc, lgn, nL_of, swx, Int.reduceAdd, gI_a, gI_k, gL_a, gL_k, gI_r, gL_r, nI_and, nI_or, nI_xor, nI_ndf, nI_shl, nI_shr, ne_eq, and_true, true_and, eq_self, true_or, or_true, false_or, or_false, Option.toList, List.cons_append, List.nil_append, List.length_nil, List.length_cons, Nat.not_lt_zero, bX8_greatestWish_0]
  refine wfor (fun f => Wp X mX8_greatestWish (rmo (d + 1) 0 0) (d + 1) Q 0 0 4 [some (.ref 1), some (.int (nI (gW V f))), some (.int (nI f))] [] σ) N (fun f hf hP => ?_) ?_
  · obtain ⟨a1, a2, p, hp, ep⟩ := fa_ok hst hrt (Or.inl rfl) (hs.2.2 1 (Or.inl rfl)) (show f < 10 by omega)
    have a1' : gR σ 2 f = some (fa σ 1 f) := a1
    have wl := (wsN_ok hG hf).2
    have f2 : gI σ (fa σ 1 f) 2 = nI (wsN V f) := ((hV.2.2 f hf).1 2 (by omega)).trans (wsN_ok hG hf).1
    have gl : gW V f ≤ 99 := gW_le.mpr (fun i hi => (wsN_ok hG (show i < N by omega)).2)
    have im : imx (nI (gW V f)) (nI (wsN V f)) = nI (gW V (f + 1)) := imx_nn (by omega) (by omega)
    refine wp_blk kX8_greatestWish_4 ?_
    simp (disch := first | decide | omega) only [mxa, vxa, vxb, vxc, vnd, vne, Nat.reduceAdd, Nat.reduceSub, Nat.reduceLeDiff, Nat.reduceLT, Int32.reduceLT, Int32.reduceLE, Int32.reduceAdd, Int32.reduceSub, Int32.reduceMul, Int32.reduceToNatClampNeg, not_false_eq_true, not_true_eq_false, false_implies, true_implies, Nat.zero_add, reduceIte, Nat.reduceMul, Nat.reduceEqDiff, nxa, nxc, lgn, nL_of, swx, Int.reduceAdd, gI_a, gI_k, gL_a, gL_k, gI_r, gL_r, nI_and, nI_or, nI_xor, nI_ndf, nI_shl, nI_shr, ne_eq, and_true, true_and, eq_self, true_or, or_true, false_or, or_false, Option.toList, List.cons_append, List.nil_append, List.length_nil, List.length_cons, Nat.not_lt_zero, bX8_greatestWish_4, kdx hst, grx hrt, e0, a1', a2.1, f2, im, Nat.succ_pos, show ¬ N ≤ f by omega]
    exact hP
  · refine wp_blk kX8_greatestWish_4 ?_
    simp (disch := first | decide | omega) only [mxa, vxa, vxb, vxc, vnd, vne, Nat.reduceAdd, Nat.reduceSub, Nat.reduceLeDiff, Nat.reduceLT, Int32.reduceLT, Int32.reduceLE, Int32.reduceAdd, Int32.reduceSub, Int32.reduceMul, Int32.reduceToNatClampNeg, not_false_eq_true, not_true_eq_false, false_implies, true_implies, Nat.zero_add, reduceIte, Nat.reduceMul, Nat.reduceEqDiff, nxa, nxc, lgn, nL_of, swx, Int.reduceAdd, gI_a, gI_k, gL_a, gL_k, gI_r, gL_r, nI_and, nI_or, nI_xor, nI_ndf, nI_shl, nI_shr, ne_eq, and_true, true_and, eq_self, true_or, or_true, false_or, or_false, Option.toList, List.cons_append, List.nil_append, List.length_nil, List.length_cons, Nat.not_lt_zero, bX8_greatestWish_4, kdx hst, e0, Nat.le_refl]
    refine wp_blk kX8_greatestWish_32 ?_
    simp (disch := first | decide | omega) only [mxa, vxa, vxb, vxc, vnd, vne, Nat.reduceAdd, Nat.reduceSub, Nat.reduceLeDiff, Nat.reduceLT, Int32.reduceLT, Int32.reduceLE, Int32.reduceAdd, Int32.reduceSub, Int32.reduceMul, Int32.reduceToNatClampNeg, not_false_eq_true, not_true_eq_false, false_implies, true_implies, Nat.zero_add, reduceIte, Nat.reduceMul, Nat.reduceEqDiff, nxa, nxc, lgn, nL_of, swx, Int.reduceAdd, gI_a, gI_k, gL_a, gL_k, gI_r, gL_r, nI_and, nI_or, nI_xor, nI_ndf, nI_shl, nI_shr, ne_eq, and_true, true_and, eq_self, true_or, or_true, false_or, or_false, Option.toList, List.cons_append, List.nil_append, List.length_nil, List.length_cons, Nat.not_lt_zero, bX8_greatestWish_32]
    exact hQ
theorem c_allWishes (X : Cx) (d : Nat) (σ : Mm) (V : Nat → Int32) (t N O K : Nat) (hs : St σ) (hG : Gd V t N O K) (hV : VR σ 1 V N O) (Q : Po) (hQ : Q (some (.int (nI (sumN (wsN V) N)))) σ) : Call X d 0 0 mX8_allWishes [.ref 1] σ Q := by
  have hN10 := hG.1.2
  have hst := hs.1
  have hrt := hs.2.1
  have e0 : gI σ 1 0 = nI N := hV.1.1.trans hG.1.1
  refine call_of eX8_allWishes rfl ?_
  refine wp_blk kX8_allWishes_0 ?_
  simp (disch := first | decide | omega) only [mxa, vxa, vxb, vxc, vnd, vne, Nat.reduceAdd, Nat.reduceSub, Nat.reduceLeDiff, Nat.reduceLT, Int32.reduceLT, Int32.reduceLE, Int32.reduceAdd, Int32.reduceSub, Int32.reduceMul, Int32.reduceToNatClampNeg, not_false_eq_true, not_true_eq_false, false_implies, true_implies, Nat.zero_add, reduceIte, Nat.reduceMul, Nat.reduceEqDiff, nxa, nxc, lgn, nL_of, swx, Int.reduceAdd, gI_a, gI_k, gL_a, gL_k, gI_r, gL_r, nI_and, nI_or, nI_xor, nI_ndf, nI_shl, nI_shr, ne_eq, and_true, true_and, eq_self, true_or, or_true, false_or, or_false, Option.toList, List.cons_append, List.nil_append, List.length_nil, List.length_cons, Nat.not_lt_zero, bX8_allWishes_0]
  refine wfor (fun f => Wp X mX8_allWishes (rmo d 0 0) d Q 0 0 4 [some (.ref 1), some (.int (nI (sumN (wsN V) f))), some (.int (nI f))] [] σ) N (fun f hf hP => ?_) ?_
  · obtain ⟨a1, a2, p, hp, ep⟩ := fa_ok hst hrt (Or.inl rfl) (hs.2.2 1 (Or.inl rfl)) (show f < 10 by omega)
    have a1' : gR σ 2 f = some (fa σ 1 f) := a1
    have f2 : gI σ (fa σ 1 f) 2 = nI (wsN V f) := ((hV.2.2 f hf).1 2 (by omega)).trans (wsN_ok hG hf).1
    refine wp_blk kX8_allWishes_4 ?_
    simp (disch := first | decide | omega) only [mxa, vxa, vxb, vxc, vnd, vne, Nat.reduceAdd, Nat.reduceSub, Nat.reduceLeDiff, Nat.reduceLT, Int32.reduceLT, Int32.reduceLE, Int32.reduceAdd, Int32.reduceSub, Int32.reduceMul, Int32.reduceToNatClampNeg, not_false_eq_true, not_true_eq_false, false_implies, true_implies, Nat.zero_add, reduceIte, Nat.reduceMul, Nat.reduceEqDiff, nxa, nxc, lgn, nL_of, swx, Int.reduceAdd, gI_a, gI_k, gL_a, gL_k, gI_r, gL_r, nI_and, nI_or, nI_xor, nI_ndf, nI_shl, nI_shr, ne_eq, and_true, true_and, eq_self, true_or, or_true, false_or, or_false, Option.toList, List.cons_append, List.nil_append, List.length_nil, List.length_cons, Nat.not_lt_zero, bX8_allWishes_4, kdx hst, grx hrt, e0, a1', a2.1, f2, show ¬ N ≤ f by omega]
    exact hP
  · refine wp_blk kX8_allWishes_4 ?_
    simp (disch := first | decide | omega) only [mxa, vxa, vxb, vxc, vnd, vne, Nat.reduceAdd, Nat.reduceSub, Nat.reduceLeDiff, Nat.reduceLT, Int32.reduceLT, Int32.reduceLE, Int32.reduceAdd, Int32.reduceSub, Int32.reduceMul, Int32.reduceToNatClampNeg, not_false_eq_true, not_true_eq_false, false_implies, true_implies, Nat.zero_add, reduceIte, Nat.reduceMul, Nat.reduceEqDiff, nxa, nxc, lgn, nL_of, swx, Int.reduceAdd, gI_a, gI_k, gL_a, gL_k, gI_r, gL_r, nI_and, nI_or, nI_xor, nI_ndf, nI_shl, nI_shr, ne_eq, and_true, true_and, eq_self, true_or, or_true, false_or, or_false, Option.toList, List.cons_append, List.nil_append, List.length_nil, List.length_cons, Nat.not_lt_zero, bX8_allWishes_4, kdx hst, e0, Nat.le_refl]
    refine wp_blk kX8_allWishes_30 ?_
    simp (disch := first | decide | omega) only [mxa, vxa, vxb, vxc, vnd, vne, Nat.reduceAdd, Nat.reduceSub, Nat.reduceLeDiff, Nat.reduceLT, Int32.reduceLT, Int32.reduceLE, Int32.reduceAdd, Int32.reduceSub, Int32.reduceMul, Int32.reduceToNatClampNeg, not_false_eq_true, not_true_eq_false, false_implies, true_implies, Nat.zero_add, reduceIte, Nat.reduceMul, Nat.reduceEqDiff, nxa, nxc, lgn, nL_of, swx, Int.reduceAdd, gI_a, gI_k, gL_a, gL_k, gI_r, gL_r, nI_and, nI_or, nI_xor, nI_ndf, nI_shl, nI_shr, ne_eq, and_true, true_and, eq_self, true_or, or_true, false_or, or_false, Option.toList, List.cons_append, List.nil_append, List.length_nil, List.length_cons, Nat.not_lt_zero, bX8_allWishes_30]
    exact hQ
