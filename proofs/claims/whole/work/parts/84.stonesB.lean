/-! stones: the class's table -/
set_option maxRecDepth 20000
def fitS (V : Nat → Int32) (N z x : Nat) : Prop := gdS V N x ∧ sW V N x ≤ z
theorem c_fewestFires (X : Cx) (d : Nat) (σ : Mm) (V : Nat → Int32) (t N O K z w : Nat) (hs : Sh σ) (hr : Rf σ) (hG : Gd V t N O K) (hz : z ≤ 60) (hS : SV V N O σ) (hw : gI σ 151 0 = nI w) (w2 : w < 2 ^ N) (Q : Po) (hQ : ∀ τ : Mm, Fr (fun c => c = 153 ∨ c = 155) σ τ → TB 0 w (fitS V N z) (gI τ 153) → Q (some (.int (gI τ 153 w))) τ) : Call X (d + 4) 0 0 mX3_fewestFires [.ref 151, .int (nI z)] σ Q := by
  have hN := hG.1.2
  have pw := pow_le hN
  obtain ⟨S1', -, -, S4, -⟩ := hS
  have z0 : nI 0 &&& (1 : Int32) = nI 0 := by decide
  have z1 : nI 1 &&& (1 : Int32) = nI 1 := by decide
  have one := wfor (fun m => ∀ R : Nat → Int32, (∀ x, x < m → ∃ b, b ≤ 1 ∧ R x = nI b ∧ (b = 1 ↔ fitS V N z x)) → Wp X mX3_fewestFires (rmo (d + 4) 0 0) (d + 4) Q 0 0 2 [some (.ref 151), some (.int (nI z)), some (.int (nI m))] [] (rI σ 155 R)) (2 ^ N) (fun m hm hP R h => by
    have sl := sW_le (s := m) hG
    have S4' := S4 m hm
    have put : ∀ b, b ≤ 1 → (b = 1 ↔ fitS V N z m) → Wp X mX3_fewestFires (rmo (d + 4) 0 0) (d + 4) Q 0 0 39 [some (.ref 151), some (.int (nI z)), some (.int (nI m))] [.int (nI b), .int (nI m), .ref 155] (rI σ 155 R) := by
      intro b hb hb2
      have zb : nI b &&& (1 : Int32) = nI b := by
        rcases (by omega : b = 0 ∨ b = 1) with rfl | rfl
        · exact z0
        · exact z1
      refine wp_blk kX3_fewestFires_39 ?_
      simp (disch := first | decide | omega) only [mxa, vxa, vxb, vxc, vnd, vne, Nat.reduceAdd, Nat.reduceSub, Nat.reduceLeDiff, Nat.reduceLT, Int32.reduceLT, Int32.reduceLE, Int32.reduceAdd, Int32.reduceSub, Int32.reduceMul, Int32.reduceToNatClampNeg, not_false_eq_true, not_true_eq_false, false_implies, true_implies, Nat.zero_add, reduceIte, Nat.reduceMul, Nat.reduceEqDiff, nxa, nxc, lgn, nL_of, swx, Int.reduceAdd, gI_a, gI_k, gL_a, gL_k, gI_r, gL_r, nI_and, nI_or, nI_xor, nI_ndf, nI_shl, nI_shr, ne_eq, and_true, true_and, eq_self, true_or, or_true, false_or, or_false, Option.toList, List.cons_append, List.nil_append, List.length_nil, List.length_cons, Nat.not_lt_zero, bX3_fewestFires_39, kdx hs, grx hr, zb, sI_rI]
      refine hP _ (fun x hx => ?_)
      by_cases e : x = m
      · exact ⟨b, hb, by rw [e, upd_s], by rw [e]; exact hb2⟩
      · obtain ⟨c, c1, c2, c3⟩ := h x (by omega)
        exact ⟨c, c1, (upd_n e).trans c2, c3⟩
    by_cases hg : gdS V N m
    · by_cases hl : sW V N m ≤ z
      · refine wp_blk kX3_fewestFires_2 ?_
        simp (disch := first | decide | omega) only [mxa, vxa, vxb, vxc, vnd, vne, Nat.reduceAdd, Nat.reduceSub, Nat.reduceLeDiff, Nat.reduceLT, Int32.reduceLT, Int32.reduceLE, Int32.reduceAdd, Int32.reduceSub, Int32.reduceMul, Int32.reduceToNatClampNeg, not_false_eq_true, not_true_eq_false, false_implies, true_implies, Nat.zero_add, reduceIte, Nat.reduceMul, Nat.reduceEqDiff, nxa, nxc, lgn, nL_of, swx, Int.reduceAdd, gI_a, gI_k, gL_a, gL_k, gI_r, gL_r, nI_and, nI_or, nI_xor, nI_ndf, nI_shl, nI_shr, ne_eq, and_true, true_and, eq_self, true_or, or_true, false_or, or_false, Option.toList, List.cons_append, List.nil_append, List.length_nil, List.length_cons, Nat.not_lt_zero, bX3_fewestFires_2, kdx hs, grx hr, S1', S4', tT_y hg, show ¬ 2 ^ N - 1 < m by omega, show ¬ z < sW V N m by omega, Nat.not_lt_zero]
        exact put 1 (by omega) ⟨fun _ => ⟨hg, hl⟩, fun _ => rfl⟩
      · refine wp_blk kX3_fewestFires_2 ?_
        simp (disch := first | decide | omega) only [mxa, vxa, vxb, vxc, vnd, vne, Nat.reduceAdd, Nat.reduceSub, Nat.reduceLeDiff, Nat.reduceLT, Int32.reduceLT, Int32.reduceLE, Int32.reduceAdd, Int32.reduceSub, Int32.reduceMul, Int32.reduceToNatClampNeg, not_false_eq_true, not_true_eq_false, false_implies, true_implies, Nat.zero_add, reduceIte, Nat.reduceMul, Nat.reduceEqDiff, nxa, nxc, lgn, nL_of, swx, Int.reduceAdd, gI_a, gI_k, gL_a, gL_k, gI_r, gL_r, nI_and, nI_or, nI_xor, nI_ndf, nI_shl, nI_shr, ne_eq, and_true, true_and, eq_self, true_or, or_true, false_or, or_false, Option.toList, List.cons_append, List.nil_append, List.length_nil, List.length_cons, Nat.not_lt_zero, bX3_fewestFires_2, kdx hs, grx hr, S1', S4', tT_y hg, show ¬ 2 ^ N - 1 < m by omega, show z < sW V N m by omega, Nat.not_lt_zero]
        refine wp_blk kX3_fewestFires_38 ?_
        simp (disch := first | decide | omega) only [mxa, vxa, vxb, vxc, vnd, vne, Nat.reduceAdd, Nat.reduceSub, Nat.reduceLeDiff, Nat.reduceLT, Int32.reduceLT, Int32.reduceLE, Int32.reduceAdd, Int32.reduceSub, Int32.reduceMul, Int32.reduceToNatClampNeg, not_false_eq_true, not_true_eq_false, false_implies, true_implies, Nat.zero_add, reduceIte, Nat.reduceMul, Nat.reduceEqDiff, nxa, nxc, lgn, nL_of, swx, Int.reduceAdd, gI_a, gI_k, gL_a, gL_k, gI_r, gL_r, nI_and, nI_or, nI_xor, nI_ndf, nI_shl, nI_shr, ne_eq, and_true, true_and, eq_self, true_or, or_true, false_or, or_false, Option.toList, List.cons_append, List.nil_append, List.length_nil, List.length_cons, Nat.not_lt_zero, bX3_fewestFires_38]
        exact put 0 (by omega) ⟨fun q => absurd q (by decide), fun q => absurd q.2 hl⟩
    · refine wp_blk kX3_fewestFires_2 ?_
      simp (disch := first | decide | omega) only [mxa, vxa, vxb, vxc, vnd, vne, Nat.reduceAdd, Nat.reduceSub, Nat.reduceLeDiff, Nat.reduceLT, Int32.reduceLT, Int32.reduceLE, Int32.reduceAdd, Int32.reduceSub, Int32.reduceMul, Int32.reduceToNatClampNeg, not_false_eq_true, not_true_eq_false, false_implies, true_implies, Nat.zero_add, reduceIte, Nat.reduceMul, Nat.reduceEqDiff, nxa, nxc, lgn, nL_of, swx, Int.reduceAdd, gI_a, gI_k, gL_a, gL_k, gI_r, gL_r, nI_and, nI_or, nI_xor, nI_ndf, nI_shl, nI_shr, ne_eq, and_true, true_and, eq_self, true_or, or_true, false_or, or_false, Option.toList, List.cons_append, List.nil_append, List.length_nil, List.length_cons, Nat.not_lt_zero, bX3_fewestFires_2, kdx hs, grx hr, S1', S4', tT_n hg, show ((-1 : Int32) < nI 0) = True from eq_true (by decide), show ¬ 2 ^ N - 1 < m by omega]
      refine wp_blk kX3_fewestFires_38 ?_
      simp (disch := first | decide | omega) only [mxa, vxa, vxb, vxc, vnd, vne, Nat.reduceAdd, Nat.reduceSub, Nat.reduceLeDiff, Nat.reduceLT, Int32.reduceLT, Int32.reduceLE, Int32.reduceAdd, Int32.reduceSub, Int32.reduceMul, Int32.reduceToNatClampNeg, not_false_eq_true, not_true_eq_false, false_implies, true_implies, Nat.zero_add, reduceIte, Nat.reduceMul, Nat.reduceEqDiff, nxa, nxc, lgn, nL_of, swx, Int.reduceAdd, gI_a, gI_k, gL_a, gL_k, gI_r, gL_r, nI_and, nI_or, nI_xor, nI_ndf, nI_shl, nI_shr, ne_eq, and_true, true_and, eq_self, true_or, or_true, false_or, or_false, Option.toList, List.cons_append, List.nil_append, List.length_nil, List.length_cons, Nat.not_lt_zero, bX3_fewestFires_38]
      exact put 0 (by omega) ⟨fun q => absurd q (by decide), fun q => absurd q.1 hg⟩) (fun R h => by
    refine wp_blk kX3_fewestFires_2 ?_
    simp (disch := first | decide | omega) only [mxa, vxa, vxb, vxc, vnd, vne, Nat.reduceAdd, Nat.reduceSub, Nat.reduceLeDiff, Nat.reduceLT, Int32.reduceLT, Int32.reduceLE, Int32.reduceAdd, Int32.reduceSub, Int32.reduceMul, Int32.reduceToNatClampNeg, not_false_eq_true, not_true_eq_false, false_implies, true_implies, Nat.zero_add, reduceIte, Nat.reduceMul, Nat.reduceEqDiff, nxa, nxc, lgn, nL_of, swx, Int.reduceAdd, gI_a, gI_k, gL_a, gL_k, gI_r, gL_r, nI_and, nI_or, nI_xor, nI_ndf, nI_shl, nI_shr, ne_eq, and_true, true_and, eq_self, true_or, or_true, false_or, or_false, Option.toList, List.cons_append, List.nil_append, List.length_nil, List.length_cons, Nat.not_lt_zero, bX3_fewestFires_2, kdx hs, grx hr, S1', show 2 ^ N - 1 < 2 ^ N by omega]
    refine wp_blk kX3_fewestFires_46 ?_
    simp (disch := first | decide | omega) only [mxa, vxa, vxb, vxc, vnd, vne, Nat.reduceAdd, Nat.reduceSub, Nat.reduceLeDiff, Nat.reduceLT, Int32.reduceLT, Int32.reduceLE, Int32.reduceAdd, Int32.reduceSub, Int32.reduceMul, Int32.reduceToNatClampNeg, not_false_eq_true, not_true_eq_false, false_implies, true_implies, Nat.zero_add, reduceIte, Nat.reduceMul, Nat.reduceEqDiff, nxa, nxc, lgn, nL_of, swx, Int.reduceAdd, gI_a, gI_k, gL_a, gL_k, gI_r, gL_r, nI_and, nI_or, nI_xor, nI_ndf, nI_shl, nI_shr, ne_eq, and_true, true_and, eq_self, true_or, or_true, false_or, or_false, Option.toList, List.cons_append, List.nil_append, List.length_nil, List.length_cons, Nat.not_lt_zero, bX3_fewestFires_46, kdx hs, grx hr]
    refine c_fillTable X _ (rI σ 155 R) 0 w (by exact hs) (by exact hr) (by omega) ((gI_r (by decide)).trans hw) (by omega) (fitS V N z) (fun x hx => ?_) _ (fun T hT => ?_)
    · rw [gI_rS]; exact h x (by omega)
    · have q := hQ (rI (rI σ 155 R) 153 T) ((Fr.rI (by omega)).tr (Fr.rI (by omega))) (by rw [gI_rS]; exact hT)
      rw [gI_rS] at q
      simp (disch := first | decide | omega) only [mxa, vxa, vxb, vxc, vnd, vne, Nat.reduceAdd, Nat.reduceSub, Nat.reduceLeDiff, Nat.reduceLT, Int32.reduceLT, Int32.reduceLE, Int32.reduceAdd, Int32.reduceSub, Int32.reduceMul, Int32.reduceToNatClampNeg, not_false_eq_true, not_true_eq_false, false_implies, true_implies, Nat.zero_add, reduceIte, Nat.reduceMul, Nat.reduceEqDiff, nxa, nxc, lgn, nL_of, swx, Int.reduceAdd, gI_a, gI_k, gL_a, gL_k, gI_r, gL_r, nI_and, nI_or, nI_xor, nI_ndf, nI_shl, nI_shr, ne_eq, and_true, true_and, eq_self, true_or, or_true, false_or, or_false, Option.toList, List.cons_append, List.nil_append, List.length_nil, List.length_cons, Nat.not_lt_zero, kdx hs, grx hr, hw]
      exact q)
  have := one (gI σ 155) (fun x hx => absurd hx (by omega))
  rw [rI_self] at this
  refine call_of eX3_fewestFires rfl ?_
  refine wp_blk kX3_fewestFires_0 ?_
  simp (disch := first | decide | omega) only [mxa, vxa, vxb, vxc, vnd, vne, Nat.reduceAdd, Nat.reduceSub, Nat.reduceLeDiff, Nat.reduceLT, Int32.reduceLT, Int32.reduceLE, Int32.reduceAdd, Int32.reduceSub, Int32.reduceMul, Int32.reduceToNatClampNeg, not_false_eq_true, not_true_eq_false, false_implies, true_implies, Nat.zero_add, reduceIte, Nat.reduceMul, Nat.reduceEqDiff, nxa, nxc, lgn, nL_of, swx, Int.reduceAdd, gI_a, gI_k, gL_a, gL_k, gI_r, gL_r, nI_and, nI_or, nI_xor, nI_ndf, nI_shl, nI_shr, ne_eq, and_true, true_and, eq_self, true_or, or_true, false_or, or_false, Option.toList, List.cons_append, List.nil_append, List.length_nil, List.length_cons, Nat.not_lt_zero, bX3_fewestFires_0]
  exact this
