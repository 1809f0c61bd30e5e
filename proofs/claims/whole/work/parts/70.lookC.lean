/-! days ahead: the model -/
set_option maxRecDepth 20000
theorem dg_eq : ∀ (n P j : Nat), j < n → dg n P j = P / 3 ^ (n - 1 - j) % 3
  | n + 1, P, j, h => by
    show (if j = n then P % 3 else dg n (P / 3) j) = _
    by_cases e : j = n
    · rw [if_pos e, show n + 1 - 1 - j = 0 by omega, Nat.pow_zero, Nat.div_one]
    · rw [if_neg e, dg_eq n (P / 3) j (by omega), Nat.div_div_eq_div_mul, show n + 1 - 1 - j = (n - 1 - j) + 1 by omega, Nat.pow_succ, Nat.mul_comm 3]
theorem dg_lt : ∀ (n P j : Nat), dg n P j < 3
  | 0, _, _ => by show 0 < 3; omega
  | n + 1, P, j => by
    show (if j = n then P % 3 else dg n (P / 3) j) < 3
    split
    · omega
    · exact dg_lt n _ _
theorem pow3 {n : Nat} (h : n ≤ 7) : 1 ≤ 3 ^ n ∧ 3 ^ n ≤ 2187 := ⟨Nat.one_le_pow _ _ (by omega), Nat.pow_le_pow_right (n := 3) (by omega) h⟩
theorem pf_step {n c k : Nat} (h : k < n) : c / 3 ^ (n - (k + 1)) / 3 = c / 3 ^ (n - k) ∧ c / 3 ^ (n - (k + 1)) % 3 = dg n c k := by
  refine ⟨?_, ?_⟩
  · rw [Nat.div_div_eq_div_mul, show n - k = (n - (k + 1)) + 1 by omega, Nat.pow_succ]
  · rw [dg_eq n c k h, show n - 1 - k = n - (k + 1) by omega]
theorem sm_nI {g : Nat → Int32} {h : Nat → Nat} : ∀ {n : Nat}, (∀ k, k < n → g k = nI (h k)) → sm g n = nI (sumN h n)
  | 0, _ => rfl
  | n + 1, e => by
    show sm g n + g n = nI (sumN h n + h n)
    rw [sm_nI (fun k hk => e k (by omega)), e n (by omega), nI_add]
theorem c_rowsOf (X : Cx) (d : Nat) (σ : Mm) (n : Nat) (hn : n ≤ 7) (Q : Po) (hQ : Q (some (.int (nI (3 ^ n)))) σ) : Call X d 0 0 mX10_rowsOf [.ref 190, .int (nI n)] σ Q := by
  refine call_of eX10_rowsOf rfl ?_
  refine wp_blk kX10_rowsOf_0 ?_
  simp (disch := first | decide | omega) only [mxa, vxa, vxb, vxc, vnd, vne, Nat.reduceAdd, Nat.reduceSub, Nat.reduceLeDiff, Nat.reduceLT, Int32.reduceLT, Int32.reduceLE, Int32.reduceAdd, Int32.reduceSub, Int32.reduceMul, Int32.reduceToNatClampNeg, not_false_eq_true, not_true_eq_false, false_implies, true_implies, Nat.zero_add, reduceIte, Nat.reduceMul, Nat.reduceEqDiff, nxa, nxc, lgn, nL_of, swx, Int.reduceAdd, gI_a, gI_k, gL_a, gL_k, gI_r, gL_r, nI_and, nI_or, nI_xor, nI_ndf, nI_shl, nI_shr, ne_eq, and_true, true_and, eq_self, true_or, or_true, false_or, or_false, Option.toList, List.cons_append, List.nil_append, List.length_nil, List.length_cons, Nat.not_lt_zero, bX10_rowsOf_0]
  refine wfor (fun k => Wp X mX10_rowsOf (rmo d 0 0) d Q 0 0 4 [some (.ref 190), some (.int (nI n)), some (.int (nI (3 ^ k))), some (.int (nI k))] [] σ) n (fun k hk hP => ?_) ?_
  · refine wp_blk kX10_rowsOf_4 ?_
    simp (disch := first | decide | omega) only [mxa, vxa, vxb, vxc, vnd, vne, Nat.reduceAdd, Nat.reduceSub, Nat.reduceLeDiff, Nat.reduceLT, Int32.reduceLT, Int32.reduceLE, Int32.reduceAdd, Int32.reduceSub, Int32.reduceMul, Int32.reduceToNatClampNeg, not_false_eq_true, not_true_eq_false, false_implies, true_implies, Nat.zero_add, reduceIte, Nat.reduceMul, Nat.reduceEqDiff, nxa, nxc, lgn, nL_of, swx, Int.reduceAdd, gI_a, gI_k, gL_a, gL_k, gI_r, gL_r, nI_and, nI_or, nI_xor, nI_ndf, nI_shl, nI_shr, ne_eq, and_true, true_and, eq_self, true_or, or_true, false_or, or_false, Option.toList, List.cons_append, List.nil_append, List.length_nil, List.length_cons, Nat.not_lt_zero, bX10_rowsOf_4, show ¬ n ≤ k by omega]
    rw [Nat.pow_succ] at hP
    exact hP
  · refine wp_blk kX10_rowsOf_4 ?_
    simp (disch := first | decide | omega) only [mxa, vxa, vxb, vxc, vnd, vne, Nat.reduceAdd, Nat.reduceSub, Nat.reduceLeDiff, Nat.reduceLT, Int32.reduceLT, Int32.reduceLE, Int32.reduceAdd, Int32.reduceSub, Int32.reduceMul, Int32.reduceToNatClampNeg, not_false_eq_true, not_true_eq_false, false_implies, true_implies, Nat.zero_add, reduceIte, Nat.reduceMul, Nat.reduceEqDiff, nxa, nxc, lgn, nL_of, swx, Int.reduceAdd, gI_a, gI_k, gL_a, gL_k, gI_r, gL_r, nI_and, nI_or, nI_xor, nI_ndf, nI_shl, nI_shr, ne_eq, and_true, true_and, eq_self, true_or, or_true, false_or, or_false, Option.toList, List.cons_append, List.nil_append, List.length_nil, List.length_cons, Nat.not_lt_zero, bX10_rowsOf_4, Nat.le_refl]
    refine wp_blk kX10_rowsOf_19 ?_
    simp (disch := first | decide | omega) only [mxa, vxa, vxb, vxc, vnd, vne, Nat.reduceAdd, Nat.reduceSub, Nat.reduceLeDiff, Nat.reduceLT, Int32.reduceLT, Int32.reduceLE, Int32.reduceAdd, Int32.reduceSub, Int32.reduceMul, Int32.reduceToNatClampNeg, not_false_eq_true, not_true_eq_false, false_implies, true_implies, Nat.zero_add, reduceIte, Nat.reduceMul, Nat.reduceEqDiff, nxa, nxc, lgn, nL_of, swx, Int.reduceAdd, gI_a, gI_k, gL_a, gL_k, gI_r, gL_r, nI_and, nI_or, nI_xor, nI_ndf, nI_shl, nI_shr, ne_eq, and_true, true_and, eq_self, true_or, or_true, false_or, or_false, Option.toList, List.cons_append, List.nil_append, List.length_nil, List.length_cons, Nat.not_lt_zero, bX10_rowsOf_19]
    exact hQ
theorem c_laysFires (X : Cx) (d : Nat) (σ : Mm) (n c : Nat) (hs : Sh σ) (hr : Rf σ) (hn1 : 1 ≤ n) (hn : n ≤ 7) (hc : c < 3 ^ n) (Q : Po) (hQ : ∀ R : Nat → Int32, (∀ j, j < n → R j = nI (dg n c j)) → Q none (rI σ 208 R)) : Call X d 0 0 mX10_laysFires [.ref 190, .int (nI c), .int (nI n)] σ Q := by
  have p3 := pow3 hn
  have loop : ∀ i, i ≤ n → ∀ R : Nat → Int32, (∀ j, i ≤ j → j < n → R j = nI (dg n c j)) → Wp X mX10_laysFires (rmo d 0 0) d Q 0 0 7 [some (.ref 190), some (.int (nI c)), some (.int (nI n)), some (.int (nI (c / 3 ^ (n - i)))), some (.int (nI i + (-1)))] [] (rI σ 208 R) := by
    intro i
    induction i with
    | zero =>
      intro _ R hR
      rw [show nI 0 + (-1) = (-1 : Int32) from by decide]
      refine wp_blk kX10_laysFires_7 ?_
      simp (disch := first | decide | omega) only [mxa, vxa, vxb, vxc, vnd, vne, Nat.reduceAdd, Nat.reduceSub, Nat.reduceLeDiff, Nat.reduceLT, Int32.reduceLT, Int32.reduceLE, Int32.reduceAdd, Int32.reduceSub, Int32.reduceMul, Int32.reduceToNatClampNeg, not_false_eq_true, not_true_eq_false, false_implies, true_implies, Nat.zero_add, reduceIte, Nat.reduceMul, Nat.reduceEqDiff, nxa, nxc, lgn, nL_of, swx, Int.reduceAdd, gI_a, gI_k, gL_a, gL_k, gI_r, gL_r, nI_and, nI_or, nI_xor, nI_ndf, nI_shl, nI_shr, ne_eq, and_true, true_and, eq_self, true_or, or_true, false_or, or_false, Option.toList, List.cons_append, List.nil_append, List.length_nil, List.length_cons, Nat.not_lt_zero, bX10_laysFires_7, show ((-1 : Int32) < nI 0) = True from eq_true (by decide)]
      refine wp_blk kX10_laysFires_32 ?_
      simp (disch := first | decide | omega) only [mxa, vxa, vxb, vxc, vnd, vne, Nat.reduceAdd, Nat.reduceSub, Nat.reduceLeDiff, Nat.reduceLT, Int32.reduceLT, Int32.reduceLE, Int32.reduceAdd, Int32.reduceSub, Int32.reduceMul, Int32.reduceToNatClampNeg, not_false_eq_true, not_true_eq_false, false_implies, true_implies, Nat.zero_add, reduceIte, Nat.reduceMul, Nat.reduceEqDiff, nxa, nxc, lgn, nL_of, swx, Int.reduceAdd, gI_a, gI_k, gL_a, gL_k, gI_r, gL_r, nI_and, nI_or, nI_xor, nI_ndf, nI_shl, nI_shr, ne_eq, and_true, true_and, eq_self, true_or, or_true, false_or, or_false, Option.toList, List.cons_append, List.nil_append, List.length_nil, List.length_cons, Nat.not_lt_zero, bX10_laysFires_32]
      exact hQ R (fun j hj => hR j (by omega) hj)
    | succ i ih =>
      intro hi R hR
      rw [dn]
      obtain ⟨s1, s2⟩ := pf_step (n := n) (c := c) (k := i) (by omega)
      have cl : c / 3 ^ (n - (i + 1)) ≤ c := Nat.div_le_self _ _
      have r1 : nI (c / 3 ^ (n - (i + 1))) - nI (c / 3 ^ (n - (i + 1)) / 3 * 3) = nI (dg n c i) := by
        rw [nxa.2.2.2.2.2.1 _ _ (by omega), ← s2]
        congr 1
        omega
      refine wp_blk kX10_laysFires_7 ?_
      simp (disch := first | decide | omega) only [mxa, vxa, vxb, vxc, vnd, vne, Nat.reduceAdd, Nat.reduceSub, Nat.reduceLeDiff, Nat.reduceLT, Int32.reduceLT, Int32.reduceLE, Int32.reduceAdd, Int32.reduceSub, Int32.reduceMul, Int32.reduceToNatClampNeg, not_false_eq_true, not_true_eq_false, false_implies, true_implies, Nat.zero_add, reduceIte, Nat.reduceMul, Nat.reduceEqDiff, nxa, nxc, lgn, nL_of, swx, Int.reduceAdd, gI_a, gI_k, gL_a, gL_k, gI_r, gL_r, nI_and, nI_or, nI_xor, nI_ndf, nI_shl, nI_shr, ne_eq, and_true, true_and, eq_self, true_or, or_true, false_or, or_false, Option.toList, List.cons_append, List.nil_append, List.length_nil, List.length_cons, Nat.not_lt_zero, bX10_laysFires_7, kdx hs, grx hr, pk_div, show ¬ (3 : Nat) = 0 by omega, show c / 3 ^ (n - (i + 1)) - c / 3 ^ (n - (i + 1)) / 3 * 3 = dg n c i by rw [← s2]; omega, sI_rI]
      rw [s1]
      refine ih (by omega) _ (fun j h1 h2 => ?_)
      by_cases e : j = i
      · rw [e, upd_s]
      · rw [upd_n e]; exact hR j (by omega) h2
  have key := loop n (Nat.le_refl _) (gI σ 208) (fun j h1 h2 => absurd h2 (by omega))
  rw [rI_self, Nat.sub_self, Nat.pow_zero, Nat.div_one, show nI n + (-1) = nI (n - 1) from by rw [show n = n - 1 + 1 by omega, dn, Nat.add_sub_cancel]] at key
  refine call_of eX10_laysFires rfl ?_
  refine wp_blk kX10_laysFires_0 ?_
  simp (disch := first | decide | omega) only [mxa, vxa, vxb, vxc, vnd, vne, Nat.reduceAdd, Nat.reduceSub, Nat.reduceLeDiff, Nat.reduceLT, Int32.reduceLT, Int32.reduceLE, Int32.reduceAdd, Int32.reduceSub, Int32.reduceMul, Int32.reduceToNatClampNeg, not_false_eq_true, not_true_eq_false, false_implies, true_implies, Nat.zero_add, reduceIte, Nat.reduceMul, Nat.reduceEqDiff, nxa, nxc, lgn, nL_of, swx, Int.reduceAdd, gI_a, gI_k, gL_a, gL_k, gI_r, gL_r, nI_and, nI_or, nI_xor, nI_ndf, nI_shl, nI_shr, ne_eq, and_true, true_and, eq_self, true_or, or_true, false_or, or_false, Option.toList, List.cons_append, List.nil_append, List.length_nil, List.length_cons, Nat.not_lt_zero, bX10_laysFires_0]
  exact key
theorem c_laysCrumbs (X : Cx) (d : Nat) (σ : Mm) (V : Nat → Int32) (t N O K : Nat) (hs : Sh σ) (hr : Rf σ) (hV : gI σ 191 = V) (hG : Gd V t N O K) (ht : t ≤ 512) (Q : Po) (hQ : ∀ R : Nat → Int32, (∀ a, a < 5 → R a = nI (B0 V N a)) → Q none (rI σ 197 R)) : Call X d 0 0 mX10_laysCrumbs [.ref 190] σ Q := by
  have hN10 := hG.1.2
  have n0 : gI σ 191 0 = nI N := by rw [hV]; exact hG.1.1
  have k0 : gI σ 191 3 = nI K := by rw [hV]; exact hG.2.2.1.1
  have hK5 := hG.2.2.1.2.2
  refine call_of eX10_laysCrumbs rfl ?_
  refine wp_blk kX10_laysCrumbs_0 ?_
  simp (disch := first | decide | omega) only [mxa, vxa, vxb, vxc, vnd, vne, Nat.reduceAdd, Nat.reduceSub, Nat.reduceLeDiff, Nat.reduceLT, Int32.reduceLT, Int32.reduceLE, Int32.reduceAdd, Int32.reduceSub, Int32.reduceMul, Int32.reduceToNatClampNeg, not_false_eq_true, not_true_eq_false, false_implies, true_implies, Nat.zero_add, reduceIte, Nat.reduceMul, Nat.reduceEqDiff, nxa, nxc, lgn, nL_of, swx, Int.reduceAdd, gI_a, gI_k, gL_a, gL_k, gI_r, gL_r, nI_and, nI_or, nI_xor, nI_ndf, nI_shl, nI_shr, ne_eq, and_true, true_and, eq_self, true_or, or_true, false_or, or_false, Option.toList, List.cons_append, List.nil_append, List.length_nil, List.length_cons, Nat.not_lt_zero, bX10_laysCrumbs_0]
  have go := wfor (fun a => ∀ R : Nat → Int32, (∀ j, j < a → R j = nI (B0 V N j)) → Wp X mX10_laysCrumbs (rmo d 0 0) d Q 0 0 2 [some (.ref 190), some (.int (nI a)), none] [] (rI σ 197 R)) 5 (fun a ha hP R hR => by
    refine wp_blk kX10_laysCrumbs_2 ?_
    simp (disch := first | decide | omega) only [mxa, vxa, vxb, vxc, vnd, vne, Nat.reduceAdd, Nat.reduceSub, Nat.reduceLeDiff, Nat.reduceLT, Int32.reduceLT, Int32.reduceLE, Int32.reduceAdd, Int32.reduceSub, Int32.reduceMul, Int32.reduceToNatClampNeg, not_false_eq_true, not_true_eq_false, false_implies, true_implies, Nat.zero_add, reduceIte, Nat.reduceMul, Nat.reduceEqDiff, nxa, nxc, lgn, nL_of, swx, Int.reduceAdd, gI_a, gI_k, gL_a, gL_k, gI_r, gL_r, nI_and, nI_or, nI_xor, nI_ndf, nI_shl, nI_shr, ne_eq, and_true, true_and, eq_self, true_or, or_true, false_or, or_false, Option.toList, List.cons_append, List.nil_append, List.length_nil, List.length_cons, Nat.not_lt_zero, bX10_laysCrumbs_2, kdx hs, grx hr, show ¬ 5 ≤ a by omega, sI_rI]
    refine wfor (fun f => ∀ R : Nat → Int32, (∀ j, j < a → R j = nI (B0 V N j)) → R a = nI (sumN (fun f => brN V f a) f) → Wp X mX10_laysCrumbs (rmo d 0 0) d Q 0 0 16 [some (.ref 190), some (.int (nI a)), some (.int (nI f))] [] (rI σ 197 R)) N (fun f hf hP2 R hR hRa => ?_) (fun R hR hRa => ?_) _ (fun j hj => ?_) ?_
    · obtain ⟨b1, b2, b3⟩ := brN_ok hG (by omega) hf a ha
      have bv : gI σ 191 (69 + 5 * f + a) = nI (brN V f a) := by rw [hV]; exact b1
      have fin : ∀ x, x = brN V f a → Wp X mX10_laysCrumbs (rmo d 0 0) d Q 0 0 60 [some (.ref 190), some (.int (nI a)), some (.int (nI f))] [.int (nI x), .int (nI (sumN (fun f => brN V f a) f)), .int (nI a), .ref 197] (rI σ 197 R) := by
        intro x hx
        refine wp_blk kX10_laysCrumbs_60 ?_
        simp (disch := first | decide | omega) only [mxa, vxa, vxb, vxc, vnd, vne, Nat.reduceAdd, Nat.reduceSub, Nat.reduceLeDiff, Nat.reduceLT, Int32.reduceLT, Int32.reduceLE, Int32.reduceAdd, Int32.reduceSub, Int32.reduceMul, Int32.reduceToNatClampNeg, not_false_eq_true, not_true_eq_false, false_implies, true_implies, Nat.zero_add, reduceIte, Nat.reduceMul, Nat.reduceEqDiff, nxa, nxc, lgn, nL_of, swx, Int.reduceAdd, gI_a, gI_k, gL_a, gL_k, gI_r, gL_r, nI_and, nI_or, nI_xor, nI_ndf, nI_shl, nI_shr, ne_eq, and_true, true_and, eq_self, true_or, or_true, false_or, or_false, Option.toList, List.cons_append, List.nil_append, List.length_nil, List.length_cons, Nat.not_lt_zero, bX10_laysCrumbs_60, kdx hs, grx hr, sI_rI]
        refine hP2 _ (fun j hj => ?_) ?_
        · rw [upd_n (by omega)]; exact hR j hj
        · rw [upd_s, hx]; rfl
      by_cases hK : K ≤ a
      · refine wp_blk kX10_laysCrumbs_16 ?_
        simp (disch := first | decide | omega) only [mxa, vxa, vxb, vxc, vnd, vne, Nat.reduceAdd, Nat.reduceSub, Nat.reduceLeDiff, Nat.reduceLT, Int32.reduceLT, Int32.reduceLE, Int32.reduceAdd, Int32.reduceSub, Int32.reduceMul, Int32.reduceToNatClampNeg, not_false_eq_true, not_true_eq_false, false_implies, true_implies, Nat.zero_add, reduceIte, Nat.reduceMul, Nat.reduceEqDiff, nxa, nxc, lgn, nL_of, swx, Int.reduceAdd, gI_a, gI_k, gL_a, gL_k, gI_r, gL_r, nI_and, nI_or, nI_xor, nI_ndf, nI_shl, nI_shr, ne_eq, and_true, true_and, eq_self, true_or, or_true, false_or, or_false, Option.toList, List.cons_append, List.nil_append, List.length_nil, List.length_cons, Nat.not_lt_zero, bX10_laysCrumbs_16, kdx hs, grx hr, n0, k0, hRa, hK, show ¬ N ≤ f by omega]
        refine wp_blk kX10_laysCrumbs_59 ?_
        simp (disch := first | decide | omega) only [mxa, vxa, vxb, vxc, vnd, vne, Nat.reduceAdd, Nat.reduceSub, Nat.reduceLeDiff, Nat.reduceLT, Int32.reduceLT, Int32.reduceLE, Int32.reduceAdd, Int32.reduceSub, Int32.reduceMul, Int32.reduceToNatClampNeg, not_false_eq_true, not_true_eq_false, false_implies, true_implies, Nat.zero_add, reduceIte, Nat.reduceMul, Nat.reduceEqDiff, nxa, nxc, lgn, nL_of, swx, Int.reduceAdd, gI_a, gI_k, gL_a, gL_k, gI_r, gL_r, nI_and, nI_or, nI_xor, nI_ndf, nI_shl, nI_shr, ne_eq, and_true, true_and, eq_self, true_or, or_true, false_or, or_false, Option.toList, List.cons_append, List.nil_append, List.length_nil, List.length_cons, Nat.not_lt_zero, bX10_laysCrumbs_59]
        exact fin 0 (b3 hK).symm
      · refine wp_blk kX10_laysCrumbs_16 ?_
        simp (disch := first | decide | omega) only [mxa, vxa, vxb, vxc, vnd, vne, Nat.reduceAdd, Nat.reduceSub, Nat.reduceLeDiff, Nat.reduceLT, Int32.reduceLT, Int32.reduceLE, Int32.reduceAdd, Int32.reduceSub, Int32.reduceMul, Int32.reduceToNatClampNeg, not_false_eq_true, not_true_eq_false, false_implies, true_implies, Nat.zero_add, reduceIte, Nat.reduceMul, Nat.reduceEqDiff, nxa, nxc, lgn, nL_of, swx, Int.reduceAdd, gI_a, gI_k, gL_a, gL_k, gI_r, gL_r, nI_and, nI_or, nI_xor, nI_ndf, nI_shl, nI_shr, ne_eq, and_true, true_and, eq_self, true_or, or_true, false_or, or_false, Option.toList, List.cons_append, List.nil_append, List.length_nil, List.length_cons, Nat.not_lt_zero, bX10_laysCrumbs_16, kdx hs, grx hr, n0, k0, hRa, hK, bv, show ¬ N ≤ f by omega]
        exact fin _ rfl
    · refine wp_blk kX10_laysCrumbs_16 ?_
      simp (disch := first | decide | omega) only [mxa, vxa, vxb, vxc, vnd, vne, Nat.reduceAdd, Nat.reduceSub, Nat.reduceLeDiff, Nat.reduceLT, Int32.reduceLT, Int32.reduceLE, Int32.reduceAdd, Int32.reduceSub, Int32.reduceMul, Int32.reduceToNatClampNeg, not_false_eq_true, not_true_eq_false, false_implies, true_implies, Nat.zero_add, reduceIte, Nat.reduceMul, Nat.reduceEqDiff, nxa, nxc, lgn, nL_of, swx, Int.reduceAdd, gI_a, gI_k, gL_a, gL_k, gI_r, gL_r, nI_and, nI_or, nI_xor, nI_ndf, nI_shl, nI_shr, ne_eq, and_true, true_and, eq_self, true_or, or_true, false_or, or_false, Option.toList, List.cons_append, List.nil_append, List.length_nil, List.length_cons, Nat.not_lt_zero, bX10_laysCrumbs_16, kdx hs, grx hr, n0, Nat.le_refl]
      refine wp_blk kX10_laysCrumbs_68 ?_
      simp (disch := first | decide | omega) only [mxa, vxa, vxb, vxc, vnd, vne, Nat.reduceAdd, Nat.reduceSub, Nat.reduceLeDiff, Nat.reduceLT, Int32.reduceLT, Int32.reduceLE, Int32.reduceAdd, Int32.reduceSub, Int32.reduceMul, Int32.reduceToNatClampNeg, not_false_eq_true, not_true_eq_false, false_implies, true_implies, Nat.zero_add, reduceIte, Nat.reduceMul, Nat.reduceEqDiff, nxa, nxc, lgn, nL_of, swx, Int.reduceAdd, gI_a, gI_k, gL_a, gL_k, gI_r, gL_r, nI_and, nI_or, nI_xor, nI_ndf, nI_shl, nI_shr, ne_eq, and_true, true_and, eq_self, true_or, or_true, false_or, or_false, Option.toList, List.cons_append, List.nil_append, List.length_nil, List.length_cons, Nat.not_lt_zero, bX10_laysCrumbs_68]
      refine Wp.fog 2 ?_
      refine hP R (fun j hj => ?_)
      by_cases e : j = a
      · rw [e]; exact hRa
      · exact hR j (by omega)
    · rw [upd_n (by omega)]; exact hR j hj
    · rw [upd_s]; rfl) (fun R hR => by
    refine wp_blk kX10_laysCrumbs_2 ?_
    simp (disch := first | decide | omega) only [mxa, vxa, vxb, vxc, vnd, vne, Nat.reduceAdd, Nat.reduceSub, Nat.reduceLeDiff, Nat.reduceLT, Int32.reduceLT, Int32.reduceLE, Int32.reduceAdd, Int32.reduceSub, Int32.reduceMul, Int32.reduceToNatClampNeg, not_false_eq_true, not_true_eq_false, false_implies, true_implies, Nat.zero_add, reduceIte, Nat.reduceMul, Nat.reduceEqDiff, nxa, nxc, lgn, nL_of, swx, Int.reduceAdd, gI_a, gI_k, gL_a, gL_k, gI_r, gL_r, nI_and, nI_or, nI_xor, nI_ndf, nI_shl, nI_shr, ne_eq, and_true, true_and, eq_self, true_or, or_true, false_or, or_false, Option.toList, List.cons_append, List.nil_append, List.length_nil, List.length_cons, Nat.not_lt_zero, bX10_laysCrumbs_2]
    refine wp_blk kX10_laysCrumbs_74 ?_
    simp (disch := first | decide | omega) only [mxa, vxa, vxb, vxc, vnd, vne, Nat.reduceAdd, Nat.reduceSub, Nat.reduceLeDiff, Nat.reduceLT, Int32.reduceLT, Int32.reduceLE, Int32.reduceAdd, Int32.reduceSub, Int32.reduceMul, Int32.reduceToNatClampNeg, not_false_eq_true, not_true_eq_false, false_implies, true_implies, Nat.zero_add, reduceIte, Nat.reduceMul, Nat.reduceEqDiff, nxa, nxc, lgn, nL_of, swx, Int.reduceAdd, gI_a, gI_k, gL_a, gL_k, gI_r, gL_r, nI_and, nI_or, nI_xor, nI_ndf, nI_shl, nI_shr, ne_eq, and_true, true_and, eq_self, true_or, or_true, false_or, or_false, Option.toList, List.cons_append, List.nil_append, List.length_nil, List.length_cons, Nat.not_lt_zero, bX10_laysCrumbs_74]
    exact hQ R hR)
  have := go (gI σ 197) (fun j hj => absurd hj (by omega))
  rw [rI_self] at this
  exact this
theorem c_goesDays (X : Cx) (d : Nat) (σ : Mm) (V : Nat → Int32) (t N O K n c : Nat) (hs : Sh σ) (hr : Rf σ) (hV : gI σ 191 = V) (hG : Gd V t N O K) (ht : t ≤ 512) (hO : 0 < O) (hn : n ≤ 7) (hf : ∀ j, j < n → gI σ 208 j = nI (dg n c j)) (Q : Po) (hQ : ∀ σ' : Mm, Fr (fun c => c = 190 ∨ c = 197) σ σ' → gI σ' 190 38 = nI (HR K (E0 V N) (zN V 0) (B0 V N) n c) → gI σ' 190 39 = nI (SR K (E0 V N) (zN V 0) (B0 V N) n c) → (∀ j, j ≠ 38 → j ≠ 39 → gI σ' 190 j = gI σ 190 j) → Q (some (.int (nI (FR n c)))) σ') : Call X (d + 1) 0 0 mX10_goesDays [.ref 190, .int (nI n)] σ Q := by
  have hN10 := hG.1.2
  have hO3 := hG.2.1.2
  have hK1 := hG.2.2.1.2.1
  have hK5 := hG.2.2.1.2.2
  obtain ⟨z1, z2, z3⟩ := zN_ok hG hO
  obtain ⟨b1, b2, b3⟩ := B0_ok hG ht
  have n0 : gI σ 191 0 = nI N := by rw [hV]; exact hG.1.1
  have zz : gI σ 191 6 = nI (zN V 0) := by rw [hV]; exact z1
  have kk : gI σ 191 3 = nI K := by rw [hV]; exact hG.2.2.1.1
  have es : sm (fun f => gI σ 191 (9 + f)) N = nI (E0 V N) := sm_nI (fun k hk => by rw [hV]; exact (etN_ok hG hk).1)
  refine call_of eX10_goesDays rfl ?_
  refine wp_blk kX10_goesDays_0 ?_
  simp (disch := first | decide | omega) only [mxa, vxa, vxb, vxc, vnd, vne, Nat.reduceAdd, Nat.reduceSub, Nat.reduceLeDiff, Nat.reduceLT, Int32.reduceLT, Int32.reduceLE, Int32.reduceAdd, Int32.reduceSub, Int32.reduceMul, Int32.reduceToNatClampNeg, not_false_eq_true, not_true_eq_false, false_implies, true_implies, Nat.zero_add, reduceIte, Nat.reduceMul, Nat.reduceEqDiff, nxa, nxc, lgn, nL_of, swx, Int.reduceAdd, gI_a, gI_k, gL_a, gL_k, gI_r, gL_r, nI_and, nI_or, nI_xor, nI_ndf, nI_shl, nI_shr, ne_eq, and_true, true_and, eq_self, true_or, or_true, false_or, or_false, Option.toList, List.cons_append, List.nil_append, List.length_nil, List.length_cons, Nat.not_lt_zero, bX10_goesDays_0, kdx hs, grx hr]
  refine c_laysCrumbs X _ σ V t N O K hs hr hV hG ht _ (fun R hR => ?_)
  simp (disch := first | decide | omega) only [mxa, vxa, vxb, vxc, vnd, vne, Nat.reduceAdd, Nat.reduceSub, Nat.reduceLeDiff, Nat.reduceLT, Int32.reduceLT, Int32.reduceLE, Int32.reduceAdd, Int32.reduceSub, Int32.reduceMul, Int32.reduceToNatClampNeg, not_false_eq_true, not_true_eq_false, false_implies, true_implies, Nat.zero_add, reduceIte, Nat.reduceMul, Nat.reduceEqDiff, nxa, nxc, lgn, nL_of, swx, Int.reduceAdd, gI_a, gI_k, gL_a, gL_k, gI_r, gL_r, nI_and, nI_or, nI_xor, nI_ndf, nI_shl, nI_shr, ne_eq, and_true, true_and, eq_self, true_or, or_true, false_or, or_false, Option.toList, List.cons_append, List.nil_append, List.length_nil, List.length_cons, Nat.not_lt_zero, kdx hs, grx hr]
  have F1 : Fr (fun c => c = 190 ∨ c = 197) σ (sI (sI (rI σ 197 R) 190 38 (nI 0)) 190 39 (nI 0)) := ((Fr.rI (by omega)).tr (Fr.sI (by omega))).tr (Fr.sI (by omega))
  have c192 : ∀ j, gI (sI (sI (rI σ 197 R) 190 38 (nI 0)) 190 39 (nI 0)) 191 j = gI σ 191 j := F1.2.2.1 191 (by omega)
  refine c_sumOf X _ _ 9 N (by exact hs) (by exact hr) ((c192 0).trans n0) hN10 (by omega) _ ?_
  simp only [c192]
  rw [es]
  simp (disch := first | decide | omega) only [mxa, vxa, vxb, vxc, vnd, vne, Nat.reduceAdd, Nat.reduceSub, Nat.reduceLeDiff, Nat.reduceLT, Int32.reduceLT, Int32.reduceLE, Int32.reduceAdd, Int32.reduceSub, Int32.reduceMul, Int32.reduceToNatClampNeg, not_false_eq_true, not_true_eq_false, false_implies, true_implies, Nat.zero_add, reduceIte, Nat.reduceMul, Nat.reduceEqDiff, nxa, nxc, lgn, nL_of, swx, Int.reduceAdd, gI_a, gI_k, gL_a, gL_k, gI_r, gL_r, nI_and, nI_or, nI_xor, nI_ndf, nI_shl, nI_shr, ne_eq, and_true, true_and, eq_self, true_or, or_true, false_or, or_false, Option.toList, List.cons_append, List.nil_append, List.length_nil, List.length_cons, Nat.not_lt_zero]
  refine wfor (fun k => ∀ τ : Mm, Fr (fun c => c = 190 ∨ c = 197) σ τ → gI τ 190 38 = nI (HR K (E0 V N) (zN V 0) (B0 V N) k (c / 3 ^ (n - k))) → gI τ 190 39 = nI (SR K (E0 V N) (zN V 0) (B0 V N) k (c / 3 ^ (n - k))) → (∀ j, j ≠ 38 → j ≠ 39 → gI τ 190 j = gI σ 190 j) → (∀ a, a < 5 → gI τ 197 a = nI (stR K (E0 V N) (zN V 0) (B0 V N) k (c / 3 ^ (n - k)) a)) → Wp X mX10_goesDays (rmo (d + 1) 0 0) (d + 1) Q 0 0 26 [some (.ref 190), some (.int (nI n)), some (.int (nI (FR k (c / 3 ^ (n - k))))), some (.int (nI (E0 V N))), some (.int (nI k))] [] τ) n (fun k hk hP τ hF h1 h2 h3 h4 => ?_) (fun τ hF h1 h2 h3 h4 => ?_) _ F1 ?_ ?_ (fun j q1 q2 => ?_) (fun a ha => ?_)
  · have hst : Sh τ := hF.1.trans hs
    have hrt : Rf τ := fun a k q1 q2 q3 q4 => (hF.gR a k).trans (hr a k q1 q2 q3 q4)
    have c2 : ∀ j, gI τ 191 j = gI σ 191 j := hF.2.2.1 191 (by omega)
    have fk : gI τ 208 k = nI (dg n c k) := (hF.2.2.1 208 (by omega) k).trans (hf k hk)
    have dl := dg_lt n c k
    obtain ⟨s1, s2⟩ := pf_step (n := n) (c := c) hk
    obtain ⟨t1, t2⟩ := stR_ok (e := E0 V N) hK1 hK5 z3 b1 b2 k (c / 3 ^ (n - k))
    obtain ⟨q1, q2, q3⟩ := dy_bd (e := E0 V N) hK1 hK5 z3 t1 (dg n c k) dl
    have hm : dg n c k * zN V 0 ≤ 2 * 60 := Nat.mul_le_mul (by omega) z3
    have hH : HR K (E0 V N) (zN V 0) (B0 V N) (k + 1) (c / 3 ^ (n - (k + 1))) = HR K (E0 V N) (zN V 0) (B0 V N) k (c / 3 ^ (n - k)) + (dyL K (E0 V N) (zN V 0) (stR K (E0 V N) (zN V 0) (B0 V N) k (c / 3 ^ (n - k))) (dg n c k)).2 := by
      show HR _ _ _ _ k (_ / 3) + (dyL _ _ _ (stR _ _ _ _ k (_ / 3)) (_ % 3)).2 = _
      rw [s1, s2]
    have hS : SR K (E0 V N) (zN V 0) (B0 V N) (k + 1) (c / 3 ^ (n - (k + 1))) = SR K (E0 V N) (zN V 0) (B0 V N) k (c / 3 ^ (n - k)) + (dyL K (E0 V N) (zN V 0) (stR K (E0 V N) (zN V 0) (B0 V N) k (c / 3 ^ (n - k))) (dg n c k)).1 (K - 1) := by
      show SR _ _ _ _ k (_ / 3) + (dyL _ _ _ (stR _ _ _ _ k (_ / 3)) (_ % 3)).1 (K - 1) = _
      rw [s1, s2]
    have hFR : FR (k + 1) (c / 3 ^ (n - (k + 1))) = FR k (c / 3 ^ (n - k)) + dg n c k := by
      show FR k (_ / 3) + _ % 3 = _
      rw [s1, s2]
    have hst' : stR K (E0 V N) (zN V 0) (B0 V N) (k + 1) (c / 3 ^ (n - (k + 1))) = ageF K (dyL K (E0 V N) (zN V 0) (stR K (E0 V N) (zN V 0) (B0 V N) k (c / 3 ^ (n - k))) (dg n c k)).1 := by
      show ageF K (dyL _ _ _ (stR _ _ _ _ k (_ / 3)) (_ % 3)).1 = _
      rw [s1, s2]
    refine wp_blk kX10_goesDays_26 ?_
    simp (disch := first | decide | omega) only [mxa, vxa, vxb, vxc, vnd, vne, Nat.reduceAdd, Nat.reduceSub, Nat.reduceLeDiff, Nat.reduceLT, Int32.reduceLT, Int32.reduceLE, Int32.reduceAdd, Int32.reduceSub, Int32.reduceMul, Int32.reduceToNatClampNeg, not_false_eq_true, not_true_eq_false, false_implies, true_implies, Nat.zero_add, reduceIte, Nat.reduceMul, Nat.reduceEqDiff, nxa, nxc, lgn, nL_of, swx, Int.reduceAdd, gI_a, gI_k, gL_a, gL_k, gI_r, gL_r, nI_and, nI_or, nI_xor, nI_ndf, nI_shl, nI_shr, ne_eq, and_true, true_and, eq_self, true_or, or_true, false_or, or_false, Option.toList, List.cons_append, List.nil_append, List.length_nil, List.length_cons, Nat.not_lt_zero, bX10_goesDays_26, kdx hst, grx hrt, c2, zz, fk, h4 0 (by omega), h1, show ¬ n ≤ k by omega]
    refine c_lacks X _ _ 197 0 K 5 (updN (stR K (E0 V N) (zN V 0) (B0 V N) k (c / 3 ^ (n - k))) 0 (stR K (E0 V N) (zN V 0) (B0 V N) k (c / 3 ^ (n - k)) 0 + dg n c k * zN V 0)) (E0 V N) (by exact hst) (by exact hrt) ((gI_a (by decide)).trans ((c2 3).trans kk)) hK1 hK5 (by simp only [mxa, kdx hst]) (by omega) (by omega) (fun j hj => ?_) (fun j hj => by have := q1 j hj; omega) (by omega) _ ?_
    · rw [Nat.zero_add]
      unfold updN
      by_cases j0 : j = 0
      · subst j0
        rw [gI_same, if_pos rfl]
      · rw [gI_k j0, if_neg j0]
        exact h4 j hj
    · simp (disch := first | decide | omega) only [mxa, vxa, vxb, vxc, vnd, vne, Nat.reduceAdd, Nat.reduceSub, Nat.reduceLeDiff, Nat.reduceLT, Int32.reduceLT, Int32.reduceLE, Int32.reduceAdd, Int32.reduceSub, Int32.reduceMul, Int32.reduceToNatClampNeg, not_false_eq_true, not_true_eq_false, false_implies, true_implies, Nat.zero_add, reduceIte, Nat.reduceMul, Nat.reduceEqDiff, nxa, nxc, lgn, nL_of, swx, Int.reduceAdd, gI_a, gI_k, gL_a, gL_k, gI_r, gL_r, nI_and, nI_or, nI_xor, nI_ndf, nI_shl, nI_shr, ne_eq, and_true, true_and, eq_self, true_or, or_true, false_or, or_false, Option.toList, List.cons_append, List.nil_append, List.length_nil, List.length_cons, Nat.not_lt_zero, kdx hst, grx hrt]
      refine c_ages X _ _ 197 0 K 5 (dyL K (E0 V N) (zN V 0) (stR K (E0 V N) (zN V 0) (B0 V N) k (c / 3 ^ (n - k))) (dg n c k)).1 (by exact hst) (by exact hrt) (by simp (disch := first | decide | omega) only [mxa, vxa, vxb, vxc, vnd, vne, Nat.reduceAdd, Nat.reduceSub, Nat.reduceLeDiff, Nat.reduceLT, Int32.reduceLT, Int32.reduceLE, Int32.reduceAdd, Int32.reduceSub, Int32.reduceMul, Int32.reduceToNatClampNeg, not_false_eq_true, not_true_eq_false, false_implies, true_implies, Nat.zero_add, reduceIte, Nat.reduceMul, Nat.reduceEqDiff, nxa, nxc, lgn, nL_of, swx, Int.reduceAdd, gI_a, gI_k, gL_a, gL_k, gI_r, gL_r, nI_and, nI_or, nI_xor, nI_ndf, nI_shl, nI_shr, ne_eq, and_true, true_and, eq_self, true_or, or_true, false_or, or_false, Option.toList, List.cons_append, List.nil_append, List.length_nil, List.length_cons, Nat.not_lt_zero]; exact (c2 3).trans kk) hK1 hK5 (by simp only [mxa, kdx hst]) (by omega) (by omega) (fun j hj => ?_) _ ?_
      · simp (disch := first | decide | omega) only [mxa, vxa, vxb, vxc, vnd, vne, Nat.reduceAdd, Nat.reduceSub, Nat.reduceLeDiff, Nat.reduceLT, Int32.reduceLT, Int32.reduceLE, Int32.reduceAdd, Int32.reduceSub, Int32.reduceMul, Int32.reduceToNatClampNeg, not_false_eq_true, not_true_eq_false, false_implies, true_implies, Nat.zero_add, reduceIte, Nat.reduceMul, Nat.reduceEqDiff, nxa, nxc, lgn, nL_of, swx, Int.reduceAdd, gI_a, gI_k, gL_a, gL_k, gI_r, gL_r, nI_and, nI_or, nI_xor, nI_ndf, nI_shl, nI_shr, ne_eq, and_true, true_and, eq_self, true_or, or_true, false_or, or_false, Option.toList, List.cons_append, List.nil_append, List.length_nil, List.length_cons, Nat.not_lt_zero]
        rw [rowB_0 hj]
        rfl
      · simp (disch := first | decide | omega) only [mxa, vxa, vxb, vxc, vnd, vne, Nat.reduceAdd, Nat.reduceSub, Nat.reduceLeDiff, Nat.reduceLT, Int32.reduceLT, Int32.reduceLE, Int32.reduceAdd, Int32.reduceSub, Int32.reduceMul, Int32.reduceToNatClampNeg, not_false_eq_true, not_true_eq_false, false_implies, true_implies, Nat.zero_add, reduceIte, Nat.reduceMul, Nat.reduceEqDiff, nxa, nxc, lgn, nL_of, swx, Int.reduceAdd, gI_a, gI_k, gL_a, gL_k, gI_r, gL_r, nI_and, nI_or, nI_xor, nI_ndf, nI_shl, nI_shr, ne_eq, and_true, true_and, eq_self, true_or, or_true, false_or, or_false, Option.toList, List.cons_append, List.nil_append, List.length_nil, List.length_cons, Nat.not_lt_zero, kdx hst, grx hrt, h2, fk]
        rw [hFR] at hP
        refine hP _ ?_ ?_ ?_ (fun j j1 j2 => ?_) (fun a ha => ?_)
        · exact hF.tr (((((Fr.sI (by omega)).tr (Fr.rI (by omega))).tr (Fr.sI (by omega))).tr (Fr.rI (by omega))).tr (Fr.sI (by omega)))
        · simp (disch := first | decide | omega) only [mxa, vxa, vxb, vxc, vnd, vne, Nat.reduceAdd, Nat.reduceSub, Nat.reduceLeDiff, Nat.reduceLT, Int32.reduceLT, Int32.reduceLE, Int32.reduceAdd, Int32.reduceSub, Int32.reduceMul, Int32.reduceToNatClampNeg, not_false_eq_true, not_true_eq_false, false_implies, true_implies, Nat.zero_add, reduceIte, Nat.reduceMul, Nat.reduceEqDiff, nxa, nxc, lgn, nL_of, swx, Int.reduceAdd, gI_a, gI_k, gL_a, gL_k, gI_r, gL_r, nI_and, nI_or, nI_xor, nI_ndf, nI_shl, nI_shr, ne_eq, and_true, true_and, eq_self, true_or, or_true, false_or, or_false, Option.toList, List.cons_append, List.nil_append, List.length_nil, List.length_cons, Nat.not_lt_zero]
          rw [hH]
          rfl
        · simp (disch := first | decide | omega) only [mxa, vxa, vxb, vxc, vnd, vne, Nat.reduceAdd, Nat.reduceSub, Nat.reduceLeDiff, Nat.reduceLT, Int32.reduceLT, Int32.reduceLE, Int32.reduceAdd, Int32.reduceSub, Int32.reduceMul, Int32.reduceToNatClampNeg, not_false_eq_true, not_true_eq_false, false_implies, true_implies, Nat.zero_add, reduceIte, Nat.reduceMul, Nat.reduceEqDiff, nxa, nxc, lgn, nL_of, swx, Int.reduceAdd, gI_a, gI_k, gL_a, gL_k, gI_r, gL_r, nI_and, nI_or, nI_xor, nI_ndf, nI_shl, nI_shr, ne_eq, and_true, true_and, eq_self, true_or, or_true, false_or, or_false, Option.toList, List.cons_append, List.nil_append, List.length_nil, List.length_cons, Nat.not_lt_zero]
          rw [hS]
        · simp (disch := first | decide | omega) only [mxa, vxa, vxb, vxc, vnd, vne, Nat.reduceAdd, Nat.reduceSub, Nat.reduceLeDiff, Nat.reduceLT, Int32.reduceLT, Int32.reduceLE, Int32.reduceAdd, Int32.reduceSub, Int32.reduceMul, Int32.reduceToNatClampNeg, not_false_eq_true, not_true_eq_false, false_implies, true_implies, Nat.zero_add, reduceIte, Nat.reduceMul, Nat.reduceEqDiff, nxa, nxc, lgn, nL_of, swx, Int.reduceAdd, gI_a, gI_k, gL_a, gL_k, gI_r, gL_r, nI_and, nI_or, nI_xor, nI_ndf, nI_shl, nI_shr, ne_eq, and_true, true_and, eq_self, true_or, or_true, false_or, or_false, Option.toList, List.cons_append, List.nil_append, List.length_nil, List.length_cons, Nat.not_lt_zero]
          exact h3 j j1 j2
        · simp (disch := first | decide | omega) only [mxa, vxa, vxb, vxc, vnd, vne, Nat.reduceAdd, Nat.reduceSub, Nat.reduceLeDiff, Nat.reduceLT, Int32.reduceLT, Int32.reduceLE, Int32.reduceAdd, Int32.reduceSub, Int32.reduceMul, Int32.reduceToNatClampNeg, not_false_eq_true, not_true_eq_false, false_implies, true_implies, Nat.zero_add, reduceIte, Nat.reduceMul, Nat.reduceEqDiff, nxa, nxc, lgn, nL_of, swx, Int.reduceAdd, gI_a, gI_k, gL_a, gL_k, gI_r, gL_r, nI_and, nI_or, nI_xor, nI_ndf, nI_shl, nI_shr, ne_eq, and_true, true_and, eq_self, true_or, or_true, false_or, or_false, Option.toList, List.cons_append, List.nil_append, List.length_nil, List.length_cons, Nat.not_lt_zero]
          rw [rowB_0 ha, hst']
  · rw [Nat.sub_self, Nat.pow_zero, Nat.div_one] at h1 h2 ⊢
    refine wp_blk kX10_goesDays_26 ?_
    simp (disch := first | decide | omega) only [mxa, vxa, vxb, vxc, vnd, vne, Nat.reduceAdd, Nat.reduceSub, Nat.reduceLeDiff, Nat.reduceLT, Int32.reduceLT, Int32.reduceLE, Int32.reduceAdd, Int32.reduceSub, Int32.reduceMul, Int32.reduceToNatClampNeg, not_false_eq_true, not_true_eq_false, false_implies, true_implies, Nat.zero_add, reduceIte, Nat.reduceMul, Nat.reduceEqDiff, nxa, nxc, lgn, nL_of, swx, Int.reduceAdd, gI_a, gI_k, gL_a, gL_k, gI_r, gL_r, nI_and, nI_or, nI_xor, nI_ndf, nI_shl, nI_shr, ne_eq, and_true, true_and, eq_self, true_or, or_true, false_or, or_false, Option.toList, List.cons_append, List.nil_append, List.length_nil, List.length_cons, Nat.not_lt_zero, bX10_goesDays_26, Nat.le_refl]
    refine wp_blk kX10_goesDays_109 ?_
    simp (disch := first | decide | omega) only [mxa, vxa, vxb, vxc, vnd, vne, Nat.reduceAdd, Nat.reduceSub, Nat.reduceLeDiff, Nat.reduceLT, Int32.reduceLT, Int32.reduceLE, Int32.reduceAdd, Int32.reduceSub, Int32.reduceMul, Int32.reduceToNatClampNeg, not_false_eq_true, not_true_eq_false, false_implies, true_implies, Nat.zero_add, reduceIte, Nat.reduceMul, Nat.reduceEqDiff, nxa, nxc, lgn, nL_of, swx, Int.reduceAdd, gI_a, gI_k, gL_a, gL_k, gI_r, gL_r, nI_and, nI_or, nI_xor, nI_ndf, nI_shl, nI_shr, ne_eq, and_true, true_and, eq_self, true_or, or_true, false_or, or_false, Option.toList, List.cons_append, List.nil_append, List.length_nil, List.length_cons, Nat.not_lt_zero, bX10_goesDays_109]
    exact hQ τ hF h1 h2 h3
  · simp (disch := first | decide | omega) only [mxa, vxa, vxb, vxc, vnd, vne, Nat.reduceAdd, Nat.reduceSub, Nat.reduceLeDiff, Nat.reduceLT, Int32.reduceLT, Int32.reduceLE, Int32.reduceAdd, Int32.reduceSub, Int32.reduceMul, Int32.reduceToNatClampNeg, not_false_eq_true, not_true_eq_false, false_implies, true_implies, Nat.zero_add, reduceIte, Nat.reduceMul, Nat.reduceEqDiff, nxa, nxc, lgn, nL_of, swx, Int.reduceAdd, gI_a, gI_k, gL_a, gL_k, gI_r, gL_r, nI_and, nI_or, nI_xor, nI_ndf, nI_shl, nI_shr, ne_eq, and_true, true_and, eq_self, true_or, or_true, false_or, or_false, Option.toList, List.cons_append, List.nil_append, List.length_nil, List.length_cons, Nat.not_lt_zero]
    rfl
  · simp (disch := first | decide | omega) only [mxa, vxa, vxb, vxc, vnd, vne, Nat.reduceAdd, Nat.reduceSub, Nat.reduceLeDiff, Nat.reduceLT, Int32.reduceLT, Int32.reduceLE, Int32.reduceAdd, Int32.reduceSub, Int32.reduceMul, Int32.reduceToNatClampNeg, not_false_eq_true, not_true_eq_false, false_implies, true_implies, Nat.zero_add, reduceIte, Nat.reduceMul, Nat.reduceEqDiff, nxa, nxc, lgn, nL_of, swx, Int.reduceAdd, gI_a, gI_k, gL_a, gL_k, gI_r, gL_r, nI_and, nI_or, nI_xor, nI_ndf, nI_shl, nI_shr, ne_eq, and_true, true_and, eq_self, true_or, or_true, false_or, or_false, Option.toList, List.cons_append, List.nil_append, List.length_nil, List.length_cons, Nat.not_lt_zero]
    rfl
  · simp (disch := first | decide | omega) only [mxa, vxa, vxb, vxc, vnd, vne, Nat.reduceAdd, Nat.reduceSub, Nat.reduceLeDiff, Nat.reduceLT, Int32.reduceLT, Int32.reduceLE, Int32.reduceAdd, Int32.reduceSub, Int32.reduceMul, Int32.reduceToNatClampNeg, not_false_eq_true, not_true_eq_false, false_implies, true_implies, Nat.zero_add, reduceIte, Nat.reduceMul, Nat.reduceEqDiff, nxa, nxc, lgn, nL_of, swx, Int.reduceAdd, gI_a, gI_k, gL_a, gL_k, gI_r, gL_r, nI_and, nI_or, nI_xor, nI_ndf, nI_shl, nI_shr, ne_eq, and_true, true_and, eq_self, true_or, or_true, false_or, or_false, Option.toList, List.cons_append, List.nil_append, List.length_nil, List.length_cons, Nat.not_lt_zero]
  · simp (disch := first | decide | omega) only [mxa, vxa, vxb, vxc, vnd, vne, Nat.reduceAdd, Nat.reduceSub, Nat.reduceLeDiff, Nat.reduceLT, Int32.reduceLT, Int32.reduceLE, Int32.reduceAdd, Int32.reduceSub, Int32.reduceMul, Int32.reduceToNatClampNeg, not_false_eq_true, not_true_eq_false, false_implies, true_implies, Nat.zero_add, reduceIte, Nat.reduceMul, Nat.reduceEqDiff, nxa, nxc, lgn, nL_of, swx, Int.reduceAdd, gI_a, gI_k, gL_a, gL_k, gI_r, gL_r, nI_and, nI_or, nI_xor, nI_ndf, nI_shl, nI_shr, ne_eq, and_true, true_and, eq_self, true_or, or_true, false_or, or_false, Option.toList, List.cons_append, List.nil_append, List.length_nil, List.length_cons, Nat.not_lt_zero]
    exact hR a ha
