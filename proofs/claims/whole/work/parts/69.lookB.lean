/-! days ahead: gathering, looking -/
set_option maxRecDepth 20000
def B0 (V : Nat → Int32) (N : Nat) (a : Nat) : Nat := sumN (fun f => brN V f a) N
def E0 (V : Nat → Int32) (N : Nat) : Nat := sumN (etN V) N
theorem B0_ok {V : Nat → Int32} {t N O K : Nat} (hG : Gd V t N O K) (ht : t ≤ 512) : (∀ a, a < 5 → B0 V N a ≤ 13000000) ∧ (∀ a, K ≤ a → a < 5 → B0 V N a = 0) ∧ E0 V N ≤ 300 := by
  have hN := hG.1.2
  refine ⟨fun a ha => ?_, fun a h1 h2 => ?_, ?_⟩
  · have : B0 V N a ≤ (99 + 2400 * t) * N := sumN_le (fun f hf => (brN_ok hG (by omega) hf a ha).2.1)
    have : (99 + 2400 * t) * N ≤ (99 + 2400 * 512) * 10 := Nat.mul_le_mul (by omega) hN
    omega
  · have : B0 V N a ≤ 0 * N := sumN_le (fun f hf => Nat.le_of_eq ((brN_ok hG (by omega) hf a h2).2.2 h1))
    omega
  · have : E0 V N ≤ 30 * N := sumN_le (fun f hf => (etN_ok hG hf).2)
    omega
theorem c_gatherO (X : Cx) (d : Nat) (σ : Mm) (V : Nat → Int32) (t N O K : Nat) (hs : St σ) (hG : Gd V t N O K) (ht : t ≤ 512) (hV : VR σ 1 V N O) (Q : Po) (hQ : ∀ σ' : Mm, Fr (fun c => c = 166 ∨ c = 167) σ σ' → mB σ' (E0 V N) (B0 V N) 166 → Q none σ') : Call X (d + 1) 0 0 mX4_gather [.ref 162, .ref 1] σ Q := by
  have hN10 := hG.1.2
  have hst := hs.1
  have hrt := hs.2.1
  have e0 : gI σ 1 0 = nI N := hV.1.1.trans hG.1.1
  obtain ⟨m1, m2, m3, m4, m5, m6⟩ := mor hst hrt (show 0 < 8 by omega)
  have m1' : gR σ 165 0 = some 166 := m1
  have m2' : kd σ 166 = some (0, 2) := m2
  have m3' : kd σ 167 = some (1, 5) := m3
  have m5' : gR σ 166 7 = some 167 := m5
  refine call_of eX4_gather rfl ?_
  refine wp_blk kX4_gather_0 ?_
  simp (disch := first | decide | omega) only [mxa, vxa, vxb, vxc, vnd, vne, Nat.reduceAdd, Nat.reduceSub, Nat.reduceLeDiff, Nat.reduceLT, Int32.reduceLT, Int32.reduceLE, Int32.reduceAdd, Int32.reduceSub, Int32.reduceMul, Int32.reduceToNatClampNeg, not_false_eq_true, not_true_eq_false, false_implies, true_implies, Nat.zero_add, reduceIte, Nat.reduceMul, Nat.reduceEqDiff, nxa, nxc, lgn, nL_of, swx, Int.reduceAdd, gI_a, gI_k, gL_a, gL_k, gI_r, gL_r, nI_and, nI_or, nI_xor, nI_ndf, nI_shl, nI_shr, ne_eq, and_true, true_and, eq_self, true_or, or_true, false_or, or_false, Option.toList, List.cons_append, List.nil_append, List.length_nil, List.length_cons, Nat.not_lt_zero, bX4_gather_0, kdx hst, grx hrt, m1', m2', m5']
  refine c_fillI X _ _ 167 5 _ (by simp only [mxa, m3']) (by omega) _ ?_
  simp (disch := first | decide | omega) only [mxa, vxa, vxb, vxc, vnd, vne, Nat.reduceAdd, Nat.reduceSub, Nat.reduceLeDiff, Nat.reduceLT, Int32.reduceLT, Int32.reduceLE, Int32.reduceAdd, Int32.reduceSub, Int32.reduceMul, Int32.reduceToNatClampNeg, not_false_eq_true, not_true_eq_false, false_implies, true_implies, Nat.zero_add, reduceIte, Nat.reduceMul, Nat.reduceEqDiff, nxa, nxc, lgn, nL_of, swx, Int.reduceAdd, gI_a, gI_k, gL_a, gL_k, gI_r, gL_r, nI_and, nI_or, nI_xor, nI_ndf, nI_shl, nI_shr, ne_eq, and_true, true_and, eq_self, true_or, or_true, false_or, or_false, Option.toList, List.cons_append, List.nil_append, List.length_nil, List.length_cons, Nat.not_lt_zero]
  refine wfor (fun f => ∀ τ : Mm, Fr (fun c => c = 166 ∨ c = 167) σ τ → gI τ 166 0 = nI (sumN (etN V) f) → (∀ a, a < 5 → gI τ 167 a = nI (sumN (fun f => brN V f a) f)) → Wp X mX4_gather (rmo (d + 1) 0 0) (d + 1) Q 0 0 22 [some (.ref 162), some (.ref 1), some (.ref 166), some (.int (nI f)), none] [] τ) N (fun f hf hP τ hF h1 h2 => ?_) (fun τ hF h1 h2 => ?_) _ ((Fr.sI (by omega)).tr (Fr.rI (by omega))) ?_ (fun a ha => ?_)
  · have hsτ := hF.St hs
    have hst' := hsτ.1
    have hrt' := hsτ.2.1
    have nI' : ∀ c, c < 166 → ∀ j, gI τ c j = gI σ c j := fun c hc => hF.2.2.1 c (by omega)
    have hVk := hV.keep hN10 hs (Or.inl rfl) hF.gR (fun a q1 q2 => nI' a (by omega))
    obtain ⟨a1, a2, p, hp, ep⟩ := fa_ok hst' hrt' (Or.inl rfl) (hsτ.2.2 1 (Or.inl rfl)) (show f < 10 by omega)
    have a1' : gR τ 2 f = some (fa τ 1 f) := a1
    have e0' : gI τ 1 0 = nI N := (nI' 1 (by omega) 0).trans e0
    have k2 : kd τ 166 = some (0, 2) := (hF.kd _).trans m2'
    have k3 : kd τ 167 = some (1, 5) := (hF.kd _).trans m3'
    have k5 : gR τ 166 7 = some 167 := (hF.gR _ _).trans m5'
    have f0 : gI τ (fa τ 1 f) 0 = nI (etN V f) := ((hVk.2.2 f hf).1 0 (by omega)).trans (etN_ok hG hf).1
    have fb : ∀ a, a < 5 → gI τ (fa τ 1 f + 1) a = nI (brN V f a) := fun a ha => ((hVk.2.2 f hf).2.2.1 a ha).trans (brN_ok hG (by omega) hf a ha).1
    refine wp_blk kX4_gather_22 ?_
    simp (disch := first | decide | omega) only [mxa, vxa, vxb, vxc, vnd, vne, Nat.reduceAdd, Nat.reduceSub, Nat.reduceLeDiff, Nat.reduceLT, Int32.reduceLT, Int32.reduceLE, Int32.reduceAdd, Int32.reduceSub, Int32.reduceMul, Int32.reduceToNatClampNeg, not_false_eq_true, not_true_eq_false, false_implies, true_implies, Nat.zero_add, reduceIte, Nat.reduceMul, Nat.reduceEqDiff, nxa, nxc, lgn, nL_of, swx, Int.reduceAdd, gI_a, gI_k, gL_a, gL_k, gI_r, gL_r, nI_and, nI_or, nI_xor, nI_ndf, nI_shl, nI_shr, ne_eq, and_true, true_and, eq_self, true_or, or_true, false_or, or_false, Option.toList, List.cons_append, List.nil_append, List.length_nil, List.length_cons, Nat.not_lt_zero, bX4_gather_22, kdx hst', grx hrt', e0', a1', a2.1, k2, h1, f0, show ¬ N ≤ f by omega]
    refine wfor (fun a => ∀ τ' : Mm, Fr (fun c => c = 166 ∨ c = 167) τ τ' → gI τ' 166 0 = nI (sumN (etN V) (f + 1)) → (∀ j, j < a → gI τ' 167 j = nI (sumN (fun f => brN V f j) (f + 1))) → (∀ j, a ≤ j → j < 5 → gI τ' 167 j = nI (sumN (fun f => brN V f j) f)) → Wp X mX4_gather (rmo (d + 1) 0 0) (d + 1) Q 0 0 51 [some (.ref 162), some (.ref 1), some (.ref 166), some (.int (nI f)), some (.int (nI a))] [] τ') 5 (fun a ha hP2 τ' hF' g1 g2 g3 => ?_) (fun τ' hF' g1 g2 g3 => ?_) _ (Fr.sI (by omega)) ?_ (fun j hj => absurd hj (by omega)) (fun j _ hj => ?_)
    · have hst2 : Sh τ' := hF'.1.trans hst'
      have hrt2 : Rf τ' := fun a k q1 q2 q3 q4 => (hF'.gR a k).trans (hrt' a k q1 q2 q3 q4)
      have fb' : gI τ' (fa τ 1 f + 1) a = nI (brN V f a) := (hF'.2.2.1 _ (by omega) a).trans (fb a ha)
      refine wp_blk kX4_gather_51 ?_
      simp (disch := first | decide | omega) only [mxa, vxa, vxb, vxc, vnd, vne, Nat.reduceAdd, Nat.reduceSub, Nat.reduceLeDiff, Nat.reduceLT, Int32.reduceLT, Int32.reduceLE, Int32.reduceAdd, Int32.reduceSub, Int32.reduceMul, Int32.reduceToNatClampNeg, not_false_eq_true, not_true_eq_false, false_implies, true_implies, Nat.zero_add, reduceIte, Nat.reduceMul, Nat.reduceEqDiff, nxa, nxc, lgn, nL_of, swx, Int.reduceAdd, gI_a, gI_k, gL_a, gL_k, gI_r, gL_r, nI_and, nI_or, nI_xor, nI_ndf, nI_shl, nI_shr, ne_eq, and_true, true_and, eq_self, true_or, or_true, false_or, or_false, Option.toList, List.cons_append, List.nil_append, List.length_nil, List.length_cons, Nat.not_lt_zero, bX4_gather_51, hF'.kd, hF'.gR, kdx hst', grx hrt', a1', a2.1, a2.2.1, a2.2.2.2.1, k2, k3, k5, g3 a (Nat.le_refl _) ha, fb', show ¬ 5 ≤ a by omega]
      refine hP2 _ (hF'.tr (Fr.sI (a := 167) (by omega))) ?_ (fun j hj => ?_) (fun j hj hj5 => ?_)
      · simp (disch := first | decide | omega) only [mxa, vxa, vxb, vxc, vnd, vne, Nat.reduceAdd, Nat.reduceSub, Nat.reduceLeDiff, Nat.reduceLT, Int32.reduceLT, Int32.reduceLE, Int32.reduceAdd, Int32.reduceSub, Int32.reduceMul, Int32.reduceToNatClampNeg, not_false_eq_true, not_true_eq_false, false_implies, true_implies, Nat.zero_add, reduceIte, Nat.reduceMul, Nat.reduceEqDiff, nxa, nxc, lgn, nL_of, swx, Int.reduceAdd, gI_a, gI_k, gL_a, gL_k, gI_r, gL_r, nI_and, nI_or, nI_xor, nI_ndf, nI_shl, nI_shr, ne_eq, and_true, true_and, eq_self, true_or, or_true, false_or, or_false, Option.toList, List.cons_append, List.nil_append, List.length_nil, List.length_cons, Nat.not_lt_zero]; exact g1
      · by_cases e : j = a
        · subst e
          simp (disch := first | decide | omega) only [mxa, vxa, vxb, vxc, vnd, vne, Nat.reduceAdd, Nat.reduceSub, Nat.reduceLeDiff, Nat.reduceLT, Int32.reduceLT, Int32.reduceLE, Int32.reduceAdd, Int32.reduceSub, Int32.reduceMul, Int32.reduceToNatClampNeg, not_false_eq_true, not_true_eq_false, false_implies, true_implies, Nat.zero_add, reduceIte, Nat.reduceMul, Nat.reduceEqDiff, nxa, nxc, lgn, nL_of, swx, Int.reduceAdd, gI_a, gI_k, gL_a, gL_k, gI_r, gL_r, nI_and, nI_or, nI_xor, nI_ndf, nI_shl, nI_shr, ne_eq, and_true, true_and, eq_self, true_or, or_true, false_or, or_false, Option.toList, List.cons_append, List.nil_append, List.length_nil, List.length_cons, Nat.not_lt_zero]
          rfl
        · simp (disch := first | decide | omega) only [mxa, vxa, vxb, vxc, vnd, vne, Nat.reduceAdd, Nat.reduceSub, Nat.reduceLeDiff, Nat.reduceLT, Int32.reduceLT, Int32.reduceLE, Int32.reduceAdd, Int32.reduceSub, Int32.reduceMul, Int32.reduceToNatClampNeg, not_false_eq_true, not_true_eq_false, false_implies, true_implies, Nat.zero_add, reduceIte, Nat.reduceMul, Nat.reduceEqDiff, nxa, nxc, lgn, nL_of, swx, Int.reduceAdd, gI_a, gI_k, gL_a, gL_k, gI_r, gL_r, nI_and, nI_or, nI_xor, nI_ndf, nI_shl, nI_shr, ne_eq, and_true, true_and, eq_self, true_or, or_true, false_or, or_false, Option.toList, List.cons_append, List.nil_append, List.length_nil, List.length_cons, Nat.not_lt_zero]; exact g2 j (by omega)
      · simp (disch := first | decide | omega) only [mxa, vxa, vxb, vxc, vnd, vne, Nat.reduceAdd, Nat.reduceSub, Nat.reduceLeDiff, Nat.reduceLT, Int32.reduceLT, Int32.reduceLE, Int32.reduceAdd, Int32.reduceSub, Int32.reduceMul, Int32.reduceToNatClampNeg, not_false_eq_true, not_true_eq_false, false_implies, true_implies, Nat.zero_add, reduceIte, Nat.reduceMul, Nat.reduceEqDiff, nxa, nxc, lgn, nL_of, swx, Int.reduceAdd, gI_a, gI_k, gL_a, gL_k, gI_r, gL_r, nI_and, nI_or, nI_xor, nI_ndf, nI_shl, nI_shr, ne_eq, and_true, true_and, eq_self, true_or, or_true, false_or, or_false, Option.toList, List.cons_append, List.nil_append, List.length_nil, List.length_cons, Nat.not_lt_zero]; exact g3 j (by omega) hj5
    · refine wp_blk kX4_gather_51 ?_
      simp (disch := first | decide | omega) only [mxa, vxa, vxb, vxc, vnd, vne, Nat.reduceAdd, Nat.reduceSub, Nat.reduceLeDiff, Nat.reduceLT, Int32.reduceLT, Int32.reduceLE, Int32.reduceAdd, Int32.reduceSub, Int32.reduceMul, Int32.reduceToNatClampNeg, not_false_eq_true, not_true_eq_false, false_implies, true_implies, Nat.zero_add, reduceIte, Nat.reduceMul, Nat.reduceEqDiff, nxa, nxc, lgn, nL_of, swx, Int.reduceAdd, gI_a, gI_k, gL_a, gL_k, gI_r, gL_r, nI_and, nI_or, nI_xor, nI_ndf, nI_shl, nI_shr, ne_eq, and_true, true_and, eq_self, true_or, or_true, false_or, or_false, Option.toList, List.cons_append, List.nil_append, List.length_nil, List.length_cons, Nat.not_lt_zero, bX4_gather_51]
      refine wp_blk kX4_gather_85 ?_
      simp (disch := first | decide | omega) only [mxa, vxa, vxb, vxc, vnd, vne, Nat.reduceAdd, Nat.reduceSub, Nat.reduceLeDiff, Nat.reduceLT, Int32.reduceLT, Int32.reduceLE, Int32.reduceAdd, Int32.reduceSub, Int32.reduceMul, Int32.reduceToNatClampNeg, not_false_eq_true, not_true_eq_false, false_implies, true_implies, Nat.zero_add, reduceIte, Nat.reduceMul, Nat.reduceEqDiff, nxa, nxc, lgn, nL_of, swx, Int.reduceAdd, gI_a, gI_k, gL_a, gL_k, gI_r, gL_r, nI_and, nI_or, nI_xor, nI_ndf, nI_shl, nI_shr, ne_eq, and_true, true_and, eq_self, true_or, or_true, false_or, or_false, Option.toList, List.cons_append, List.nil_append, List.length_nil, List.length_cons, Nat.not_lt_zero, bX4_gather_85]
      refine Wp.fog 4 ?_
      exact hP τ' (hF.tr hF') g1 (fun a ha => g2 a ha)
    · simp (disch := first | decide | omega) only [mxa, vxa, vxb, vxc, vnd, vne, Nat.reduceAdd, Nat.reduceSub, Nat.reduceLeDiff, Nat.reduceLT, Int32.reduceLT, Int32.reduceLE, Int32.reduceAdd, Int32.reduceSub, Int32.reduceMul, Int32.reduceToNatClampNeg, not_false_eq_true, not_true_eq_false, false_implies, true_implies, Nat.zero_add, reduceIte, Nat.reduceMul, Nat.reduceEqDiff, nxa, nxc, lgn, nL_of, swx, Int.reduceAdd, gI_a, gI_k, gL_a, gL_k, gI_r, gL_r, nI_and, nI_or, nI_xor, nI_ndf, nI_shl, nI_shr, ne_eq, and_true, true_and, eq_self, true_or, or_true, false_or, or_false, Option.toList, List.cons_append, List.nil_append, List.length_nil, List.length_cons, Nat.not_lt_zero]
      rfl
    · simp (disch := first | decide | omega) only [mxa, vxa, vxb, vxc, vnd, vne, Nat.reduceAdd, Nat.reduceSub, Nat.reduceLeDiff, Nat.reduceLT, Int32.reduceLT, Int32.reduceLE, Int32.reduceAdd, Int32.reduceSub, Int32.reduceMul, Int32.reduceToNatClampNeg, not_false_eq_true, not_true_eq_false, false_implies, true_implies, Nat.zero_add, reduceIte, Nat.reduceMul, Nat.reduceEqDiff, nxa, nxc, lgn, nL_of, swx, Int.reduceAdd, gI_a, gI_k, gL_a, gL_k, gI_r, gL_r, nI_and, nI_or, nI_xor, nI_ndf, nI_shl, nI_shr, ne_eq, and_true, true_and, eq_self, true_or, or_true, false_or, or_false, Option.toList, List.cons_append, List.nil_append, List.length_nil, List.length_cons, Nat.not_lt_zero]; exact h2 j hj
  · have hst' := (hF.St hs).1
    have e0' : gI τ 1 0 = nI N := (hF.2.2.1 1 (by omega) 0).trans e0
    refine wp_blk kX4_gather_22 ?_
    simp (disch := first | decide | omega) only [mxa, vxa, vxb, vxc, vnd, vne, Nat.reduceAdd, Nat.reduceSub, Nat.reduceLeDiff, Nat.reduceLT, Int32.reduceLT, Int32.reduceLE, Int32.reduceAdd, Int32.reduceSub, Int32.reduceMul, Int32.reduceToNatClampNeg, not_false_eq_true, not_true_eq_false, false_implies, true_implies, Nat.zero_add, reduceIte, Nat.reduceMul, Nat.reduceEqDiff, nxa, nxc, lgn, nL_of, swx, Int.reduceAdd, gI_a, gI_k, gL_a, gL_k, gI_r, gL_r, nI_and, nI_or, nI_xor, nI_ndf, nI_shl, nI_shr, ne_eq, and_true, true_and, eq_self, true_or, or_true, false_or, or_false, Option.toList, List.cons_append, List.nil_append, List.length_nil, List.length_cons, Nat.not_lt_zero, bX4_gather_22, kdx hst', e0', Nat.le_refl]
    refine wp_blk kX4_gather_91 ?_
    simp (disch := first | decide | omega) only [mxa, vxa, vxb, vxc, vnd, vne, Nat.reduceAdd, Nat.reduceSub, Nat.reduceLeDiff, Nat.reduceLT, Int32.reduceLT, Int32.reduceLE, Int32.reduceAdd, Int32.reduceSub, Int32.reduceMul, Int32.reduceToNatClampNeg, not_false_eq_true, not_true_eq_false, false_implies, true_implies, Nat.zero_add, reduceIte, Nat.reduceMul, Nat.reduceEqDiff, nxa, nxc, lgn, nL_of, swx, Int.reduceAdd, gI_a, gI_k, gL_a, gL_k, gI_r, gL_r, nI_and, nI_or, nI_xor, nI_ndf, nI_shl, nI_shr, ne_eq, and_true, true_and, eq_self, true_or, or_true, false_or, or_false, Option.toList, List.cons_append, List.nil_append, List.length_nil, List.length_cons, Nat.not_lt_zero, bX4_gather_91]
    exact hQ τ hF ⟨h1, h2⟩
  · simp (disch := first | decide | omega) only [mxa, vxa, vxb, vxc, vnd, vne, Nat.reduceAdd, Nat.reduceSub, Nat.reduceLeDiff, Nat.reduceLT, Int32.reduceLT, Int32.reduceLE, Int32.reduceAdd, Int32.reduceSub, Int32.reduceMul, Int32.reduceToNatClampNeg, not_false_eq_true, not_true_eq_false, false_implies, true_implies, Nat.zero_add, reduceIte, Nat.reduceMul, Nat.reduceEqDiff, nxa, nxc, lgn, nL_of, swx, Int.reduceAdd, gI_a, gI_k, gL_a, gL_k, gI_r, gL_r, nI_and, nI_or, nI_xor, nI_ndf, nI_shl, nI_shr, ne_eq, and_true, true_and, eq_self, true_or, or_true, false_or, or_false, Option.toList, List.cons_append, List.nil_append, List.length_nil, List.length_cons, Nat.not_lt_zero]
    rfl
  · simp (disch := first | decide | omega) only [mxa, vxa, vxb, vxc, vnd, vne, Nat.reduceAdd, Nat.reduceSub, Nat.reduceLeDiff, Nat.reduceLT, Int32.reduceLT, Int32.reduceLE, Int32.reduceAdd, Int32.reduceSub, Int32.reduceMul, Int32.reduceToNatClampNeg, not_false_eq_true, not_true_eq_false, false_implies, true_implies, Nat.zero_add, reduceIte, Nat.reduceMul, Nat.reduceEqDiff, nxa, nxc, lgn, nL_of, swx, Int.reduceAdd, gI_a, gI_k, gL_a, gL_k, gI_r, gL_r, nI_and, nI_or, nI_xor, nI_ndf, nI_shl, nI_shr, ne_eq, and_true, true_and, eq_self, true_or, or_true, false_or, or_false, Option.toList, List.cons_append, List.nil_append, List.length_nil, List.length_cons, Nat.not_lt_zero]
    rw [if_pos ha]
    rfl
theorem c_look (X : Cx) (d : Nat) (σ : Mm) (V : Nat → Int32) (t N O K n b : Nat) (hs : St σ) (hG : Gd V t N O K) (ht : t ≤ 512) (hV : VR σ 1 V N O) (hO : 0 < O) (hn : n ≤ 7) (hb : b ≤ 1) (Q : Po) (hQ : ∀ σ' : Mm, Fr (fun c => 162 ≤ c ∧ c ≤ 189) σ σ' → SF n b K (E0 V N) (zN V 0) (B0 V N) 0 0 (3 ^ n) σ' → Q none σ') : Call X (d + n + 4) 0 0 mX4_look [.ref 162, .ref 1, .int (nI n), .int (nI b)] σ Q := by
  have hN10 := hG.1.2
  have hst := hs.1
  have hrt := hs.2.1
  obtain ⟨z1, z2, z3⟩ := zN_ok hG hO
  have zz : gI σ 3 0 = nI (zN V 0) := (hV.2.1 0 hO).trans z1
  have k2 : gI σ 1 2 = nI K := hV.1.2.2.2.1.trans hG.2.2.1.1
  have hK1 := hG.2.2.1.2.1
  have hK5 := hG.2.2.1.2.2
  obtain ⟨b1, b2, b3⟩ := B0_ok hG ht
  refine call_of eX4_look rfl ?_
  refine wp_blk kX4_look_0 ?_
  simp (disch := first | decide | omega) only [mxa, vxa, vxb, vxc, vnd, vne, Nat.reduceAdd, Nat.reduceSub, Nat.reduceLeDiff, Nat.reduceLT, Int32.reduceLT, Int32.reduceLE, Int32.reduceAdd, Int32.reduceSub, Int32.reduceMul, Int32.reduceToNatClampNeg, not_false_eq_true, not_true_eq_false, false_implies, true_implies, Nat.zero_add, reduceIte, Nat.reduceMul, Nat.reduceEqDiff, nxa, nxc, lgn, nL_of, swx, Int.reduceAdd, gI_a, gI_k, gL_a, gL_k, gI_r, gL_r, nI_and, nI_or, nI_xor, nI_ndf, nI_shl, nI_shr, ne_eq, and_true, true_and, eq_self, true_or, or_true, false_or, or_false, Option.toList, List.cons_append, List.nil_append, List.length_nil, List.length_cons, Nat.not_lt_zero, bX4_look_0, kdx hst, grx hrt, zz, k2, imn_n, imx_n, show max 0 (min n 7) = n by omega]
  refine ⟨?_, ?_⟩
  · rcases (by omega : b = 0 ∨ b = 1) with rfl | rfl
    · exact Or.inl rfl
    · exact Or.inr rfl
  have F1 : Fr (fun c => 162 ≤ c ∧ c ≤ 189) σ (sL (sI (sI (sI (sI σ 162 3 (nI n)) 162 4 (nI K)) 162 5 (nI (zN V 0))) 162 6 (nI b)) 162 7 (nL 4611686018427387904)) := ((((Fr.sI (by omega)).tr (Fr.sI (by omega))).tr (Fr.sI (by omega))).tr (Fr.sI (by omega))).tr (Fr.sL (by omega))
  have V1 := hV.keep hN10 hs (Or.inl rfl) F1.gR (fun a q1 q2 => F1.2.2.1 a (by omega))
  refine c_gatherO X _ _ V t N O K (F1.St hs) hG ht V1 _ (fun σ2 F2 M2 => ?_)
  have F3 := F1.tr (F2.mono (fun c q => by omega))
  have s3 := F3.St hs
  have c163 : ∀ j, gI σ2 162 j = gI (sL (sI (sI (sI (sI σ 162 3 (nI n)) 162 4 (nI K)) 162 5 (nI (zN V 0))) 162 6 (nI b)) 162 7 (nL 4611686018427387904)) 162 j := F2.2.2.1 162 (by omega)
  have c163L : ∀ j, gL σ2 162 j = gL (sL (sI (sI (sI (sI σ 162 3 (nI n)) 162 4 (nI K)) 162 5 (nI (zN V 0))) 162 6 (nI b)) 162 7 (nL 4611686018427387904)) 162 j := F2.2.2.2 162 (by omega)
  simp (disch := first | decide | omega) only [mxa, vxa, vxb, vxc, vnd, vne, Nat.reduceAdd, Nat.reduceSub, Nat.reduceLeDiff, Nat.reduceLT, Int32.reduceLT, Int32.reduceLE, Int32.reduceAdd, Int32.reduceSub, Int32.reduceMul, Int32.reduceToNatClampNeg, not_false_eq_true, not_true_eq_false, false_implies, true_implies, Nat.zero_add, reduceIte, Nat.reduceMul, Nat.reduceEqDiff, nxa, nxc, lgn, nL_of, swx, Int.reduceAdd, gI_a, gI_k, gL_a, gL_k, gI_r, gL_r, nI_and, nI_or, nI_xor, nI_ndf, nI_shl, nI_shr, ne_eq, and_true, true_and, eq_self, true_or, or_true, false_or, or_false, Option.toList, List.cons_append, List.nil_append, List.length_nil, List.length_cons, Nat.not_lt_zero, kdx s3.1]
  have sf : SF n b K (E0 V N) (zN V 0) (B0 V N) 0 0 (0 * 3 ^ n) σ2 := by
    refine ⟨⟨?_, ?_, ?_, ?_⟩, ?_, fun q => by rw [Nat.zero_mul] at q; omega, fun j hj => absurd hj (by omega), fun j hj => ?_⟩
    · rw [c163]; simp (disch := first | decide | omega) only [mxa, vxa, vxb, vxc, vnd, vne, Nat.reduceAdd, Nat.reduceSub, Nat.reduceLeDiff, Nat.reduceLT, Int32.reduceLT, Int32.reduceLE, Int32.reduceAdd, Int32.reduceSub, Int32.reduceMul, Int32.reduceToNatClampNeg, not_false_eq_true, not_true_eq_false, false_implies, true_implies, Nat.zero_add, reduceIte, Nat.reduceMul, Nat.reduceEqDiff, nxa, nxc, lgn, nL_of, swx, Int.reduceAdd, gI_a, gI_k, gL_a, gL_k, gI_r, gL_r, nI_and, nI_or, nI_xor, nI_ndf, nI_shl, nI_shr, ne_eq, and_true, true_and, eq_self, true_or, or_true, false_or, or_false, Option.toList, List.cons_append, List.nil_append, List.length_nil, List.length_cons, Nat.not_lt_zero]
    · rw [c163]; simp (disch := first | decide | omega) only [mxa, vxa, vxb, vxc, vnd, vne, Nat.reduceAdd, Nat.reduceSub, Nat.reduceLeDiff, Nat.reduceLT, Int32.reduceLT, Int32.reduceLE, Int32.reduceAdd, Int32.reduceSub, Int32.reduceMul, Int32.reduceToNatClampNeg, not_false_eq_true, not_true_eq_false, false_implies, true_implies, Nat.zero_add, reduceIte, Nat.reduceMul, Nat.reduceEqDiff, nxa, nxc, lgn, nL_of, swx, Int.reduceAdd, gI_a, gI_k, gL_a, gL_k, gI_r, gL_r, nI_and, nI_or, nI_xor, nI_ndf, nI_shl, nI_shr, ne_eq, and_true, true_and, eq_self, true_or, or_true, false_or, or_false, Option.toList, List.cons_append, List.nil_append, List.length_nil, List.length_cons, Nat.not_lt_zero]
    · rw [c163]; simp (disch := first | decide | omega) only [mxa, vxa, vxb, vxc, vnd, vne, Nat.reduceAdd, Nat.reduceSub, Nat.reduceLeDiff, Nat.reduceLT, Int32.reduceLT, Int32.reduceLE, Int32.reduceAdd, Int32.reduceSub, Int32.reduceMul, Int32.reduceToNatClampNeg, not_false_eq_true, not_true_eq_false, false_implies, true_implies, Nat.zero_add, reduceIte, Nat.reduceMul, Nat.reduceEqDiff, nxa, nxc, lgn, nL_of, swx, Int.reduceAdd, gI_a, gI_k, gL_a, gL_k, gI_r, gL_r, nI_and, nI_or, nI_xor, nI_ndf, nI_shl, nI_shr, ne_eq, and_true, true_and, eq_self, true_or, or_true, false_or, or_false, Option.toList, List.cons_append, List.nil_append, List.length_nil, List.length_cons, Nat.not_lt_zero]
    · rw [c163]; simp (disch := first | decide | omega) only [mxa, vxa, vxb, vxc, vnd, vne, Nat.reduceAdd, Nat.reduceSub, Nat.reduceLeDiff, Nat.reduceLT, Int32.reduceLT, Int32.reduceLE, Int32.reduceAdd, Int32.reduceSub, Int32.reduceMul, Int32.reduceToNatClampNeg, not_false_eq_true, not_true_eq_false, false_implies, true_implies, Nat.zero_add, reduceIte, Nat.reduceMul, Nat.reduceEqDiff, nxa, nxc, lgn, nL_of, swx, Int.reduceAdd, gI_a, gI_k, gL_a, gL_k, gI_r, gL_r, nI_and, nI_or, nI_xor, nI_ndf, nI_shl, nI_shr, ne_eq, and_true, true_and, eq_self, true_or, or_true, false_or, or_false, Option.toList, List.cons_append, List.nil_append, List.length_nil, List.length_cons, Nat.not_lt_zero]
    · rw [c163L, Nat.zero_mul]; simp (disch := first | decide | omega) only [mxa, vxa, vxb, vxc, vnd, vne, Nat.reduceAdd, Nat.reduceSub, Nat.reduceLeDiff, Nat.reduceLT, Int32.reduceLT, Int32.reduceLE, Int32.reduceAdd, Int32.reduceSub, Int32.reduceMul, Int32.reduceToNatClampNeg, not_false_eq_true, not_true_eq_false, false_implies, true_implies, Nat.zero_add, reduceIte, Nat.reduceMul, Nat.reduceEqDiff, nxa, nxc, lgn, nL_of, swx, Int.reduceAdd, gI_a, gI_k, gL_a, gL_k, gI_r, gL_r, nI_and, nI_or, nI_xor, nI_ndf, nI_shl, nI_shr, ne_eq, and_true, true_and, eq_self, true_or, or_true, false_or, or_false, Option.toList, List.cons_append, List.nil_append, List.length_nil, List.length_cons, Nat.not_lt_zero]; rfl
    · have : j = 0 := by omega
      subst this
      exact M2
  have z0 : scR b K (E0 V N) (zN V 0) (B0 V N) 0 0 = 0 := by
    unfold scR
    show 0 * 2 ^ 40 + b * (0 * 2 ^ 4) + 0 = 0
    simp only [Nat.zero_mul, Nat.mul_zero, Nat.add_zero]
  rw [show nL 0 = nL (scR b K (E0 V N) (zN V 0) (B0 V N) 0 0) from by rw [z0]]
  refine c_search X σ n b K (E0 V N) (zN V 0) 13000000 (B0 V N) hst hrt hn hK1 hK5 z3 b3 (by omega) hb b1 b2 n 0 0 d (by omega) (by omega) σ2 F3 sf _ (fun τ' F4 sf' => ?_)
  simp (disch := first | decide | omega) only [mxa, vxa, vxb, vxc, vnd, vne, Nat.reduceAdd, Nat.reduceSub, Nat.reduceLeDiff, Nat.reduceLT, Int32.reduceLT, Int32.reduceLE, Int32.reduceAdd, Int32.reduceSub, Int32.reduceMul, Int32.reduceToNatClampNeg, not_false_eq_true, not_true_eq_false, false_implies, true_implies, Nat.zero_add, reduceIte, Nat.reduceMul, Nat.reduceEqDiff, nxa, nxc, lgn, nL_of, swx, Int.reduceAdd, gI_a, gI_k, gL_a, gL_k, gI_r, gL_r, nI_and, nI_or, nI_xor, nI_ndf, nI_shl, nI_shr, ne_eq, and_true, true_and, eq_self, true_or, or_true, false_or, or_false, Option.toList, List.cons_append, List.nil_append, List.length_nil, List.length_cons, Nat.not_lt_zero]
  rw [show (0 + 1) * 3 ^ n = 3 ^ n by omega] at sf'
  exact hQ τ' F4 sf'
