/-! village: the pair -/
set_option maxRecDepth 20000
theorem pr_village (X : Cx) (d t : Nat) (σ : Mm) (x : Int32) (hI : Inv t σ) (ht : t < 512) : Call X (d + 19) 0 0 mX9_village [.ref 0, .int x] σ (Eq2 (t + 1) X (d + 19) mX10_village [.ref 190, .int x]) := by
  obtain ⟨N, O, K, hG, hV⟩ := hI.2.2.2.1
  have hs := hI.2.1.1
  have hr := hI.2.1.2.1
  have hN := hG.1.1
  have hN10 := hG.1.2
  have hO := hG.2.1.1
  have hO3 := hG.2.1.2
  have e0 : gI σ 1 0 = nI N := hV.1.1.trans hN
  have e1 : gI σ 1 1 = nI O := hV.1.2.1.trans hO
  obtain ⟨⟨T, hT9, hT1, hT2, hT3⟩, hT4, hT5, hT6⟩ := hI.2.2.1
  rcases rg x 0 T (by omega) (by omega) with ⟨h, w⟩ | ⟨h1, h2, w⟩ | ⟨n, -, hn, rfl⟩
  · refine call_of eX9_village rfl ?_
    refine wp_blk kX9_village_0 ?_
    simp (disch := first | decide | omega) only [mxa, vxa, vxb, vxc, vnd, vne, Nat.reduceAdd, Nat.reduceSub, Nat.reduceLeDiff, Nat.reduceLT, Int32.reduceLT, Int32.reduceLE, Int32.reduceAdd, Int32.reduceSub, Int32.reduceMul, Int32.reduceToNatClampNeg, not_false_eq_true, not_true_eq_false, false_implies, true_implies, Nat.zero_add, reduceIte, Nat.reduceMul, Nat.reduceEqDiff, nxa, nxc, lgn, nL_of, swx, Int.reduceAdd, gI_a, gI_k, gL_a, gL_k, gI_r, gL_r, nI_and, nI_or, nI_xor, nI_ndf, nI_shl, nI_shr, ne_eq, and_true, true_and, eq_self, true_or, or_true, false_or, or_false, Option.toList, List.cons_append, List.nil_append, List.length_nil, List.length_cons, Nat.not_lt_zero, bX9_village_0, kdx hs, grx hr, h]
    refine wp_blk kX9_village_15 ?_
    simp (disch := first | decide | omega) only [mxa, vxa, vxb, vxc, vnd, vne, Nat.reduceAdd, Nat.reduceSub, Nat.reduceLeDiff, Nat.reduceLT, Int32.reduceLT, Int32.reduceLE, Int32.reduceAdd, Int32.reduceSub, Int32.reduceMul, Int32.reduceToNatClampNeg, not_false_eq_true, not_true_eq_false, false_implies, true_implies, Nat.zero_add, reduceIte, Nat.reduceMul, Nat.reduceEqDiff, nxa, nxc, lgn, nL_of, swx, Int.reduceAdd, gI_a, gI_k, gL_a, gL_k, gI_r, gL_r, nI_and, nI_or, nI_xor, nI_ndf, nI_shl, nI_shr, ne_eq, and_true, true_and, eq_self, true_or, or_true, false_or, or_false, Option.toList, List.cons_append, List.nil_append, List.length_nil, List.length_cons, Nat.not_lt_zero, bX9_village_15]
    unfold Eq2
    refine call_of eX10_village rfl ?_
    refine wp_blk kX10_village_0 ?_
    simp (disch := first | decide | omega) only [mxa, vxa, vxb, vxc, vnd, vne, Nat.reduceAdd, Nat.reduceSub, Nat.reduceLeDiff, Nat.reduceLT, Int32.reduceLT, Int32.reduceLE, Int32.reduceAdd, Int32.reduceSub, Int32.reduceMul, Int32.reduceToNatClampNeg, not_false_eq_true, not_true_eq_false, false_implies, true_implies, Nat.zero_add, reduceIte, Nat.reduceMul, Nat.reduceEqDiff, nxa, nxc, lgn, nL_of, swx, Int.reduceAdd, gI_a, gI_k, gL_a, gL_k, gI_r, gL_r, nI_and, nI_or, nI_xor, nI_ndf, nI_shl, nI_shr, ne_eq, and_true, true_and, eq_self, true_or, or_true, false_or, or_false, Option.toList, List.cons_append, List.nil_append, List.length_nil, List.length_cons, Nat.not_lt_zero, bX10_village_0, kdx hs, grx hr, hT2]
    refine c_within X _ _ _ _ _ _ ?_
    simp (disch := first | decide | omega) only [mxa, vxa, vxb, vxc, vnd, vne, Nat.reduceAdd, Nat.reduceSub, Nat.reduceLeDiff, Nat.reduceLT, Int32.reduceLT, Int32.reduceLE, Int32.reduceAdd, Int32.reduceSub, Int32.reduceMul, Int32.reduceToNatClampNeg, not_false_eq_true, not_true_eq_false, false_implies, true_implies, Nat.zero_add, reduceIte, Nat.reduceMul, Nat.reduceEqDiff, nxa, nxc, lgn, nL_of, swx, Int.reduceAdd, gI_a, gI_k, gL_a, gL_k, gI_r, gL_r, nI_and, nI_or, nI_xor, nI_ndf, nI_shl, nI_shr, ne_eq, and_true, true_and, eq_self, true_or, or_true, false_or, or_false, Option.toList, List.cons_append, List.nil_append, List.length_nil, List.length_cons, Nat.not_lt_zero, w]
    exact ⟨⟨_, rfl, rfl⟩, hI.thr ht⟩
  · refine call_of eX9_village rfl ?_
    refine wp_blk kX9_village_0 ?_
    simp (disch := first | decide | omega) only [mxa, vxa, vxb, vxc, vnd, vne, Nat.reduceAdd, Nat.reduceSub, Nat.reduceLeDiff, Nat.reduceLT, Int32.reduceLT, Int32.reduceLE, Int32.reduceAdd, Int32.reduceSub, Int32.reduceMul, Int32.reduceToNatClampNeg, not_false_eq_true, not_true_eq_false, false_implies, true_implies, Nat.zero_add, reduceIte, Nat.reduceMul, Nat.reduceEqDiff, nxa, nxc, lgn, nL_of, swx, Int.reduceAdd, gI_a, gI_k, gL_a, gL_k, gI_r, gL_r, nI_and, nI_or, nI_xor, nI_ndf, nI_shl, nI_shr, ne_eq, and_true, true_and, eq_self, true_or, or_true, false_or, or_false, Option.toList, List.cons_append, List.nil_append, List.length_nil, List.length_cons, Nat.not_lt_zero, bX9_village_0, kdx hs, grx hr, h1, h2, hT1]
    refine wp_blk kX9_village_15 ?_
    simp (disch := first | decide | omega) only [mxa, vxa, vxb, vxc, vnd, vne, Nat.reduceAdd, Nat.reduceSub, Nat.reduceLeDiff, Nat.reduceLT, Int32.reduceLT, Int32.reduceLE, Int32.reduceAdd, Int32.reduceSub, Int32.reduceMul, Int32.reduceToNatClampNeg, not_false_eq_true, not_true_eq_false, false_implies, true_implies, Nat.zero_add, reduceIte, Nat.reduceMul, Nat.reduceEqDiff, nxa, nxc, lgn, nL_of, swx, Int.reduceAdd, gI_a, gI_k, gL_a, gL_k, gI_r, gL_r, nI_and, nI_or, nI_xor, nI_ndf, nI_shl, nI_shr, ne_eq, and_true, true_and, eq_self, true_or, or_true, false_or, or_false, Option.toList, List.cons_append, List.nil_append, List.length_nil, List.length_cons, Nat.not_lt_zero, bX9_village_15]
    unfold Eq2
    refine call_of eX10_village rfl ?_
    refine wp_blk kX10_village_0 ?_
    simp (disch := first | decide | omega) only [mxa, vxa, vxb, vxc, vnd, vne, Nat.reduceAdd, Nat.reduceSub, Nat.reduceLeDiff, Nat.reduceLT, Int32.reduceLT, Int32.reduceLE, Int32.reduceAdd, Int32.reduceSub, Int32.reduceMul, Int32.reduceToNatClampNeg, not_false_eq_true, not_true_eq_false, false_implies, true_implies, Nat.zero_add, reduceIte, Nat.reduceMul, Nat.reduceEqDiff, nxa, nxc, lgn, nL_of, swx, Int.reduceAdd, gI_a, gI_k, gL_a, gL_k, gI_r, gL_r, nI_and, nI_or, nI_xor, nI_ndf, nI_shl, nI_shr, ne_eq, and_true, true_and, eq_self, true_or, or_true, false_or, or_false, Option.toList, List.cons_append, List.nil_append, List.length_nil, List.length_cons, Nat.not_lt_zero, bX10_village_0, kdx hs, grx hr, hT2]
    refine c_within X _ _ _ _ _ _ ?_
    simp (disch := first | decide | omega) only [mxa, vxa, vxb, vxc, vnd, vne, Nat.reduceAdd, Nat.reduceSub, Nat.reduceLeDiff, Nat.reduceLT, Int32.reduceLT, Int32.reduceLE, Int32.reduceAdd, Int32.reduceSub, Int32.reduceMul, Int32.reduceToNatClampNeg, not_false_eq_true, not_true_eq_false, false_implies, true_implies, Nat.zero_add, reduceIte, Nat.reduceMul, Nat.reduceEqDiff, nxa, nxc, lgn, nL_of, swx, Int.reduceAdd, gI_a, gI_k, gL_a, gL_k, gI_r, gL_r, nI_and, nI_or, nI_xor, nI_ndf, nI_shl, nI_shr, ne_eq, and_true, true_and, eq_self, true_or, or_true, false_or, or_false, Option.toList, List.cons_append, List.nil_append, List.length_nil, List.length_cons, Nat.not_lt_zero, w]
    exact ⟨⟨_, rfl, rfl⟩, hI.thr ht⟩
  · have ch : ∀ i, ∃ k, k < 256 ∧ gI σ 145 i = sb k := fun i => sb_ex _ (hT4 i)
    obtain ⟨B, hBB⟩ := Classical.axiomOfChoice ch
    have hB : ∀ i, B i < 256 := fun i => (hBB i).1
    have hB1 : ∀ i, gI σ 145 i = sb (B i) := fun i => (hBB i).2
    have hB2 : ∀ i, i < n → gI σ 193 i = nI (B i) := fun i hi => by
      rw [hT3 i (by omega), hB1 i]; exact sb_255 _ (hB i)
    clear hBB ch
    refine call_of eX9_village rfl ?_
    refine wp_blk kX9_village_0 ?_
    simp (disch := first | decide | omega) only [mxa, vxa, vxb, vxc, vnd, vne, Nat.reduceAdd, Nat.reduceSub, Nat.reduceLeDiff, Nat.reduceLT, Int32.reduceLT, Int32.reduceLE, Int32.reduceAdd, Int32.reduceSub, Int32.reduceMul, Int32.reduceToNatClampNeg, not_false_eq_true, not_true_eq_false, false_implies, true_implies, Nat.zero_add, reduceIte, Nat.reduceMul, Nat.reduceEqDiff, nxa, nxc, lgn, nL_of, swx, Int.reduceAdd, gI_a, gI_k, gL_a, gL_k, gI_r, gL_r, nI_and, nI_or, nI_xor, nI_ndf, nI_shl, nI_shr, ne_eq, and_true, true_and, eq_self, true_or, or_true, false_or, or_false, Option.toList, List.cons_append, List.nil_append, List.length_nil, List.length_cons, Nat.not_lt_zero, bX9_village_0, kdx hs, grx hr, Nat.not_lt_zero, hn, hT1]
    refine wp_blk kX9_village_18 ?_
    simp (disch := first | decide | omega) only [mxa, vxa, vxb, vxc, vnd, vne, Nat.reduceAdd, Nat.reduceSub, Nat.reduceLeDiff, Nat.reduceLT, Int32.reduceLT, Int32.reduceLE, Int32.reduceAdd, Int32.reduceSub, Int32.reduceMul, Int32.reduceToNatClampNeg, not_false_eq_true, not_true_eq_false, false_implies, true_implies, Nat.zero_add, reduceIte, Nat.reduceMul, Nat.reduceEqDiff, nxa, nxc, lgn, nL_of, swx, Int.reduceAdd, gI_a, gI_k, gL_a, gL_k, gI_r, gL_r, nI_and, nI_or, nI_xor, nI_ndf, nI_shl, nI_shr, ne_eq, and_true, true_and, eq_self, true_or, or_true, false_or, or_false, Option.toList, List.cons_append, List.nil_append, List.length_nil, List.length_cons, Nat.not_lt_zero, bX9_village_18, kdx hs, grx hr]
    refine c_readC X _ σ n T B hI.2.1 (by omega) hn hT9 hT1 hB (fun i hi => hB1 i) _ (fun k p hrd μ F1 g1 g2 g3 k1 k4 => ?_) (fun W N' O' K' hrd μ F1 g1 g2 g3 V2 FV1 => ?_)
    · have sm : Sh μ := F1.Sh hs
      have rm : Rf μ := F1.Rf hr
      have G2 : Fr (fun c => c = 144 ∨ (34 ≤ c ∧ c ≤ 66)) σ μ := Fr.mono F1 (fun c q => by omega)
      simp (disch := first | decide | omega) only [mxa, vxa, vxb, vxc, vnd, vne, Nat.reduceAdd, Nat.reduceSub, Nat.reduceLeDiff, Nat.reduceLT, Int32.reduceLT, Int32.reduceLE, Int32.reduceAdd, Int32.reduceSub, Int32.reduceMul, Int32.reduceToNatClampNeg, not_false_eq_true, not_true_eq_false, false_implies, true_implies, Nat.zero_add, reduceIte, Nat.reduceMul, Nat.reduceEqDiff, nxa, nxc, lgn, nL_of, swx, Int.reduceAdd, gI_a, gI_k, gL_a, gL_k, gI_r, gL_r, nI_and, nI_or, nI_xor, nI_ndf, nI_shl, nI_shr, ne_eq, and_true, true_and, eq_self, true_or, or_true, false_or, or_false, Option.toList, List.cons_append, List.nil_append, List.length_nil, List.length_cons, Nat.not_lt_zero, kdx sm, grx rm, g2, show ¬ k = 0 by omega]
      unfold Eq2
      refine call_of eX10_village rfl ?_
      refine wp_blk kX10_village_0 ?_
      simp (disch := first | decide | omega) only [mxa, vxa, vxb, vxc, vnd, vne, Nat.reduceAdd, Nat.reduceSub, Nat.reduceLeDiff, Nat.reduceLT, Int32.reduceLT, Int32.reduceLE, Int32.reduceAdd, Int32.reduceSub, Int32.reduceMul, Int32.reduceToNatClampNeg, not_false_eq_true, not_true_eq_false, false_implies, true_implies, Nat.zero_add, reduceIte, Nat.reduceMul, Nat.reduceEqDiff, nxa, nxc, lgn, nL_of, swx, Int.reduceAdd, gI_a, gI_k, gL_a, gL_k, gI_r, gL_r, nI_and, nI_or, nI_xor, nI_ndf, nI_shl, nI_shr, ne_eq, and_true, true_and, eq_self, true_or, or_true, false_or, or_false, Option.toList, List.cons_append, List.nil_append, List.length_nil, List.length_cons, Nat.not_lt_zero, bX10_village_0, kdx sm, (G2.2.2.1 190 (by omega) 5).trans hT2]
      refine c_within X _ _ _ _ _ _ ?_
      simp (disch := first | decide | omega) only [mxa, vxa, vxb, vxc, vnd, vne, Nat.reduceAdd, Nat.reduceSub, Nat.reduceLeDiff, Nat.reduceLT, Int32.reduceLT, Int32.reduceLE, Int32.reduceAdd, Int32.reduceSub, Int32.reduceMul, Int32.reduceToNatClampNeg, not_false_eq_true, not_true_eq_false, false_implies, true_implies, Nat.zero_add, reduceIte, Nat.reduceMul, Nat.reduceEqDiff, nxa, nxc, lgn, nL_of, swx, Int.reduceAdd, gI_a, gI_k, gL_a, gL_k, gI_r, gL_r, nI_and, nI_or, nI_xor, nI_ndf, nI_shl, nI_shr, ne_eq, and_true, true_and, eq_self, true_or, or_true, false_or, or_false, Option.toList, List.cons_append, List.nil_append, List.length_nil, List.length_cons, Nat.not_lt_zero]
      refine m_vill X (d + 9) (thr μ) n B (by exact sm) (by exact rm) (by omega) hB (fun i hi => (gI_a (by decide)).trans ((G2.2.2.1 193 (by omega) i).trans (hB2 i hi))) _ (fun k' p' hrd' k1' k4' τ F5 t5 t13 t14 => ?_) (fun W N' O' K' hrd' => ?_)
      · rw [hrd] at hrd'
        cases hrd'
        have FT : Fr Sg σ τ := (G2.mono (fun c q => by unfold Sg; omega)).tr ((Fr.sI (by unfold Sg; omega)).tr (Fr.mono F5 (fun c q => by unfold Sg; omega)))
        have o : ∀ a, a ≠ 190 → a ≠ 194 → ∀ j, gI τ a j = gI μ a j := fun a q1 q2 j => (F5.2.2.1 a (by omega) j).trans (gI_a q1)
        refine ⟨⟨_, rfl, rfl⟩, hI.gen ht FT ⟨⟨0, by omega, (o 144 (by omega) (by omega) 0).trans g1, t5, fun k hk => absurd hk (by omega)⟩, fun k => ?_, ?_, ?_⟩ (fun k hk => ?_) ⟨N, O, K, ?_, ?_⟩⟩
        · rw [o 145 (by omega) (by omega), G2.2.2.1 145 (by omega)]; exact hT4 k
        · rw [o 144 (by omega) (by omega), g2, t13]
        · rw [o 144 (by omega) (by omega), g3, t14]
        · rw [o 191 (by omega) (by omega), G2.2.2.1 191 (by omega)]
        · rw [show gI τ 191 = gI σ 191 from funext fun k => by rw [o 191 (by omega) (by omega), G2.2.2.1 191 (by omega)]]
          exact hG.mono (by omega)
        · rw [show gI τ 191 = gI σ 191 from funext fun k => by rw [o 191 (by omega) (by omega), G2.2.2.1 191 (by omega)]]
          exact hV.keep hN10 hI.2.1 (Or.inl rfl) FT.gR (fun a q1 q2 j => by rw [o a (by omega) (by omega), G2.2.2.1 a (by omega)])
      · rw [hrd] at hrd'; cases hrd'
    · have sm : Sh μ := F1.Sh hs
      have rm : Rf μ := F1.Rf hr
      have Sm : St μ := Fr.St F1 hI.2.1
      have G2 : Fr (fun c => c = 144 ∨ (34 ≤ c ∧ c ≤ 66)) σ μ := Fr.mono F1 (fun c q => by omega)
      simp (disch := first | decide | omega) only [mxa, vxa, vxb, vxc, vnd, vne, Nat.reduceAdd, Nat.reduceSub, Nat.reduceLeDiff, Nat.reduceLT, Int32.reduceLT, Int32.reduceLE, Int32.reduceAdd, Int32.reduceSub, Int32.reduceMul, Int32.reduceToNatClampNeg, not_false_eq_true, not_true_eq_false, false_implies, true_implies, Nat.zero_add, reduceIte, Nat.reduceMul, Nat.reduceEqDiff, nxa, nxc, lgn, nL_of, swx, Int.reduceAdd, gI_a, gI_k, gL_a, gL_k, gI_r, gL_r, nI_and, nI_or, nI_xor, nI_ndf, nI_shl, nI_shr, ne_eq, and_true, true_and, eq_self, true_or, or_true, false_or, or_false, Option.toList, List.cons_append, List.nil_append, List.length_nil, List.length_cons, Nat.not_lt_zero, kdx sm, grx rm, g2]
      refine wp_blk kX9_village_51 ?_
      simp (disch := first | decide | omega) only [mxa, vxa, vxb, vxc, vnd, vne, Nat.reduceAdd, Nat.reduceSub, Nat.reduceLeDiff, Nat.reduceLT, Int32.reduceLT, Int32.reduceLE, Int32.reduceAdd, Int32.reduceSub, Int32.reduceMul, Int32.reduceToNatClampNeg, not_false_eq_true, not_true_eq_false, false_implies, true_implies, Nat.zero_add, reduceIte, Nat.reduceMul, Nat.reduceEqDiff, nxa, nxc, lgn, nL_of, swx, Int.reduceAdd, gI_a, gI_k, gL_a, gL_k, gI_r, gL_r, nI_and, nI_or, nI_xor, nI_ndf, nI_shl, nI_shr, ne_eq, and_true, true_and, eq_self, true_or, or_true, false_or, or_false, Option.toList, List.cons_append, List.nil_append, List.length_nil, List.length_cons, Nat.not_lt_zero, bX9_village_51, kdx sm, grx rm]
      refine c_vbecome X _ μ 1 34 N' O' W Sm (Or.inl rfl) (Or.inr (Or.inl rfl)) (by omega) V2 FV1.1.1.1 FV1.1.1.2 FV1.1.2.1.2 _ (fun τ3 F3 V3 => ?_)
      have G3 : Fr (fun c => c = 144 ∨ (1 ≤ c ∧ c ≤ 66)) σ τ3 := (G2.mono (fun c q => by omega)).tr (F3.mono (fun c q => by omega))
      have s3 : Sh τ3 := G3.Sh hs
      have r3 : Rf τ3 := G3.Rf hr
      have w5 : gI τ3 1 5 = W 5 := V3.1.2.2.2.2.2
      have q0 : ∀ j, gI τ3 144 j = gI μ 144 j := fun j => F3.2.2.1 144 (by omega) j
      simp (disch := first | decide | omega) only [mxa, vxa, vxb, vxc, vnd, vne, Nat.reduceAdd, Nat.reduceSub, Nat.reduceLeDiff, Nat.reduceLT, Int32.reduceLT, Int32.reduceLE, Int32.reduceAdd, Int32.reduceSub, Int32.reduceMul, Int32.reduceToNatClampNeg, not_false_eq_true, not_true_eq_false, false_implies, true_implies, Nat.zero_add, reduceIte, Nat.reduceMul, Nat.reduceEqDiff, nxa, nxc, lgn, nL_of, swx, Int.reduceAdd, gI_a, gI_k, gL_a, gL_k, gI_r, gL_r, nI_and, nI_or, nI_xor, nI_ndf, nI_shl, nI_shr, ne_eq, and_true, true_and, eq_self, true_or, or_true, false_or, or_false, Option.toList, List.cons_append, List.nil_append, List.length_nil, List.length_cons, Nat.not_lt_zero, kdx s3, grx r3, w5]
      unfold Eq2
      refine call_of eX10_village rfl ?_
      refine wp_blk kX10_village_0 ?_
      simp (disch := first | decide | omega) only [mxa, vxa, vxb, vxc, vnd, vne, Nat.reduceAdd, Nat.reduceSub, Nat.reduceLeDiff, Nat.reduceLT, Int32.reduceLT, Int32.reduceLE, Int32.reduceAdd, Int32.reduceSub, Int32.reduceMul, Int32.reduceToNatClampNeg, not_false_eq_true, not_true_eq_false, false_implies, true_implies, Nat.zero_add, reduceIte, Nat.reduceMul, Nat.reduceEqDiff, nxa, nxc, lgn, nL_of, swx, Int.reduceAdd, gI_a, gI_k, gL_a, gL_k, gI_r, gL_r, nI_and, nI_or, nI_xor, nI_ndf, nI_shl, nI_shr, ne_eq, and_true, true_and, eq_self, true_or, or_true, false_or, or_false, Option.toList, List.cons_append, List.nil_append, List.length_nil, List.length_cons, Nat.not_lt_zero, bX10_village_0, kdx s3, (G3.2.2.1 190 (by omega) 5).trans hT2]
      refine c_within X _ _ _ _ _ _ ?_
      simp (disch := first | decide | omega) only [mxa, vxa, vxb, vxc, vnd, vne, Nat.reduceAdd, Nat.reduceSub, Nat.reduceLeDiff, Nat.reduceLT, Int32.reduceLT, Int32.reduceLE, Int32.reduceAdd, Int32.reduceSub, Int32.reduceMul, Int32.reduceToNatClampNeg, not_false_eq_true, not_true_eq_false, false_implies, true_implies, Nat.zero_add, reduceIte, Nat.reduceMul, Nat.reduceEqDiff, nxa, nxc, lgn, nL_of, swx, Int.reduceAdd, gI_a, gI_k, gL_a, gL_k, gI_r, gL_r, nI_and, nI_or, nI_xor, nI_ndf, nI_shl, nI_shr, ne_eq, and_true, true_and, eq_self, true_or, or_true, false_or, or_false, Option.toList, List.cons_append, List.nil_append, List.length_nil, List.length_cons, Nat.not_lt_zero]
      refine m_vill X (d + 9) (thr τ3) n B (by exact s3) (by exact r3) (by omega) hB (fun i hi => (gI_a (by decide)).trans ((G3.2.2.1 193 (by omega) i).trans (hB2 i hi))) _ (fun k' p' hrd' => ?_) (fun W'' N'' O'' K'' hrd' FV2 τ R F5 t5 t13 t14 h1 h2 => ?_)
      · rw [hrd] at hrd'; cases hrd'
      · rw [hrd] at hrd'
        cases hrd'
        have FT : Fr Sg σ (rI τ 191 R) := ((G3.mono (fun c q => by unfold Sg; omega)).tr ((Fr.sI (by unfold Sg; omega)).tr (Fr.mono F5 (fun c q => by unfold Sg; omega)))).tr (Fr.rI (by unfold Sg; omega))
        have o : ∀ a, a ≠ 190 → a ≠ 194 → a ≠ 191 → ∀ j, gI (rI τ 191 R) a j = gI τ3 a j := fun a q1 q2 q3 j => (gI_r q3).trans ((F5.2.2.1 a (by omega) j).trans (gI_a q1))
        have e192 : gI (rI τ 191 R) 191 = R := gI_rS _ _ _
        refine ⟨⟨_, rfl, rfl⟩, hI.gen ht FT ⟨⟨0, by omega, (o 144 (by omega) (by omega) (by omega) 0).trans ((q0 0).trans g1), (gI_r (by decide)).trans t5, fun k hk => absurd hk (by omega)⟩, fun k => ?_, ?_, ?_⟩ (fun k hk => ?_) ⟨N', O', K', ?_, ?_⟩⟩
        · rw [o 145 (by omega) (by omega) (by omega), G3.2.2.1 145 (by omega)]; exact hT4 k
        · rw [o 144 (by omega) (by omega) (by omega), q0, g2, gI_r (by decide), t13]
        · rw [o 144 (by omega) (by omega) (by omega), q0, g3, gI_r (by decide), t14]
        · rw [e192, h2 k hk, gI_a (by decide), G3.2.2.1 191 (by omega)]
        · rw [e192]
          exact (FV1.1.congr (fun k hk => h1 k hk)).mono (by omega)
        · rw [e192]
          have S3 : St τ3 := G3.St hI.2.1
          have FT3 : ∀ a k, gR (rI τ 191 R) a k = gR τ3 a k := fun a k => by
            have x1 := FT.gR a k
            have x2 := G3.gR a k
            rw [x1, x2]
          exact VR.to V3 FV1.1.1.2 FV1.1.2.1.2 S3 (Or.inl rfl) FT3 (fun a q1 q2 j => o a (by omega) (by omega) (by omega) j) (fun k hk => h1 k hk)
