/-! marry: the pair -/
set_option maxRecDepth 20000
theorem VR.keep3 {σ σ' : Mm} {v N O : Nat} {V : Nat → Int32} (h : VR σ v V N O) (hN : N ≤ 10) (hs : St σ) (hv : isV v) (hR : ∀ k, gR σ' (v + 1) k = gR σ (v + 1) k) (hI : ∀ a, v ≤ a → a ≤ v + 32 → ∀ k, gI σ' a k = gI σ a k) : VR σ' v V N O := by
  obtain ⟨⟨a1, a2, a3, a4, a5, a6⟩, a7, a8⟩ := h
  have hfa : ∀ f, fa σ' v f = fa σ v f := fun f => by unfold fa; rw [hR]
  have hv0 : ∀ k, gI σ' v k = gI σ v k := hI v (Nat.le_refl _) (by omega)
  refine ⟨⟨by rw [hv0]; exact a1, by rw [hv0]; exact a2, by rw [hv0]; exact a3, by rw [hv0]; exact a4, by rw [hv0]; exact a5, by rw [hv0]; exact a6⟩, fun o ho => by rw [hI _ (by omega) (by omega)]; exact a7 o ho, fun f hf => ?_⟩
  obtain ⟨b1, b2, b3, b4⟩ := a8 f hf
  obtain ⟨-, -, p, hp, ep⟩ := fa_ok hs.1 hs.2.1 hv (hs.2.2 v hv) (show f < 10 by omega)
  rw [hfa]
  exact ⟨fun j hj => by rw [hI _ (by omega) (by omega)]; exact b1 j hj, by rw [hI _ (by omega) (by omega)]; exact b2, fun k hk => by rw [hI _ (by omega) (by omega)]; exact b3 k hk, fun g hg => by rw [hI _ (by omega) (by omega)]; exact b4 g hg⟩
theorem Inv.gen3 {t : Nat} {σ σ' : Mm} (h : Inv t σ) (ht : t < 512) (hR : ∀ a k, a ≠ 2 → gR σ' a k = gR σ a k) (hS' : St σ') (n : ∀ a, ((67 ≤ a ∧ a ≤ 143) ∨ a = 192 ∨ 210 ≤ a) → ∀ k, gI σ' a k = gI σ a k) (nL : ∀ a, ((67 ≤ a ∧ a ≤ 143) ∨ a = 192 ∨ 210 ≤ a) → ∀ k, gL σ' a k = gL σ a k) (hT : TP σ') (hV : ∀ k, 319 ≤ k → gI σ' 191 k = gI σ 191 k) (hG : ∃ N O K, Gd (gI σ' 191) (t + 1) N O K ∧ VR σ' 1 (gI σ' 191) N O) : Inv (t + 1) σ' := by
  obtain ⟨-, hS, -, -, hI, hR4⟩ := h
  refine ⟨by omega, hS', hT, hG, fun i hi => ?_, fun r hr => ?_⟩
  · have e : (fun k => gI σ' 191 (319 * (i + 1) + k)) = fun k => gI σ 191 (319 * (i + 1) + k) := funext fun k => hV _ (by omega)
    rcases hI i hi with ⟨a, b⟩ | ⟨a, b, N, O, K, g1, g2⟩
    · exact Or.inl ⟨by rw [n 68 (by omega)]; exact a, by rw [n 192 (by omega)]; exact b⟩
    · refine Or.inr ⟨by rw [n 68 (by omega)]; exact a, by rw [n 192 (by omega)]; exact b, N, O, K, by rw [e]; exact g1.mono (by omega), ?_⟩
      rw [e]
      exact g2.keep3 g1.1.2 hS (by rcases (by omega : i = 0 ∨ i = 1) with rfl | rfl <;> simp [isV]) (fun k => hR _ k (by omega)) (fun a h1 h2 => n a (by omega))
  · rcases hR4 r hr with ⟨a, b⟩ | ⟨a, ⟨q, q1, q2, q3⟩, m, m1, m2, m3, m4⟩
    · exact Or.inl ⟨by rw [n _ (by omega)]; exact a, by rw [n 210 (by omega)]; exact b⟩
    · exact Or.inr ⟨by rw [n _ (by omega)]; exact a, ⟨q, q1, by rw [n _ (by omega)]; exact q2, by rw [n 210 (by omega)]; exact q3⟩, m, m1, by rw [n _ (by omega)]; exact m2, by rw [n 211 (by omega)]; exact m3, fun k hk => by rw [nL _ (by omega), nL 212 (by omega)]; exact m4 k hk⟩
theorem qm_b {V : Nat → Int32} {i s : Nat} (hs : s < 10) : (qm V i).testBit s = true ↔ V (119 + 10 * i + s) = nI 1 := by
  rw [qm_bit]
  simp only [qq, Bool.and_eq_true, decide_eq_true_eq]
  exact ⟨fun q => q.2, fun q => ⟨hs, q⟩⟩
theorem tq_eq {V : Nat → Int32} {t N O K f g k : Nat} (hG : Gd V t N O K) (hf : f < g) (hg : g < N) (hk : k < N - 1) (hn : ¬ V (119 + 10 * f + g) = nI 1) : tq (if sk g k = f then qm V f ||| qm V g else qm V (sk g k)) f g = qm (wedV V N f g) k := by
  obtain ⟨⟨g0, hN⟩, -, -, -, -, -, -, -, ⟨gq1, gq2, gq3⟩, -⟩ := id hG
  obtain ⟨s1, s2⟩ := sk_lt hg hk
  have n01 : ¬ (0 : Int32) = nI 1 := by decide
  have gg : ¬ V (119 + 10 * g + g) = nI 1 := by rw [gq2 g (by omega)]; exact n01
  have gf : V (119 + 10 * g + f) = V (119 + 10 * f + g) := (gq1 g f (by omega) (by omega)).2
  refine bit_eq (fun l => ?_)
  rw [Bool.eq_iff_iff, tq_bit hf]
  generalize hq : (if sk g k = f then qm V f ||| qm V g else qm V (sk g k)) = q
  have q10 : q < 1024 := by
    rw [← hq]
    split
    · exact Nat.or_lt_two_pow (n := 10) (qm_lt _ _) (qm_lt _ _)
    · exact qm_lt _ _
  by_cases l9 : l < 9
  · have sl : sk g l < 10 ∧ sk g l ≠ g := by unfold sk; constructor <;> split <;> omega
    have lf : sk g l = f ↔ l = f := by unfold sk; split <;> omega
    have qb : ∀ s, s < 10 → (q.testBit s = true ↔ (sk g k = f ∧ (V (119 + 10 * f + s) = nI 1 ∨ V (119 + 10 * g + s) = nI 1)) ∨ (¬ sk g k = f ∧ V (119 + 10 * sk g k + s) = nI 1)) := fun s hs => by
      rw [← hq]
      by_cases e : sk g k = f
      · rw [if_pos e, Nat.testBit_or, Bool.or_eq_true, qm_b hs, qm_b hs]
        exact ⟨fun z => Or.inl ⟨e, z⟩, fun z => z.elim (fun z => z.2) (fun z => absurd e z.1)⟩
      · rw [if_neg e, qm_b hs]
        exact ⟨fun z => Or.inr ⟨e, z⟩, fun z => z.elim (fun z => absurd z.1 e) (fun z => z.2)⟩
    rw [qm_b (by omega), wed_q hN hf hg (by omega) (by omega), if_neg (by omega), Bool.or_eq_true, Bool.and_eq_true, decide_eq_true_eq, qb _ sl.1, qb g (by omega)]
    generalize sk g k = i at *
    generalize sk g l = s at *
    by_cases a : (i = f ∧ s < N ∧ s ≠ f ∧ s ≠ g ∧ V (119 + 10 * g + s) = nI 1) ∨ (s = f ∧ i < N ∧ i ≠ f ∧ i ≠ g ∧ V (119 + 10 * g + i) = nI 1)
    · rw [dQ_y a]
      refine ⟨fun _ => rfl, fun _ => ?_⟩
      rcases a with a | a
      · exact Or.inl (Or.inl ⟨a.1, Or.inr a.2.2.2.2⟩)
      · refine Or.inr ⟨lf.mp a.1, Or.inr ⟨a.2.2.1, ?_⟩⟩
        rw [(gq1 i g (by omega) (by omega)).2]; exact a.2.2.2.2
    · rw [dQ_n a]
      constructor
      · rintro ((⟨e, z | z⟩ | ⟨e, z⟩) | ⟨e, ⟨e2, z | z⟩ | ⟨e2, z⟩⟩)
        · rw [e]; exact z
        · exfalso
          refine a (Or.inl ⟨e, ?_, ?_, sl.2, z⟩)
          · rcases Nat.lt_or_ge s N with u | u
            · exact u
            · rw [gq3 g s (by omega) (by omega) u] at z; exact absurd z n01
          · intro u
            rw [u, gf] at z; exact hn z
        · exact z
        · exact absurd z hn
        · exact absurd z gg
        · exfalso
          refine a (Or.inr ⟨lf.mpr e, s1, e2, s2, ?_⟩)
          rw [(gq1 g i (by omega) (by omega)).2]; exact z
      · intro z
        by_cases e : i = f
        · rw [e] at z; exact Or.inl (Or.inl ⟨e, Or.inl z⟩)
        · exact Or.inl (Or.inr ⟨e, z⟩)
  · have o1 : q.testBit (sk g l) = false := by
      rw [show sk g l = l + 1 from if_neg (by omega)]
      exact Nat.testBit_lt_two_pow (Nat.lt_of_lt_of_le q10 (Nat.pow_le_pow_right (n := 2) (by omega) (show 10 ≤ l + 1 by omega)))
    rw [o1, qm_bit]
    constructor
    · intro z
      simp at z
      omega
    · intro z
      simp only [qq, Bool.and_eq_true, decide_eq_true_eq] at z
      have l9' : l = 9 := by omega
      have := z.2
      rw [wed_q hN hf hg (by omega) (by omega), if_pos (Or.inr l9')] at this
      exact absurd this n01
theorem pp_lt {N g k : Nat} (hN : N ≤ 10) (hg : g < N) (hk : k < 10) : pp N g k < 10 := by
  unfold pp
  repeat' split
  all_goals omega
theorem pp_inj {N g a b : Nat} (hg : g < N) (h : pp N g a = pp N g b) : a = b := by
  unfold pp at h
  repeat' split at h
  all_goals omega
theorem pr_marry (X : Cx) (d t : Nat) (σ : Mm) (f g : Int32) (hI : Inv t σ) (ht : t < 512) : Call X (d + 9) 0 0 mX9_marry [.ref 0, .int f, .int g] σ (Eq2 (t + 1) X (d + 9) mX10_marry [.ref 190, .int f, .int g]) := by
  obtain ⟨N, O, K, hG, hV⟩ := hI.2.2.2.1
  have hs := hI.2.1.1
  have hr := hI.2.1.2.1
  have hN := hG.1.1
  have hN10 := hG.1.2
  have hO := hG.2.1.1
  have hO3 := hG.2.1.2
  have e0 : gI σ 1 0 = nI N := hV.1.1.trans hN
  have e1 : gI σ 1 1 = nI O := hV.1.2.1.trans hO
  have m0 := (thr_192 σ 0).trans hN
  rcases two_cases f g N hN10 with hf | ⟨i, j, hi, hj, hij, rfl, rfl⟩
  · refine call_of eX9_marry rfl ?_
    refine wp_blk kX9_marry_0 ?_
    simp (disch := first | decide | omega) only [mxa, vxa, vxb, vxc, vnd, vne, Nat.reduceAdd, Nat.reduceSub, Nat.reduceLeDiff, Nat.reduceLT, Int32.reduceLT, Int32.reduceLE, Int32.reduceAdd, Int32.reduceSub, Int32.reduceMul, Int32.reduceToNatClampNeg, not_false_eq_true, not_true_eq_false, false_implies, true_implies, Nat.zero_add, reduceIte, Nat.reduceMul, Nat.reduceEqDiff, nxa, nxc, lgn, nL_of, swx, Int.reduceAdd, gI_a, gI_k, gL_a, gL_k, gI_r, gL_r, nI_and, nI_or, nI_xor, nI_ndf, nI_shl, nI_shr, ne_eq, and_true, true_and, eq_self, true_or, or_true, false_or, or_false, Option.toList, List.cons_append, List.nil_append, List.length_nil, List.length_cons, Nat.not_lt_zero, bX9_marry_0, kdx hs, grx hr]
    repeat (first | ((with_reducible refine wp_blk kX9_marry_0 ?_); simp (disch := first | decide | omega) only [mxa, vxa, vxb, vxc, vnd, vne, Nat.reduceAdd, Nat.reduceSub, Nat.reduceLeDiff, Nat.reduceLT, Int32.reduceLT, Int32.reduceLE, Int32.reduceAdd, Int32.reduceSub, Int32.reduceMul, Int32.reduceToNatClampNeg, not_false_eq_true, not_true_eq_false, false_implies, true_implies, Nat.zero_add, reduceIte, Nat.reduceMul, Nat.reduceEqDiff, nxa, nxc, lgn, nL_of, swx, Int.reduceAdd, gI_a, gI_k, gL_a, gL_k, gI_r, gL_r, nI_and, nI_or, nI_xor, nI_ndf, nI_shl, nI_shr, ne_eq, and_true, true_and, eq_self, true_or, or_true, false_or, or_false, Option.toList, List.cons_append, List.nil_append, List.length_nil, List.length_cons, Nat.not_lt_zero, bX9_marry_0, kdx hs, grx hr]) | ((with_reducible refine wp_blk kX9_marry_15 ?_); simp (disch := first | decide | omega) only [mxa, vxa, vxb, vxc, vnd, vne, Nat.reduceAdd, Nat.reduceSub, Nat.reduceLeDiff, Nat.reduceLT, Int32.reduceLT, Int32.reduceLE, Int32.reduceAdd, Int32.reduceSub, Int32.reduceMul, Int32.reduceToNatClampNeg, not_false_eq_true, not_true_eq_false, false_implies, true_implies, Nat.zero_add, reduceIte, Nat.reduceMul, Nat.reduceEqDiff, nxa, nxc, lgn, nL_of, swx, Int.reduceAdd, gI_a, gI_k, gL_a, gL_k, gI_r, gL_r, nI_and, nI_or, nI_xor, nI_ndf, nI_shl, nI_shr, ne_eq, and_true, true_and, eq_self, true_or, or_true, false_or, or_false, Option.toList, List.cons_append, List.nil_append, List.length_nil, List.length_cons, Nat.not_lt_zero, bX9_marry_15, kdx hs, grx hr]) | ((with_reducible refine wp_blk kX9_marry_37 ?_); simp (disch := first | decide | omega) only [mxa, vxa, vxb, vxc, vnd, vne, Nat.reduceAdd, Nat.reduceSub, Nat.reduceLeDiff, Nat.reduceLT, Int32.reduceLT, Int32.reduceLE, Int32.reduceAdd, Int32.reduceSub, Int32.reduceMul, Int32.reduceToNatClampNeg, not_false_eq_true, not_true_eq_false, false_implies, true_implies, Nat.zero_add, reduceIte, Nat.reduceMul, Nat.reduceEqDiff, nxa, nxc, lgn, nL_of, swx, Int.reduceAdd, gI_a, gI_k, gL_a, gL_k, gI_r, gL_r, nI_and, nI_or, nI_xor, nI_ndf, nI_shl, nI_shr, ne_eq, and_true, true_and, eq_self, true_or, or_true, false_or, or_false, Option.toList, List.cons_append, List.nil_append, List.length_nil, List.length_cons, Nat.not_lt_zero, bX9_marry_37, kdx hs, grx hr]) | ((with_reducible show Call _ _ _ _ mX8_hasPair _ _ _); refine c_hasPair_n X _ _ 1 N f g (by simp only [mxa, kdx hs]) e0 hN10 hf _ ?_; simp (disch := first | decide | omega) only [mxa, vxa, vxb, vxc, vnd, vne, Nat.reduceAdd, Nat.reduceSub, Nat.reduceLeDiff, Nat.reduceLT, Int32.reduceLT, Int32.reduceLE, Int32.reduceAdd, Int32.reduceSub, Int32.reduceMul, Int32.reduceToNatClampNeg, not_false_eq_true, not_true_eq_false, false_implies, true_implies, Nat.zero_add, reduceIte, Nat.reduceMul, Nat.reduceEqDiff, nxa, nxc, lgn, nL_of, swx, Int.reduceAdd, gI_a, gI_k, gL_a, gL_k, gI_r, gL_r, nI_and, nI_or, nI_xor, nI_ndf, nI_shl, nI_shr, ne_eq, and_true, true_and, eq_self, true_or, or_true, false_or, or_false, Option.toList, List.cons_append, List.nil_append, List.length_nil, List.length_cons, Nat.not_lt_zero, kdx hs, grx hr]))
    unfold Eq2
    refine call_of eX10_marry rfl ?_
    refine wp_blk kX10_marry_0 ?_
    simp (disch := first | decide | omega) only [mxa, vxa, vxb, vxc, vnd, vne, Nat.reduceAdd, Nat.reduceSub, Nat.reduceLeDiff, Nat.reduceLT, Int32.reduceLT, Int32.reduceLE, Int32.reduceAdd, Int32.reduceSub, Int32.reduceMul, Int32.reduceToNatClampNeg, not_false_eq_true, not_true_eq_false, false_implies, true_implies, Nat.zero_add, reduceIte, Nat.reduceMul, Nat.reduceEqDiff, nxa, nxc, lgn, nL_of, swx, Int.reduceAdd, gI_a, gI_k, gL_a, gL_k, gI_r, gL_r, nI_and, nI_or, nI_xor, nI_ndf, nI_shl, nI_shr, ne_eq, and_true, true_and, eq_self, true_or, or_true, false_or, or_false, Option.toList, List.cons_append, List.nil_append, List.length_nil, List.length_cons, Nat.not_lt_zero, bX10_marry_0, kdx hs, grx hr]
    repeat (first | ((with_reducible refine wp_blk kX10_marry_0 ?_); simp (disch := first | decide | omega) only [mxa, vxa, vxb, vxc, vnd, vne, Nat.reduceAdd, Nat.reduceSub, Nat.reduceLeDiff, Nat.reduceLT, Int32.reduceLT, Int32.reduceLE, Int32.reduceAdd, Int32.reduceSub, Int32.reduceMul, Int32.reduceToNatClampNeg, not_false_eq_true, not_true_eq_false, false_implies, true_implies, Nat.zero_add, reduceIte, Nat.reduceMul, Nat.reduceEqDiff, nxa, nxc, lgn, nL_of, swx, Int.reduceAdd, gI_a, gI_k, gL_a, gL_k, gI_r, gL_r, nI_and, nI_or, nI_xor, nI_ndf, nI_shl, nI_shr, ne_eq, and_true, true_and, eq_self, true_or, or_true, false_or, or_false, Option.toList, List.cons_append, List.nil_append, List.length_nil, List.length_cons, Nat.not_lt_zero, bX10_marry_0, kdx hs, grx hr]) | ((with_reducible refine wp_blk kX10_marry_17 ?_); simp (disch := first | decide | omega) only [mxa, vxa, vxb, vxc, vnd, vne, Nat.reduceAdd, Nat.reduceSub, Nat.reduceLeDiff, Nat.reduceLT, Int32.reduceLT, Int32.reduceLE, Int32.reduceAdd, Int32.reduceSub, Int32.reduceMul, Int32.reduceToNatClampNeg, not_false_eq_true, not_true_eq_false, false_implies, true_implies, Nat.zero_add, reduceIte, Nat.reduceMul, Nat.reduceEqDiff, nxa, nxc, lgn, nL_of, swx, Int.reduceAdd, gI_a, gI_k, gL_a, gL_k, gI_r, gL_r, nI_and, nI_or, nI_xor, nI_ndf, nI_shl, nI_shr, ne_eq, and_true, true_and, eq_self, true_or, or_true, false_or, or_false, Option.toList, List.cons_append, List.nil_append, List.length_nil, List.length_cons, Nat.not_lt_zero, bX10_marry_17, kdx hs, grx hr]) | ((with_reducible refine wp_blk kX10_marry_29 ?_); simp (disch := first | decide | omega) only [mxa, vxa, vxb, vxc, vnd, vne, Nat.reduceAdd, Nat.reduceSub, Nat.reduceLeDiff, Nat.reduceLT, Int32.reduceLT, Int32.reduceLE, Int32.reduceAdd, Int32.reduceSub, Int32.reduceMul, Int32.reduceToNatClampNeg, not_false_eq_true, not_true_eq_false, false_implies, true_implies, Nat.zero_add, reduceIte, Nat.reduceMul, Nat.reduceEqDiff, nxa, nxc, lgn, nL_of, swx, Int.reduceAdd, gI_a, gI_k, gL_a, gL_k, gI_r, gL_r, nI_and, nI_or, nI_xor, nI_ndf, nI_shl, nI_shr, ne_eq, and_true, true_and, eq_self, true_or, or_true, false_or, or_false, Option.toList, List.cons_append, List.nil_append, List.length_nil, List.length_cons, Nat.not_lt_zero, bX10_marry_29, kdx hs, grx hr]) | ((with_reducible refine wp_blk kX10_marry_39 ?_); simp (disch := first | decide | omega) only [mxa, vxa, vxb, vxc, vnd, vne, Nat.reduceAdd, Nat.reduceSub, Nat.reduceLeDiff, Nat.reduceLT, Int32.reduceLT, Int32.reduceLE, Int32.reduceAdd, Int32.reduceSub, Int32.reduceMul, Int32.reduceToNatClampNeg, not_false_eq_true, not_true_eq_false, false_implies, true_implies, Nat.zero_add, reduceIte, Nat.reduceMul, Nat.reduceEqDiff, nxa, nxc, lgn, nL_of, swx, Int.reduceAdd, gI_a, gI_k, gL_a, gL_k, gI_r, gL_r, nI_and, nI_or, nI_xor, nI_ndf, nI_shl, nI_shr, ne_eq, and_true, true_and, eq_self, true_or, or_true, false_or, or_false, Option.toList, List.cons_append, List.nil_append, List.length_nil, List.length_cons, Nat.not_lt_zero, bX10_marry_39, kdx hs, grx hr]) | ((with_reducible refine wp_blk kX10_marry_40 ?_); simp (disch := first | decide | omega) only [mxa, vxa, vxb, vxc, vnd, vne, Nat.reduceAdd, Nat.reduceSub, Nat.reduceLeDiff, Nat.reduceLT, Int32.reduceLT, Int32.reduceLE, Int32.reduceAdd, Int32.reduceSub, Int32.reduceMul, Int32.reduceToNatClampNeg, not_false_eq_true, not_true_eq_false, false_implies, true_implies, Nat.zero_add, reduceIte, Nat.reduceMul, Nat.reduceEqDiff, nxa, nxc, lgn, nL_of, swx, Int.reduceAdd, gI_a, gI_k, gL_a, gL_k, gI_r, gL_r, nI_and, nI_or, nI_xor, nI_ndf, nI_shl, nI_shr, ne_eq, and_true, true_and, eq_self, true_or, or_true, false_or, or_false, Option.toList, List.cons_append, List.nil_append, List.length_nil, List.length_cons, Nat.not_lt_zero, bX10_marry_40, kdx hs, grx hr]) | ((with_reducible refine wp_blk kX10_marry_49 ?_); simp (disch := first | decide | omega) only [mxa, vxa, vxb, vxc, vnd, vne, Nat.reduceAdd, Nat.reduceSub, Nat.reduceLeDiff, Nat.reduceLT, Int32.reduceLT, Int32.reduceLE, Int32.reduceAdd, Int32.reduceSub, Int32.reduceMul, Int32.reduceToNatClampNeg, not_false_eq_true, not_true_eq_false, false_implies, true_implies, Nat.zero_add, reduceIte, Nat.reduceMul, Nat.reduceEqDiff, nxa, nxc, lgn, nL_of, swx, Int.reduceAdd, gI_a, gI_k, gL_a, gL_k, gI_r, gL_r, nI_and, nI_or, nI_xor, nI_ndf, nI_shl, nI_shr, ne_eq, and_true, true_and, eq_self, true_or, or_true, false_or, or_false, Option.toList, List.cons_append, List.nil_append, List.length_nil, List.length_cons, Nat.not_lt_zero, bX10_marry_49, kdx hs, grx hr]) | ((with_reducible refine wp_blk kX10_marry_50 ?_); simp (disch := first | decide | omega) only [mxa, vxa, vxb, vxc, vnd, vne, Nat.reduceAdd, Nat.reduceSub, Nat.reduceLeDiff, Nat.reduceLT, Int32.reduceLT, Int32.reduceLE, Int32.reduceAdd, Int32.reduceSub, Int32.reduceMul, Int32.reduceToNatClampNeg, not_false_eq_true, not_true_eq_false, false_implies, true_implies, Nat.zero_add, reduceIte, Nat.reduceMul, Nat.reduceEqDiff, nxa, nxc, lgn, nL_of, swx, Int.reduceAdd, gI_a, gI_k, gL_a, gL_k, gI_r, gL_r, nI_and, nI_or, nI_xor, nI_ndf, nI_shl, nI_shr, ne_eq, and_true, true_and, eq_self, true_or, or_true, false_or, or_false, Option.toList, List.cons_append, List.nil_append, List.length_nil, List.length_cons, Nat.not_lt_zero, bX10_marry_50, kdx hs, grx hr]) | ((with_reducible show Call _ _ _ _ mX10_areTwo _ _ _); refine c_areTwo_n X _ _ N f g (by exact hs) (by exact hr) m0 hN10 hf _ ?_; simp (disch := first | decide | omega) only [mxa, vxa, vxb, vxc, vnd, vne, Nat.reduceAdd, Nat.reduceSub, Nat.reduceLeDiff, Nat.reduceLT, Int32.reduceLT, Int32.reduceLE, Int32.reduceAdd, Int32.reduceSub, Int32.reduceMul, Int32.reduceToNatClampNeg, not_false_eq_true, not_true_eq_false, false_implies, true_implies, Nat.zero_add, reduceIte, Nat.reduceMul, Nat.reduceEqDiff, nxa, nxc, lgn, nL_of, swx, Int.reduceAdd, gI_a, gI_k, gL_a, gL_k, gI_r, gL_r, nI_and, nI_or, nI_xor, nI_ndf, nI_shl, nI_shr, ne_eq, and_true, true_and, eq_self, true_or, or_true, false_or, or_false, Option.toList, List.cons_append, List.nil_append, List.length_nil, List.length_cons, Nat.not_lt_zero, kdx hs, grx hr]))
    exact ⟨⟨_, rfl, rfl⟩, hI.thr ht⟩
  obtain ⟨-, -, g1, g2, p, hp, ep⟩ := fam_pack (O := O) (K := K) hI hN10 hi
  have fo : gI σ (fa σ 1 i) 6 = nI (qm (gI σ 191) i) := (hV.2.2 i hi).2.1
  have ql := qm_lt (gI σ 191) i
  have qe := qb (gI σ 191) i j (by omega)
  have sy := ((hG.2.2.2.2.2.2.2.2.1).1 i j (by omega) (by omega)).2
  by_cases hq : gI σ 191 (119 + 10 * i + j) = nI 1
  · rw [if_pos hq] at qe
    refine call_of eX9_marry rfl ?_
    refine wp_blk kX9_marry_0 ?_
    simp (disch := first | decide | omega) only [mxa, vxa, vxb, vxc, vnd, vne, Nat.reduceAdd, Nat.reduceSub, Nat.reduceLeDiff, Nat.reduceLT, Int32.reduceLT, Int32.reduceLE, Int32.reduceAdd, Int32.reduceSub, Int32.reduceMul, Int32.reduceToNatClampNeg, not_false_eq_true, not_true_eq_false, false_implies, true_implies, Nat.zero_add, reduceIte, Nat.reduceMul, Nat.reduceEqDiff, nxa, nxc, lgn, nL_of, swx, Int.reduceAdd, gI_a, gI_k, gL_a, gL_k, gI_r, gL_r, nI_and, nI_or, nI_xor, nI_ndf, nI_shl, nI_shr, ne_eq, and_true, true_and, eq_self, true_or, or_true, false_or, or_false, Option.toList, List.cons_append, List.nil_append, List.length_nil, List.length_cons, Nat.not_lt_zero, bX9_marry_0, kdx hs, grx hr]
    refine c_hasPair_y X _ _ 1 N i j (by simp only [mxa, kdx hs]) e0 hi hj hij hN10 _ ?_
    simp (disch := first | decide | omega) only [mxa, vxa, vxb, vxc, vnd, vne, Nat.reduceAdd, Nat.reduceSub, Nat.reduceLeDiff, Nat.reduceLT, Int32.reduceLT, Int32.reduceLE, Int32.reduceAdd, Int32.reduceSub, Int32.reduceMul, Int32.reduceToNatClampNeg, not_false_eq_true, not_true_eq_false, false_implies, true_implies, Nat.zero_add, reduceIte, Nat.reduceMul, Nat.reduceEqDiff, nxa, nxc, lgn, nL_of, swx, Int.reduceAdd, gI_a, gI_k, gL_a, gL_k, gI_r, gL_r, nI_and, nI_or, nI_xor, nI_ndf, nI_shl, nI_shr, ne_eq, and_true, true_and, eq_self, true_or, or_true, false_or, or_false, Option.toList, List.cons_append, List.nil_append, List.length_nil, List.length_cons, Nat.not_lt_zero]
    refine wp_blk kX9_marry_15 ?_
    simp (disch := first | decide | omega) only [mxa, vxa, vxb, vxc, vnd, vne, Nat.reduceAdd, Nat.reduceSub, Nat.reduceLeDiff, Nat.reduceLT, Int32.reduceLT, Int32.reduceLE, Int32.reduceAdd, Int32.reduceSub, Int32.reduceMul, Int32.reduceToNatClampNeg, not_false_eq_true, not_true_eq_false, false_implies, true_implies, Nat.zero_add, reduceIte, Nat.reduceMul, Nat.reduceEqDiff, nxa, nxc, lgn, nL_of, swx, Int.reduceAdd, gI_a, gI_k, gL_a, gL_k, gI_r, gL_r, nI_and, nI_or, nI_xor, nI_ndf, nI_shl, nI_shr, ne_eq, and_true, true_and, eq_self, true_or, or_true, false_or, or_false, Option.toList, List.cons_append, List.nil_append, List.length_nil, List.length_cons, Nat.not_lt_zero, bX9_marry_15, kdx hs, grx hr, g1, g2.1, fo, qe]
    unfold Eq2
    refine call_of eX10_marry rfl ?_
    refine wp_blk kX10_marry_0 ?_
    simp (disch := first | decide | omega) only [mxa, vxa, vxb, vxc, vnd, vne, Nat.reduceAdd, Nat.reduceSub, Nat.reduceLeDiff, Nat.reduceLT, Int32.reduceLT, Int32.reduceLE, Int32.reduceAdd, Int32.reduceSub, Int32.reduceMul, Int32.reduceToNatClampNeg, not_false_eq_true, not_true_eq_false, false_implies, true_implies, Nat.zero_add, reduceIte, Nat.reduceMul, Nat.reduceEqDiff, nxa, nxc, lgn, nL_of, swx, Int.reduceAdd, gI_a, gI_k, gL_a, gL_k, gI_r, gL_r, nI_and, nI_or, nI_xor, nI_ndf, nI_shl, nI_shr, ne_eq, and_true, true_and, eq_self, true_or, or_true, false_or, or_false, Option.toList, List.cons_append, List.nil_append, List.length_nil, List.length_cons, Nat.not_lt_zero, bX10_marry_0, kdx hs, grx hr]
    refine c_areTwo_y X _ _ N i j (by exact hs) (by exact hr) m0 hi hj hij hN10 _ ?_
    simp (disch := first | decide | omega) only [mxa, vxa, vxb, vxc, vnd, vne, Nat.reduceAdd, Nat.reduceSub, Nat.reduceLeDiff, Nat.reduceLT, Int32.reduceLT, Int32.reduceLE, Int32.reduceAdd, Int32.reduceSub, Int32.reduceMul, Int32.reduceToNatClampNeg, not_false_eq_true, not_true_eq_false, false_implies, true_implies, Nat.zero_add, reduceIte, Nat.reduceMul, Nat.reduceEqDiff, nxa, nxc, lgn, nL_of, swx, Int.reduceAdd, gI_a, gI_k, gL_a, gL_k, gI_r, gL_r, nI_and, nI_or, nI_xor, nI_ndf, nI_shl, nI_shr, ne_eq, and_true, true_and, eq_self, true_or, or_true, false_or, or_false, Option.toList, List.cons_append, List.nil_append, List.length_nil, List.length_cons, Nat.not_lt_zero]
    refine wp_blk kX10_marry_17 ?_
    simp (disch := first | decide | omega) only [mxa, vxa, vxb, vxc, vnd, vne, Nat.reduceAdd, Nat.reduceSub, Nat.reduceLeDiff, Nat.reduceLT, Int32.reduceLT, Int32.reduceLE, Int32.reduceAdd, Int32.reduceSub, Int32.reduceMul, Int32.reduceToNatClampNeg, not_false_eq_true, not_true_eq_false, false_implies, true_implies, Nat.zero_add, reduceIte, Nat.reduceMul, Nat.reduceEqDiff, nxa, nxc, lgn, nL_of, swx, Int.reduceAdd, gI_a, gI_k, gL_a, gL_k, gI_r, gL_r, nI_and, nI_or, nI_xor, nI_ndf, nI_shl, nI_shr, ne_eq, and_true, true_and, eq_self, true_or, or_true, false_or, or_false, Option.toList, List.cons_append, List.nil_append, List.length_nil, List.length_cons, Nat.not_lt_zero, bX10_marry_17, kdx hs, grx hr]
    refine c_quarrels X _ _ i j (by exact hs) (by exact hr) (by omega) (by omega) _ ?_
    rw [(thr_192 σ _), if_pos hq]
    simp (disch := first | decide | omega) only [mxa, vxa, vxb, vxc, vnd, vne, Nat.reduceAdd, Nat.reduceSub, Nat.reduceLeDiff, Nat.reduceLT, Int32.reduceLT, Int32.reduceLE, Int32.reduceAdd, Int32.reduceSub, Int32.reduceMul, Int32.reduceToNatClampNeg, not_false_eq_true, not_true_eq_false, false_implies, true_implies, Nat.zero_add, reduceIte, Nat.reduceMul, Nat.reduceEqDiff, nxa, nxc, lgn, nL_of, swx, Int.reduceAdd, gI_a, gI_k, gL_a, gL_k, gI_r, gL_r, nI_and, nI_or, nI_xor, nI_ndf, nI_shl, nI_shr, ne_eq, and_true, true_and, eq_self, true_or, or_true, false_or, or_false, Option.toList, List.cons_append, List.nil_append, List.length_nil, List.length_cons, Nat.not_lt_zero]
    exact ⟨⟨_, rfl, rfl⟩, hI.thr ht⟩
  · rw [if_neg hq] at qe
    have core : ∀ f g, f < g → g < N → ¬ gI σ 191 (119 + 10 * f + g) = nI 1 → ∀ Q : Po, (∀ τ : Mm, Sh τ → Rf τ → gI τ 1 0 = nI (N - 1) → gI τ 191 = gI σ 191 → Inv (t + 1) (rI (thr τ) 191 (wedV (gI σ 191) N f g)) → Q none τ) → Call X (d + 8) 0 0 mX8_unite [.ref 1, .int (nI f), .int (nI g)] σ Q := by
      intro f g hfg hg hn Q hQ
      have hVm := hI.2.1.2.2 1 (Or.inl rfl)
      have hA := fun i (hi : i < 10) => fa_ok hs hr (Or.inl rfl) hVm hi
      have inj := fun i j (hi : i < 10) (hj : j < 10) (h : fa σ 1 i = fa σ 1 j) => fa_inj hVm hi hj h
      refine c_unite X (d + 6) σ N f g (fa σ 1) (qm (gI σ 191)) hs hr (fun i hi => ?_) (fun i j hi hj hij => ?_) e0 hN10 hfg hg (fun i hi => ⟨(hV.2.2 i hi).2.1, qm_lt _ _⟩) _ (fun τ t1 t2 t3 t4 t5 t6 t7 t8 t9 => ?_)
      · obtain ⟨x1, x2, p, x3, x4⟩ := hA i hi
        exact ⟨x1, x2, by omega, by omega⟩
      · obtain ⟨x1, x2, p, x3, x4⟩ := hA i hi
        obtain ⟨y1, y2, p', y3, y4⟩ := hA j hj
        have : p ≠ p' := fun e => hij (inj i j hi hj (by rw [x4, y4, e]))
        omega
      · have st : Sh τ := t1.trans hs
        have rt : Rf τ := fun a k q1 q2 q3 q4 => (t7 a k q1).trans (hr a k q1 q2 q3 q4)
        have v192 : gI τ 191 = gI σ 191 := funext fun k => t2 191 (by omega) k
        refine hQ τ st rt t4 v192 ?_
        have St' : St τ := by
          refine ⟨st, rt, fun v hv => ?_⟩
          rcases hv with rfl | hv
          · obtain ⟨π, p1, p2⟩ := hVm
            have ppl : ∀ k, k < 10 → pp N g k < 10 := fun k hk => pp_lt hN10 hg hk
            refine ⟨fun k => π (pp N g k), fun k hk => ⟨(p1 _ (ppl k hk)).1, ?_⟩, fun a b ha hb h => ?_⟩
            · have e := t8 k hk
              have fe : fa σ 1 (pp N g k) = 1 + 3 + 3 * π (pp N g k) := by unfold fa; rw [(p1 _ (ppl k hk)).2]; rfl
              rw [fe] at e
              exact e
            · exact pp_inj hg (p2 _ _ (ppl a ha) (ppl b hb) h)
          · have hm := hI.2.1.2.2 v (Or.inr hv)
            obtain ⟨π, p1, p2⟩ := hm
            exact ⟨π, fun k hk => ⟨(p1 k hk).1, (t7 (v + 1) k (by rcases hv with rfl | rfl | rfl <;> decide)).trans (p1 k hk).2⟩, p2⟩
        have fak : ∀ k, k < N - 1 → fa τ 1 k = fa σ 1 (sk g k) := fun k hk => by
          have := t8 k (by omega)
          conv => lhs; unfold fa
          rw [this]
          show fa σ 1 (pp N g k) = _
          congr 1
          unfold pp sk
          by_cases z : k < g
          · rw [if_pos z, if_pos z]
          · rw [if_neg z, if_neg z, if_pos hk]
        have lo : ∀ i, i ≠ 0 → i < 9 → wedV (gI σ 191) N f g i = gI σ 191 i := fun i h1 h2 => wed_lo hN10 hfg hg h1 (Or.inl h2)
        have VR' : VR τ 1 (wedV (gI σ 191) N f g) (N - 1) O := by
          obtain ⟨⟨a1, a2, a3, a4, a5, a6⟩, a7, a8⟩ := id hV
          refine ⟨⟨by rw [t4]; exact wed_0.symm, ?_, ?_, ?_, ?_, ?_⟩, fun o ho => ?_, fun k hk => ?_⟩
          · rw [t5 1 (by omega), lo 1 (by omega) (by omega)]; exact a2
          · rw [t5 4 (by omega), lo 2 (by omega) (by omega)]; exact a3
          · rw [t5 2 (by omega), lo 3 (by omega) (by omega)]; exact a4
          · rw [t5 3 (by omega), lo 4 (by omega) (by omega)]; exact a5
          · rw [t5 5 (by omega), lo 5 (by omega) (by omega)]; exact a6
          · show gI τ 3 o = _
            rw [t6, lo (6 + o) (by omega) (by omega)]; exact a7 o ho
          · obtain ⟨s1, s2⟩ := sk_lt hg hk
            obtain ⟨b1, b2, b3, b4⟩ := t9 (sk g k) s1
            obtain ⟨c1, c2, c3, c4⟩ := a8 (sk g k) s1
            obtain ⟨f1, f2, f3, f4⟩ := a8 f (by omega)
            obtain ⟨h1, h2, h3, h4⟩ := a8 g hg
            rw [fak k hk]
            refine ⟨fun jj hj => ?_, ?_, fun a ha => ?_, fun l hl => ?_⟩
            · rw [b1 jj hj, wed_f hN10 hfg hg hj hk]
              by_cases e : sk g k = f
              · rw [if_pos e, if_pos e]
                have x1 := f1 jj hj
                have x2 := h1 jj hj
                rw [← x1, ← x2]
                rcases (by omega : jj = 0 ∨ jj = 1 ∨ jj = 2 ∨ jj = 3 ∨ jj = 4 ∨ jj = 5) with rfl | rfl | rfl | rfl | rfl | rfl
                · exact (jv_n (by omega)).symm
                · exact (jv_n (by omega)).symm
                · exact (jv_n (by omega)).symm
                · exact jv_m.symm
                · exact jv_m.symm
                · exact jv_m.symm
              · rw [if_neg e, if_neg e]; exact c1 jj hj
            · rw [b2]
              congr 1
              exact tq_eq hG hfg hg hk hn
            · rw [b3 a ha, wed_b hN10 hfg hg hk ha]
              by_cases e : sk g k = f
              · rw [if_pos e, if_pos e, f3 a ha, h3 a ha]
                exact (jv_n (by omega)).symm
              · rw [if_neg e, if_neg e]; exact c3 a ha
            · rw [b4 l hl, wed_d hN10 hfg hg (by omega) hl]
              have gd := hG.2.2.2.2.2.2.2.2.2
              by_cases l9 : l = 9
              · rw [if_pos (show k = 9 ∨ l = 9 from Or.inr l9)]
                by_cases e : sk g k = f
                · rw [if_pos e, if_neg (by omega)]
                  exact if_pos l9
                · rw [if_neg e]
                  exact if_pos l9
              · have sl : sk g l < 10 ∧ sk g l ≠ g := by unfold sk; constructor <;> split <;> omega
                have lf : sk g l = f ↔ l = f := by unfold sk; split <;> omega
                rw [if_neg (show ¬ (k = 9 ∨ l = 9) by omega)]
                by_cases e : sk g k = f
                · rw [if_pos e, e]
                  by_cases z : l = f
                  · rw [if_pos z, lf.mpr z, dD_c (by omega) (by omega)]
                    exact ((gd f f (by omega) (by omega)).2 (Or.inr (Or.inr rfl))).symm
                  · rw [if_neg z]
                    unfold tE
                    rw [if_neg l9, if_neg (fun q => z (lf.mp q))]
                    dsimp only
                    rw [f4 _ sl.1, h4 _ sl.1]
                    by_cases u : sk g l < N
                    · rw [dD_a ⟨rfl, u, fun q => z (lf.mp q), sl.2⟩]
                    · rw [dD_c (by omega) (by omega), (gd f _ (by omega) sl.1).2 (by omega), (gd g _ (by omega) sl.1).2 (by omega)]
                      rfl
                · rw [if_neg e]
                  unfold tE
                  rw [if_neg l9]
                  by_cases z : sk g l = f
                  · rw [if_pos z, c4 f (by omega), c4 g (by omega), z, dD_b ⟨rfl, s1, e, s2⟩]
                  · rw [if_neg z, c4 _ sl.1, dD_c (by omega) (by omega)]
        have Fm' : Fr (fun c => c = 190 ∨ c = 191) τ (rI (thr τ) 191 (wedV (gI σ 191) N f g)) := (Fr.sI (Or.inl rfl)).tr (Fr.rI (Or.inr rfl))
        have e' : gI (rI (thr τ) 191 (wedV (gI σ 191) N f g)) 191 = wedV (gI σ 191) N f g := gI_rS _ _ _
        have rest : ∀ a, ¬ (1 ≤ a ∧ a ≤ 33) → a ≠ 190 → a ≠ 191 → ∀ k, gI (rI (thr τ) 191 (wedV (gI σ 191) N f g)) a k = gI σ a k := fun a q1 q2 q3 k => (Fm'.2.2.1 a (by omega) k).trans (t2 a q1 k)
        have r191 : ∀ k, k ≠ 0 → gI (rI (thr τ) 191 (wedV (gI σ 191) N f g)) 190 k = gI σ 190 k := fun k hk => (gI_r (by decide)).trans ((gI_k hk).trans (t2 190 (by omega) k))
        refine hI.gen3 ht (fun a k ha => (Fm'.gR a k).trans (t7 a k ha)) (Fm'.St St') (fun a ha k => rest a (by omega) (by omega) (by omega) k) (fun a ha k => (Fm'.2.2.2 a (by omega) k).trans (t3 a (by omega) k)) (hI.2.2.1.keep (rest 144 (by omega) (by omega) (by omega)) (rest 145 (by omega) (by omega) (by omega)) (rest 193 (by omega) (by omega) (by omega)) ⟨r191 5 (by omega), r191 13 (by omega), r191 14 (by omega)⟩) (fun k hk => by rw [e']; exact wed_lo hN10 hfg hg (by omega) (Or.inr hk)) ⟨N - 1, O, K, by rw [e']; exact wed_Gd hG ht hfg hg, ?_⟩
        rw [e']
        exact VR'.keep (by omega) St' (Or.inl rfl) Fm'.gR (fun a q1 q2 => Fm'.2.2.1 a (by omega))
    have mod : ∀ f g, f < g → g < N → ∀ τ : Mm, Sh τ → Rf τ → gI τ 191 = gI σ 191 → Inv (t + 1) (rI (thr τ) 191 (wedV (gI σ 191) N f g)) → Wp X mX10_marry (rmo (d + 9) 0 0) (d + 9) (fun r' σ2 => (∃ z : Int32, some (Value.int (nI (N - 1))) = some (.int z) ∧ r' = some (.int z)) ∧ Inv (t + 1) σ2) 0 0 50 [some (.ref 190), some (.int (nI i)), some (.int (nI j))] [.int (nI g), .int (nI f), .ref 190] (thr τ) := by
      intro f g hfg hg τ st rt v192 I3
      have w0 : wedV (gI σ 191) N f g 0 = nI (N - 1) := wed_0
      refine wp_blk kX10_marry_50 ?_
      simp (disch := first | decide | omega) only [mxa, vxa, vxb, vxc, vnd, vne, Nat.reduceAdd, Nat.reduceSub, Nat.reduceLeDiff, Nat.reduceLT, Int32.reduceLT, Int32.reduceLE, Int32.reduceAdd, Int32.reduceSub, Int32.reduceMul, Int32.reduceToNatClampNeg, not_false_eq_true, not_true_eq_false, false_implies, true_implies, Nat.zero_add, reduceIte, Nat.reduceMul, Nat.reduceEqDiff, nxa, nxc, lgn, nL_of, swx, Int.reduceAdd, gI_a, gI_k, gL_a, gL_k, gI_r, gL_r, nI_and, nI_or, nI_xor, nI_ndf, nI_shl, nI_shr, ne_eq, and_true, true_and, eq_self, true_or, or_true, false_or, or_false, Option.toList, List.cons_append, List.nil_append, List.length_nil, List.length_cons, Nat.not_lt_zero, bX10_marry_50, kdx st]
      refine c_weds X _ _ (gI σ 191) N f g (by exact st) (by exact rt) (funext fun k => (thr_192 τ k).trans (by rw [v192])) hN hN10 hfg hg _ ?_
      simp (disch := first | decide | omega) only [mxa, vxa, vxb, vxc, vnd, vne, Nat.reduceAdd, Nat.reduceSub, Nat.reduceLeDiff, Nat.reduceLT, Int32.reduceLT, Int32.reduceLE, Int32.reduceAdd, Int32.reduceSub, Int32.reduceMul, Int32.reduceToNatClampNeg, not_false_eq_true, not_true_eq_false, false_implies, true_implies, Nat.zero_add, reduceIte, Nat.reduceMul, Nat.reduceEqDiff, nxa, nxc, lgn, nL_of, swx, Int.reduceAdd, gI_a, gI_k, gL_a, gL_k, gI_r, gL_r, nI_and, nI_or, nI_xor, nI_ndf, nI_shl, nI_shr, ne_eq, and_true, true_and, eq_self, true_or, or_true, false_or, or_false, Option.toList, List.cons_append, List.nil_append, List.length_nil, List.length_cons, Nat.not_lt_zero, kdx st, grx rt, w0]
      exact ⟨⟨_, rfl, rfl⟩, I3⟩
    have pre : ∀ τ : Mm, Sh τ → Rf τ → gI τ 191 = gI σ 191 → ∀ x : Int32, Wp X mX10_marry (rmo (d + 9) 0 0) (d + 9) (fun r' σ2 => (∃ z : Int32, some (Value.int x) = some (.int z) ∧ r' = some (.int z)) ∧ Inv (t + 1) σ2) 0 0 29 [some (.ref 190), some (.int (nI i)), some (.int (nI j))] [] (thr τ) → Eq2 (t + 1) X (d + 9) mX10_marry [.ref 190, .int (nI i), .int (nI j)] (some (.int x)) τ := by
      intro τ st rt v192 x h
      unfold Eq2
      refine call_of eX10_marry rfl ?_
      refine wp_blk kX10_marry_0 ?_
      simp (disch := first | decide | omega) only [mxa, vxa, vxb, vxc, vnd, vne, Nat.reduceAdd, Nat.reduceSub, Nat.reduceLeDiff, Nat.reduceLT, Int32.reduceLT, Int32.reduceLE, Int32.reduceAdd, Int32.reduceSub, Int32.reduceMul, Int32.reduceToNatClampNeg, not_false_eq_true, not_true_eq_false, false_implies, true_implies, Nat.zero_add, reduceIte, Nat.reduceMul, Nat.reduceEqDiff, nxa, nxc, lgn, nL_of, swx, Int.reduceAdd, gI_a, gI_k, gL_a, gL_k, gI_r, gL_r, nI_and, nI_or, nI_xor, nI_ndf, nI_shl, nI_shr, ne_eq, and_true, true_and, eq_self, true_or, or_true, false_or, or_false, Option.toList, List.cons_append, List.nil_append, List.length_nil, List.length_cons, Nat.not_lt_zero, bX10_marry_0, kdx st]
      refine c_areTwo_y X _ _ N i j (by exact st) (by exact rt) ((thr_192 τ 0).trans (by rw [v192]; exact hN)) hi hj hij hN10 _ ?_
      simp (disch := first | decide | omega) only [mxa, vxa, vxb, vxc, vnd, vne, Nat.reduceAdd, Nat.reduceSub, Nat.reduceLeDiff, Nat.reduceLT, Int32.reduceLT, Int32.reduceLE, Int32.reduceAdd, Int32.reduceSub, Int32.reduceMul, Int32.reduceToNatClampNeg, not_false_eq_true, not_true_eq_false, false_implies, true_implies, Nat.zero_add, reduceIte, Nat.reduceMul, Nat.reduceEqDiff, nxa, nxc, lgn, nL_of, swx, Int.reduceAdd, gI_a, gI_k, gL_a, gL_k, gI_r, gL_r, nI_and, nI_or, nI_xor, nI_ndf, nI_shl, nI_shr, ne_eq, and_true, true_and, eq_self, true_or, or_true, false_or, or_false, Option.toList, List.cons_append, List.nil_append, List.length_nil, List.length_cons, Nat.not_lt_zero]
      refine wp_blk kX10_marry_17 ?_
      simp (disch := first | decide | omega) only [mxa, vxa, vxb, vxc, vnd, vne, Nat.reduceAdd, Nat.reduceSub, Nat.reduceLeDiff, Nat.reduceLT, Int32.reduceLT, Int32.reduceLE, Int32.reduceAdd, Int32.reduceSub, Int32.reduceMul, Int32.reduceToNatClampNeg, not_false_eq_true, not_true_eq_false, false_implies, true_implies, Nat.zero_add, reduceIte, Nat.reduceMul, Nat.reduceEqDiff, nxa, nxc, lgn, nL_of, swx, Int.reduceAdd, gI_a, gI_k, gL_a, gL_k, gI_r, gL_r, nI_and, nI_or, nI_xor, nI_ndf, nI_shl, nI_shr, ne_eq, and_true, true_and, eq_self, true_or, or_true, false_or, or_false, Option.toList, List.cons_append, List.nil_append, List.length_nil, List.length_cons, Nat.not_lt_zero, bX10_marry_17, kdx st]
      refine c_quarrels X _ _ i j (by exact st) (by exact rt) (by omega) (by omega) _ ?_
      rw [thr_192, v192, if_neg hq]
      simp (disch := first | decide | omega) only [mxa, vxa, vxb, vxc, vnd, vne, Nat.reduceAdd, Nat.reduceSub, Nat.reduceLeDiff, Nat.reduceLT, Int32.reduceLT, Int32.reduceLE, Int32.reduceAdd, Int32.reduceSub, Int32.reduceMul, Int32.reduceToNatClampNeg, not_false_eq_true, not_true_eq_false, false_implies, true_implies, Nat.zero_add, reduceIte, Nat.reduceMul, Nat.reduceEqDiff, nxa, nxc, lgn, nL_of, swx, Int.reduceAdd, gI_a, gI_k, gL_a, gL_k, gI_r, gL_r, nI_and, nI_or, nI_xor, nI_ndf, nI_shl, nI_shr, ne_eq, and_true, true_and, eq_self, true_or, or_true, false_or, or_false, Option.toList, List.cons_append, List.nil_append, List.length_nil, List.length_cons, Nat.not_lt_zero]
      exact h
    refine call_of eX9_marry rfl ?_
    refine wp_blk kX9_marry_0 ?_
    simp (disch := first | decide | omega) only [mxa, vxa, vxb, vxc, vnd, vne, Nat.reduceAdd, Nat.reduceSub, Nat.reduceLeDiff, Nat.reduceLT, Int32.reduceLT, Int32.reduceLE, Int32.reduceAdd, Int32.reduceSub, Int32.reduceMul, Int32.reduceToNatClampNeg, not_false_eq_true, not_true_eq_false, false_implies, true_implies, Nat.zero_add, reduceIte, Nat.reduceMul, Nat.reduceEqDiff, nxa, nxc, lgn, nL_of, swx, Int.reduceAdd, gI_a, gI_k, gL_a, gL_k, gI_r, gL_r, nI_and, nI_or, nI_xor, nI_ndf, nI_shl, nI_shr, ne_eq, and_true, true_and, eq_self, true_or, or_true, false_or, or_false, Option.toList, List.cons_append, List.nil_append, List.length_nil, List.length_cons, Nat.not_lt_zero, bX9_marry_0, kdx hs, grx hr]
    refine c_hasPair_y X _ _ 1 N i j (by simp only [mxa, kdx hs]) e0 hi hj hij hN10 _ ?_
    simp (disch := first | decide | omega) only [mxa, vxa, vxb, vxc, vnd, vne, Nat.reduceAdd, Nat.reduceSub, Nat.reduceLeDiff, Nat.reduceLT, Int32.reduceLT, Int32.reduceLE, Int32.reduceAdd, Int32.reduceSub, Int32.reduceMul, Int32.reduceToNatClampNeg, not_false_eq_true, not_true_eq_false, false_implies, true_implies, Nat.zero_add, reduceIte, Nat.reduceMul, Nat.reduceEqDiff, nxa, nxc, lgn, nL_of, swx, Int.reduceAdd, gI_a, gI_k, gL_a, gL_k, gI_r, gL_r, nI_and, nI_or, nI_xor, nI_ndf, nI_shl, nI_shr, ne_eq, and_true, true_and, eq_self, true_or, or_true, false_or, or_false, Option.toList, List.cons_append, List.nil_append, List.length_nil, List.length_cons, Nat.not_lt_zero]
    refine wp_blk kX9_marry_15 ?_
    simp (disch := first | decide | omega) only [mxa, vxa, vxb, vxc, vnd, vne, Nat.reduceAdd, Nat.reduceSub, Nat.reduceLeDiff, Nat.reduceLT, Int32.reduceLT, Int32.reduceLE, Int32.reduceAdd, Int32.reduceSub, Int32.reduceMul, Int32.reduceToNatClampNeg, not_false_eq_true, not_true_eq_false, false_implies, true_implies, Nat.zero_add, reduceIte, Nat.reduceMul, Nat.reduceEqDiff, nxa, nxc, lgn, nL_of, swx, Int.reduceAdd, gI_a, gI_k, gL_a, gL_k, gI_r, gL_r, nI_and, nI_or, nI_xor, nI_ndf, nI_shl, nI_shr, ne_eq, and_true, true_and, eq_self, true_or, or_true, false_or, or_false, Option.toList, List.cons_append, List.nil_append, List.length_nil, List.length_cons, Nat.not_lt_zero, bX9_marry_15, kdx hs, grx hr, g1, g2.1, fo, qe]
    by_cases lt : i < j
    · have hmin : imn (nI i) (nI j) = nI i := by rw [imn_nn (by omega) (by omega), if_neg (by omega)]
      have hmax : imx (nI i) (nI j) = nI j := by rw [imx_nn (by omega) (by omega), if_pos lt]
      refine wp_blk kX9_marry_37 ?_
      simp (disch := first | decide | omega) only [mxa, vxa, vxb, vxc, vnd, vne, Nat.reduceAdd, Nat.reduceSub, Nat.reduceLeDiff, Nat.reduceLT, Int32.reduceLT, Int32.reduceLE, Int32.reduceAdd, Int32.reduceSub, Int32.reduceMul, Int32.reduceToNatClampNeg, not_false_eq_true, not_true_eq_false, false_implies, true_implies, Nat.zero_add, reduceIte, Nat.reduceMul, Nat.reduceEqDiff, nxa, nxc, lgn, nL_of, swx, Int.reduceAdd, gI_a, gI_k, gL_a, gL_k, gI_r, gL_r, nI_and, nI_or, nI_xor, nI_ndf, nI_shl, nI_shr, ne_eq, and_true, true_and, eq_self, true_or, or_true, false_or, or_false, Option.toList, List.cons_append, List.nil_append, List.length_nil, List.length_cons, Nat.not_lt_zero, bX9_marry_37, kdx hs, grx hr, hmin, hmax, Nat.succ_pos]
      refine core i j lt hj hq _ (fun τ st rt t4 v192 I3 => ?_)
      simp (disch := first | decide | omega) only [mxa, vxa, vxb, vxc, vnd, vne, Nat.reduceAdd, Nat.reduceSub, Nat.reduceLeDiff, Nat.reduceLT, Int32.reduceLT, Int32.reduceLE, Int32.reduceAdd, Int32.reduceSub, Int32.reduceMul, Int32.reduceToNatClampNeg, not_false_eq_true, not_true_eq_false, false_implies, true_implies, Nat.zero_add, reduceIte, Nat.reduceMul, Nat.reduceEqDiff, nxa, nxc, lgn, nL_of, swx, Int.reduceAdd, gI_a, gI_k, gL_a, gL_k, gI_r, gL_r, nI_and, nI_or, nI_xor, nI_ndf, nI_shl, nI_shr, ne_eq, and_true, true_and, eq_self, true_or, or_true, false_or, or_false, Option.toList, List.cons_append, List.nil_append, List.length_nil, List.length_cons, Nat.not_lt_zero, kdx st, grx rt, t4]
      refine pre τ st rt v192 _ ?_
      refine wp_blk kX10_marry_29 ?_
      simp (disch := first | decide | omega) only [mxa, vxa, vxb, vxc, vnd, vne, Nat.reduceAdd, Nat.reduceSub, Nat.reduceLeDiff, Nat.reduceLT, Int32.reduceLT, Int32.reduceLE, Int32.reduceAdd, Int32.reduceSub, Int32.reduceMul, Int32.reduceToNatClampNeg, not_false_eq_true, not_true_eq_false, false_implies, true_implies, Nat.zero_add, reduceIte, Nat.reduceMul, Nat.reduceEqDiff, nxa, nxc, lgn, nL_of, swx, Int.reduceAdd, gI_a, gI_k, gL_a, gL_k, gI_r, gL_r, nI_and, nI_or, nI_xor, nI_ndf, nI_shl, nI_shr, ne_eq, and_true, true_and, eq_self, true_or, or_true, false_or, or_false, Option.toList, List.cons_append, List.nil_append, List.length_nil, List.length_cons, Nat.not_lt_zero, bX10_marry_29, show ¬ j ≤ i by omega]
      refine wp_blk kX10_marry_40 ?_
      simp (disch := first | decide | omega) only [mxa, vxa, vxb, vxc, vnd, vne, Nat.reduceAdd, Nat.reduceSub, Nat.reduceLeDiff, Nat.reduceLT, Int32.reduceLT, Int32.reduceLE, Int32.reduceAdd, Int32.reduceSub, Int32.reduceMul, Int32.reduceToNatClampNeg, not_false_eq_true, not_true_eq_false, false_implies, true_implies, Nat.zero_add, reduceIte, Nat.reduceMul, Nat.reduceEqDiff, nxa, nxc, lgn, nL_of, swx, Int.reduceAdd, gI_a, gI_k, gL_a, gL_k, gI_r, gL_r, nI_and, nI_or, nI_xor, nI_ndf, nI_shl, nI_shr, ne_eq, and_true, true_and, eq_self, true_or, or_true, false_or, or_false, Option.toList, List.cons_append, List.nil_append, List.length_nil, List.length_cons, Nat.not_lt_zero, bX10_marry_40, show ¬ j ≤ i by omega]
      exact mod i j lt hj τ st rt v192 I3
    · have lt2 : j < i := by omega
      have hmin : imn (nI i) (nI j) = nI j := by rw [imn_nn (by omega) (by omega), if_pos lt2]
      have hmax : imx (nI i) (nI j) = nI i := by rw [imx_nn (by omega) (by omega), if_neg (by omega)]
      refine wp_blk kX9_marry_37 ?_
      simp (disch := first | decide | omega) only [mxa, vxa, vxb, vxc, vnd, vne, Nat.reduceAdd, Nat.reduceSub, Nat.reduceLeDiff, Nat.reduceLT, Int32.reduceLT, Int32.reduceLE, Int32.reduceAdd, Int32.reduceSub, Int32.reduceMul, Int32.reduceToNatClampNeg, not_false_eq_true, not_true_eq_false, false_implies, true_implies, Nat.zero_add, reduceIte, Nat.reduceMul, Nat.reduceEqDiff, nxa, nxc, lgn, nL_of, swx, Int.reduceAdd, gI_a, gI_k, gL_a, gL_k, gI_r, gL_r, nI_and, nI_or, nI_xor, nI_ndf, nI_shl, nI_shr, ne_eq, and_true, true_and, eq_self, true_or, or_true, false_or, or_false, Option.toList, List.cons_append, List.nil_append, List.length_nil, List.length_cons, Nat.not_lt_zero, bX9_marry_37, kdx hs, grx hr, hmin, hmax, Nat.succ_pos]
      refine core j i lt2 hi (by rw [← sy]; exact hq) _ (fun τ st rt t4 v192 I3 => ?_)
      simp (disch := first | decide | omega) only [mxa, vxa, vxb, vxc, vnd, vne, Nat.reduceAdd, Nat.reduceSub, Nat.reduceLeDiff, Nat.reduceLT, Int32.reduceLT, Int32.reduceLE, Int32.reduceAdd, Int32.reduceSub, Int32.reduceMul, Int32.reduceToNatClampNeg, not_false_eq_true, not_true_eq_false, false_implies, true_implies, Nat.zero_add, reduceIte, Nat.reduceMul, Nat.reduceEqDiff, nxa, nxc, lgn, nL_of, swx, Int.reduceAdd, gI_a, gI_k, gL_a, gL_k, gI_r, gL_r, nI_and, nI_or, nI_xor, nI_ndf, nI_shl, nI_shr, ne_eq, and_true, true_and, eq_self, true_or, or_true, false_or, or_false, Option.toList, List.cons_append, List.nil_append, List.length_nil, List.length_cons, Nat.not_lt_zero, kdx st, grx rt, t4]
      refine pre τ st rt v192 _ ?_
      refine wp_blk kX10_marry_29 ?_
      simp (disch := first | decide | omega) only [mxa, vxa, vxb, vxc, vnd, vne, Nat.reduceAdd, Nat.reduceSub, Nat.reduceLeDiff, Nat.reduceLT, Int32.reduceLT, Int32.reduceLE, Int32.reduceAdd, Int32.reduceSub, Int32.reduceMul, Int32.reduceToNatClampNeg, not_false_eq_true, not_true_eq_false, false_implies, true_implies, Nat.zero_add, reduceIte, Nat.reduceMul, Nat.reduceEqDiff, nxa, nxc, lgn, nL_of, swx, Int.reduceAdd, gI_a, gI_k, gL_a, gL_k, gI_r, gL_r, nI_and, nI_or, nI_xor, nI_ndf, nI_shl, nI_shr, ne_eq, and_true, true_and, eq_self, true_or, or_true, false_or, or_false, Option.toList, List.cons_append, List.nil_append, List.length_nil, List.length_cons, Nat.not_lt_zero, bX10_marry_29, show j ≤ i by omega]
      refine wp_blk kX10_marry_39 ?_
      simp (disch := first | decide | omega) only [mxa, vxa, vxb, vxc, vnd, vne, Nat.reduceAdd, Nat.reduceSub, Nat.reduceLeDiff, Nat.reduceLT, Int32.reduceLT, Int32.reduceLE, Int32.reduceAdd, Int32.reduceSub, Int32.reduceMul, Int32.reduceToNatClampNeg, not_false_eq_true, not_true_eq_false, false_implies, true_implies, Nat.zero_add, reduceIte, Nat.reduceMul, Nat.reduceEqDiff, nxa, nxc, lgn, nL_of, swx, Int.reduceAdd, gI_a, gI_k, gL_a, gL_k, gI_r, gL_r, nI_and, nI_or, nI_xor, nI_ndf, nI_shl, nI_shr, ne_eq, and_true, true_and, eq_self, true_or, or_true, false_or, or_false, Option.toList, List.cons_append, List.nil_append, List.length_nil, List.length_cons, Nat.not_lt_zero, bX10_marry_39]
      refine wp_blk kX10_marry_40 ?_
      simp (disch := first | decide | omega) only [mxa, vxa, vxb, vxc, vnd, vne, Nat.reduceAdd, Nat.reduceSub, Nat.reduceLeDiff, Nat.reduceLT, Int32.reduceLT, Int32.reduceLE, Int32.reduceAdd, Int32.reduceSub, Int32.reduceMul, Int32.reduceToNatClampNeg, not_false_eq_true, not_true_eq_false, false_implies, true_implies, Nat.zero_add, reduceIte, Nat.reduceMul, Nat.reduceEqDiff, nxa, nxc, lgn, nL_of, swx, Int.reduceAdd, gI_a, gI_k, gL_a, gL_k, gI_r, gL_r, nI_and, nI_or, nI_xor, nI_ndf, nI_shl, nI_shr, ne_eq, and_true, true_and, eq_self, true_or, or_true, false_or, or_false, Option.toList, List.cons_append, List.nil_append, List.length_nil, List.length_cons, Nat.not_lt_zero, bX10_marry_40, show j ≤ i by omega]
      refine wp_blk kX10_marry_49 ?_
      simp (disch := first | decide | omega) only [mxa, vxa, vxb, vxc, vnd, vne, Nat.reduceAdd, Nat.reduceSub, Nat.reduceLeDiff, Nat.reduceLT, Int32.reduceLT, Int32.reduceLE, Int32.reduceAdd, Int32.reduceSub, Int32.reduceMul, Int32.reduceToNatClampNeg, not_false_eq_true, not_true_eq_false, false_implies, true_implies, Nat.zero_add, reduceIte, Nat.reduceMul, Nat.reduceEqDiff, nxa, nxc, lgn, nL_of, swx, Int.reduceAdd, gI_a, gI_k, gL_a, gL_k, gI_r, gL_r, nI_and, nI_or, nI_xor, nI_ndf, nI_shl, nI_shr, ne_eq, and_true, true_and, eq_self, true_or, or_true, false_or, or_false, Option.toList, List.cons_append, List.nil_append, List.length_nil, List.length_cons, Nat.not_lt_zero, bX10_marry_49]
      exact mod j i lt2 hi τ st rt v192 I3
