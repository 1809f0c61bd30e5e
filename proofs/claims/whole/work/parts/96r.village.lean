/-! village: the model's text, the pair -/
set_option maxRecDepth 20000
def FrV (σ τ : Mm) : Prop := Fr (fun c => c = 190 ∨ c = 194) σ τ
theorem m_vill (X : Cx) (d : Nat) (σ : Mm) (n : Nat) (B : Nat → Nat) (hs : Sh σ) (hr : Rf σ) (hn : n ≤ 900) (hB : ∀ i, B i < 256) (ht : ∀ i, i < n → gI σ 193 i = nI (B i)) (Q : Po) (hf : ∀ k p, rdS n B (n + 2) plV 0 = .inl (k, p) → 1 ≤ k → k ≤ 4 → ∀ τ : Mm, FrV σ τ → gI τ 190 5 = nI 0 → gI τ 190 13 = nI k → gI τ 190 14 = nI p → Q (some (.int (-30 - nI k))) τ) (hy : ∀ W N O K, rdS n B (n + 2) plV 0 = .inr W → FV W N O K → ∀ (τ : Mm) (R : Nat → Int32), FrV σ τ → gI τ 190 5 = nI 0 → gI τ 190 13 = nI 0 → gI τ 190 14 = -1 → (∀ i, i < 319 → R i = W i) → (∀ i, 319 ≤ i → R i = gI σ 191 i) → Q (some (.int (W 5))) (rI τ 191 R)) : Wp X mX10_village (rmo (d + 10) 0 0) (d + 10) Q 0 0 22 [some (.ref 190), some (.int (nI n)), none] [] σ := by
  have at76F : ∀ k p, rdS n B (n + 2) plV 0 = .inl (k, p) → 1 ≤ k → k ≤ 4 → ∀ τ : Mm, FrV σ τ → gI τ 190 5 = nI 0 → gI τ 190 11 = nI k → gI τ 190 12 = nI p → Wp X mX10_village (rmo (d + 10) 0 0) (d + 10) Q 0 0 76 [some (.ref 190), some (.int (nI n)), none] [] τ := fun k p h k1 k4 τ F t5 t11 t12 => by
    have st := F.Sh hs
    have q := hf k p h k1 k4 (sI (sI τ 190 13 (nI k)) 190 14 (nI p)) (Fr.tr F ((Fr.sI (Or.inl rfl)).tr (Fr.sI (Or.inl rfl)))) ((gI_k (by decide)).trans ((gI_k (by decide)).trans t5)) ((gI_k (by decide)).trans (gI_same _ _ _ _)) (gI_same _ _ _ _)
    refine wp_blk kX10_village_76 ?_
    simp (disch := first | decide | omega) only [mxa, vxa, vxb, vxc, vnd, vne, Nat.reduceAdd, Nat.reduceSub, Nat.reduceLeDiff, Nat.reduceLT, Int32.reduceLT, Int32.reduceLE, Int32.reduceAdd, Int32.reduceSub, Int32.reduceMul, Int32.reduceToNatClampNeg, not_false_eq_true, not_true_eq_false, false_implies, true_implies, Nat.zero_add, reduceIte, Nat.reduceMul, Nat.reduceEqDiff, nxa, nxc, lgn, nL_of, swx, Int.reduceAdd, gI_a, gI_k, gL_a, gL_k, gI_r, gL_r, nI_and, nI_or, nI_xor, nI_ndf, nI_shl, nI_shr, ne_eq, and_true, true_and, eq_self, true_or, or_true, false_or, or_false, Option.toList, List.cons_append, List.nil_append, List.length_nil, List.length_cons, Nat.not_lt_zero, bX10_village_76, kdx st, t11, show ¬ k = 0 by omega]
    refine wp_blk kX10_village_96 ?_
    simp (disch := first | decide | omega) only [mxa, vxa, vxb, vxc, vnd, vne, Nat.reduceAdd, Nat.reduceSub, Nat.reduceLeDiff, Nat.reduceLT, Int32.reduceLT, Int32.reduceLE, Int32.reduceAdd, Int32.reduceSub, Int32.reduceMul, Int32.reduceToNatClampNeg, not_false_eq_true, not_true_eq_false, false_implies, true_implies, Nat.zero_add, reduceIte, Nat.reduceMul, Nat.reduceEqDiff, nxa, nxc, lgn, nL_of, swx, Int.reduceAdd, gI_a, gI_k, gL_a, gL_k, gI_r, gL_r, nI_and, nI_or, nI_xor, nI_ndf, nI_shl, nI_shr, ne_eq, and_true, true_and, eq_self, true_or, or_true, false_or, or_false, Option.toList, List.cons_append, List.nil_append, List.length_nil, List.length_cons, Nat.not_lt_zero, bX10_village_96, kdx st, t12]
    refine wp_blk kX10_village_100 ?_
    simp (disch := first | decide | omega) only [mxa, vxa, vxb, vxc, vnd, vne, Nat.reduceAdd, Nat.reduceSub, Nat.reduceLeDiff, Nat.reduceLT, Int32.reduceLT, Int32.reduceLE, Int32.reduceAdd, Int32.reduceSub, Int32.reduceMul, Int32.reduceToNatClampNeg, not_false_eq_true, not_true_eq_false, false_implies, true_implies, Nat.zero_add, reduceIte, Nat.reduceMul, Nat.reduceEqDiff, nxa, nxc, lgn, nL_of, swx, Int.reduceAdd, gI_a, gI_k, gL_a, gL_k, gI_r, gL_r, nI_and, nI_or, nI_xor, nI_ndf, nI_shl, nI_shr, ne_eq, and_true, true_and, eq_self, true_or, or_true, false_or, or_false, Option.toList, List.cons_append, List.nil_append, List.length_nil, List.length_cons, Nat.not_lt_zero, bX10_village_100, kdx st, t11, show ¬ k = 0 by omega]
    exact q
  have at76Y : ∀ W N O K, rdS n B (n + 2) plV 0 = .inr W → FV W N O K → ∀ τ : Mm, FrV σ τ → gI τ 190 5 = nI 0 → gI τ 190 11 = nI 0 → (∀ i, i < 319 → gI τ 194 i = W i) → Wp X mX10_village (rmo (d + 10) 0 0) (d + 10) Q 0 0 76 [some (.ref 190), some (.int (nI n)), none] [] τ := fun W N O K h hF τ F t5 t11 row => by
    have st := F.Sh hs
    have rt := F.Rf hr
    refine wp_blk kX10_village_76 ?_
    simp (disch := first | decide | omega) only [mxa, vxa, vxb, vxc, vnd, vne, Nat.reduceAdd, Nat.reduceSub, Nat.reduceLeDiff, Nat.reduceLT, Int32.reduceLT, Int32.reduceLE, Int32.reduceAdd, Int32.reduceSub, Int32.reduceMul, Int32.reduceToNatClampNeg, not_false_eq_true, not_true_eq_false, false_implies, true_implies, Nat.zero_add, reduceIte, Nat.reduceMul, Nat.reduceEqDiff, nxa, nxc, lgn, nL_of, swx, Int.reduceAdd, gI_a, gI_k, gL_a, gL_k, gI_r, gL_r, nI_and, nI_or, nI_xor, nI_ndf, nI_shl, nI_shr, ne_eq, and_true, true_and, eq_self, true_or, or_true, false_or, or_false, Option.toList, List.cons_append, List.nil_append, List.length_nil, List.length_cons, Nat.not_lt_zero, bX10_village_76, kdx st, t11]
    refine wp_blk kX10_village_100 ?_
    simp (disch := first | decide | omega) only [mxa, vxa, vxb, vxc, vnd, vne, Nat.reduceAdd, Nat.reduceSub, Nat.reduceLeDiff, Nat.reduceLT, Int32.reduceLT, Int32.reduceLE, Int32.reduceAdd, Int32.reduceSub, Int32.reduceMul, Int32.reduceToNatClampNeg, not_false_eq_true, not_true_eq_false, false_implies, true_implies, Nat.zero_add, reduceIte, Nat.reduceMul, Nat.reduceEqDiff, nxa, nxc, lgn, nL_of, swx, Int.reduceAdd, gI_a, gI_k, gL_a, gL_k, gI_r, gL_r, nI_and, nI_or, nI_xor, nI_ndf, nI_shl, nI_shr, ne_eq, and_true, true_and, eq_self, true_or, or_true, false_or, or_false, Option.toList, List.cons_append, List.nil_append, List.length_nil, List.length_cons, Nat.not_lt_zero, bX10_village_100, kdx st, t11]
    refine wp_blk kX10_village_118 ?_
    simp (disch := first | decide | omega) only [mxa, vxa, vxb, vxc, vnd, vne, Nat.reduceAdd, Nat.reduceSub, Nat.reduceLeDiff, Nat.reduceLT, Int32.reduceLT, Int32.reduceLE, Int32.reduceAdd, Int32.reduceSub, Int32.reduceMul, Int32.reduceToNatClampNeg, not_false_eq_true, not_true_eq_false, false_implies, true_implies, Nat.zero_add, reduceIte, Nat.reduceMul, Nat.reduceEqDiff, nxa, nxc, lgn, nL_of, swx, Int.reduceAdd, gI_a, gI_k, gL_a, gL_k, gI_r, gL_r, nI_and, nI_or, nI_xor, nI_ndf, nI_shl, nI_shr, ne_eq, and_true, true_and, eq_self, true_or, or_true, false_or, or_false, Option.toList, List.cons_append, List.nil_append, List.length_nil, List.length_cons, Nat.not_lt_zero, bX10_village_118]
    have G : FrV σ (sI (sI τ 190 13 (nI 0)) 190 14 (-1)) := Fr.tr F ((Fr.sI (Or.inl rfl)).tr (Fr.sI (Or.inl rfl)))
    have g5 : gI (sI (sI τ 190 13 (nI 0)) 190 14 (-1)) 190 5 = nI 0 := (gI_k (by decide)).trans ((gI_k (by decide)).trans t5)
    have g13 : gI (sI (sI τ 190 13 (nI 0)) 190 14 (-1)) 190 13 = nI 0 := (gI_k (by decide)).trans (gI_same _ _ _ _)
    have g14 : gI (sI (sI τ 190 13 (nI 0)) 190 14 (-1)) 190 14 = -1 := gI_same _ _ _ _
    have grow : ∀ i, i < 319 → gI (sI (sI τ 190 13 (nI 0)) 190 14 (-1)) 194 i = W i := fun i hi => (gI_a (by decide)).trans ((gI_a (by decide)).trans (row i hi))
    generalize sI (sI τ 190 13 (nI 0)) 190 14 (-1) = μ at *
    have sm := G.Sh hs
    have rm := G.Rf hr
    have go := wfor (fun m => ∀ R : Nat → Int32, (∀ i, i < m → R i = W i) → (∀ i, 319 ≤ i → R i = gI σ 191 i) → Wp X mX10_village (rmo (d + 10) 0 0) (d + 10) Q 0 0 120 [some (.ref 190), some (.int (nI n)), some (.int (nI m))] [] (rI μ 191 R)) 319 (fun m hm hP R h1 h2 => by
      have gm := grow m hm
      refine wp_blk kX10_village_120 ?_
      simp (disch := first | decide | omega) only [mxa, vxa, vxb, vxc, vnd, vne, Nat.reduceAdd, Nat.reduceSub, Nat.reduceLeDiff, Nat.reduceLT, Int32.reduceLT, Int32.reduceLE, Int32.reduceAdd, Int32.reduceSub, Int32.reduceMul, Int32.reduceToNatClampNeg, not_false_eq_true, not_true_eq_false, false_implies, true_implies, Nat.zero_add, reduceIte, Nat.reduceMul, Nat.reduceEqDiff, nxa, nxc, lgn, nL_of, swx, Int.reduceAdd, gI_a, gI_k, gL_a, gL_k, gI_r, gL_r, nI_and, nI_or, nI_xor, nI_ndf, nI_shl, nI_shr, ne_eq, and_true, true_and, eq_self, true_or, or_true, false_or, or_false, Option.toList, List.cons_append, List.nil_append, List.length_nil, List.length_cons, Nat.not_lt_zero, bX10_village_120, kdx sm, grx rm, gm, sI_rI, show ¬ 319 ≤ m by omega]
      refine hP _ (fun i hi => ?_) (fun i hi => ?_)
      · by_cases e : i = m
        · rw [e, upd_s]
        · rw [upd_n e]; exact h1 i (by omega)
      · rw [upd_n (by omega)]; exact h2 i hi) (fun R h1 h2 => by
      have q := hy W N O K h hF μ R G g5 g13 g14 h1 h2
      have r5 : R 5 = W 5 := h1 5 (by omega)
      refine wp_blk kX10_village_120 ?_
      simp (disch := first | decide | omega) only [mxa, vxa, vxb, vxc, vnd, vne, Nat.reduceAdd, Nat.reduceSub, Nat.reduceLeDiff, Nat.reduceLT, Int32.reduceLT, Int32.reduceLE, Int32.reduceAdd, Int32.reduceSub, Int32.reduceMul, Int32.reduceToNatClampNeg, not_false_eq_true, not_true_eq_false, false_implies, true_implies, Nat.zero_add, reduceIte, Nat.reduceMul, Nat.reduceEqDiff, nxa, nxc, lgn, nL_of, swx, Int.reduceAdd, gI_a, gI_k, gL_a, gL_k, gI_r, gL_r, nI_and, nI_or, nI_xor, nI_ndf, nI_shl, nI_shr, ne_eq, and_true, true_and, eq_self, true_or, or_true, false_or, or_false, Option.toList, List.cons_append, List.nil_append, List.length_nil, List.length_cons, Nat.not_lt_zero, bX10_village_120]
      refine wp_blk kX10_village_145 ?_
      simp (disch := first | decide | omega) only [mxa, vxa, vxb, vxc, vnd, vne, Nat.reduceAdd, Nat.reduceSub, Nat.reduceLeDiff, Nat.reduceLT, Int32.reduceLT, Int32.reduceLE, Int32.reduceAdd, Int32.reduceSub, Int32.reduceMul, Int32.reduceToNatClampNeg, not_false_eq_true, not_true_eq_false, false_implies, true_implies, Nat.zero_add, reduceIte, Nat.reduceMul, Nat.reduceEqDiff, nxa, nxc, lgn, nL_of, swx, Int.reduceAdd, gI_a, gI_k, gL_a, gL_k, gI_r, gL_r, nI_and, nI_or, nI_xor, nI_ndf, nI_shl, nI_shr, ne_eq, and_true, true_and, eq_self, true_or, or_true, false_or, or_false, Option.toList, List.cons_append, List.nil_append, List.length_nil, List.length_cons, Nat.not_lt_zero, bX10_village_145, kdx sm, grx rm, r5]
      exact q)
    have := go (gI μ 191) (fun i hi => absurd hi (by omega)) (fun i _ => G.2.2.1 191 (by omega) i)
    rw [rI_self] at this
    exact this
  have loop : ∀ σ1 : Mm, FrV σ σ1 → MX σ1 n B → gI σ1 190 5 = nI 0 → ∀ f b W N O K, rdS n B f W b = rdS n B (n + 2) plV 0 → n + 2 ≤ f + b → b ≤ n → FV W N O K → ∀ τ : Mm, UMs σ1 τ n B b W → Wp X mX10_village (rmo (d + 10) 0 0) (d + 10) Q 0 0 53 [some (.ref 190), some (.int (nI n)), none] [] τ := by
    intro σ1 F1 T1 p5 f
    have hs1 := F1.Sh hs
    have hr1 := F1.Rf hr
    induction f with
    | zero => intro b W N O K _ h1 h2; omega
    | succ f ih =>
      intro b W N O K hr' hfb hbn hF τ h
      obtain ⟨F, hb, hC, h0, row⟩ := id h
      have st := F.1.Sh hs1
      have rt := F.1.Rf hr1
      obtain ⟨kl, -, -, k11⟩ := tK_le (n := n) (B := B) (b := b)
      have FX : FrV σ τ := Fr.tr F1 F.1
      have t5 : gI τ 190 5 = nI 0 := (F.2 5 (by decide) (by decide) (by decide) (by decide) (by decide) (by decide)).trans p5
      by_cases e : tK n B b = 11
      · refine wp_blk kX10_village_53 ?_
        simp (disch := first | decide | omega) only [mxa, vxa, vxb, vxc, vnd, vne, Nat.reduceAdd, Nat.reduceSub, Nat.reduceLeDiff, Nat.reduceLT, Int32.reduceLT, Int32.reduceLE, Int32.reduceAdd, Int32.reduceSub, Int32.reduceMul, Int32.reduceToNatClampNeg, not_false_eq_true, not_true_eq_false, false_implies, true_implies, Nat.zero_add, reduceIte, Nat.reduceMul, Nat.reduceEqDiff, nxa, nxc, lgn, nL_of, swx, Int.reduceAdd, gI_a, gI_k, gL_a, gL_k, gI_r, gL_r, nI_and, nI_or, nI_xor, nI_ndf, nI_shl, nI_shr, ne_eq, and_true, true_and, eq_self, true_or, or_true, false_or, or_false, Option.toList, List.cons_append, List.nil_append, List.length_nil, List.length_cons, Nat.not_lt_zero, bX10_village_53, kdx st, h0, hC.2.2.1, e]
        exact at76Y W N O K (hr'.symm.trans (rdS_e e)) hF τ FX t5 h0 row
      · obtain ⟨n0, n1, n3⟩ := hF.nums
        have pn : tP n B b < n := Classical.byContradiction (fun z => e (k11.mpr z))
        refine wp_blk kX10_village_53 ?_
        simp (disch := first | decide | omega) only [mxa, vxa, vxb, vxc, vnd, vne, Nat.reduceAdd, Nat.reduceSub, Nat.reduceLeDiff, Nat.reduceLT, Int32.reduceLT, Int32.reduceLE, Int32.reduceAdd, Int32.reduceSub, Int32.reduceMul, Int32.reduceToNatClampNeg, not_false_eq_true, not_true_eq_false, false_implies, true_implies, Nat.zero_add, reduceIte, Nat.reduceMul, Nat.reduceEqDiff, nxa, nxc, lgn, nL_of, swx, Int.reduceAdd, gI_a, gI_k, gL_a, gL_k, gI_r, gL_r, nI_and, nI_or, nI_xor, nI_ndf, nI_shl, nI_shr, ne_eq, and_true, true_and, eq_self, true_or, or_true, false_or, or_false, Option.toList, List.cons_append, List.nil_append, List.length_nil, List.length_cons, Nat.not_lt_zero, bX10_village_53, kdx st, h0, hC.2.2.1, e]
        refine c_mline X _ τ n b N O K B W st rt (T1.keepN F) hF hb hC h0 row _ (fun k p hl τ2 h2 => ?_) (fun W0 b0 hs0 h10 τ2 hb0 h2 => ?_)
        · obtain ⟨G, -, u0, u1, uk⟩ := id h2
          have s2 := G.1.Sh st
          simp (disch := first | decide | omega) only [mxa, vxa, vxb, vxc, vnd, vne, Nat.reduceAdd, Nat.reduceSub, Nat.reduceLeDiff, Nat.reduceLT, Int32.reduceLT, Int32.reduceLE, Int32.reduceAdd, Int32.reduceSub, Int32.reduceMul, Int32.reduceToNatClampNeg, not_false_eq_true, not_true_eq_false, false_implies, true_implies, Nat.zero_add, reduceIte, Nat.reduceMul, Nat.reduceEqDiff, nxa, nxc, lgn, nL_of, swx, Int.reduceAdd, gI_a, gI_k, gL_a, gL_k, gI_r, gL_r, nI_and, nI_or, nI_xor, nI_ndf, nI_shl, nI_shr, ne_eq, and_true, true_and, eq_self, true_or, or_true, false_or, or_false, Option.toList, List.cons_append, List.nil_append, List.length_nil, List.length_cons, Nat.not_lt_zero]
          refine wp_blk kX10_village_53 ?_
          simp (disch := first | decide | omega) only [mxa, vxa, vxb, vxc, vnd, vne, Nat.reduceAdd, Nat.reduceSub, Nat.reduceLeDiff, Nat.reduceLT, Int32.reduceLT, Int32.reduceLE, Int32.reduceAdd, Int32.reduceSub, Int32.reduceMul, Int32.reduceToNatClampNeg, not_false_eq_true, not_true_eq_false, false_implies, true_implies, Nat.zero_add, reduceIte, Nat.reduceMul, Nat.reduceEqDiff, nxa, nxc, lgn, nL_of, swx, Int.reduceAdd, gI_a, gI_k, gL_a, gL_k, gI_r, gL_r, nI_and, nI_or, nI_xor, nI_ndf, nI_shl, nI_shr, ne_eq, and_true, true_and, eq_self, true_or, or_true, false_or, or_false, Option.toList, List.cons_append, List.nil_append, List.length_nil, List.length_cons, Nat.not_lt_zero, bX10_village_53, kdx s2, u0, show ¬ k = 0 by omega]
          exact at76F k p (hr'.symm.trans (rdS_f e (by rw [n0, n1, n3]; exact hl))) uk.1 uk.2 τ2 (Fr.tr FX G.1) ((G.2 5 (by decide) (by decide) (by decide) (by decide) (by decide) (by decide)).trans t5) u0 u1
        · obtain ⟨N', O', K', F'⟩ := st_FV hF hs0
          have mo := stS_mo hb hs0
          have g1 := (tE_le (B := B) hb).2.2 pn
          have g2 := adv_le (B := B) hb0
          have g3 := (tP_le (B := B) hb).1
          simp (disch := first | decide | omega) only [mxa, vxa, vxb, vxc, vnd, vne, Nat.reduceAdd, Nat.reduceSub, Nat.reduceLeDiff, Nat.reduceLT, Int32.reduceLT, Int32.reduceLE, Int32.reduceAdd, Int32.reduceSub, Int32.reduceMul, Int32.reduceToNatClampNeg, not_false_eq_true, not_true_eq_false, false_implies, true_implies, Nat.zero_add, reduceIte, Nat.reduceMul, Nat.reduceEqDiff, nxa, nxc, lgn, nL_of, swx, Int.reduceAdd, gI_a, gI_k, gL_a, gL_k, gI_r, gL_r, nI_and, nI_or, nI_xor, nI_ndf, nI_shl, nI_shr, ne_eq, and_true, true_and, eq_self, true_or, or_true, false_or, or_false, Option.toList, List.cons_append, List.nil_append, List.length_nil, List.length_cons, Nat.not_lt_zero]
          refine ih (tD n B b0) _ N' O' K' ?_ (by omega) g2.2 (F'.line _) τ2 ⟨F.tr h2.1, h2.2⟩
          rw [← rdS_y e (by rw [n0, n1, n3]; exact liS_y hs0 h10)]
          exact hr'
  refine wp_blk kX10_village_22 ?_
  simp (disch := first | decide | omega) only [mxa, vxa, vxb, vxc, vnd, vne, Nat.reduceAdd, Nat.reduceSub, Nat.reduceLeDiff, Nat.reduceLT, Int32.reduceLT, Int32.reduceLE, Int32.reduceAdd, Int32.reduceSub, Int32.reduceMul, Int32.reduceToNatClampNeg, not_false_eq_true, not_true_eq_false, false_implies, true_implies, Nat.zero_add, reduceIte, Nat.reduceMul, Nat.reduceEqDiff, nxa, nxc, lgn, nL_of, swx, Int.reduceAdd, gI_a, gI_k, gL_a, gL_k, gI_r, gL_r, nI_and, nI_or, nI_xor, nI_ndf, nI_shl, nI_shr, ne_eq, and_true, true_and, eq_self, true_or, or_true, false_or, or_false, Option.toList, List.cons_append, List.nil_append, List.length_nil, List.length_cons, Nat.not_lt_zero, bX10_village_22, kdx hs, grx hr]
  refine c_plainV X _ _ (by exact hs) _ (fun R hR => ?_)
  simp (disch := first | decide | omega) only [mxa, vxa, vxb, vxc, vnd, vne, Nat.reduceAdd, Nat.reduceSub, Nat.reduceLeDiff, Nat.reduceLT, Int32.reduceLT, Int32.reduceLE, Int32.reduceAdd, Int32.reduceSub, Int32.reduceMul, Int32.reduceToNatClampNeg, not_false_eq_true, not_true_eq_false, false_implies, true_implies, Nat.zero_add, reduceIte, Nat.reduceMul, Nat.reduceEqDiff, nxa, nxc, lgn, nL_of, swx, Int.reduceAdd, gI_a, gI_k, gL_a, gL_k, gI_r, gL_r, nI_and, nI_or, nI_xor, nI_ndf, nI_shl, nI_shr, ne_eq, and_true, true_and, eq_self, true_or, or_true, false_or, or_false, Option.toList, List.cons_append, List.nil_append, List.length_nil, List.length_cons, Nat.not_lt_zero, kdx hs, grx hr]
  have m8 : gI (rI (sI (sI (sI (sI σ 190 8 (nI n)) 190 5 (nI 0)) 190 7 (nI 0)) 190 11 (nI 0)) 194 R) 190 8 = nI n := by
    rw [gI_r (by decide), gI_k (by decide), gI_k (by decide), gI_k (by decide), gI_same]
  have m5 : gI (rI (sI (sI (sI (sI σ 190 8 (nI n)) 190 5 (nI 0)) 190 7 (nI 0)) 190 11 (nI 0)) 194 R) 190 5 = nI 0 := by
    rw [gI_r (by decide), gI_k (by decide), gI_k (by decide), gI_same]
  have m7 : gI (rI (sI (sI (sI (sI σ 190 8 (nI n)) 190 5 (nI 0)) 190 7 (nI 0)) 190 11 (nI 0)) 194 R) 190 7 = nI 0 := by
    rw [gI_r (by decide), gI_k (by decide), gI_same]
  have m11 : gI (rI (sI (sI (sI (sI σ 190 8 (nI n)) 190 5 (nI 0)) 190 7 (nI 0)) 190 11 (nI 0)) 194 R) 190 11 = nI 0 := by
    rw [gI_r (by decide), gI_same]
  have mr : gI (rI (sI (sI (sI (sI σ 190 8 (nI n)) 190 5 (nI 0)) 190 7 (nI 0)) 190 11 (nI 0)) 194 R) 194 = R := gI_rS _ _ _
  have mF : FrV σ (rI (sI (sI (sI (sI σ 190 8 (nI n)) 190 5 (nI 0)) 190 7 (nI 0)) 190 11 (nI 0)) 194 R) := ((((Fr.sI (Or.inl rfl)).tr (Fr.sI (Or.inl rfl))).tr (Fr.sI (Or.inl rfl))).tr (Fr.sI (Or.inl rfl))).tr (Fr.rI (Or.inr rfl))
  generalize rI (sI (sI (sI (sI σ 190 8 (nI n)) 190 5 (nI 0)) 190 7 (nI 0)) 190 11 (nI 0)) 194 R = μ at *
  have T1 : MX μ n B := ⟨m8, hn, hB, fun i hi => (mF.2.2.1 193 (by omega) i).trans (ht i hi)⟩
  refine c_next X _ μ n 0 B (mF.Sh hs) (mF.Rf hr) T1 (Nat.zero_le _) m7 _ (fun τ2 F2 C2 => ?_)
  simp (disch := first | decide | omega) only [mxa, vxa, vxb, vxc, vnd, vne, Nat.reduceAdd, Nat.reduceSub, Nat.reduceLeDiff, Nat.reduceLT, Int32.reduceLT, Int32.reduceLE, Int32.reduceAdd, Int32.reduceSub, Int32.reduceMul, Int32.reduceToNatClampNeg, not_false_eq_true, not_true_eq_false, false_implies, true_implies, Nat.zero_add, reduceIte, Nat.reduceMul, Nat.reduceEqDiff, nxa, nxc, lgn, nL_of, swx, Int.reduceAdd, gI_a, gI_k, gL_a, gL_k, gI_r, gL_r, nI_and, nI_or, nI_xor, nI_ndf, nI_shl, nI_shr, ne_eq, and_true, true_and, eq_self, true_or, or_true, false_or, or_false, Option.toList, List.cons_append, List.nil_append, List.length_nil, List.length_cons, Nat.not_lt_zero]
  exact loop μ mF T1 m5 (n + 2) 0 plV 0 0 3 rfl (by omega) (Nat.zero_le _) pl_FV τ2 ⟨F2.N, Nat.zero_le _, C2, (F2.2 11 (by decide) (by decide) (by decide) (by decide)).trans m11, fun i hi => (F2.1.2.2.1 194 (by omega) i).trans (by rw [mr]; exact hR i hi)⟩
theorem sb_255 : ∀ k, k < 256 → sb k &&& 255 = nI k := by decide
theorem sb_ex (x : Int32) (h : x.toInt8.toInt32 = x) : ∃ k, k < 256 ∧ x = sb k := by
  have e : x.toInt = x.toInt8.toInt := by
    conv => lhs; rw [← h]
    exact Int8.toInt_toInt32 _
  have h1 := Int8.le_toInt x.toInt8
  have h2 := Int8.toInt_lt x.toInt8
  by_cases c : 0 ≤ x.toInt
  · obtain ⟨k, hk⟩ : ∃ k : Nat, x.toInt = k := ⟨x.toInt.toNat, by omega⟩
    have k128 : k < 128 := by omega
    refine ⟨k, by omega, ?_⟩
    rw [sb_lo k128]
    exact Int32.toInt_inj.mp (by rw [nI_toInt (by omega)]; exact hk)
  · obtain ⟨k, hk⟩ : ∃ k : Nat, x.toInt + 256 = k := ⟨(x.toInt + 256).toNat, by omega⟩
    have k1 : 128 ≤ k := by omega
    have k2 : k < 256 := by omega
    refine ⟨k, k2, ?_⟩
    unfold sb
    rw [if_neg (by omega)]
    refine Int32.toInt_inj.mp ?_
    rw [Int32.toInt_sub, nI_toInt (by omega), nI_toInt (by omega), Int.bmod_eq_of_le (by omega) (by omega)]
    omega
