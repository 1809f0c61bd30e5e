/-! the other lines, the text: the model -/
set_option maxRecDepth 20000
theorem c_moven (X : Cx) (d : Nat) (σ : Mm) (n b O : Nat) (B : Nat → Nat) (W : Nat → Int32) (hs : Sh σ) (hr : Rf σ) (hT : MX σ n B) (hO3 : O ≤ 3) (hb : b ≤ n) (hC : MT σ n B b) (h0 : gI σ 190 11 = nI 0) (hW : ∀ i, i < 319 → gI σ 194 i = W i) (w1 : W 1 = nI O) (Q : Po) (hf : ∀ k p, ovS n B W O b = .inl (k, p) → ∀ τ : Mm, FMs σ τ n B k p → Q none τ) (hy : ∀ W' b', ovS n B W O b = .inr (W', b') → ∀ τ : Mm, UMs σ τ n B b' W' → Q none τ) : Call X (d + 8) 0 0 mX10_readOven [.ref 190] σ Q := by
  have q2 := (tE_le (B := B) hb).2.1
  have b2n := (tE_le (B := B) q2).2.1
  have e1 : gI σ 194 1 = nI O := (hW 1 (by omega)).trans w1
  unfold ovS at hf hy
  by_cases O3 : O = 3
  · rw [if_pos O3] at hf
    have fl := fT_le (n := n) (b := b) (k := 4) (B := B) (by omega) (by omega)
    have q := hf _ _ rfl _ (FM_new FrN.rf hb hC fl)
    refine call_of eX10_readOven rfl ?_
    refine wp_blk kX10_readOven_0 ?_
    simp (disch := first | decide | omega) only [mxa, vxa, vxb, vxc, vnd, vne, Nat.reduceAdd, Nat.reduceSub, Nat.reduceLeDiff, Nat.reduceLT, Int32.reduceLT, Int32.reduceLE, Int32.reduceAdd, Int32.reduceSub, Int32.reduceMul, Int32.reduceToNatClampNeg, not_false_eq_true, not_true_eq_false, false_implies, true_implies, Nat.zero_add, reduceIte, Nat.reduceMul, Nat.reduceEqDiff, nxa, nxc, lgn, nL_of, swx, Int.reduceAdd, gI_a, gI_k, gL_a, gL_k, gI_r, gL_r, nI_and, nI_or, nI_xor, nI_ndf, nI_shl, nI_shr, ne_eq, and_true, true_and, eq_self, true_or, or_true, false_or, or_false, Option.toList, List.cons_append, List.nil_append, List.length_nil, List.length_cons, Nat.not_lt_zero, bX10_readOven_0, kdx hs, grx hr, e1, O3]
    refine c_failsY X _ σ n b 4 B hs hC h0 (by omega) _ ?_
    simp (disch := first | decide | omega) only [mxa, vxa, vxb, vxc, vnd, vne, Nat.reduceAdd, Nat.reduceSub, Nat.reduceLeDiff, Nat.reduceLT, Int32.reduceLT, Int32.reduceLE, Int32.reduceAdd, Int32.reduceSub, Int32.reduceMul, Int32.reduceToNatClampNeg, not_false_eq_true, not_true_eq_false, false_implies, true_implies, Nat.zero_add, reduceIte, Nat.reduceMul, Nat.reduceEqDiff, nxa, nxc, lgn, nL_of, swx, Int.reduceAdd, gI_a, gI_k, gL_a, gL_k, gI_r, gL_r, nI_and, nI_or, nI_xor, nI_ndf, nI_shl, nI_shr, ne_eq, and_true, true_and, eq_self, true_or, or_true, false_or, or_false, Option.toList, List.cons_append, List.nil_append, List.length_nil, List.length_cons, Nat.not_lt_zero]
    refine wp_blk kX10_readOven_17 ?_
    simp (disch := first | decide | omega) only [mxa, vxa, vxb, vxc, vnd, vne, Nat.reduceAdd, Nat.reduceSub, Nat.reduceLeDiff, Nat.reduceLT, Int32.reduceLT, Int32.reduceLE, Int32.reduceAdd, Int32.reduceSub, Int32.reduceMul, Int32.reduceToNatClampNeg, not_false_eq_true, not_true_eq_false, false_implies, true_implies, Nat.zero_add, reduceIte, Nat.reduceMul, Nat.reduceEqDiff, nxa, nxc, lgn, nL_of, swx, Int.reduceAdd, gI_a, gI_k, gL_a, gL_k, gI_r, gL_r, nI_and, nI_or, nI_xor, nI_ndf, nI_shl, nI_shr, ne_eq, and_true, true_and, eq_self, true_or, or_true, false_or, or_false, Option.toList, List.cons_append, List.nil_append, List.length_nil, List.length_cons, Nat.not_lt_zero, bX10_readOven_17, kdx hs, grx hr, show ¬ fT n B b 4 = 0 by omega]
    exact q
  · rw [if_neg O3] at hf hy
    refine call_of eX10_readOven rfl ?_
    refine wp_blk kX10_readOven_0 ?_
    simp (disch := first | decide | omega) only [mxa, vxa, vxb, vxc, vnd, vne, Nat.reduceAdd, Nat.reduceSub, Nat.reduceLeDiff, Nat.reduceLT, Int32.reduceLT, Int32.reduceLE, Int32.reduceAdd, Int32.reduceSub, Int32.reduceMul, Int32.reduceToNatClampNeg, not_false_eq_true, not_true_eq_false, false_implies, true_implies, Nat.zero_add, reduceIte, Nat.reduceMul, Nat.reduceEqDiff, nxa, nxc, lgn, nL_of, swx, Int.reduceAdd, gI_a, gI_k, gL_a, gL_k, gI_r, gL_r, nI_and, nI_or, nI_xor, nI_ndf, nI_shl, nI_shr, ne_eq, and_true, true_and, eq_self, true_or, or_true, false_or, or_false, Option.toList, List.cons_append, List.nil_append, List.length_nil, List.length_cons, Nat.not_lt_zero, bX10_readOven_0, kdx hs, grx hr, e1, O3]
    refine wp_blk kX10_readOven_17 ?_
    simp (disch := first | decide | omega) only [mxa, vxa, vxb, vxc, vnd, vne, Nat.reduceAdd, Nat.reduceSub, Nat.reduceLeDiff, Nat.reduceLT, Int32.reduceLT, Int32.reduceLE, Int32.reduceAdd, Int32.reduceSub, Int32.reduceMul, Int32.reduceToNatClampNeg, not_false_eq_true, not_true_eq_false, false_implies, true_implies, Nat.zero_add, reduceIte, Nat.reduceMul, Nat.reduceEqDiff, nxa, nxc, lgn, nL_of, swx, Int.reduceAdd, gI_a, gI_k, gL_a, gL_k, gI_r, gL_r, nI_and, nI_or, nI_xor, nI_ndf, nI_shl, nI_shr, ne_eq, and_true, true_and, eq_self, true_or, or_true, false_or, or_false, Option.toList, List.cons_append, List.nil_append, List.length_nil, List.length_cons, Nat.not_lt_zero, bX10_readOven_17, kdx hs, grx hr, h0]
    refine wp_blk kX10_readOven_25 ?_
    simp (disch := first | decide | omega) only [mxa, vxa, vxb, vxc, vnd, vne, Nat.reduceAdd, Nat.reduceSub, Nat.reduceLeDiff, Nat.reduceLT, Int32.reduceLT, Int32.reduceLE, Int32.reduceAdd, Int32.reduceSub, Int32.reduceMul, Int32.reduceToNatClampNeg, not_false_eq_true, not_true_eq_false, false_implies, true_implies, Nat.zero_add, reduceIte, Nat.reduceMul, Nat.reduceEqDiff, nxa, nxc, lgn, nL_of, swx, Int.reduceAdd, gI_a, gI_k, gL_a, gL_k, gI_r, gL_r, nI_and, nI_or, nI_xor, nI_ndf, nI_shl, nI_shr, ne_eq, and_true, true_and, eq_self, true_or, or_true, false_or, or_false, Option.toList, List.cons_append, List.nil_append, List.length_nil, List.length_cons, Nat.not_lt_zero, bX10_readOven_25, kdx hs, grx hr]
    refine c_next X _ σ n (tD n B b) B hs hr hT q2 hC.2.1 _ (fun τ2 F2 C2 => ?_)
    have F := F2.N
    have st := F.1.Sh hs
    have rt := F.1.Rf hr
    have u0 : gI τ2 190 11 = nI 0 := (F2.2 11 (by decide) (by decide) (by decide) (by decide)).trans h0
    have u1 : gI τ2 194 1 = nI O := (F2.1.2.2.1 194 (by omega) 1).trans e1
    simp (disch := first | decide | omega) only [mxa, vxa, vxb, vxc, vnd, vne, Nat.reduceAdd, Nat.reduceSub, Nat.reduceLeDiff, Nat.reduceLT, Int32.reduceLT, Int32.reduceLE, Int32.reduceAdd, Int32.reduceSub, Int32.reduceMul, Int32.reduceToNatClampNeg, not_false_eq_true, not_true_eq_false, false_implies, true_implies, Nat.zero_add, reduceIte, Nat.reduceMul, Nat.reduceEqDiff, nxa, nxc, lgn, nL_of, swx, Int.reduceAdd, gI_a, gI_k, gL_a, gL_k, gI_r, gL_r, nI_and, nI_or, nI_xor, nI_ndf, nI_shl, nI_shr, ne_eq, and_true, true_and, eq_self, true_or, or_true, false_or, or_false, Option.toList, List.cons_append, List.nil_append, List.length_nil, List.length_cons, Nat.not_lt_zero, kdx st, grx rt]
    refine c_takesY X _ τ2 n (tD n B b) 1 61 (nI 60) B st rt (hT.keepN F) q2 C2 u0 (by omega) (wi_le (by omega) (by omega)) _ (fun ok τ4 F4 C4 => ?_) (fun nok x => ?_)
    · rw [if_pos ok] at hy
      have G := F.tr F4.N
      have s4 := G.1.Sh hs
      have r4 := G.1.Rf hr
      have v0 : gI τ4 190 11 = nI 0 := (F4.2 11 (by decide) (by decide) (by decide) (by decide)).trans u0
      have v1 : gI τ4 194 1 = nI O := (F4.1.2.2.1 194 (by omega) 1).trans u1
      have q := hy _ _ rfl (sI (sI τ4 194 (6 + O) (nI (vN n B (tD n B b)))) 194 1 (nI (O + 1))) ⟨(G.tr FrN.put).tr FrN.put, b2n, C4.mv (fun j _ => (gI_a (by decide)).trans (gI_a (by decide))), (gI_a (by decide)).trans ((gI_a (by decide)).trans v0), fun i hi => by
        by_cases z : i = 1
        · rw [z, gI_same, upd_s]
        · rw [gI_k z, upd_n z]
          by_cases y : i = 6 + O
          · rw [y, gI_same, upd_s]
          · rw [gI_k y, upd_n y, F4.1.2.2.1 194 (by omega), F2.1.2.2.1 194 (by omega)]; exact hW i hi⟩
      simp (disch := first | decide | omega) only [mxa, vxa, vxb, vxc, vnd, vne, Nat.reduceAdd, Nat.reduceSub, Nat.reduceLeDiff, Nat.reduceLT, Int32.reduceLT, Int32.reduceLE, Int32.reduceAdd, Int32.reduceSub, Int32.reduceMul, Int32.reduceToNatClampNeg, not_false_eq_true, not_true_eq_false, false_implies, true_implies, Nat.zero_add, reduceIte, Nat.reduceMul, Nat.reduceEqDiff, nxa, nxc, lgn, nL_of, swx, Int.reduceAdd, gI_a, gI_k, gL_a, gL_k, gI_r, gL_r, nI_and, nI_or, nI_xor, nI_ndf, nI_shl, nI_shr, ne_eq, and_true, true_and, eq_self, true_or, or_true, false_or, or_false, Option.toList, List.cons_append, List.nil_append, List.length_nil, List.length_cons, Nat.not_lt_zero, kdx s4, grx r4, v0, v1]
      refine wp_blk kX10_readOven_62 ?_
      simp (disch := first | decide | omega) only [mxa, vxa, vxb, vxc, vnd, vne, Nat.reduceAdd, Nat.reduceSub, Nat.reduceLeDiff, Nat.reduceLT, Int32.reduceLT, Int32.reduceLE, Int32.reduceAdd, Int32.reduceSub, Int32.reduceMul, Int32.reduceToNatClampNeg, not_false_eq_true, not_true_eq_false, false_implies, true_implies, Nat.zero_add, reduceIte, Nat.reduceMul, Nat.reduceEqDiff, nxa, nxc, lgn, nL_of, swx, Int.reduceAdd, gI_a, gI_k, gL_a, gL_k, gI_r, gL_r, nI_and, nI_or, nI_xor, nI_ndf, nI_shl, nI_shr, ne_eq, and_true, true_and, eq_self, true_or, or_true, false_or, or_false, Option.toList, List.cons_append, List.nil_append, List.length_nil, List.length_cons, Nat.not_lt_zero, bX10_readOven_62]
      exact q
    · rw [if_neg nok] at hf
      have nl := nF_le n B (tD n B b)
      have q := hf _ _ rfl _ ((FM_new F q2 C2 nl).put (i := 6 + O) (x := x))
      simp (disch := first | decide | omega) only [mxa, vxa, vxb, vxc, vnd, vne, Nat.reduceAdd, Nat.reduceSub, Nat.reduceLeDiff, Nat.reduceLT, Int32.reduceLT, Int32.reduceLE, Int32.reduceAdd, Int32.reduceSub, Int32.reduceMul, Int32.reduceToNatClampNeg, not_false_eq_true, not_true_eq_false, false_implies, true_implies, Nat.zero_add, reduceIte, Nat.reduceMul, Nat.reduceEqDiff, nxa, nxc, lgn, nL_of, swx, Int.reduceAdd, gI_a, gI_k, gL_a, gL_k, gI_r, gL_r, nI_and, nI_or, nI_xor, nI_ndf, nI_shl, nI_shr, ne_eq, and_true, true_and, eq_self, true_or, or_true, false_or, or_false, Option.toList, List.cons_append, List.nil_append, List.length_nil, List.length_cons, Nat.not_lt_zero, kdx st, grx rt, show ¬ nFt n B (tD n B b) = 0 by omega]
      refine wp_blk kX10_readOven_62 ?_
      simp (disch := first | decide | omega) only [mxa, vxa, vxb, vxc, vnd, vne, Nat.reduceAdd, Nat.reduceSub, Nat.reduceLeDiff, Nat.reduceLT, Int32.reduceLT, Int32.reduceLE, Int32.reduceAdd, Int32.reduceSub, Int32.reduceMul, Int32.reduceToNatClampNeg, not_false_eq_true, not_true_eq_false, false_implies, true_implies, Nat.zero_add, reduceIte, Nat.reduceMul, Nat.reduceEqDiff, nxa, nxc, lgn, nL_of, swx, Int.reduceAdd, gI_a, gI_k, gL_a, gL_k, gI_r, gL_r, nI_and, nI_or, nI_xor, nI_ndf, nI_shl, nI_shr, ne_eq, and_true, true_and, eq_self, true_or, or_true, false_or, or_false, Option.toList, List.cons_append, List.nil_append, List.length_nil, List.length_cons, Nat.not_lt_zero, bX10_readOven_62]
      exact q
theorem c_mquar (X : Cx) (d : Nat) (σ : Mm) (n b N : Nat) (B : Nat → Nat) (W : Nat → Int32) (hs : Sh σ) (hr : Rf σ) (hT : MX σ n B) (hN10 : N ≤ 10) (hb : b ≤ n) (hC : MT σ n B (tD n B b)) (h0 : gI σ 190 11 = nI 0) (hW : ∀ i, i < 319 → gI σ 194 i = W i) (w0 : W 0 = nI N) (Q : Po) (hf : ∀ k p, quS n B W N b = .inl (k, p) → ∀ τ : Mm, FMs σ τ n B k p → Q none τ) (hy : ∀ W' b', quS n B W N b = .inr (W', b') → ∀ τ : Mm, UMs σ τ n B b' W' → Q none τ) : Call X (d + 8) 0 0 mX10_readQuarrel [.ref 190] σ Q := by
  have q2 := (tE_le (B := B) hb).2.1
  have b2n := (tE_le (B := B) q2).2.1
  have b3n := (tE_le (B := B) b2n).2.1
  have e0 : gI σ 194 0 = nI N := (hW 0 (by omega)).trans w0
  have t36 : ∀ k p (x : Int32), (∀ τ : Mm, FMs σ τ n B k p → Q none τ) → ∀ τ : Mm, FMs σ τ n B k p → gI τ 194 0 = nI N → Wp X mX10_readQuarrel (rmo (d + 8) 0 0) (d + 8) Q 0 0 36 [some (.ref 190), some (.int x), none] [] τ := fun k p x q τ h u => by
    have st := h.1.1.Sh hs
    have rt := h.1.1.Rf hr
    have hk := h.2.2.2.2
    have q' := q τ h
    refine wp_blk kX10_readQuarrel_36 ?_
    simp (disch := first | decide | omega) only [mxa, vxa, vxb, vxc, vnd, vne, Nat.reduceAdd, Nat.reduceSub, Nat.reduceLeDiff, Nat.reduceLT, Int32.reduceLT, Int32.reduceLE, Int32.reduceAdd, Int32.reduceSub, Int32.reduceMul, Int32.reduceToNatClampNeg, not_false_eq_true, not_true_eq_false, false_implies, true_implies, Nat.zero_add, reduceIte, Nat.reduceMul, Nat.reduceEqDiff, nxa, nxc, lgn, nL_of, swx, Int.reduceAdd, gI_a, gI_k, gL_a, gL_k, gI_r, gL_r, nI_and, nI_or, nI_xor, nI_ndf, nI_shl, nI_shr, ne_eq, and_true, true_and, eq_self, true_or, or_true, false_or, or_false, Option.toList, List.cons_append, List.nil_append, List.length_nil, List.length_cons, Nat.not_lt_zero, bX10_readQuarrel_36, kdx st, grx rt, u]
    refine c_takesF X _ τ k _ _ st h.2.2.1 hk _ (fun y => ?_)
    simp (disch := first | decide | omega) only [mxa, vxa, vxb, vxc, vnd, vne, Nat.reduceAdd, Nat.reduceSub, Nat.reduceLeDiff, Nat.reduceLT, Int32.reduceLT, Int32.reduceLE, Int32.reduceAdd, Int32.reduceSub, Int32.reduceMul, Int32.reduceToNatClampNeg, not_false_eq_true, not_true_eq_false, false_implies, true_implies, Nat.zero_add, reduceIte, Nat.reduceMul, Nat.reduceEqDiff, nxa, nxc, lgn, nL_of, swx, Int.reduceAdd, gI_a, gI_k, gL_a, gL_k, gI_r, gL_r, nI_and, nI_or, nI_xor, nI_ndf, nI_shl, nI_shr, ne_eq, and_true, true_and, eq_self, true_or, or_true, false_or, or_false, Option.toList, List.cons_append, List.nil_append, List.length_nil, List.length_cons, Nat.not_lt_zero, kdx st, h.2.2.1, show ¬ k = 0 by omega]
    refine wp_blk kX10_readQuarrel_69 ?_
    simp (disch := first | decide | omega) only [mxa, vxa, vxb, vxc, vnd, vne, Nat.reduceAdd, Nat.reduceSub, Nat.reduceLeDiff, Nat.reduceLT, Int32.reduceLT, Int32.reduceLE, Int32.reduceAdd, Int32.reduceSub, Int32.reduceMul, Int32.reduceToNatClampNeg, not_false_eq_true, not_true_eq_false, false_implies, true_implies, Nat.zero_add, reduceIte, Nat.reduceMul, Nat.reduceEqDiff, nxa, nxc, lgn, nL_of, swx, Int.reduceAdd, gI_a, gI_k, gL_a, gL_k, gI_r, gL_r, nI_and, nI_or, nI_xor, nI_ndf, nI_shl, nI_shr, ne_eq, and_true, true_and, eq_self, true_or, or_true, false_or, or_false, Option.toList, List.cons_append, List.nil_append, List.length_nil, List.length_cons, Nat.not_lt_zero, bX10_readQuarrel_69]
    exact q'
  unfold quS at hf hy
  refine call_of eX10_readQuarrel rfl ?_
  refine wp_blk kX10_readQuarrel_0 ?_
  simp (disch := first | decide | omega) only [mxa, vxa, vxb, vxc, vnd, vne, Nat.reduceAdd, Nat.reduceSub, Nat.reduceLeDiff, Nat.reduceLT, Int32.reduceLT, Int32.reduceLE, Int32.reduceAdd, Int32.reduceSub, Int32.reduceMul, Int32.reduceToNatClampNeg, not_false_eq_true, not_true_eq_false, false_implies, true_implies, Nat.zero_add, reduceIte, Nat.reduceMul, Nat.reduceEqDiff, nxa, nxc, lgn, nL_of, swx, Int.reduceAdd, gI_a, gI_k, gL_a, gL_k, gI_r, gL_r, nI_and, nI_or, nI_xor, nI_ndf, nI_shl, nI_shr, ne_eq, and_true, true_and, eq_self, true_or, or_true, false_or, or_false, Option.toList, List.cons_append, List.nil_append, List.length_nil, List.length_cons, Nat.not_lt_zero, bX10_readQuarrel_0, kdx hs, grx hr, e0]
  refine c_takesY X _ σ n (tD n B b) 0 N _ B hs hr hT q2 hC h0 (by omega) (wi_N1 hN10) _ (fun ok τ4 F4 C4 => ?_) (fun nok x => ?_)
  · rw [if_pos ok] at hf hy
    have G := F4.N
    have s4 := G.1.Sh hs
    have r4 := G.1.Rf hr
    have v0 : gI τ4 190 11 = nI 0 := (F4.2 11 (by decide) (by decide) (by decide) (by decide)).trans h0
    have vN' : gI τ4 194 0 = nI N := (F4.1.2.2.1 194 (by omega) 0).trans e0
    have v1 := ok.2.2
    obtain ⟨kl, -, k9, -⟩ := tK_le (n := n) (B := B) (b := tD n B (tD n B b))
    have at36 : ¬ (tK n B (tD n B (tD n B b)) = 9 ∧ vN n B (tD n B (tD n B b)) = vN n B (tD n B b)) → Wp X mX10_readQuarrel (rmo (d + 8) 0 0) (d + 8) Q 0 0 36 [some (.ref 190), some (.int (nI (vN n B (tD n B b)))), none] [] τ4 := fun same => by
      rw [if_neg same] at hf hy
      refine wp_blk kX10_readQuarrel_36 ?_
      simp (disch := first | decide | omega) only [mxa, vxa, vxb, vxc, vnd, vne, Nat.reduceAdd, Nat.reduceSub, Nat.reduceLeDiff, Nat.reduceLT, Int32.reduceLT, Int32.reduceLE, Int32.reduceAdd, Int32.reduceSub, Int32.reduceMul, Int32.reduceToNatClampNeg, not_false_eq_true, not_true_eq_false, false_implies, true_implies, Nat.zero_add, reduceIte, Nat.reduceMul, Nat.reduceEqDiff, nxa, nxc, lgn, nL_of, swx, Int.reduceAdd, gI_a, gI_k, gL_a, gL_k, gI_r, gL_r, nI_and, nI_or, nI_xor, nI_ndf, nI_shl, nI_shr, ne_eq, and_true, true_and, eq_self, true_or, or_true, false_or, or_false, Option.toList, List.cons_append, List.nil_append, List.length_nil, List.length_cons, Nat.not_lt_zero, bX10_readQuarrel_36, kdx s4, grx r4, vN']
      refine c_takesY X _ τ4 n (tD n B (tD n B b)) 0 N _ B s4 r4 (hT.keepN G) b2n C4 v0 (by omega) (fun v hv => by
        have := wi_le (lo := 0) (h := N - 1) (by omega) (by omega) v hv
        rw [show N - 1 + 1 = N by omega] at this
        exact this) _ (fun ok2 τ6 F6 C6 => ?_) (fun nok x => ?_)
      · rw [if_pos ok2] at hy
        have G6 := G.tr F6.N
        have s6 := G6.1.Sh hs
        have r6 := G6.1.Rf hr
        have x0 : gI τ6 190 11 = nI 0 := (F6.2 11 (by decide) (by decide) (by decide) (by decide)).trans v0
        have v2 := ok2.2.2
        have ne : vN n B (tD n B b) ≠ vN n B (tD n B (tD n B b)) := fun z => same ⟨ok2.1, z.symm⟩
        have q := hy _ _ rfl (sI (sI τ6 194 (119 + 10 * vN n B (tD n B b) + vN n B (tD n B (tD n B b))) (nI 1)) 194 (119 + 10 * vN n B (tD n B (tD n B b)) + vN n B (tD n B b)) (nI 1)) ⟨(G6.tr FrN.put).tr FrN.put, b3n, C6.mv (fun j _ => (gI_a (by decide)).trans (gI_a (by decide))), (gI_a (by decide)).trans ((gI_a (by decide)).trans x0), fun i hi => by
          by_cases z : i = 119 + 10 * vN n B (tD n B (tD n B b)) + vN n B (tD n B b)
          · rw [z, gI_same, upd_s]
          · rw [gI_k z, upd_n z]
            by_cases y : i = 119 + 10 * vN n B (tD n B b) + vN n B (tD n B (tD n B b))
            · rw [y, gI_same, upd_s]
            · rw [gI_k y, upd_n y, F6.1.2.2.1 194 (by omega), F4.1.2.2.1 194 (by omega)]; exact hW i hi⟩
        generalize vN n B (tD n B b) = f at *
        generalize vN n B (tD n B (tD n B b)) = g at *
        simp (disch := first | decide | omega) only [mxa, vxa, vxb, vxc, vnd, vne, Nat.reduceAdd, Nat.reduceSub, Nat.reduceLeDiff, Nat.reduceLT, Int32.reduceLT, Int32.reduceLE, Int32.reduceAdd, Int32.reduceSub, Int32.reduceMul, Int32.reduceToNatClampNeg, not_false_eq_true, not_true_eq_false, false_implies, true_implies, Nat.zero_add, reduceIte, Nat.reduceMul, Nat.reduceEqDiff, nxa, nxc, lgn, nL_of, swx, Int.reduceAdd, gI_a, gI_k, gL_a, gL_k, gI_r, gL_r, nI_and, nI_or, nI_xor, nI_ndf, nI_shl, nI_shr, ne_eq, and_true, true_and, eq_self, true_or, or_true, false_or, or_false, Option.toList, List.cons_append, List.nil_append, List.length_nil, List.length_cons, Nat.not_lt_zero, kdx s6, grx r6, x0]
        refine c_sets X _ _ 194 319 f g (nI 1) (by simp only [mxa, kdx s6]) (by omega) 119 (by omega) (by omega) (by omega) _ ?_
        simp (disch := first | decide | omega) only [mxa, vxa, vxb, vxc, vnd, vne, Nat.reduceAdd, Nat.reduceSub, Nat.reduceLeDiff, Nat.reduceLT, Int32.reduceLT, Int32.reduceLE, Int32.reduceAdd, Int32.reduceSub, Int32.reduceMul, Int32.reduceToNatClampNeg, not_false_eq_true, not_true_eq_false, false_implies, true_implies, Nat.zero_add, reduceIte, Nat.reduceMul, Nat.reduceEqDiff, nxa, nxc, lgn, nL_of, swx, Int.reduceAdd, gI_a, gI_k, gL_a, gL_k, gI_r, gL_r, nI_and, nI_or, nI_xor, nI_ndf, nI_shl, nI_shr, ne_eq, and_true, true_and, eq_self, true_or, or_true, false_or, or_false, Option.toList, List.cons_append, List.nil_append, List.length_nil, List.length_cons, Nat.not_lt_zero]
        refine wp_blk kX10_readQuarrel_69 ?_
        simp (disch := first | decide | omega) only [mxa, vxa, vxb, vxc, vnd, vne, Nat.reduceAdd, Nat.reduceSub, Nat.reduceLeDiff, Nat.reduceLT, Int32.reduceLT, Int32.reduceLE, Int32.reduceAdd, Int32.reduceSub, Int32.reduceMul, Int32.reduceToNatClampNeg, not_false_eq_true, not_true_eq_false, false_implies, true_implies, Nat.zero_add, reduceIte, Nat.reduceMul, Nat.reduceEqDiff, nxa, nxc, lgn, nL_of, swx, Int.reduceAdd, gI_a, gI_k, gL_a, gL_k, gI_r, gL_r, nI_and, nI_or, nI_xor, nI_ndf, nI_shl, nI_shr, ne_eq, and_true, true_and, eq_self, true_or, or_true, false_or, or_false, Option.toList, List.cons_append, List.nil_append, List.length_nil, List.length_cons, Nat.not_lt_zero, bX10_readQuarrel_69]
        exact q
      · rw [if_neg nok] at hf
        have nl := nF_le n B (tD n B (tD n B b))
        have q := hf _ _ rfl _ (FM_new G b2n C4 nl)
        simp (disch := first | decide | omega) only [mxa, vxa, vxb, vxc, vnd, vne, Nat.reduceAdd, Nat.reduceSub, Nat.reduceLeDiff, Nat.reduceLT, Int32.reduceLT, Int32.reduceLE, Int32.reduceAdd, Int32.reduceSub, Int32.reduceMul, Int32.reduceToNatClampNeg, not_false_eq_true, not_true_eq_false, false_implies, true_implies, Nat.zero_add, reduceIte, Nat.reduceMul, Nat.reduceEqDiff, nxa, nxc, lgn, nL_of, swx, Int.reduceAdd, gI_a, gI_k, gL_a, gL_k, gI_r, gL_r, nI_and, nI_or, nI_xor, nI_ndf, nI_shl, nI_shr, ne_eq, and_true, true_and, eq_self, true_or, or_true, false_or, or_false, Option.toList, List.cons_append, List.nil_append, List.length_nil, List.length_cons, Nat.not_lt_zero, kdx s4, show ¬ nFt n B (tD n B (tD n B b)) = 0 by omega]
        refine wp_blk kX10_readQuarrel_69 ?_
        simp (disch := first | decide | omega) only [mxa, vxa, vxb, vxc, vnd, vne, Nat.reduceAdd, Nat.reduceSub, Nat.reduceLeDiff, Nat.reduceLT, Int32.reduceLT, Int32.reduceLE, Int32.reduceAdd, Int32.reduceSub, Int32.reduceMul, Int32.reduceToNatClampNeg, not_false_eq_true, not_true_eq_false, false_implies, true_implies, Nat.zero_add, reduceIte, Nat.reduceMul, Nat.reduceEqDiff, nxa, nxc, lgn, nL_of, swx, Int.reduceAdd, gI_a, gI_k, gL_a, gL_k, gI_r, gL_r, nI_and, nI_or, nI_xor, nI_ndf, nI_shl, nI_shr, ne_eq, and_true, true_and, eq_self, true_or, or_true, false_or, or_false, Option.toList, List.cons_append, List.nil_append, List.length_nil, List.length_cons, Nat.not_lt_zero, bX10_readQuarrel_69]
        exact q
    simp (disch := first | decide | omega) only [mxa, vxa, vxb, vxc, vnd, vne, Nat.reduceAdd, Nat.reduceSub, Nat.reduceLeDiff, Nat.reduceLT, Int32.reduceLT, Int32.reduceLE, Int32.reduceAdd, Int32.reduceSub, Int32.reduceMul, Int32.reduceToNatClampNeg, not_false_eq_true, not_true_eq_false, false_implies, true_implies, Nat.zero_add, reduceIte, Nat.reduceMul, Nat.reduceEqDiff, nxa, nxc, lgn, nL_of, swx, Int.reduceAdd, gI_a, gI_k, gL_a, gL_k, gI_r, gL_r, nI_and, nI_or, nI_xor, nI_ndf, nI_shl, nI_shr, ne_eq, and_true, true_and, eq_self, true_or, or_true, false_or, or_false, Option.toList, List.cons_append, List.nil_append, List.length_nil, List.length_cons, Nat.not_lt_zero, kdx s4]
    refine c_isY X _ τ4 n (tD n B (tD n B b)) 9 B s4 C4 v0 (by omega) _ (fun h9 => ?_) (fun h9 => ?_)
    · have v10 := C4.2.2.2 h9
      have vl := vN_le b2n (k9 h9).1
      by_cases e : vN n B (tD n B (tD n B b)) = vN n B (tD n B b)
      · rw [if_pos ⟨h9, e⟩] at hf
        have f3 : fT n B (tD n B (tD n B b)) 3 = 3 := by unfold fT; rw [if_neg (by omega)]
        simp (disch := first | decide | omega) only [mxa, vxa, vxb, vxc, vnd, vne, Nat.reduceAdd, Nat.reduceSub, Nat.reduceLeDiff, Nat.reduceLT, Int32.reduceLT, Int32.reduceLE, Int32.reduceAdd, Int32.reduceSub, Int32.reduceMul, Int32.reduceToNatClampNeg, not_false_eq_true, not_true_eq_false, false_implies, true_implies, Nat.zero_add, reduceIte, Nat.reduceMul, Nat.reduceEqDiff, nxa, nxc, lgn, nL_of, swx, Int.reduceAdd, gI_a, gI_k, gL_a, gL_k, gI_r, gL_r, nI_and, nI_or, nI_xor, nI_ndf, nI_shl, nI_shr, ne_eq, and_true, true_and, eq_self, true_or, or_true, false_or, or_false, Option.toList, List.cons_append, List.nil_append, List.length_nil, List.length_cons, Nat.not_lt_zero, kdx s4, v10, e]
        refine c_failsY X _ τ4 n (tD n B (tD n B b)) 3 B s4 C4 v0 (by omega) _ ?_
        rw [f3]
        simp (disch := first | decide | omega) only [mxa, vxa, vxb, vxc, vnd, vne, Nat.reduceAdd, Nat.reduceSub, Nat.reduceLeDiff, Nat.reduceLT, Int32.reduceLT, Int32.reduceLE, Int32.reduceAdd, Int32.reduceSub, Int32.reduceMul, Int32.reduceToNatClampNeg, not_false_eq_true, not_true_eq_false, false_implies, true_implies, Nat.zero_add, reduceIte, Nat.reduceMul, Nat.reduceEqDiff, nxa, nxc, lgn, nL_of, swx, Int.reduceAdd, gI_a, gI_k, gL_a, gL_k, gI_r, gL_r, nI_and, nI_or, nI_xor, nI_ndf, nI_shl, nI_shr, ne_eq, and_true, true_and, eq_self, true_or, or_true, false_or, or_false, Option.toList, List.cons_append, List.nil_append, List.length_nil, List.length_cons, Nat.not_lt_zero]
        exact t36 3 _ _ (hf _ _ rfl) _ (FM_new G b2n C4 (by omega)) ((gI_a (by decide)).trans ((gI_a (by decide)).trans vN'))
      · simp (disch := first | decide | omega) only [mxa, vxa, vxb, vxc, vnd, vne, Nat.reduceAdd, Nat.reduceSub, Nat.reduceLeDiff, Nat.reduceLT, Int32.reduceLT, Int32.reduceLE, Int32.reduceAdd, Int32.reduceSub, Int32.reduceMul, Int32.reduceToNatClampNeg, not_false_eq_true, not_true_eq_false, false_implies, true_implies, Nat.zero_add, reduceIte, Nat.reduceMul, Nat.reduceEqDiff, nxa, nxc, lgn, nL_of, swx, Int.reduceAdd, gI_a, gI_k, gL_a, gL_k, gI_r, gL_r, nI_and, nI_or, nI_xor, nI_ndf, nI_shl, nI_shr, ne_eq, and_true, true_and, eq_self, true_or, or_true, false_or, or_false, Option.toList, List.cons_append, List.nil_append, List.length_nil, List.length_cons, Nat.not_lt_zero, kdx s4, v10, e]
        exact at36 (fun z => e z.2)
    · simp (disch := first | decide | omega) only [mxa, vxa, vxb, vxc, vnd, vne, Nat.reduceAdd, Nat.reduceSub, Nat.reduceLeDiff, Nat.reduceLT, Int32.reduceLT, Int32.reduceLE, Int32.reduceAdd, Int32.reduceSub, Int32.reduceMul, Int32.reduceToNatClampNeg, not_false_eq_true, not_true_eq_false, false_implies, true_implies, Nat.zero_add, reduceIte, Nat.reduceMul, Nat.reduceEqDiff, nxa, nxc, lgn, nL_of, swx, Int.reduceAdd, gI_a, gI_k, gL_a, gL_k, gI_r, gL_r, nI_and, nI_or, nI_xor, nI_ndf, nI_shl, nI_shr, ne_eq, and_true, true_and, eq_self, true_or, or_true, false_or, or_false, Option.toList, List.cons_append, List.nil_append, List.length_nil, List.length_cons, Nat.not_lt_zero]
      exact at36 (fun z => h9 z.1)
  · rw [if_neg nok] at hf
    have fl := FM_new (σ := σ) FrN.rf q2 hC (nF_le n B (tD n B b))
    simp (disch := first | decide | omega) only [mxa, vxa, vxb, vxc, vnd, vne, Nat.reduceAdd, Nat.reduceSub, Nat.reduceLeDiff, Nat.reduceLT, Int32.reduceLT, Int32.reduceLE, Int32.reduceAdd, Int32.reduceSub, Int32.reduceMul, Int32.reduceToNatClampNeg, not_false_eq_true, not_true_eq_false, false_implies, true_implies, Nat.zero_add, reduceIte, Nat.reduceMul, Nat.reduceEqDiff, nxa, nxc, lgn, nL_of, swx, Int.reduceAdd, gI_a, gI_k, gL_a, gL_k, gI_r, gL_r, nI_and, nI_or, nI_xor, nI_ndf, nI_shl, nI_shr, ne_eq, and_true, true_and, eq_self, true_or, or_true, false_or, or_false, Option.toList, List.cons_append, List.nil_append, List.length_nil, List.length_cons, Nat.not_lt_zero, kdx hs]
    refine c_isF X _ _ _ _ (by exact hs) fl.2.2.1 fl.2.2.2.2 _ ?_
    simp (disch := first | decide | omega) only [mxa, vxa, vxb, vxc, vnd, vne, Nat.reduceAdd, Nat.reduceSub, Nat.reduceLeDiff, Nat.reduceLT, Int32.reduceLT, Int32.reduceLE, Int32.reduceAdd, Int32.reduceSub, Int32.reduceMul, Int32.reduceToNatClampNeg, not_false_eq_true, not_true_eq_false, false_implies, true_implies, Nat.zero_add, reduceIte, Nat.reduceMul, Nat.reduceEqDiff, nxa, nxc, lgn, nL_of, swx, Int.reduceAdd, gI_a, gI_k, gL_a, gL_k, gI_r, gL_r, nI_and, nI_or, nI_xor, nI_ndf, nI_shl, nI_shr, ne_eq, and_true, true_and, eq_self, true_or, or_true, false_or, or_false, Option.toList, List.cons_append, List.nil_append, List.length_nil, List.length_cons, Nat.not_lt_zero]
    exact t36 _ _ _ (hf _ _ rfl) _ fl ((gI_a (by decide)).trans ((gI_a (by decide)).trans e0))
