/-! a line, the text: the class -/
set_option maxRecDepth 20000
theorem liS_f {n N O K b : Nat} {B : Nat → Nat} {W : Nat → Int32} {e : Nat × Nat} (h : stS n B W N O K b = .inl e) : liS n B W N O K b = .inl e := by unfold liS; rw [h]
theorem liS_y {n N O K b b' : Nat} {B : Nat → Nat} {W W' : Nat → Int32} (h : stS n B W N O K b = .inr (W', b')) (h2 : tK n B b' = 10) : liS n B W N O K b = .inr (upd W' 5 (W' 5 + nI 1), tD n B b') := by unfold liS; rw [h]; exact if_pos h2
theorem liS_n {n N O K b b' : Nat} {B : Nat → Nat} {W W' : Nat → Int32} (h : stS n B W N O K b = .inr (W', b')) (h2 : ¬ tK n B b' = 10) : liS n B W N O K b = .inl (fT n B b' 2, tP n B b') := by unfold liS; rw [h]; exact if_neg h2
theorem c_readLineC (X : Cx) (d : Nat) (σ : Mm) (n b N O K : Nat) (B : Nat → Nat) (W : Nat → Int32) (hst : St σ) (hT : TX σ n B) (hb : b ≤ n) (hC : CT σ n B b) (h0 : gI σ 145 0 = nI 0) (hV : VR σ 35 W N O) (hF : FV W N O K) (Q : Po) (hf : ∀ k p, liS n B W N O K b = .inl (k, p) → ∀ τ : Mm, FCs σ τ n B k p → Q none τ) (hy : ∀ W0 b0 N' O' K', stS n B W N O K b = .inr (W0, b0) → tK n B b0 = 10 → ∀ τ : Mm, b0 ≤ n → UCs σ τ n B (tD n B b0) W0 N' O' K' → Q none τ) : Call X (d + 11) 0 0 mX5_readLine [.ref 145, .ref 35] σ Q := by
  have hs := hst.1
  have hr := hst.2.1
  have q2 := (tE_le (B := B) hb).2.1
  have b2n := (tE_le (B := B) q2).2.1
  have kl := (tK_le (n := n) (B := B) (b := b)).1
  have t128 : ∀ τ : Mm, Q none τ → Wp X mX5_readLine (rmo (d + 11) 0 0) (d + 11) Q 0 0 128 [some (.ref 145), some (.ref 35)] [] τ := fun τ q => by
    refine wp_blk kX5_readLine_128 ?_
    simp (disch := first | decide | omega) only [mxa, vxa, vxb, vxc, vnd, vne, Nat.reduceAdd, Nat.reduceSub, Nat.reduceLeDiff, Nat.reduceLT, Int32.reduceLT, Int32.reduceLE, Int32.reduceAdd, Int32.reduceSub, Int32.reduceMul, Int32.reduceToNatClampNeg, not_false_eq_true, not_true_eq_false, false_implies, true_implies, Nat.zero_add, reduceIte, Nat.reduceMul, Nat.reduceEqDiff, nxa, nxc, lgn, nL_of, swx, Int.reduceAdd, gI_a, gI_k, gL_a, gL_k, gI_r, gL_r, nI_and, nI_or, nI_xor, nI_ndf, nI_shl, nI_shr, ne_eq, and_true, true_and, eq_self, true_or, or_true, false_or, or_false, Option.toList, List.cons_append, List.nil_append, List.length_nil, List.length_cons, Nat.not_lt_zero, bX5_readLine_128]
    exact q
  have t108 : ∀ k p, (∀ τ : Mm, FCs σ τ n B k p → Q none τ) → ∀ τ : Mm, FCs σ τ n B k p → Wp X mX5_readLine (rmo (d + 11) 0 0) (d + 11) Q 0 0 108 [some (.ref 145), some (.ref 35)] [] τ := fun k p q τ h => by
    obtain ⟨F, ⟨b2, hb2, C2⟩, u0, u1, uk⟩ := id h
    have st := F.1.Sh hs
    have rt := F.1.Rf hr
    have cl := cc_le _ (tK_le (n := n) (B := B) (b := b2)).1
    by_cases c : cc (tK n B b2) = 2
    · refine wp_blk kX5_readLine_108 ?_
      simp (disch := first | decide | omega) only [mxa, vxa, vxb, vxc, vnd, vne, Nat.reduceAdd, Nat.reduceSub, Nat.reduceLeDiff, Nat.reduceLT, Int32.reduceLT, Int32.reduceLE, Int32.reduceAdd, Int32.reduceSub, Int32.reduceMul, Int32.reduceToNatClampNeg, not_false_eq_true, not_true_eq_false, false_implies, true_implies, Nat.zero_add, reduceIte, Nat.reduceMul, Nat.reduceEqDiff, nxa, nxc, lgn, nL_of, swx, Int.reduceAdd, gI_a, gI_k, gL_a, gL_k, gI_r, gL_r, nI_and, nI_or, nI_xor, nI_ndf, nI_shl, nI_shr, ne_eq, and_true, true_and, eq_self, true_or, or_true, false_or, or_false, Option.toList, List.cons_append, List.nil_append, List.length_nil, List.length_cons, Nat.not_lt_zero, bX5_readLine_108, kdx st, C2.2.2.1, c]
      refine c_advance X _ τ n (tD n B b2) B st rt (hT.keepR F) (tE_le (B := B) hb2).2.1 C2.2.1 _ (fun τ2 F2 C3 => ?_)
      simp (disch := first | decide | omega) only [mxa, vxa, vxb, vxc, vnd, vne, Nat.reduceAdd, Nat.reduceSub, Nat.reduceLeDiff, Nat.reduceLT, Int32.reduceLT, Int32.reduceLE, Int32.reduceAdd, Int32.reduceSub, Int32.reduceMul, Int32.reduceToNatClampNeg, not_false_eq_true, not_true_eq_false, false_implies, true_implies, Nat.zero_add, reduceIte, Nat.reduceMul, Nat.reduceEqDiff, nxa, nxc, lgn, nL_of, swx, Int.reduceAdd, gI_a, gI_k, gL_a, gL_k, gI_r, gL_r, nI_and, nI_or, nI_xor, nI_ndf, nI_shl, nI_shr, ne_eq, and_true, true_and, eq_self, true_or, or_true, false_or, or_false, Option.toList, List.cons_append, List.nil_append, List.length_nil, List.length_cons, Nat.not_lt_zero]
      exact t128 _ (q _ ⟨F.tr F2.R, ⟨_, (tE_le (B := B) hb2).2.1, C3⟩, (F2.2 0 (by omega)).trans u0, (F2.2 1 (by omega)).trans u1, uk⟩)
    · refine wp_blk kX5_readLine_108 ?_
      simp (disch := first | decide | omega) only [mxa, vxa, vxb, vxc, vnd, vne, Nat.reduceAdd, Nat.reduceSub, Nat.reduceLeDiff, Nat.reduceLT, Int32.reduceLT, Int32.reduceLE, Int32.reduceAdd, Int32.reduceSub, Int32.reduceMul, Int32.reduceToNatClampNeg, not_false_eq_true, not_true_eq_false, false_implies, true_implies, Nat.zero_add, reduceIte, Nat.reduceMul, Nat.reduceEqDiff, nxa, nxc, lgn, nL_of, swx, Int.reduceAdd, gI_a, gI_k, gL_a, gL_k, gI_r, gL_r, nI_and, nI_or, nI_xor, nI_ndf, nI_shl, nI_shr, ne_eq, and_true, true_and, eq_self, true_or, or_true, false_or, or_false, Option.toList, List.cons_append, List.nil_append, List.length_nil, List.length_cons, Nat.not_lt_zero, bX5_readLine_108, kdx st, C2.2.2.1, c]
      refine wp_blk kX5_readLine_123 ?_
      simp (disch := first | decide | omega) only [mxa, vxa, vxb, vxc, vnd, vne, Nat.reduceAdd, Nat.reduceSub, Nat.reduceLeDiff, Nat.reduceLT, Int32.reduceLT, Int32.reduceLE, Int32.reduceAdd, Int32.reduceSub, Int32.reduceMul, Int32.reduceToNatClampNeg, not_false_eq_true, not_true_eq_false, false_implies, true_implies, Nat.zero_add, reduceIte, Nat.reduceMul, Nat.reduceEqDiff, nxa, nxc, lgn, nL_of, swx, Int.reduceAdd, gI_a, gI_k, gL_a, gL_k, gI_r, gL_r, nI_and, nI_or, nI_xor, nI_ndf, nI_shl, nI_shr, ne_eq, and_true, true_and, eq_self, true_or, or_true, false_or, or_false, Option.toList, List.cons_append, List.nil_append, List.length_nil, List.length_cons, Nat.not_lt_zero, bX5_readLine_123, kdx st]
      refine c_blameF X _ τ 2 k st u0 uk.1 uk.2 _ ?_
      simp (disch := first | decide | omega) only [mxa, vxa, vxb, vxc, vnd, vne, Nat.reduceAdd, Nat.reduceSub, Nat.reduceLeDiff, Nat.reduceLT, Int32.reduceLT, Int32.reduceLE, Int32.reduceAdd, Int32.reduceSub, Int32.reduceMul, Int32.reduceToNatClampNeg, not_false_eq_true, not_true_eq_false, false_implies, true_implies, Nat.zero_add, reduceIte, Nat.reduceMul, Nat.reduceEqDiff, nxa, nxc, lgn, nL_of, swx, Int.reduceAdd, gI_a, gI_k, gL_a, gL_k, gI_r, gL_r, nI_and, nI_or, nI_xor, nI_ndf, nI_shl, nI_shr, ne_eq, and_true, true_and, eq_self, true_or, or_true, false_or, or_false, Option.toList, List.cons_append, List.nil_append, List.length_nil, List.length_cons, Nat.not_lt_zero]
      exact t128 _ (q _ h)
  have w108 : ∀ (W0 : Nat → Int32) (b0 N' O' K' : Nat), stS n B W N O K b = .inr (W0, b0) → ∀ τ : Mm, UCs σ τ n B b0 W0 N' O' K' → Wp X mX5_readLine (rmo (d + 11) 0 0) (d + 11) Q 0 0 108 [some (.ref 145), some (.ref 35)] [] τ := fun W0 b0 N' O' K' hS τ h => by
    obtain ⟨F, hb0, C0, u0, V0, F0⟩ := h
    have st := F.1.Sh hs
    have rt := F.1.Rf hr
    have kl := (tK_le (n := n) (B := B) (b := b0)).1
    have cl := cc_le _ kl
    by_cases c : tK n B b0 = 10
    · have c2 : cc (tK n B b0) = 2 := by rw [c]; rfl
      refine wp_blk kX5_readLine_108 ?_
      simp (disch := first | decide | omega) only [mxa, vxa, vxb, vxc, vnd, vne, Nat.reduceAdd, Nat.reduceSub, Nat.reduceLeDiff, Nat.reduceLT, Int32.reduceLT, Int32.reduceLE, Int32.reduceAdd, Int32.reduceSub, Int32.reduceMul, Int32.reduceToNatClampNeg, not_false_eq_true, not_true_eq_false, false_implies, true_implies, Nat.zero_add, reduceIte, Nat.reduceMul, Nat.reduceEqDiff, nxa, nxc, lgn, nL_of, swx, Int.reduceAdd, gI_a, gI_k, gL_a, gL_k, gI_r, gL_r, nI_and, nI_or, nI_xor, nI_ndf, nI_shl, nI_shr, ne_eq, and_true, true_and, eq_self, true_or, or_true, false_or, or_false, Option.toList, List.cons_append, List.nil_append, List.length_nil, List.length_cons, Nat.not_lt_zero, bX5_readLine_108, kdx st, C0.2.2.1, c2]
      refine c_advance X _ τ n (tD n B b0) B st rt (hT.keepR F) (tE_le (B := B) hb0).2.1 C0.2.1 _ (fun τ2 F2 C3 => ?_)
      have q := hy W0 b0 N' O' K' hS c τ2 hb0 ⟨F.tr F2.R, (tE_le (B := B) hb0).2.1, C3, (F2.2 0 (by omega)).trans u0, V0.keep F0.1.1.2 (F.1.St hst) (Or.inr (Or.inl rfl)) F2.1.gR (fun a z1 z2 => F2.1.2.2.1 a (by omega)), F0⟩
      simp (disch := first | decide | omega) only [mxa, vxa, vxb, vxc, vnd, vne, Nat.reduceAdd, Nat.reduceSub, Nat.reduceLeDiff, Nat.reduceLT, Int32.reduceLT, Int32.reduceLE, Int32.reduceAdd, Int32.reduceSub, Int32.reduceMul, Int32.reduceToNatClampNeg, not_false_eq_true, not_true_eq_false, false_implies, true_implies, Nat.zero_add, reduceIte, Nat.reduceMul, Nat.reduceEqDiff, nxa, nxc, lgn, nL_of, swx, Int.reduceAdd, gI_a, gI_k, gL_a, gL_k, gI_r, gL_r, nI_and, nI_or, nI_xor, nI_ndf, nI_shl, nI_shr, ne_eq, and_true, true_and, eq_self, true_or, or_true, false_or, or_false, Option.toList, List.cons_append, List.nil_append, List.length_nil, List.length_cons, Nat.not_lt_zero]
      exact t128 _ q
    · have c2 : ¬ cc (tK n B b0) = 2 := fun z => c ((cc_is kl (show 10 ≤ 12 by omega)).mp (z.trans rfl))
      refine wp_blk kX5_readLine_108 ?_
      simp (disch := first | decide | omega) only [mxa, vxa, vxb, vxc, vnd, vne, Nat.reduceAdd, Nat.reduceSub, Nat.reduceLeDiff, Nat.reduceLT, Int32.reduceLT, Int32.reduceLE, Int32.reduceAdd, Int32.reduceSub, Int32.reduceMul, Int32.reduceToNatClampNeg, not_false_eq_true, not_true_eq_false, false_implies, true_implies, Nat.zero_add, reduceIte, Nat.reduceMul, Nat.reduceEqDiff, nxa, nxc, lgn, nL_of, swx, Int.reduceAdd, gI_a, gI_k, gL_a, gL_k, gI_r, gL_r, nI_and, nI_or, nI_xor, nI_ndf, nI_shl, nI_shr, ne_eq, and_true, true_and, eq_self, true_or, or_true, false_or, or_false, Option.toList, List.cons_append, List.nil_append, List.length_nil, List.length_cons, Nat.not_lt_zero, bX5_readLine_108, kdx st, C0.2.2.1, c2]
      refine wp_blk kX5_readLine_123 ?_
      simp (disch := first | decide | omega) only [mxa, vxa, vxb, vxc, vnd, vne, Nat.reduceAdd, Nat.reduceSub, Nat.reduceLeDiff, Nat.reduceLT, Int32.reduceLT, Int32.reduceLE, Int32.reduceAdd, Int32.reduceSub, Int32.reduceMul, Int32.reduceToNatClampNeg, not_false_eq_true, not_true_eq_false, false_implies, true_implies, Nat.zero_add, reduceIte, Nat.reduceMul, Nat.reduceEqDiff, nxa, nxc, lgn, nL_of, swx, Int.reduceAdd, gI_a, gI_k, gL_a, gL_k, gI_r, gL_r, nI_and, nI_or, nI_xor, nI_ndf, nI_shl, nI_shr, ne_eq, and_true, true_and, eq_self, true_or, or_true, false_or, or_false, Option.toList, List.cons_append, List.nil_append, List.length_nil, List.length_cons, Nat.not_lt_zero, bX5_readLine_123, kdx st]
      refine c_blame0 X _ τ n b0 2 B st C0 u0 (by omega) _ ?_
      have q := hf _ _ (liS_n hS c) _ (FC_new F hb0 C0 (fT_le (by omega) (by omega)))
      simp (disch := first | decide | omega) only [mxa, vxa, vxb, vxc, vnd, vne, Nat.reduceAdd, Nat.reduceSub, Nat.reduceLeDiff, Nat.reduceLT, Int32.reduceLT, Int32.reduceLE, Int32.reduceAdd, Int32.reduceSub, Int32.reduceMul, Int32.reduceToNatClampNeg, not_false_eq_true, not_true_eq_false, false_implies, true_implies, Nat.zero_add, reduceIte, Nat.reduceMul, Nat.reduceEqDiff, nxa, nxc, lgn, nL_of, swx, Int.reduceAdd, gI_a, gI_k, gL_a, gL_k, gI_r, gL_r, nI_and, nI_or, nI_xor, nI_ndf, nI_shl, nI_shr, ne_eq, and_true, true_and, eq_self, true_or, or_true, false_or, or_false, Option.toList, List.cons_append, List.nil_append, List.length_nil, List.length_cons, Nat.not_lt_zero]
      exact t128 _ q
  have c4 := hC.2.2.1
  by_cases k0 : tK n B b = 0
  · have e : stS n B W N O K b = famS n B W N K b := if_pos k0
    have cc' : cc (tK n B b) = 5 := by rw [k0]; rfl
    rw [cc'] at c4
    refine call_of eX5_readLine rfl ?_
    refine wp_blk kX5_readLine_0 ?_
    simp (disch := first | decide | omega) only [mxa, vxa, vxb, vxc, vnd, vne, Nat.reduceAdd, Nat.reduceSub, Nat.reduceLeDiff, Nat.reduceLT, Int32.reduceLT, Int32.reduceLE, Int32.reduceAdd, Int32.reduceSub, Int32.reduceMul, Int32.reduceToNatClampNeg, not_false_eq_true, not_true_eq_false, false_implies, true_implies, Nat.zero_add, reduceIte, Nat.reduceMul, Nat.reduceEqDiff, nxa, nxc, lgn, nL_of, swx, Int.reduceAdd, gI_a, gI_k, gL_a, gL_k, gI_r, gL_r, nI_and, nI_or, nI_xor, nI_ndf, nI_shl, nI_shr, ne_eq, and_true, true_and, eq_self, true_or, or_true, false_or, or_false, Option.toList, List.cons_append, List.nil_append, List.length_nil, List.length_cons, Nat.not_lt_zero, bX5_readLine_0, kdx hs, grx hr, c4]
    refine wp_blk kX5_readLine_52 ?_
    simp (disch := first | decide | omega) only [mxa, vxa, vxb, vxc, vnd, vne, Nat.reduceAdd, Nat.reduceSub, Nat.reduceLeDiff, Nat.reduceLT, Int32.reduceLT, Int32.reduceLE, Int32.reduceAdd, Int32.reduceSub, Int32.reduceMul, Int32.reduceToNatClampNeg, not_false_eq_true, not_true_eq_false, false_implies, true_implies, Nat.zero_add, reduceIte, Nat.reduceMul, Nat.reduceEqDiff, nxa, nxc, lgn, nL_of, swx, Int.reduceAdd, gI_a, gI_k, gL_a, gL_k, gI_r, gL_r, nI_and, nI_or, nI_xor, nI_ndf, nI_shl, nI_shr, ne_eq, and_true, true_and, eq_self, true_or, or_true, false_or, or_false, Option.toList, List.cons_append, List.nil_append, List.length_nil, List.length_cons, Nat.not_lt_zero, bX5_readLine_52, kdx hs, grx hr]
    refine c_readFamily X _ σ n b N O K B W hst hT hb hC h0 hV hF k0 _ (fun k p h τ h2 => ?_) (fun W' b' h τ h2 => ?_)
    · simp (disch := first | decide | omega) only [mxa, vxa, vxb, vxc, vnd, vne, Nat.reduceAdd, Nat.reduceSub, Nat.reduceLeDiff, Nat.reduceLT, Int32.reduceLT, Int32.reduceLE, Int32.reduceAdd, Int32.reduceSub, Int32.reduceMul, Int32.reduceToNatClampNeg, not_false_eq_true, not_true_eq_false, false_implies, true_implies, Nat.zero_add, reduceIte, Nat.reduceMul, Nat.reduceEqDiff, nxa, nxc, lgn, nL_of, swx, Int.reduceAdd, gI_a, gI_k, gL_a, gL_k, gI_r, gL_r, nI_and, nI_or, nI_xor, nI_ndf, nI_shl, nI_shr, ne_eq, and_true, true_and, eq_self, true_or, or_true, false_or, or_false, Option.toList, List.cons_append, List.nil_append, List.length_nil, List.length_cons, Nat.not_lt_zero]
      exact t108 k p (hf k p (liS_f (e.trans h))) τ h2
    · simp (disch := first | decide | omega) only [mxa, vxa, vxb, vxc, vnd, vne, Nat.reduceAdd, Nat.reduceSub, Nat.reduceLeDiff, Nat.reduceLT, Int32.reduceLT, Int32.reduceLE, Int32.reduceAdd, Int32.reduceSub, Int32.reduceMul, Int32.reduceToNatClampNeg, not_false_eq_true, not_true_eq_false, false_implies, true_implies, Nat.zero_add, reduceIte, Nat.reduceMul, Nat.reduceEqDiff, nxa, nxc, lgn, nL_of, swx, Int.reduceAdd, gI_a, gI_k, gL_a, gL_k, gI_r, gL_r, nI_and, nI_or, nI_xor, nI_ndf, nI_shl, nI_shr, ne_eq, and_true, true_and, eq_self, true_or, or_true, false_or, or_false, Option.toList, List.cons_append, List.nil_append, List.length_nil, List.length_cons, Nat.not_lt_zero]
      exact w108 W' b' _ _ _ (e.trans h) τ h2
  · by_cases k4 : tK n B b = 4
    · have e : stS n B W N O K b = ovS n B W O b := (if_neg k0).trans (if_pos k4)
      have cc' : cc (tK n B b) = 9 := by rw [k4]; rfl
      rw [cc'] at c4
      refine call_of eX5_readLine rfl ?_
      refine wp_blk kX5_readLine_0 ?_
      simp (disch := first | decide | omega) only [mxa, vxa, vxb, vxc, vnd, vne, Nat.reduceAdd, Nat.reduceSub, Nat.reduceLeDiff, Nat.reduceLT, Int32.reduceLT, Int32.reduceLE, Int32.reduceAdd, Int32.reduceSub, Int32.reduceMul, Int32.reduceToNatClampNeg, not_false_eq_true, not_true_eq_false, false_implies, true_implies, Nat.zero_add, reduceIte, Nat.reduceMul, Nat.reduceEqDiff, nxa, nxc, lgn, nL_of, swx, Int.reduceAdd, gI_a, gI_k, gL_a, gL_k, gI_r, gL_r, nI_and, nI_or, nI_xor, nI_ndf, nI_shl, nI_shr, ne_eq, and_true, true_and, eq_self, true_or, or_true, false_or, or_false, Option.toList, List.cons_append, List.nil_append, List.length_nil, List.length_cons, Nat.not_lt_zero, bX5_readLine_0, kdx hs, grx hr, c4]
      refine wp_blk kX5_readLine_60 ?_
      simp (disch := first | decide | omega) only [mxa, vxa, vxb, vxc, vnd, vne, Nat.reduceAdd, Nat.reduceSub, Nat.reduceLeDiff, Nat.reduceLT, Int32.reduceLT, Int32.reduceLE, Int32.reduceAdd, Int32.reduceSub, Int32.reduceMul, Int32.reduceToNatClampNeg, not_false_eq_true, not_true_eq_false, false_implies, true_implies, Nat.zero_add, reduceIte, Nat.reduceMul, Nat.reduceEqDiff, nxa, nxc, lgn, nL_of, swx, Int.reduceAdd, gI_a, gI_k, gL_a, gL_k, gI_r, gL_r, nI_and, nI_or, nI_xor, nI_ndf, nI_shl, nI_shr, ne_eq, and_true, true_and, eq_self, true_or, or_true, false_or, or_false, Option.toList, List.cons_append, List.nil_append, List.length_nil, List.length_cons, Nat.not_lt_zero, bX5_readLine_60, kdx hs, grx hr]
      refine c_readOven X _ σ n b N O K B W hst hT hb hC h0 hV hF _ (fun k p h τ h2 => ?_) (fun W' b' h τ h2 => ?_)
      · simp (disch := first | decide | omega) only [mxa, vxa, vxb, vxc, vnd, vne, Nat.reduceAdd, Nat.reduceSub, Nat.reduceLeDiff, Nat.reduceLT, Int32.reduceLT, Int32.reduceLE, Int32.reduceAdd, Int32.reduceSub, Int32.reduceMul, Int32.reduceToNatClampNeg, not_false_eq_true, not_true_eq_false, false_implies, true_implies, Nat.zero_add, reduceIte, Nat.reduceMul, Nat.reduceEqDiff, nxa, nxc, lgn, nL_of, swx, Int.reduceAdd, gI_a, gI_k, gL_a, gL_k, gI_r, gL_r, nI_and, nI_or, nI_xor, nI_ndf, nI_shl, nI_shr, ne_eq, and_true, true_and, eq_self, true_or, or_true, false_or, or_false, Option.toList, List.cons_append, List.nil_append, List.length_nil, List.length_cons, Nat.not_lt_zero]
        exact t108 k p (hf k p (liS_f (e.trans h))) τ h2
      · simp (disch := first | decide | omega) only [mxa, vxa, vxb, vxc, vnd, vne, Nat.reduceAdd, Nat.reduceSub, Nat.reduceLeDiff, Nat.reduceLT, Int32.reduceLT, Int32.reduceLE, Int32.reduceAdd, Int32.reduceSub, Int32.reduceMul, Int32.reduceToNatClampNeg, not_false_eq_true, not_true_eq_false, false_implies, true_implies, Nat.zero_add, reduceIte, Nat.reduceMul, Nat.reduceEqDiff, nxa, nxc, lgn, nL_of, swx, Int.reduceAdd, gI_a, gI_k, gL_a, gL_k, gI_r, gL_r, nI_and, nI_or, nI_xor, nI_ndf, nI_shl, nI_shr, ne_eq, and_true, true_and, eq_self, true_or, or_true, false_or, or_false, Option.toList, List.cons_append, List.nil_append, List.length_nil, List.length_cons, Nat.not_lt_zero]
        exact w108 W' b' _ _ _ (e.trans h) τ h2
    · by_cases k5 : tK n B b = 5
      · have e : stS n B W N O K b = quS n B W N b := (if_neg k0).trans ((if_neg k4).trans (if_pos k5))
        have cc' : cc (tK n B b) = 10 := by rw [k5]; rfl
        rw [cc'] at c4
        refine call_of eX5_readLine rfl ?_
        refine wp_blk kX5_readLine_0 ?_
        simp (disch := first | decide | omega) only [mxa, vxa, vxb, vxc, vnd, vne, Nat.reduceAdd, Nat.reduceSub, Nat.reduceLeDiff, Nat.reduceLT, Int32.reduceLT, Int32.reduceLE, Int32.reduceAdd, Int32.reduceSub, Int32.reduceMul, Int32.reduceToNatClampNeg, not_false_eq_true, not_true_eq_false, false_implies, true_implies, Nat.zero_add, reduceIte, Nat.reduceMul, Nat.reduceEqDiff, nxa, nxc, lgn, nL_of, swx, Int.reduceAdd, gI_a, gI_k, gL_a, gL_k, gI_r, gL_r, nI_and, nI_or, nI_xor, nI_ndf, nI_shl, nI_shr, ne_eq, and_true, true_and, eq_self, true_or, or_true, false_or, or_false, Option.toList, List.cons_append, List.nil_append, List.length_nil, List.length_cons, Nat.not_lt_zero, bX5_readLine_0, kdx hs, grx hr, c4]
        refine wp_blk kX5_readLine_68 ?_
        simp (disch := first | decide | omega) only [mxa, vxa, vxb, vxc, vnd, vne, Nat.reduceAdd, Nat.reduceSub, Nat.reduceLeDiff, Nat.reduceLT, Int32.reduceLT, Int32.reduceLE, Int32.reduceAdd, Int32.reduceSub, Int32.reduceMul, Int32.reduceToNatClampNeg, not_false_eq_true, not_true_eq_false, false_implies, true_implies, Nat.zero_add, reduceIte, Nat.reduceMul, Nat.reduceEqDiff, nxa, nxc, lgn, nL_of, swx, Int.reduceAdd, gI_a, gI_k, gL_a, gL_k, gI_r, gL_r, nI_and, nI_or, nI_xor, nI_ndf, nI_shl, nI_shr, ne_eq, and_true, true_and, eq_self, true_or, or_true, false_or, or_false, Option.toList, List.cons_append, List.nil_append, List.length_nil, List.length_cons, Nat.not_lt_zero, bX5_readLine_68, kdx hs, grx hr]
        refine c_readQuarrel X _ σ n b N O K B W hst hT hb hC h0 hV hF _ (fun k p h τ h2 => ?_) (fun W' b' h τ h2 => ?_)
        · simp (disch := first | decide | omega) only [mxa, vxa, vxb, vxc, vnd, vne, Nat.reduceAdd, Nat.reduceSub, Nat.reduceLeDiff, Nat.reduceLT, Int32.reduceLT, Int32.reduceLE, Int32.reduceAdd, Int32.reduceSub, Int32.reduceMul, Int32.reduceToNatClampNeg, not_false_eq_true, not_true_eq_false, false_implies, true_implies, Nat.zero_add, reduceIte, Nat.reduceMul, Nat.reduceEqDiff, nxa, nxc, lgn, nL_of, swx, Int.reduceAdd, gI_a, gI_k, gL_a, gL_k, gI_r, gL_r, nI_and, nI_or, nI_xor, nI_ndf, nI_shl, nI_shr, ne_eq, and_true, true_and, eq_self, true_or, or_true, false_or, or_false, Option.toList, List.cons_append, List.nil_append, List.length_nil, List.length_cons, Nat.not_lt_zero]
          exact t108 k p (hf k p (liS_f (e.trans h))) τ h2
        · simp (disch := first | decide | omega) only [mxa, vxa, vxb, vxc, vnd, vne, Nat.reduceAdd, Nat.reduceSub, Nat.reduceLeDiff, Nat.reduceLT, Int32.reduceLT, Int32.reduceLE, Int32.reduceAdd, Int32.reduceSub, Int32.reduceMul, Int32.reduceToNatClampNeg, not_false_eq_true, not_true_eq_false, false_implies, true_implies, Nat.zero_add, reduceIte, Nat.reduceMul, Nat.reduceEqDiff, nxa, nxc, lgn, nL_of, swx, Int.reduceAdd, gI_a, gI_k, gL_a, gL_k, gI_r, gL_r, nI_and, nI_or, nI_xor, nI_ndf, nI_shl, nI_shr, ne_eq, and_true, true_and, eq_self, true_or, or_true, false_or, or_false, Option.toList, List.cons_append, List.nil_append, List.length_nil, List.length_cons, Nat.not_lt_zero]
          exact w108 W' b' _ _ _ (e.trans h) τ h2
      · by_cases k6 : tK n B b = 6
        · have e : stS n B W N O K b = keS n B W N b := (if_neg k0).trans ((if_neg k4).trans ((if_neg k5).trans (if_pos k6)))
          have cc' : cc (tK n B b) = 11 := by rw [k6]; rfl
          rw [cc'] at c4
          refine call_of eX5_readLine rfl ?_
          refine wp_blk kX5_readLine_0 ?_
          simp (disch := first | decide | omega) only [mxa, vxa, vxb, vxc, vnd, vne, Nat.reduceAdd, Nat.reduceSub, Nat.reduceLeDiff, Nat.reduceLT, Int32.reduceLT, Int32.reduceLE, Int32.reduceAdd, Int32.reduceSub, Int32.reduceMul, Int32.reduceToNatClampNeg, not_false_eq_true, not_true_eq_false, false_implies, true_implies, Nat.zero_add, reduceIte, Nat.reduceMul, Nat.reduceEqDiff, nxa, nxc, lgn, nL_of, swx, Int.reduceAdd, gI_a, gI_k, gL_a, gL_k, gI_r, gL_r, nI_and, nI_or, nI_xor, nI_ndf, nI_shl, nI_shr, ne_eq, and_true, true_and, eq_self, true_or, or_true, false_or, or_false, Option.toList, List.cons_append, List.nil_append, List.length_nil, List.length_cons, Nat.not_lt_zero, bX5_readLine_0, kdx hs, grx hr, c4]
          refine wp_blk kX5_readLine_76 ?_
          simp (disch := first | decide | omega) only [mxa, vxa, vxb, vxc, vnd, vne, Nat.reduceAdd, Nat.reduceSub, Nat.reduceLeDiff, Nat.reduceLT, Int32.reduceLT, Int32.reduceLE, Int32.reduceAdd, Int32.reduceSub, Int32.reduceMul, Int32.reduceToNatClampNeg, not_false_eq_true, not_true_eq_false, false_implies, true_implies, Nat.zero_add, reduceIte, Nat.reduceMul, Nat.reduceEqDiff, nxa, nxc, lgn, nL_of, swx, Int.reduceAdd, gI_a, gI_k, gL_a, gL_k, gI_r, gL_r, nI_and, nI_or, nI_xor, nI_ndf, nI_shl, nI_shr, ne_eq, and_true, true_and, eq_self, true_or, or_true, false_or, or_false, Option.toList, List.cons_append, List.nil_append, List.length_nil, List.length_cons, Nat.not_lt_zero, bX5_readLine_76, kdx hs, grx hr]
          refine c_readKeep X _ σ n b N O K B W hst hT hb hC h0 hV hF _ (fun k p h τ h2 => ?_) (fun W' b' h τ h2 => ?_)
          · simp (disch := first | decide | omega) only [mxa, vxa, vxb, vxc, vnd, vne, Nat.reduceAdd, Nat.reduceSub, Nat.reduceLeDiff, Nat.reduceLT, Int32.reduceLT, Int32.reduceLE, Int32.reduceAdd, Int32.reduceSub, Int32.reduceMul, Int32.reduceToNatClampNeg, not_false_eq_true, not_true_eq_false, false_implies, true_implies, Nat.zero_add, reduceIte, Nat.reduceMul, Nat.reduceEqDiff, nxa, nxc, lgn, nL_of, swx, Int.reduceAdd, gI_a, gI_k, gL_a, gL_k, gI_r, gL_r, nI_and, nI_or, nI_xor, nI_ndf, nI_shl, nI_shr, ne_eq, and_true, true_and, eq_self, true_or, or_true, false_or, or_false, Option.toList, List.cons_append, List.nil_append, List.length_nil, List.length_cons, Nat.not_lt_zero]
            exact t108 k p (hf k p (liS_f (e.trans h))) τ h2
          · simp (disch := first | decide | omega) only [mxa, vxa, vxb, vxc, vnd, vne, Nat.reduceAdd, Nat.reduceSub, Nat.reduceLeDiff, Nat.reduceLT, Int32.reduceLT, Int32.reduceLE, Int32.reduceAdd, Int32.reduceSub, Int32.reduceMul, Int32.reduceToNatClampNeg, not_false_eq_true, not_true_eq_false, false_implies, true_implies, Nat.zero_add, reduceIte, Nat.reduceMul, Nat.reduceEqDiff, nxa, nxc, lgn, nL_of, swx, Int.reduceAdd, gI_a, gI_k, gL_a, gL_k, gI_r, gL_r, nI_and, nI_or, nI_xor, nI_ndf, nI_shl, nI_shr, ne_eq, and_true, true_and, eq_self, true_or, or_true, false_or, or_false, Option.toList, List.cons_append, List.nil_append, List.length_nil, List.length_cons, Nat.not_lt_zero]
            exact w108 W' b' _ _ _ (e.trans h) τ h2
        · by_cases k7 : tK n B b = 7
          · have e : stS n B W N O K b = fuS n B W b := (if_neg k0).trans ((if_neg k4).trans ((if_neg k5).trans ((if_neg k6).trans (if_pos k7))))
            have cc' : cc (tK n B b) = 12 := by rw [k7]; rfl
            rw [cc'] at c4
            refine call_of eX5_readLine rfl ?_
            refine wp_blk kX5_readLine_0 ?_
            simp (disch := first | decide | omega) only [mxa, vxa, vxb, vxc, vnd, vne, Nat.reduceAdd, Nat.reduceSub, Nat.reduceLeDiff, Nat.reduceLT, Int32.reduceLT, Int32.reduceLE, Int32.reduceAdd, Int32.reduceSub, Int32.reduceMul, Int32.reduceToNatClampNeg, not_false_eq_true, not_true_eq_false, false_implies, true_implies, Nat.zero_add, reduceIte, Nat.reduceMul, Nat.reduceEqDiff, nxa, nxc, lgn, nL_of, swx, Int.reduceAdd, gI_a, gI_k, gL_a, gL_k, gI_r, gL_r, nI_and, nI_or, nI_xor, nI_ndf, nI_shl, nI_shr, ne_eq, and_true, true_and, eq_self, true_or, or_true, false_or, or_false, Option.toList, List.cons_append, List.nil_append, List.length_nil, List.length_cons, Nat.not_lt_zero, bX5_readLine_0, kdx hs, grx hr, c4]
            refine wp_blk kX5_readLine_84 ?_
            simp (disch := first | decide | omega) only [mxa, vxa, vxb, vxc, vnd, vne, Nat.reduceAdd, Nat.reduceSub, Nat.reduceLeDiff, Nat.reduceLT, Int32.reduceLT, Int32.reduceLE, Int32.reduceAdd, Int32.reduceSub, Int32.reduceMul, Int32.reduceToNatClampNeg, not_false_eq_true, not_true_eq_false, false_implies, true_implies, Nat.zero_add, reduceIte, Nat.reduceMul, Nat.reduceEqDiff, nxa, nxc, lgn, nL_of, swx, Int.reduceAdd, gI_a, gI_k, gL_a, gL_k, gI_r, gL_r, nI_and, nI_or, nI_xor, nI_ndf, nI_shl, nI_shr, ne_eq, and_true, true_and, eq_self, true_or, or_true, false_or, or_false, Option.toList, List.cons_append, List.nil_append, List.length_nil, List.length_cons, Nat.not_lt_zero, bX5_readLine_84, kdx hs, grx hr]
            refine c_advance X _ σ n (tD n B b) B hs hr hT q2 hC.2.1 _ (fun τ2 F2 C2 => ?_)
            have F := F2.R
            have st := F.1.Sh hs
            have rt := F.1.Rf hr
            have u0 : gI τ2 145 0 = nI 0 := (F2.2 0 (by omega)).trans h0
            simp (disch := first | decide | omega) only [mxa, vxa, vxb, vxc, vnd, vne, Nat.reduceAdd, Nat.reduceSub, Nat.reduceLeDiff, Nat.reduceLT, Int32.reduceLT, Int32.reduceLE, Int32.reduceAdd, Int32.reduceSub, Int32.reduceMul, Int32.reduceToNatClampNeg, not_false_eq_true, not_true_eq_false, false_implies, true_implies, Nat.zero_add, reduceIte, Nat.reduceMul, Nat.reduceEqDiff, nxa, nxc, lgn, nL_of, swx, Int.reduceAdd, gI_a, gI_k, gL_a, gL_k, gI_r, gL_r, nI_and, nI_or, nI_xor, nI_ndf, nI_shl, nI_shr, ne_eq, and_true, true_and, eq_self, true_or, or_true, false_or, or_false, Option.toList, List.cons_append, List.nil_append, List.length_nil, List.length_cons, Nat.not_lt_zero, kdx st]
            refine c_numY X _ τ2 n (tD n B b) 0 1000 (nI 999) B st rt (hT.keepR F) q2 C2 (by omega) (fun v hv => cn_le (by omega) hv) u0 _ (fun ok τ4 F4 C4 => ?_) (fun nok => ?_)
            · have e2 : fuS n B W b = .inr (upd W 4 (nI (vN n B (tD n B b))), tD n B (tD n B b)) := if_pos ok
              have G := F.tr F4.R
              have s4 := G.1.Sh hs
              have o : ∀ a, a ≠ 145 → ∀ k, gI τ4 a k = gI σ a k := fun a z k => (F4.1.2.2.1 a z k).trans (F2.1.2.2.1 a z k)
              simp (disch := first | decide | omega) only [mxa, vxa, vxb, vxc, vnd, vne, Nat.reduceAdd, Nat.reduceSub, Nat.reduceLeDiff, Nat.reduceLT, Int32.reduceLT, Int32.reduceLE, Int32.reduceAdd, Int32.reduceSub, Int32.reduceMul, Int32.reduceToNatClampNeg, not_false_eq_true, not_true_eq_false, false_implies, true_implies, Nat.zero_add, reduceIte, Nat.reduceMul, Nat.reduceEqDiff, nxa, nxc, lgn, nL_of, swx, Int.reduceAdd, gI_a, gI_k, gL_a, gL_k, gI_r, gL_r, nI_and, nI_or, nI_xor, nI_ndf, nI_shl, nI_shr, ne_eq, and_true, true_and, eq_self, true_or, or_true, false_or, or_false, Option.toList, List.cons_append, List.nil_append, List.length_nil, List.length_cons, Nat.not_lt_zero, kdx s4]
              refine w108 _ _ N O K (e.trans e2) _ ⟨G.tr (FrR.sI (by omega) (by omega)), b2n, C4.mv (fun j _ => gI_a (by omega)), (gI_a (by omega)).trans ((F4.2 0 (by omega)).trans u0), ?_, ?_⟩
              · obtain ⟨⟨v1, v2, v3, v4, v5, v6⟩, v7, -⟩ := id hV
                refine VR.mid hst hF.1.1.2 hV (fun a k => G.1.gR a k) (fun a z1 z2 k => (gI_a (by omega)).trans (o a (by omega) k)) (fun i hi => by rw [upd_n (by omega)]) ⟨?_, ?_, ?_, ?_, ?_, ?_⟩ (fun z hz => ?_)
                · rw [gI_k (by decide), o 35 (by omega), upd_n (by omega)]; exact v1
                · rw [gI_k (by decide), o 35 (by omega), upd_n (by omega)]; exact v2
                · rw [gI_k (by decide), o 35 (by omega), upd_n (by omega)]; exact v3
                · rw [gI_k (by decide), o 35 (by omega), upd_n (by omega)]; exact v4
                · rw [gI_same, upd_s]
                · rw [gI_k (by decide), o 35 (by omega), upd_n (by omega)]; exact v6
                · have hO3 := hF.1.2.1.2
                  rw [gI_a (by omega), o 37 (by omega), upd_n (by omega)]; exact v7 z hz
              · obtain ⟨⟨⟨g0, gN⟩, ⟨g1, gO⟩, g3, g4, g2, gz, -⟩, -⟩ := id hF
                refine hF.mid (fun i hi => by rw [upd_n (by omega)]) (by rw [upd_n (by omega)]) (by rw [upd_n (by omega)]; exact ⟨g1, gO⟩) (by rw [upd_n (by omega)]; exact g3) (by rw [upd_s]; exact ⟨_, by have := ok.2.2; omega, rfl⟩) (by rw [upd_n (by omega)]; exact g2) (fun z hz => ?_) (Or.inl (Nat.le_refl _))
                rw [upd_n (by omega)]; exact gz z hz
            · have e2 : fuS n B W b = .inl (nFt n B (tD n B b), tP n B (tD n B b)) := if_neg nok
              obtain ⟨G, ⟨b2, hb2, D2⟩, y0, y1, yk⟩ := FC_new F q2 C2 (nF_le n B (tD n B b))
              simp (disch := first | decide | omega) only [mxa, vxa, vxb, vxc, vnd, vne, Nat.reduceAdd, Nat.reduceSub, Nat.reduceLeDiff, Nat.reduceLT, Int32.reduceLT, Int32.reduceLE, Int32.reduceAdd, Int32.reduceSub, Int32.reduceMul, Int32.reduceToNatClampNeg, not_false_eq_true, not_true_eq_false, false_implies, true_implies, Nat.zero_add, reduceIte, Nat.reduceMul, Nat.reduceEqDiff, nxa, nxc, lgn, nL_of, swx, Int.reduceAdd, gI_a, gI_k, gL_a, gL_k, gI_r, gL_r, nI_and, nI_or, nI_xor, nI_ndf, nI_shl, nI_shr, ne_eq, and_true, true_and, eq_self, true_or, or_true, false_or, or_false, Option.toList, List.cons_append, List.nil_append, List.length_nil, List.length_cons, Nat.not_lt_zero, kdx st]
              exact t108 _ _ (hf _ _ (liS_f (e.trans e2))) _ ⟨G.tr (FrR.sI (by omega) (by omega)), ⟨b2, hb2, D2.mv (fun j _ => gI_a (by omega))⟩, (gI_a (by omega)).trans y0, (gI_a (by omega)).trans y1, yk⟩
          · have e : stS n B W N O K b = .inl (fT n B b 2, tP n B b) := (if_neg k0).trans ((if_neg k4).trans ((if_neg k5).trans ((if_neg k6).trans (if_neg k7))))
            have at103 : Wp X mX5_readLine (rmo (d + 11) 0 0) (d + 11) Q 0 0 103 [some (.ref 145), some (.ref 35)] [] σ := by
              refine wp_blk kX5_readLine_103 ?_
              simp (disch := first | decide | omega) only [mxa, vxa, vxb, vxc, vnd, vne, Nat.reduceAdd, Nat.reduceSub, Nat.reduceLeDiff, Nat.reduceLT, Int32.reduceLT, Int32.reduceLE, Int32.reduceAdd, Int32.reduceSub, Int32.reduceMul, Int32.reduceToNatClampNeg, not_false_eq_true, not_true_eq_false, false_implies, true_implies, Nat.zero_add, reduceIte, Nat.reduceMul, Nat.reduceEqDiff, nxa, nxc, lgn, nL_of, swx, Int.reduceAdd, gI_a, gI_k, gL_a, gL_k, gI_r, gL_r, nI_and, nI_or, nI_xor, nI_ndf, nI_shl, nI_shr, ne_eq, and_true, true_and, eq_self, true_or, or_true, false_or, or_false, Option.toList, List.cons_append, List.nil_append, List.length_nil, List.length_cons, Nat.not_lt_zero, bX5_readLine_103, kdx hs, grx hr]
              refine c_blame0 X _ σ n b 2 B hs hC h0 (by omega) _ ?_
              simp (disch := first | decide | omega) only [mxa, vxa, vxb, vxc, vnd, vne, Nat.reduceAdd, Nat.reduceSub, Nat.reduceLeDiff, Nat.reduceLT, Int32.reduceLT, Int32.reduceLE, Int32.reduceAdd, Int32.reduceSub, Int32.reduceMul, Int32.reduceToNatClampNeg, not_false_eq_true, not_true_eq_false, false_implies, true_implies, Nat.zero_add, reduceIte, Nat.reduceMul, Nat.reduceEqDiff, nxa, nxc, lgn, nL_of, swx, Int.reduceAdd, gI_a, gI_k, gL_a, gL_k, gI_r, gL_r, nI_and, nI_or, nI_xor, nI_ndf, nI_shl, nI_shr, ne_eq, and_true, true_and, eq_self, true_or, or_true, false_or, or_false, Option.toList, List.cons_append, List.nil_append, List.length_nil, List.length_cons, Nat.not_lt_zero]
              exact t108 _ _ (hf _ _ (liS_f e)) _ (FC_new FrR.rf hb hC (fT_le (by omega) (by omega)))
            have cases : tK n B b = 1 ∨ tK n B b = 2 ∨ tK n B b = 3 ∨ tK n B b = 8 ∨ tK n B b = 9 ∨ tK n B b = 10 ∨ tK n B b = 11 ∨ tK n B b = 12 := by omega
            rcases cases with z | z | z | z | z | z | z | z <;> rw [z] at c4
            · have c5 : gI σ 145 4 = nI 6 := c4
              refine call_of eX5_readLine rfl ?_
              refine wp_blk kX5_readLine_0 ?_
              simp (disch := first | decide | omega) only [mxa, vxa, vxb, vxc, vnd, vne, Nat.reduceAdd, Nat.reduceSub, Nat.reduceLeDiff, Nat.reduceLT, Int32.reduceLT, Int32.reduceLE, Int32.reduceAdd, Int32.reduceSub, Int32.reduceMul, Int32.reduceToNatClampNeg, not_false_eq_true, not_true_eq_false, false_implies, true_implies, Nat.zero_add, reduceIte, Nat.reduceMul, Nat.reduceEqDiff, nxa, nxc, lgn, nL_of, swx, Int.reduceAdd, gI_a, gI_k, gL_a, gL_k, gI_r, gL_r, nI_and, nI_or, nI_xor, nI_ndf, nI_shl, nI_shr, ne_eq, and_true, true_and, eq_self, true_or, or_true, false_or, or_false, Option.toList, List.cons_append, List.nil_append, List.length_nil, List.length_cons, Nat.not_lt_zero, bX5_readLine_0, kdx hs, grx hr, c5]
              exact at103
            · have c5 : gI σ 145 4 = nI 7 := c4
              refine call_of eX5_readLine rfl ?_
              refine wp_blk kX5_readLine_0 ?_
              simp (disch := first | decide | omega) only [mxa, vxa, vxb, vxc, vnd, vne, Nat.reduceAdd, Nat.reduceSub, Nat.reduceLeDiff, Nat.reduceLT, Int32.reduceLT, Int32.reduceLE, Int32.reduceAdd, Int32.reduceSub, Int32.reduceMul, Int32.reduceToNatClampNeg, not_false_eq_true, not_true_eq_false, false_implies, true_implies, Nat.zero_add, reduceIte, Nat.reduceMul, Nat.reduceEqDiff, nxa, nxc, lgn, nL_of, swx, Int.reduceAdd, gI_a, gI_k, gL_a, gL_k, gI_r, gL_r, nI_and, nI_or, nI_xor, nI_ndf, nI_shl, nI_shr, ne_eq, and_true, true_and, eq_self, true_or, or_true, false_or, or_false, Option.toList, List.cons_append, List.nil_append, List.length_nil, List.length_cons, Nat.not_lt_zero, bX5_readLine_0, kdx hs, grx hr, c5]
              exact at103
            · have c5 : gI σ 145 4 = nI 8 := c4
              refine call_of eX5_readLine rfl ?_
              refine wp_blk kX5_readLine_0 ?_
              simp (disch := first | decide | omega) only [mxa, vxa, vxb, vxc, vnd, vne, Nat.reduceAdd, Nat.reduceSub, Nat.reduceLeDiff, Nat.reduceLT, Int32.reduceLT, Int32.reduceLE, Int32.reduceAdd, Int32.reduceSub, Int32.reduceMul, Int32.reduceToNatClampNeg, not_false_eq_true, not_true_eq_false, false_implies, true_implies, Nat.zero_add, reduceIte, Nat.reduceMul, Nat.reduceEqDiff, nxa, nxc, lgn, nL_of, swx, Int.reduceAdd, gI_a, gI_k, gL_a, gL_k, gI_r, gL_r, nI_and, nI_or, nI_xor, nI_ndf, nI_shl, nI_shr, ne_eq, and_true, true_and, eq_self, true_or, or_true, false_or, or_false, Option.toList, List.cons_append, List.nil_append, List.length_nil, List.length_cons, Nat.not_lt_zero, bX5_readLine_0, kdx hs, grx hr, c5]
              exact at103
            · have c5 : gI σ 145 4 = nI 4 := c4
              refine call_of eX5_readLine rfl ?_
              refine wp_blk kX5_readLine_0 ?_
              simp (disch := first | decide | omega) only [mxa, vxa, vxb, vxc, vnd, vne, Nat.reduceAdd, Nat.reduceSub, Nat.reduceLeDiff, Nat.reduceLT, Int32.reduceLT, Int32.reduceLE, Int32.reduceAdd, Int32.reduceSub, Int32.reduceMul, Int32.reduceToNatClampNeg, not_false_eq_true, not_true_eq_false, false_implies, true_implies, Nat.zero_add, reduceIte, Nat.reduceMul, Nat.reduceEqDiff, nxa, nxc, lgn, nL_of, swx, Int.reduceAdd, gI_a, gI_k, gL_a, gL_k, gI_r, gL_r, nI_and, nI_or, nI_xor, nI_ndf, nI_shl, nI_shr, ne_eq, and_true, true_and, eq_self, true_or, or_true, false_or, or_false, Option.toList, List.cons_append, List.nil_append, List.length_nil, List.length_cons, Nat.not_lt_zero, bX5_readLine_0, kdx hs, grx hr, c5]
              exact at103
            · have c5 : gI σ 145 4 = nI 3 := c4
              refine call_of eX5_readLine rfl ?_
              refine wp_blk kX5_readLine_0 ?_
              simp (disch := first | decide | omega) only [mxa, vxa, vxb, vxc, vnd, vne, Nat.reduceAdd, Nat.reduceSub, Nat.reduceLeDiff, Nat.reduceLT, Int32.reduceLT, Int32.reduceLE, Int32.reduceAdd, Int32.reduceSub, Int32.reduceMul, Int32.reduceToNatClampNeg, not_false_eq_true, not_true_eq_false, false_implies, true_implies, Nat.zero_add, reduceIte, Nat.reduceMul, Nat.reduceEqDiff, nxa, nxc, lgn, nL_of, swx, Int.reduceAdd, gI_a, gI_k, gL_a, gL_k, gI_r, gL_r, nI_and, nI_or, nI_xor, nI_ndf, nI_shl, nI_shr, ne_eq, and_true, true_and, eq_self, true_or, or_true, false_or, or_false, Option.toList, List.cons_append, List.nil_append, List.length_nil, List.length_cons, Nat.not_lt_zero, bX5_readLine_0, kdx hs, grx hr, c5]
              exact at103
            · have c5 : gI σ 145 4 = nI 2 := c4
              refine call_of eX5_readLine rfl ?_
              refine wp_blk kX5_readLine_0 ?_
              simp (disch := first | decide | omega) only [mxa, vxa, vxb, vxc, vnd, vne, Nat.reduceAdd, Nat.reduceSub, Nat.reduceLeDiff, Nat.reduceLT, Int32.reduceLT, Int32.reduceLE, Int32.reduceAdd, Int32.reduceSub, Int32.reduceMul, Int32.reduceToNatClampNeg, not_false_eq_true, not_true_eq_false, false_implies, true_implies, Nat.zero_add, reduceIte, Nat.reduceMul, Nat.reduceEqDiff, nxa, nxc, lgn, nL_of, swx, Int.reduceAdd, gI_a, gI_k, gL_a, gL_k, gI_r, gL_r, nI_and, nI_or, nI_xor, nI_ndf, nI_shl, nI_shr, ne_eq, and_true, true_and, eq_self, true_or, or_true, false_or, or_false, Option.toList, List.cons_append, List.nil_append, List.length_nil, List.length_cons, Nat.not_lt_zero, bX5_readLine_0, kdx hs, grx hr, c5]
              exact at103
            · have c5 : gI σ 145 4 = nI 0 := c4
              refine call_of eX5_readLine rfl ?_
              refine wp_blk kX5_readLine_0 ?_
              simp (disch := first | decide | omega) only [mxa, vxa, vxb, vxc, vnd, vne, Nat.reduceAdd, Nat.reduceSub, Nat.reduceLeDiff, Nat.reduceLT, Int32.reduceLT, Int32.reduceLE, Int32.reduceAdd, Int32.reduceSub, Int32.reduceMul, Int32.reduceToNatClampNeg, not_false_eq_true, not_true_eq_false, false_implies, true_implies, Nat.zero_add, reduceIte, Nat.reduceMul, Nat.reduceEqDiff, nxa, nxc, lgn, nL_of, swx, Int.reduceAdd, gI_a, gI_k, gL_a, gL_k, gI_r, gL_r, nI_and, nI_or, nI_xor, nI_ndf, nI_shl, nI_shr, ne_eq, and_true, true_and, eq_self, true_or, or_true, false_or, or_false, Option.toList, List.cons_append, List.nil_append, List.length_nil, List.length_cons, Nat.not_lt_zero, bX5_readLine_0, kdx hs, grx hr, c5]
              exact at103
            · have c5 : gI σ 145 4 = nI 1 := c4
              refine call_of eX5_readLine rfl ?_
              refine wp_blk kX5_readLine_0 ?_
              simp (disch := first | decide | omega) only [mxa, vxa, vxb, vxc, vnd, vne, Nat.reduceAdd, Nat.reduceSub, Nat.reduceLeDiff, Nat.reduceLT, Int32.reduceLT, Int32.reduceLE, Int32.reduceAdd, Int32.reduceSub, Int32.reduceMul, Int32.reduceToNatClampNeg, not_false_eq_true, not_true_eq_false, false_implies, true_implies, Nat.zero_add, reduceIte, Nat.reduceMul, Nat.reduceEqDiff, nxa, nxc, lgn, nL_of, swx, Int.reduceAdd, gI_a, gI_k, gL_a, gL_k, gI_r, gL_r, nI_and, nI_or, nI_xor, nI_ndf, nI_shl, nI_shr, ne_eq, and_true, true_and, eq_self, true_or, or_true, false_or, or_false, Option.toList, List.cons_append, List.nil_append, List.length_nil, List.length_cons, Nat.not_lt_zero, bX5_readLine_0, kdx hs, grx hr, c5]
              exact at103
/-- the whole text -/
def nN (W : Nat → Int32) (i : Nat) : Nat := (W i).toNatClampNeg
noncomputable def rdS (n : Nat) (B : Nat → Nat) : Nat → (Nat → Int32) → Nat → Rs (Nat → Int32)
  | 0, _, _ => .inl (0, 0)
  | f + 1, W, b => if tK n B b = 11 then .inr W else match liS n B W (nN W 0) (nN W 1) (nN W 3) b with
    | .inl e => .inl e
    | .inr (W', b') => rdS n B f W' b'
theorem FV.nums {W : Nat → Int32} {N O K : Nat} (h : FV W N O K) : nN W 0 = N ∧ nN W 1 = O ∧ nN W 3 = K := by
  obtain ⟨⟨⟨g0, gN⟩, ⟨g1, gO⟩, ⟨g3, k1, k5⟩, -⟩, -⟩ := h
  unfold nN
  rw [g0, g1, g3, nI_clamp (by omega), nI_clamp (by omega), nI_clamp (by omega)]
  exact ⟨rfl, rfl, rfl⟩
theorem FV.line {W : Nat → Int32} {N O K : Nat} (h : FV W N O K) (x : Int32) : FV (upd W 5 x) N O K := by
  obtain ⟨⟨⟨g0, gN⟩, ⟨g1, gO⟩, g3, g4, g2, gz, -⟩, -⟩ := id h
  refine h.mid (fun i hi => upd_n (by omega)) (upd_n (by omega)) (by rw [upd_n (by omega)]; exact ⟨g1, gO⟩) (by rw [upd_n (by omega)]; exact g3) (by rw [upd_n (by omega)]; exact g4) (by rw [upd_n (by omega)]; exact g2) (fun z hz => ?_) (Or.inl (Nat.le_refl _))
  rw [upd_n (by omega)]; exact gz z hz
theorem rdS_e {n f b : Nat} {B : Nat → Nat} {W : Nat → Int32} (h : tK n B b = 11) : rdS n B (f + 1) W b = .inr W := if_pos h
theorem rdS_f {n f b : Nat} {B : Nat → Nat} {W : Nat → Int32} {e : Nat × Nat} (h : ¬ tK n B b = 11) (h2 : liS n B W (nN W 0) (nN W 1) (nN W 3) b = .inl e) : rdS n B (f + 1) W b = .inl e := by
  show (if _ then _ else _) = _
  rw [if_neg h, h2]
theorem rdS_y {n f b b' : Nat} {B : Nat → Nat} {W W' : Nat → Int32} (h : ¬ tK n B b = 11) (h2 : liS n B W (nN W 0) (nN W 1) (nN W 3) b = .inr (W', b')) : rdS n B (f + 1) W b = rdS n B f W' b' := by
  show (if _ then _ else _) = _
  rw [if_neg h, h2]
