/-! a family's line: the class's way through it -/
set_option maxRecDepth 20000
def MSf (σ τ : Mm) (N A : Nat) (e fl w : Int32) (br : Nat → Int32) : Prop := FrR σ τ ∧ gI τ 35 0 = nI (N + 1) ∧ (∀ j, j ≠ 0 → gI τ 35 j = gI σ 35 j) ∧ (∀ a, a ≠ 35 → a ≠ A → a ≠ A + 1 → a ≠ A + 2 → a ≠ 145 → ∀ k, gI τ a k = gI σ a k) ∧ gI τ A 0 = e ∧ gI τ A 1 = fl ∧ gI τ A 2 = w ∧ (∀ j, 3 ≤ j → j ≤ 6 → gI τ A j = nI 0) ∧ (∀ k, k < 5 → gI τ (A + 1) k = br k) ∧ ∀ k, k < 10 → gI τ (A + 2) k = nI 0
theorem MSf.T {σ τ τ2 : Mm} {N A : Nat} {e fl w : Int32} {br : Nat → Int32} (h : MSf σ τ N A e fl w br) (A1 : 38 ≤ A) (A2 : A ≤ 65) (F : FrT τ τ2) : MSf σ τ2 N A e fl w br := by
  obtain ⟨h1, h2, h3, h4, h5, h6, h7, h8, h9, h10⟩ := h
  have o : ∀ a, a ≠ 145 → ∀ k, gI τ2 a k = gI τ a k := fun a q k => F.1.2.2.1 a q k
  exact ⟨h1.tr F.R, (o 35 (by omega) 0).trans h2, fun j hj => (o 35 (by omega) j).trans (h3 j hj), fun a q1 q2 q3 q4 q5 k => (o a q5 k).trans (h4 a q1 q2 q3 q4 q5 k), (o A (by omega) 0).trans h5, (o A (by omega) 1).trans h6, (o A (by omega) 2).trans h7, fun j j1 j2 => (o A (by omega) j).trans (h8 j j1 j2), fun k hk => (o _ (by omega) k).trans (h9 k hk), fun k hk => (o _ (by omega) k).trans (h10 k hk)⟩
theorem MSf.s0 {σ τ : Mm} {N A : Nat} {e fl w x : Int32} {br : Nat → Int32} (h : MSf σ τ N A e fl w br) (A1 : 38 ≤ A) (A2 : A ≤ 65) : MSf σ (sI τ A 0 x) N A x fl w br := by
  obtain ⟨h1, h2, h3, h4, h5, h6, h7, h8, h9, h10⟩ := h
  exact ⟨h1.tr (FrR.sI (by omega) (by omega)), (gI_a (by omega)).trans h2, fun j hj => (gI_a (by omega)).trans (h3 j hj), fun a q1 q2 q3 q4 q5 k => (gI_a q2).trans (h4 a q1 q2 q3 q4 q5 k), gI_same _ _ _ _, (gI_k (by decide)).trans h6, (gI_k (by decide)).trans h7, fun j j1 j2 => (gI_k (by omega)).trans (h8 j j1 j2), fun k hk => (gI_a (by omega)).trans (h9 k hk), fun k hk => (gI_a (by omega)).trans (h10 k hk)⟩
theorem MSf.s1 {σ τ : Mm} {N A : Nat} {e fl w x : Int32} {br : Nat → Int32} (h : MSf σ τ N A e fl w br) (A1 : 38 ≤ A) (A2 : A ≤ 65) : MSf σ (sI τ A 1 x) N A e x w br := by
  obtain ⟨h1, h2, h3, h4, h5, h6, h7, h8, h9, h10⟩ := h
  exact ⟨h1.tr (FrR.sI (by omega) (by omega)), (gI_a (by omega)).trans h2, fun j hj => (gI_a (by omega)).trans (h3 j hj), fun a q1 q2 q3 q4 q5 k => (gI_a q2).trans (h4 a q1 q2 q3 q4 q5 k), (gI_k (by decide)).trans h5, gI_same _ _ _ _, (gI_k (by decide)).trans h7, fun j j1 j2 => (gI_k (by omega)).trans (h8 j j1 j2), fun k hk => (gI_a (by omega)).trans (h9 k hk), fun k hk => (gI_a (by omega)).trans (h10 k hk)⟩
theorem MSf.s2 {σ τ : Mm} {N A : Nat} {e fl w x : Int32} {br : Nat → Int32} (h : MSf σ τ N A e fl w br) (A1 : 38 ≤ A) (A2 : A ≤ 65) : MSf σ (sI τ A 2 x) N A e fl x br := by
  obtain ⟨h1, h2, h3, h4, h5, h6, h7, h8, h9, h10⟩ := h
  exact ⟨h1.tr (FrR.sI (by omega) (by omega)), (gI_a (by omega)).trans h2, fun j hj => (gI_a (by omega)).trans (h3 j hj), fun a q1 q2 q3 q4 q5 k => (gI_a q2).trans (h4 a q1 q2 q3 q4 q5 k), (gI_k (by decide)).trans h5, (gI_k (by decide)).trans h6, gI_same _ _ _ _, fun j j1 j2 => (gI_k (by omega)).trans (h8 j j1 j2), fun k hk => (gI_a (by omega)).trans (h9 k hk), fun k hk => (gI_a (by omega)).trans (h10 k hk)⟩
theorem optN_n {n b k lo H v : Nat} {B : Nat → Nat} (h : ¬ tK n B b = k) : optN n B b k lo H v = .inr (v, b) := if_neg h
theorem optN_y {n b k lo H v : Nat} {B : Nat → Nat} (h : tK n B b = k) (o : okNum n B (tD n B b) lo H) : optN n B b k lo H v = .inr (vN n B (tD n B b), tD n B (tD n B b)) := (if_pos h).trans (if_pos o)
theorem optN_f {n b k lo H v : Nat} {B : Nat → Nat} (h : tK n B b = k) (o : ¬ okNum n B (tD n B b) lo H) : optN n B b k lo H v = .inl (nFt n B (tD n B b), tP n B (tD n B b)) := (if_pos h).trans (if_neg o)
theorem c_readFamily (X : Cx) (d : Nat) (σ : Mm) (n b N O K : Nat) (B : Nat → Nat) (W : Nat → Int32) (hst : St σ) (hT : TX σ n B) (hb : b ≤ n) (hC : CT σ n B b) (h0 : gI σ 145 0 = nI 0) (hV : VR σ 35 W N O) (hF : FV W N O K) (hk : tK n B b = 0) (Q : Po) (hf : ∀ k p, famS n B W N K b = .inl (k, p) → ∀ τ : Mm, FCs σ τ n B k p → Q none τ) (hy : ∀ W' b', famS n B W N K b = .inr (W', b') → ∀ τ : Mm, UCs σ τ n B b' W' (N + 1) O K → Q none τ) : Call X (d + 10) 0 0 mX5_readFamily [.ref 145, .ref 35] σ Q := by
  have hs := hst.1
  have hr := hst.2.1
  have hN10 := hF.1.1.2
  have e0 : gI σ 35 0 = nI N := hV.1.1.trans hF.1.1.1
  have e2 : gI σ 35 2 = nI K := hV.1.2.2.2.1.trans hF.1.2.2.1.1
  have K1 := hF.1.2.2.1.2.1
  have K5 := hF.1.2.2.1.2.2
  have n9 := hT.2.1
  obtain ⟨p1, p2, p3⟩ := tP_le (B := B) hb
  obtain ⟨q1, q2, q3⟩ := tE_le (B := B) hb
  have kl6 := key_len hk (by omega)
  have w0 : wl' 0 = 6 := rfl
  unfold famS at hf hy
  by_cases N10 : N = 10
  · rw [if_pos N10] at hf
    have q := hf _ _ rfl
    refine call_of eX5_readFamily rfl ?_
    refine wp_blk kX5_readFamily_0 ?_
    simp (disch := first | decide | omega) only [mxa, vxa, vxb, vxc, vnd, vne, Nat.reduceAdd, Nat.reduceSub, Nat.reduceLeDiff, Nat.reduceLT, Int32.reduceLT, Int32.reduceLE, Int32.reduceAdd, Int32.reduceSub, Int32.reduceMul, Int32.reduceToNatClampNeg, not_false_eq_true, not_true_eq_false, false_implies, true_implies, Nat.zero_add, reduceIte, Nat.reduceMul, Nat.reduceEqDiff, nxa, nxc, lgn, nL_of, swx, Int.reduceAdd, gI_a, gI_k, gL_a, gL_k, gI_r, gL_r, nI_and, nI_or, nI_xor, nI_ndf, nI_shl, nI_shr, ne_eq, and_true, true_and, eq_self, true_or, or_true, false_or, or_false, Option.toList, List.cons_append, List.nil_append, List.length_nil, List.length_cons, Nat.not_lt_zero, bX5_readFamily_0, kdx hs, grx hr, e0, show ¬ N < 10 by omega]
    refine c_blame0 X _ σ n b 4 B hs hC h0 (by omega) _ ?_
    simp (disch := first | decide | omega) only [mxa, vxa, vxb, vxc, vnd, vne, Nat.reduceAdd, Nat.reduceSub, Nat.reduceLeDiff, Nat.reduceLT, Int32.reduceLT, Int32.reduceLE, Int32.reduceAdd, Int32.reduceSub, Int32.reduceMul, Int32.reduceToNatClampNeg, not_false_eq_true, not_true_eq_false, false_implies, true_implies, Nat.zero_add, reduceIte, Nat.reduceMul, Nat.reduceEqDiff, nxa, nxc, lgn, nL_of, swx, Int.reduceAdd, gI_a, gI_k, gL_a, gL_k, gI_r, gL_r, nI_and, nI_or, nI_xor, nI_ndf, nI_shl, nI_shr, ne_eq, and_true, true_and, eq_self, true_or, or_true, false_or, or_false, Option.toList, List.cons_append, List.nil_append, List.length_nil, List.length_cons, Nat.not_lt_zero]
    exact q _ ⟨FrR.b2 (fT_le (by omega) (by omega)), ⟨b, hb, hC.mv (fun j hj => (gI_k (by omega)).trans (gI_k (by omega)))⟩, (gI_k (by decide)).trans (gI_same _ _ _ _), gI_same _ _ _ _, fT_le (by omega) (by omega)⟩
  rw [if_neg N10] at hf hy
  have hN : N < 10 := by omega
  have hVm := hst.2.2 35 (Or.inr (Or.inl rfl))
  obtain ⟨ra, mA, pA, pA1, pA2⟩ := fa_ok hs hr (Or.inr (Or.inl rfl)) hVm hN
  have ra' : gR σ 36 N = some (fa σ 35 N) := ra
  generalize hA : fa σ 35 N = A at *
  have A1 : 38 ≤ A := by omega
  have A2 : A ≤ 65 := by omega
  have cn : ∀ h : Nat, h ≤ 999 → ∀ v, v ≤ 999 → (nI v ≤ nI h ↔ v < h + 1) := fun h hh v hv => by
    rw [Int32.le_iff_toInt_le, nI_toInt (by omega), nI_toInt (by omega)]; omega
  have fmk : ∀ τ : Mm, FrR σ τ → Fm τ A := fun τ F => ⟨(F.1.kd _).trans mA.1, (F.1.kd _).trans mA.2.1, (F.1.kd _).trans mA.2.2.1, (F.1.gR _ _).trans mA.2.2.2.1, (F.1.gR _ _).trans mA.2.2.2.2⟩
  -- after a fault
  have t125 : ∀ k p, (∀ τ : Mm, FCs σ τ n B k p → Q none τ) → ∀ τ : Mm, FCs σ τ n B k p → Wp X mX5_readFamily (rmo (d + 10) 0 0) (d + 10) Q 0 0 125 [some (.ref 145), some (.ref 35), some (.ref A)] [] τ := fun k p q τ h => by
    have := q τ h
    refine wp_blk kX5_readFamily_125 ?_
    simp (disch := first | decide | omega) only [mxa, vxa, vxb, vxc, vnd, vne, Nat.reduceAdd, Nat.reduceSub, Nat.reduceLeDiff, Nat.reduceLT, Int32.reduceLT, Int32.reduceLE, Int32.reduceAdd, Int32.reduceSub, Int32.reduceMul, Int32.reduceToNatClampNeg, not_false_eq_true, not_true_eq_false, false_implies, true_implies, Nat.zero_add, reduceIte, Nat.reduceMul, Nat.reduceEqDiff, nxa, nxc, lgn, nL_of, swx, Int.reduceAdd, gI_a, gI_k, gL_a, gL_k, gI_r, gL_r, nI_and, nI_or, nI_xor, nI_ndf, nI_shl, nI_shr, ne_eq, and_true, true_and, eq_self, true_or, or_true, false_or, or_false, Option.toList, List.cons_append, List.nil_append, List.length_nil, List.length_cons, Nat.not_lt_zero, bX5_readFamily_125]
    exact this
  have t101 : ∀ k p, (∀ τ : Mm, FCs σ τ n B k p → Q none τ) → ∀ τ : Mm, FCs σ τ n B k p → Wp X mX5_readFamily (rmo (d + 10) 0 0) (d + 10) Q 0 0 101 [some (.ref 145), some (.ref 35), some (.ref A)] [] τ := fun k p q τ h => by
    obtain ⟨F, ⟨b2, hb2, C2⟩, u0, u1, uk⟩ := id h
    have st := F.1.Sh hs
    have rt := F.1.Rf hr
    have cl := cc_le _ (tK_le (n := n) (B := B) (b := b2)).1
    by_cases c : cc (tK n B b2) = 8
    · refine wp_blk kX5_readFamily_101 ?_
      simp (disch := first | decide | omega) only [mxa, vxa, vxb, vxc, vnd, vne, Nat.reduceAdd, Nat.reduceSub, Nat.reduceLeDiff, Nat.reduceLT, Int32.reduceLT, Int32.reduceLE, Int32.reduceAdd, Int32.reduceSub, Int32.reduceMul, Int32.reduceToNatClampNeg, not_false_eq_true, not_true_eq_false, false_implies, true_implies, Nat.zero_add, reduceIte, Nat.reduceMul, Nat.reduceEqDiff, nxa, nxc, lgn, nL_of, swx, Int.reduceAdd, gI_a, gI_k, gL_a, gL_k, gI_r, gL_r, nI_and, nI_or, nI_xor, nI_ndf, nI_shl, nI_shr, ne_eq, and_true, true_and, eq_self, true_or, or_true, false_or, or_false, Option.toList, List.cons_append, List.nil_append, List.length_nil, List.length_cons, Nat.not_lt_zero, bX5_readFamily_101, kdx st, C2.2.2.1, c]
      refine c_advance X _ τ n (tD n B b2) B st rt (hT.keepR F) (tE_le (B := B) hb2).2.1 C2.2.1 _ (fun τ2 F2 C3 => ?_)
      have F3 := F.tr F2.R
      simp (disch := first | decide | omega) only [mxa, vxa, vxb, vxc, vnd, vne, Nat.reduceAdd, Nat.reduceSub, Nat.reduceLeDiff, Nat.reduceLT, Int32.reduceLT, Int32.reduceLE, Int32.reduceAdd, Int32.reduceSub, Int32.reduceMul, Int32.reduceToNatClampNeg, not_false_eq_true, not_true_eq_false, false_implies, true_implies, Nat.zero_add, reduceIte, Nat.reduceMul, Nat.reduceEqDiff, nxa, nxc, lgn, nL_of, swx, Int.reduceAdd, gI_a, gI_k, gL_a, gL_k, gI_r, gL_r, nI_and, nI_or, nI_xor, nI_ndf, nI_shl, nI_shr, ne_eq, and_true, true_and, eq_self, true_or, or_true, false_or, or_false, Option.toList, List.cons_append, List.nil_append, List.length_nil, List.length_cons, Nat.not_lt_zero, kdx (F3.1.Sh hs), (fmk _ F3).1]
      refine c_numF X _ τ2 n _ k (nI 0) (nI 99) B (F3.1.Sh hs) (F3.1.Rf hr) (hT.keepR F3) (tE_le (B := B) hb2).2.1 C3 ((F2.2 0 (by omega)).trans u0) uk.1 uk.2 _ (fun τ4 b4 x F4 hb4 C4 => ?_)
      have F5 := F3.tr F4.R
      simp (disch := first | decide | omega) only [mxa, vxa, vxb, vxc, vnd, vne, Nat.reduceAdd, Nat.reduceSub, Nat.reduceLeDiff, Nat.reduceLT, Int32.reduceLT, Int32.reduceLE, Int32.reduceAdd, Int32.reduceSub, Int32.reduceMul, Int32.reduceToNatClampNeg, not_false_eq_true, not_true_eq_false, false_implies, true_implies, Nat.zero_add, reduceIte, Nat.reduceMul, Nat.reduceEqDiff, nxa, nxc, lgn, nL_of, swx, Int.reduceAdd, gI_a, gI_k, gL_a, gL_k, gI_r, gL_r, nI_and, nI_or, nI_xor, nI_ndf, nI_shl, nI_shr, ne_eq, and_true, true_and, eq_self, true_or, or_true, false_or, or_false, Option.toList, List.cons_append, List.nil_append, List.length_nil, List.length_cons, Nat.not_lt_zero, (fmk _ F5).1]
      exact t125 k p q _ ⟨F5.tr (FrR.sI (by omega) (by omega)), ⟨b4, hb4, C4.mv (fun j _ => gI_a (by omega))⟩, (gI_a (by omega)).trans ((F4.2 0 (by omega)).trans ((F2.2 0 (by omega)).trans u0)), (gI_a (by omega)).trans ((F4.2 1 (by omega)).trans ((F2.2 1 (by omega)).trans u1)), uk⟩
    · refine wp_blk kX5_readFamily_101 ?_
      simp (disch := first | decide | omega) only [mxa, vxa, vxb, vxc, vnd, vne, Nat.reduceAdd, Nat.reduceSub, Nat.reduceLeDiff, Nat.reduceLT, Int32.reduceLT, Int32.reduceLE, Int32.reduceAdd, Int32.reduceSub, Int32.reduceMul, Int32.reduceToNatClampNeg, not_false_eq_true, not_true_eq_false, false_implies, true_implies, Nat.zero_add, reduceIte, Nat.reduceMul, Nat.reduceEqDiff, nxa, nxc, lgn, nL_of, swx, Int.reduceAdd, gI_a, gI_k, gL_a, gL_k, gI_r, gL_r, nI_and, nI_or, nI_xor, nI_ndf, nI_shl, nI_shr, ne_eq, and_true, true_and, eq_self, true_or, or_true, false_or, or_false, Option.toList, List.cons_append, List.nil_append, List.length_nil, List.length_cons, Nat.not_lt_zero, bX5_readFamily_101, kdx st, C2.2.2.1, c]
      exact t125 k p q τ h
  have t79 : ∀ k p, (∀ τ : Mm, FCs σ τ n B k p → Q none τ) → ∀ τ : Mm, FCs σ τ n B k p → Wp X mX5_readFamily (rmo (d + 10) 0 0) (d + 10) Q 0 0 79 [some (.ref 145), some (.ref 35), some (.ref A)] [] τ := fun k p q τ h => by
    obtain ⟨F, ⟨b2, hb2, C2⟩, u0, u1, uk⟩ := id h
    have st := F.1.Sh hs
    have rt := F.1.Rf hr
    have cl := cc_le _ (tK_le (n := n) (B := B) (b := b2)).1
    by_cases c : cc (tK n B b2) = 7
    · refine wp_blk kX5_readFamily_79 ?_
      simp (disch := first | decide | omega) only [mxa, vxa, vxb, vxc, vnd, vne, Nat.reduceAdd, Nat.reduceSub, Nat.reduceLeDiff, Nat.reduceLT, Int32.reduceLT, Int32.reduceLE, Int32.reduceAdd, Int32.reduceSub, Int32.reduceMul, Int32.reduceToNatClampNeg, not_false_eq_true, not_true_eq_false, false_implies, true_implies, Nat.zero_add, reduceIte, Nat.reduceMul, Nat.reduceEqDiff, nxa, nxc, lgn, nL_of, swx, Int.reduceAdd, gI_a, gI_k, gL_a, gL_k, gI_r, gL_r, nI_and, nI_or, nI_xor, nI_ndf, nI_shl, nI_shr, ne_eq, and_true, true_and, eq_self, true_or, or_true, false_or, or_false, Option.toList, List.cons_append, List.nil_append, List.length_nil, List.length_cons, Nat.not_lt_zero, bX5_readFamily_79, kdx st, C2.2.2.1, c]
      refine c_advance X _ τ n (tD n B b2) B st rt (hT.keepR F) (tE_le (B := B) hb2).2.1 C2.2.1 _ (fun τ2 F2 C3 => ?_)
      have F3 := F.tr F2.R
      simp (disch := first | decide | omega) only [mxa, vxa, vxb, vxc, vnd, vne, Nat.reduceAdd, Nat.reduceSub, Nat.reduceLeDiff, Nat.reduceLT, Int32.reduceLT, Int32.reduceLE, Int32.reduceAdd, Int32.reduceSub, Int32.reduceMul, Int32.reduceToNatClampNeg, not_false_eq_true, not_true_eq_false, false_implies, true_implies, Nat.zero_add, reduceIte, Nat.reduceMul, Nat.reduceEqDiff, nxa, nxc, lgn, nL_of, swx, Int.reduceAdd, gI_a, gI_k, gL_a, gL_k, gI_r, gL_r, nI_and, nI_or, nI_xor, nI_ndf, nI_shl, nI_shr, ne_eq, and_true, true_and, eq_self, true_or, or_true, false_or, or_false, Option.toList, List.cons_append, List.nil_append, List.length_nil, List.length_cons, Nat.not_lt_zero, kdx (F3.1.Sh hs)]
      refine c_breadF X _ τ2 n _ A k _ B (F3.1.Sh hs) (F3.1.Rf hr) (fmk _ F3) A1 A2 (hT.keepR F3) (tE_le (B := B) hb2).2.1 C3 ((F2.2 0 (by omega)).trans u0) uk.1 uk.2 _ (fun τ4 F4 C4 v0 v1 => ?_)
      simp (disch := first | decide | omega) only [mxa, vxa, vxb, vxc, vnd, vne, Nat.reduceAdd, Nat.reduceSub, Nat.reduceLeDiff, Nat.reduceLT, Int32.reduceLT, Int32.reduceLE, Int32.reduceAdd, Int32.reduceSub, Int32.reduceMul, Int32.reduceToNatClampNeg, not_false_eq_true, not_true_eq_false, false_implies, true_implies, Nat.zero_add, reduceIte, Nat.reduceMul, Nat.reduceEqDiff, nxa, nxc, lgn, nL_of, swx, Int.reduceAdd, gI_a, gI_k, gL_a, gL_k, gI_r, gL_r, nI_and, nI_or, nI_xor, nI_ndf, nI_shl, nI_shr, ne_eq, and_true, true_and, eq_self, true_or, or_true, false_or, or_false, Option.toList, List.cons_append, List.nil_append, List.length_nil, List.length_cons, Nat.not_lt_zero]
      exact t101 k p q _ ⟨F3.tr (F4.R (by omega) (by omega)), C4, v0, v1.trans ((F2.2 1 (by omega)).trans u1), uk⟩
    · refine wp_blk kX5_readFamily_79 ?_
      simp (disch := first | decide | omega) only [mxa, vxa, vxb, vxc, vnd, vne, Nat.reduceAdd, Nat.reduceSub, Nat.reduceLeDiff, Nat.reduceLT, Int32.reduceLT, Int32.reduceLE, Int32.reduceAdd, Int32.reduceSub, Int32.reduceMul, Int32.reduceToNatClampNeg, not_false_eq_true, not_true_eq_false, false_implies, true_implies, Nat.zero_add, reduceIte, Nat.reduceMul, Nat.reduceEqDiff, nxa, nxc, lgn, nL_of, swx, Int.reduceAdd, gI_a, gI_k, gL_a, gL_k, gI_r, gL_r, nI_and, nI_or, nI_xor, nI_ndf, nI_shl, nI_shr, ne_eq, and_true, true_and, eq_self, true_or, or_true, false_or, or_false, Option.toList, List.cons_append, List.nil_append, List.length_nil, List.length_cons, Nat.not_lt_zero, bX5_readFamily_79, kdx st, C2.2.2.1, c]
      exact t101 k p q τ h
  -- the village once all is read
  have done : ∀ (τ : Mm) (e fl w m b4 b8 : Nat), e ≤ 30 → fl ≤ 999 → w ≤ 99 → m ≤ K → MSf σ τ N A (nI e) (nI fl) (nI w) (fun a => if a < m then nI (vN n B (itE n B a b4)) else nI 0) → (∀ a, a < m → vN n B (itE n B a b4) ≤ 99) → b8 ≤ n → CT τ n B b8 → gI τ 145 0 = nI 0 → UCs σ τ n B b8 (famV n B W N e fl w m b4) (N + 1) O K := by
    intro τ e fl w m b4 b8 he hfl hw hm M hv hb8 C8 u0
    obtain ⟨h1, h2, h3, h4, h5, h6, h7, h8, h9, h10⟩ := M
    refine ⟨h1, hb8, C8, u0, ?_, fam_FV hF hN he hfl hw hm hv⟩
    refine fam_VR (K := K) hst hF hN hm hV hA.symm h1 h2 h3 h4 h5 h6 h7 h8 (fun a ha => ?_) (fun a ha ha5 => ?_) h10
    · exact (h9 a (by omega)).trans (if_pos ha)
    · exact (h9 a ha5).trans (if_neg (by omega))
  have w101 : ∀ (e fl m b4 b6 : Nat) (τ : Mm), e ≤ 30 → fl ≤ 999 → m ≤ K → b6 ≤ n → MSf σ τ N A (nI e) (nI fl) (nI 0) (fun a => if a < m then nI (vN n B (itE n B a b4)) else nI 0) → (∀ a, a < m → vN n B (itE n B a b4) ≤ 99) → CT τ n B b6 → gI τ 145 0 = nI 0 → (∀ k p, optN n B b6 3 0 100 0 = .inl (k, p) → ∀ τ : Mm, FCs σ τ n B k p → Q none τ) → (∀ w b8, optN n B b6 3 0 100 0 = .inr (w, b8) → ∀ τ : Mm, UCs σ τ n B b8 (famV n B W N e fl w m b4) (N + 1) O K → Q none τ) → Wp X mX5_readFamily (rmo (d + 10) 0 0) (d + 10) Q 0 0 101 [some (.ref 145), some (.ref 35), some (.ref A)] [] τ := by
    intro e fl m b4 b6 τ he hfl hm hb6 M hv C6 u0 gf gy
    have F := M.1
    have st := F.1.Sh hs
    have rt := F.1.Rf hr
    have kl := (tK_le (n := n) (B := B) (b := b6)).1
    have cl := cc_le _ kl
    by_cases c : tK n B b6 = 3
    · have c8 : cc (tK n B b6) = 8 := by rw [c]; rfl
      refine wp_blk kX5_readFamily_101 ?_
      simp (disch := first | decide | omega) only [mxa, vxa, vxb, vxc, vnd, vne, Nat.reduceAdd, Nat.reduceSub, Nat.reduceLeDiff, Nat.reduceLT, Int32.reduceLT, Int32.reduceLE, Int32.reduceAdd, Int32.reduceSub, Int32.reduceMul, Int32.reduceToNatClampNeg, not_false_eq_true, not_true_eq_false, false_implies, true_implies, Nat.zero_add, reduceIte, Nat.reduceMul, Nat.reduceEqDiff, nxa, nxc, lgn, nL_of, swx, Int.reduceAdd, gI_a, gI_k, gL_a, gL_k, gI_r, gL_r, nI_and, nI_or, nI_xor, nI_ndf, nI_shl, nI_shr, ne_eq, and_true, true_and, eq_self, true_or, or_true, false_or, or_false, Option.toList, List.cons_append, List.nil_append, List.length_nil, List.length_cons, Nat.not_lt_zero, bX5_readFamily_101, kdx st, C6.2.2.1, c8]
      refine c_advance X _ τ n (tD n B b6) B st rt (hT.keepR F) (tE_le (B := B) hb6).2.1 C6.2.1 _ (fun τ2 F2 C3 => ?_)
      have M2 := M.T A1 A2 F2
      have F3 := M2.1
      have v0 : gI τ2 145 0 = nI 0 := (F2.2 0 (by omega)).trans u0
      simp (disch := first | decide | omega) only [mxa, vxa, vxb, vxc, vnd, vne, Nat.reduceAdd, Nat.reduceSub, Nat.reduceLeDiff, Nat.reduceLT, Int32.reduceLT, Int32.reduceLE, Int32.reduceAdd, Int32.reduceSub, Int32.reduceMul, Int32.reduceToNatClampNeg, not_false_eq_true, not_true_eq_false, false_implies, true_implies, Nat.zero_add, reduceIte, Nat.reduceMul, Nat.reduceEqDiff, nxa, nxc, lgn, nL_of, swx, Int.reduceAdd, gI_a, gI_k, gL_a, gL_k, gI_r, gL_r, nI_and, nI_or, nI_xor, nI_ndf, nI_shl, nI_shr, ne_eq, and_true, true_and, eq_self, true_or, or_true, false_or, or_false, Option.toList, List.cons_append, List.nil_append, List.length_nil, List.length_cons, Nat.not_lt_zero, kdx (F3.1.Sh hs), (fmk _ F3).1]
      refine c_numY X _ τ2 n _ 0 100 (nI 99) B (F3.1.Sh hs) (F3.1.Rf hr) (hT.keepR F3) (tE_le (B := B) hb6).2.1 C3 (by omega) (cn 99 (by omega)) v0 _ (fun ok τ4 F4 C4 => ?_) (fun nok => ?_)
      · have M4 := M2.T A1 A2 F4
        have F5 := M4.1
        have q := gy _ _ (optN_y c ok) _ (done _ e fl _ m b4 _ he hfl (by have := ok.2.2; omega) hm (M4.s2 (x := nI (vN n B (tD n B b6))) A1 A2) hv (tE_le (B := B) (tE_le (B := B) hb6).2.1).2.1 (C4.mv (fun j _ => gI_a (by omega))) ((gI_a (by omega)).trans ((F4.2 0 (by omega)).trans v0)))
        simp (disch := first | decide | omega) only [mxa, vxa, vxb, vxc, vnd, vne, Nat.reduceAdd, Nat.reduceSub, Nat.reduceLeDiff, Nat.reduceLT, Int32.reduceLT, Int32.reduceLE, Int32.reduceAdd, Int32.reduceSub, Int32.reduceMul, Int32.reduceToNatClampNeg, not_false_eq_true, not_true_eq_false, false_implies, true_implies, Nat.zero_add, reduceIte, Nat.reduceMul, Nat.reduceEqDiff, nxa, nxc, lgn, nL_of, swx, Int.reduceAdd, gI_a, gI_k, gL_a, gL_k, gI_r, gL_r, nI_and, nI_or, nI_xor, nI_ndf, nI_shl, nI_shr, ne_eq, and_true, true_and, eq_self, true_or, or_true, false_or, or_false, Option.toList, List.cons_append, List.nil_append, List.length_nil, List.length_cons, Nat.not_lt_zero, (fmk _ F5).1]
        refine wp_blk kX5_readFamily_125 ?_
        simp (disch := first | decide | omega) only [mxa, vxa, vxb, vxc, vnd, vne, Nat.reduceAdd, Nat.reduceSub, Nat.reduceLeDiff, Nat.reduceLT, Int32.reduceLT, Int32.reduceLE, Int32.reduceAdd, Int32.reduceSub, Int32.reduceMul, Int32.reduceToNatClampNeg, not_false_eq_true, not_true_eq_false, false_implies, true_implies, Nat.zero_add, reduceIte, Nat.reduceMul, Nat.reduceEqDiff, nxa, nxc, lgn, nL_of, swx, Int.reduceAdd, gI_a, gI_k, gL_a, gL_k, gI_r, gL_r, nI_and, nI_or, nI_xor, nI_ndf, nI_shl, nI_shr, ne_eq, and_true, true_and, eq_self, true_or, or_true, false_or, or_false, Option.toList, List.cons_append, List.nil_append, List.length_nil, List.length_cons, Nat.not_lt_zero, bX5_readFamily_125]
        exact q
      · simp (disch := first | decide | omega) only [mxa, vxa, vxb, vxc, vnd, vne, Nat.reduceAdd, Nat.reduceSub, Nat.reduceLeDiff, Nat.reduceLT, Int32.reduceLT, Int32.reduceLE, Int32.reduceAdd, Int32.reduceSub, Int32.reduceMul, Int32.reduceToNatClampNeg, not_false_eq_true, not_true_eq_false, false_implies, true_implies, Nat.zero_add, reduceIte, Nat.reduceMul, Nat.reduceEqDiff, nxa, nxc, lgn, nL_of, swx, Int.reduceAdd, gI_a, gI_k, gL_a, gL_k, gI_r, gL_r, nI_and, nI_or, nI_xor, nI_ndf, nI_shl, nI_shr, ne_eq, and_true, true_and, eq_self, true_or, or_true, false_or, or_false, Option.toList, List.cons_append, List.nil_append, List.length_nil, List.length_cons, Nat.not_lt_zero, (fmk _ F3).1]
        exact t125 _ _ (gf _ _ (optN_f c nok)) _ ⟨(F3.tr (FrR.b2 (nF_le n B _))).tr (FrR.sI (by omega) (by omega)), ⟨_, (tE_le (B := B) hb6).2.1, C3.mv (fun j hj => (gI_a (by omega)).trans ((gI_k (by omega)).trans (gI_k (by omega))))⟩, (gI_a (by omega)).trans ((gI_k (by decide)).trans (gI_same _ _ _ _)), (gI_a (by omega)).trans (gI_same _ _ _ _), nF_le n B _⟩
    · have c8 : ¬ cc (tK n B b6) = 8 := fun q => c ((cc_is kl (show 3 ≤ 12 by omega)).mp (q.trans rfl))
      have q := gy _ _ (optN_n c) _ (done _ e fl 0 m b4 _ he hfl (by omega) hm M hv hb6 C6 u0)
      refine wp_blk kX5_readFamily_101 ?_
      simp (disch := first | decide | omega) only [mxa, vxa, vxb, vxc, vnd, vne, Nat.reduceAdd, Nat.reduceSub, Nat.reduceLeDiff, Nat.reduceLT, Int32.reduceLT, Int32.reduceLE, Int32.reduceAdd, Int32.reduceSub, Int32.reduceMul, Int32.reduceToNatClampNeg, not_false_eq_true, not_true_eq_false, false_implies, true_implies, Nat.zero_add, reduceIte, Nat.reduceMul, Nat.reduceEqDiff, nxa, nxc, lgn, nL_of, swx, Int.reduceAdd, gI_a, gI_k, gL_a, gL_k, gI_r, gL_r, nI_and, nI_or, nI_xor, nI_ndf, nI_shl, nI_shr, ne_eq, and_true, true_and, eq_self, true_or, or_true, false_or, or_false, Option.toList, List.cons_append, List.nil_append, List.length_nil, List.length_cons, Nat.not_lt_zero, bX5_readFamily_101, kdx st, C6.2.2.1, c8]
      refine wp_blk kX5_readFamily_125 ?_
      simp (disch := first | decide | omega) only [mxa, vxa, vxb, vxc, vnd, vne, Nat.reduceAdd, Nat.reduceSub, Nat.reduceLeDiff, Nat.reduceLT, Int32.reduceLT, Int32.reduceLE, Int32.reduceAdd, Int32.reduceSub, Int32.reduceMul, Int32.reduceToNatClampNeg, not_false_eq_true, not_true_eq_false, false_implies, true_implies, Nat.zero_add, reduceIte, Nat.reduceMul, Nat.reduceEqDiff, nxa, nxc, lgn, nL_of, swx, Int.reduceAdd, gI_a, gI_k, gL_a, gL_k, gI_r, gL_r, nI_and, nI_or, nI_xor, nI_ndf, nI_shl, nI_shr, ne_eq, and_true, true_and, eq_self, true_or, or_true, false_or, or_false, Option.toList, List.cons_append, List.nil_append, List.length_nil, List.length_cons, Nat.not_lt_zero, bX5_readFamily_125]
      exact q
  have w79 : ∀ (e fl b4 : Nat) (τ : Mm), e ≤ 30 → fl ≤ 999 → b4 ≤ n → 6 ≤ b4 → MSf σ τ N A (nI e) (nI fl) (nI 0) (fun _ => nI 0) → CT τ n B b4 → gI τ 145 0 = nI 0 → (∀ k p, optB n B K b4 = .inl (k, p) → ∀ τ : Mm, FCs σ τ n B k p → Q none τ) → (∀ m b6, optB n B K b4 = .inr (m, b6) → (∀ k p, optN n B b6 3 0 100 0 = .inl (k, p) → ∀ τ : Mm, FCs σ τ n B k p → Q none τ) ∧ (∀ w b8, optN n B b6 3 0 100 0 = .inr (w, b8) → ∀ τ : Mm, UCs σ τ n B b8 (famV n B W N e fl w m (tD n B b4)) (N + 1) O K → Q none τ)) → Wp X mX5_readFamily (rmo (d + 10) 0 0) (d + 10) Q 0 0 79 [some (.ref 145), some (.ref 35), some (.ref A)] [] τ := by
    intro e fl b4 τ he hfl hb4 b46 M C4 u0 gf gy
    have F := M.1
    have st := F.1.Sh hs
    have rt := F.1.Rf hr
    have kl := (tK_le (n := n) (B := B) (b := b4)).1
    have cl := cc_le _ kl
    have z0 : (fun a => if a < 0 then nI (vN n B (itE n B a (tD n B b4))) else nI 0) = fun _ : Nat => nI 0 := funext fun a => if_neg (by omega)
    by_cases c : tK n B b4 = 2
    · have c7 : cc (tK n B b4) = 7 := by rw [c]; rfl
      have ob : optB n B K b4 = brS n B K 7 0 (tD n B b4) := if_pos c
      have pl := (tP_le (B := B) hb4).1
      have pn : tP n B b4 < n := ((tK_le (n := n) (B := B) (b := b4)).2.1 (by omega)).1
      refine wp_blk kX5_readFamily_79 ?_
      simp (disch := first | decide | omega) only [mxa, vxa, vxb, vxc, vnd, vne, Nat.reduceAdd, Nat.reduceSub, Nat.reduceLeDiff, Nat.reduceLT, Int32.reduceLT, Int32.reduceLE, Int32.reduceAdd, Int32.reduceSub, Int32.reduceMul, Int32.reduceToNatClampNeg, not_false_eq_true, not_true_eq_false, false_implies, true_implies, Nat.zero_add, reduceIte, Nat.reduceMul, Nat.reduceEqDiff, nxa, nxc, lgn, nL_of, swx, Int.reduceAdd, gI_a, gI_k, gL_a, gL_k, gI_r, gL_r, nI_and, nI_or, nI_xor, nI_ndf, nI_shl, nI_shr, ne_eq, and_true, true_and, eq_self, true_or, or_true, false_or, or_false, Option.toList, List.cons_append, List.nil_append, List.length_nil, List.length_cons, Nat.not_lt_zero, bX5_readFamily_79, kdx st, C4.2.2.1, c7]
      refine c_advance X _ τ n (tD n B b4) B st rt (hT.keepR F) (tE_le (B := B) hb4).2.1 C4.2.1 _ (fun τ2 F2 C3 => ?_)
      have M2 := M.T A1 A2 F2
      have F3 := M2.1
      have v0 : gI τ2 145 0 = nI 0 := (F2.2 0 (by omega)).trans u0
      have v2 : gI τ2 35 2 = nI K := (M2.2.2.1 2 (by omega)).trans e2
      simp (disch := first | decide | omega) only [mxa, vxa, vxb, vxc, vnd, vne, Nat.reduceAdd, Nat.reduceSub, Nat.reduceLeDiff, Nat.reduceLT, Int32.reduceLT, Int32.reduceLE, Int32.reduceAdd, Int32.reduceSub, Int32.reduceMul, Int32.reduceToNatClampNeg, not_false_eq_true, not_true_eq_false, false_implies, true_implies, Nat.zero_add, reduceIte, Nat.reduceMul, Nat.reduceEqDiff, nxa, nxc, lgn, nL_of, swx, Int.reduceAdd, gI_a, gI_k, gL_a, gL_k, gI_r, gL_r, nI_and, nI_or, nI_xor, nI_ndf, nI_shl, nI_shr, ne_eq, and_true, true_and, eq_self, true_or, or_true, false_or, or_false, Option.toList, List.cons_append, List.nil_append, List.length_nil, List.length_cons, Nat.not_lt_zero, kdx (F3.1.Sh hs), v2]
      refine c_bread X _ τ2 n (tD n B b4) A K B (F3.1.Sh hs) (F3.1.Rf hr) (fmk _ F3) A1 A2 (hT.keepR F3) (by omega) (tE_le (B := B) hb4).2.1 C3 K1 K5 v0 _ (fun m b6 hm τ4 F4 hb6 C6 x0 mK g1 g2 => ?_) (fun k p hm τ4 F4 C6 x0 x1 k1 k4 => ?_)
      · obtain ⟨h1, h2, h3, h4, h5, h6, h7, h8, h9, h10⟩ := M2
        have o : ∀ a, a ≠ 145 → a ≠ A + 1 → ∀ k, gI τ4 a k = gI τ2 a k := fun a y1 y2 k => F4.1.2.2.1 a (by omega) k
        have M4 : MSf σ τ4 N A (nI e) (nI fl) (nI 0) (fun a => if a < m then nI (vN n B (itE n B a (tD n B b4))) else nI 0) := ⟨h1.tr (F4.R (by omega) (by omega)), (o 35 (by omega) (by omega) 0).trans h2, fun j hj => (o 35 (by omega) (by omega) j).trans (h3 j hj), fun a y1 y2 y3 y4 y5 k => (o a y5 y3 k).trans (h4 a y1 y2 y3 y4 y5 k), (o A (by omega) (by omega) 0).trans h5, (o A (by omega) (by omega) 1).trans h6, (o A (by omega) (by omega) 2).trans h7, fun j j1 j2 => (o A (by omega) (by omega) j).trans (h8 j j1 j2), fun k hk => by
          by_cases z : k < m
          · exact (g1 k z).1.trans (if_pos z).symm
          · exact (g2 k (by omega)).trans ((h9 k hk).trans (if_neg z).symm), fun k hk => (o _ (by omega) (by omega) k).trans (h10 k hk)⟩
        obtain ⟨y1, y2⟩ := gy m b6 (ob.trans hm)
        simp (disch := first | decide | omega) only [mxa, vxa, vxb, vxc, vnd, vne, Nat.reduceAdd, Nat.reduceSub, Nat.reduceLeDiff, Nat.reduceLT, Int32.reduceLT, Int32.reduceLE, Int32.reduceAdd, Int32.reduceSub, Int32.reduceMul, Int32.reduceToNatClampNeg, not_false_eq_true, not_true_eq_false, false_implies, true_implies, Nat.zero_add, reduceIte, Nat.reduceMul, Nat.reduceEqDiff, nxa, nxc, lgn, nL_of, swx, Int.reduceAdd, gI_a, gI_k, gL_a, gL_k, gI_r, gL_r, nI_and, nI_or, nI_xor, nI_ndf, nI_shl, nI_shr, ne_eq, and_true, true_and, eq_self, true_or, or_true, false_or, or_false, Option.toList, List.cons_append, List.nil_append, List.length_nil, List.length_cons, Nat.not_lt_zero]
        exact w101 e fl m (tD n B b4) b6 τ4 he hfl mK hb6 M4 (fun a ha => (g1 a ha).2) C6 x0 y1 y2
      · simp (disch := first | decide | omega) only [mxa, vxa, vxb, vxc, vnd, vne, Nat.reduceAdd, Nat.reduceSub, Nat.reduceLeDiff, Nat.reduceLT, Int32.reduceLT, Int32.reduceLE, Int32.reduceAdd, Int32.reduceSub, Int32.reduceMul, Int32.reduceToNatClampNeg, not_false_eq_true, not_true_eq_false, false_implies, true_implies, Nat.zero_add, reduceIte, Nat.reduceMul, Nat.reduceEqDiff, nxa, nxc, lgn, nL_of, swx, Int.reduceAdd, gI_a, gI_k, gL_a, gL_k, gI_r, gL_r, nI_and, nI_or, nI_xor, nI_ndf, nI_shl, nI_shr, ne_eq, and_true, true_and, eq_self, true_or, or_true, false_or, or_false, Option.toList, List.cons_append, List.nil_append, List.length_nil, List.length_cons, Nat.not_lt_zero]
        exact t101 k p (gf k p (ob.trans hm)) τ4 ⟨F3.tr (F4.R (by omega) (by omega)), C6, x0, x1, k1, k4⟩
    · have c7 : ¬ cc (tK n B b4) = 7 := fun q => c ((cc_is kl (show 2 ≤ 12 by omega)).mp (q.trans rfl))
      have ob : optB n B K b4 = .inr (0, b4) := if_neg c
      obtain ⟨y1, y2⟩ := gy 0 b4 ob
      refine wp_blk kX5_readFamily_79 ?_
      simp (disch := first | decide | omega) only [mxa, vxa, vxb, vxc, vnd, vne, Nat.reduceAdd, Nat.reduceSub, Nat.reduceLeDiff, Nat.reduceLT, Int32.reduceLT, Int32.reduceLE, Int32.reduceAdd, Int32.reduceSub, Int32.reduceMul, Int32.reduceToNatClampNeg, not_false_eq_true, not_true_eq_false, false_implies, true_implies, Nat.zero_add, reduceIte, Nat.reduceMul, Nat.reduceEqDiff, nxa, nxc, lgn, nL_of, swx, Int.reduceAdd, gI_a, gI_k, gL_a, gL_k, gI_r, gL_r, nI_and, nI_or, nI_xor, nI_ndf, nI_shl, nI_shr, ne_eq, and_true, true_and, eq_self, true_or, or_true, false_or, or_false, Option.toList, List.cons_append, List.nil_append, List.length_nil, List.length_cons, Nat.not_lt_zero, bX5_readFamily_79, kdx st, C4.2.2.1, c7]
      exact w101 e fl 0 (tD n B b4) b4 τ he hfl (by omega) hb4 (by rw [z0]; exact M) (fun a ha => absurd ha (by omega)) C4 u0 y1 y2
  refine call_of eX5_readFamily rfl ?_
  refine wp_blk kX5_readFamily_0 ?_
  simp (disch := first | decide | omega) only [mxa, vxa, vxb, vxc, vnd, vne, Nat.reduceAdd, Nat.reduceSub, Nat.reduceLeDiff, Nat.reduceLT, Int32.reduceLT, Int32.reduceLE, Int32.reduceAdd, Int32.reduceSub, Int32.reduceMul, Int32.reduceToNatClampNeg, not_false_eq_true, not_true_eq_false, false_implies, true_implies, Nat.zero_add, reduceIte, Nat.reduceMul, Nat.reduceEqDiff, nxa, nxc, lgn, nL_of, swx, Int.reduceAdd, gI_a, gI_k, gL_a, gL_k, gI_r, gL_r, nI_and, nI_or, nI_xor, nI_ndf, nI_shl, nI_shr, ne_eq, and_true, true_and, eq_self, true_or, or_true, false_or, or_false, Option.toList, List.cons_append, List.nil_append, List.length_nil, List.length_cons, Nat.not_lt_zero, bX5_readFamily_0, kdx hs, grx hr, e0, hN]
  refine wp_blk kX5_readFamily_15 ?_
  simp (disch := first | decide | omega) only [mxa, vxa, vxb, vxc, vnd, vne, Nat.reduceAdd, Nat.reduceSub, Nat.reduceLeDiff, Nat.reduceLT, Int32.reduceLT, Int32.reduceLE, Int32.reduceAdd, Int32.reduceSub, Int32.reduceMul, Int32.reduceToNatClampNeg, not_false_eq_true, not_true_eq_false, false_implies, true_implies, Nat.zero_add, reduceIte, Nat.reduceMul, Nat.reduceEqDiff, nxa, nxc, lgn, nL_of, swx, Int.reduceAdd, gI_a, gI_k, gL_a, gL_k, gI_r, gL_r, nI_and, nI_or, nI_xor, nI_ndf, nI_shl, nI_shr, ne_eq, and_true, true_and, eq_self, true_or, or_true, false_or, or_false, Option.toList, List.cons_append, List.nil_append, List.length_nil, List.length_cons, Nat.not_lt_zero, bX5_readFamily_15, kdx hs, grx hr, e0, ra', mA.1]
  refine c_reset X _ (sI σ 35 0 (nI (N + 1))) A (fmk _ (FrR.sI (by omega) (by omega))) _ (fun τ1 R1 r0 r1 r2 r3 r4 => ?_)
  have M1 : MSf σ τ1 N A (nI 0) (nI 50) (nI 0) (fun _ => nI 0) := ⟨⟨(Fr.sI (Or.inl (by omega))).tr (R1.mono (fun c q => by omega)), (R1.2.2.1 145 (by omega) 3).trans (gI_a (by omega)), fun q => ⟨((R1.2.2.1 145 (by omega) 0).trans (gI_a (by omega))).symm.trans q, (R1.2.2.1 145 (by omega) 1).trans (gI_a (by omega))⟩⟩, (R1.2.2.1 35 (by omega) 0).trans (gI_same _ _ _ _), fun j hj => (R1.2.2.1 35 (by omega) j).trans (gI_k hj), fun a y1 y2 y3 y4 y5 k => (R1.2.2.1 a (by omega) k).trans (gI_a y1), r0, r1, r2 2 (by omega) (by omega), fun j j1 j2 => r2 j (by omega) j2, r3, r4⟩
  have G1 := M1.1
  have C1 : CT τ1 n B b := hC.mv (fun j _ => (R1.2.2.1 145 (by omega) j).trans (gI_a (by omega)))
  have v0 : gI τ1 145 0 = nI 0 := (R1.2.2.1 145 (by omega) 0).trans ((gI_a (by omega)).trans h0)
  simp (disch := first | decide | omega) only [mxa, vxa, vxb, vxc, vnd, vne, Nat.reduceAdd, Nat.reduceSub, Nat.reduceLeDiff, Nat.reduceLT, Int32.reduceLT, Int32.reduceLE, Int32.reduceAdd, Int32.reduceSub, Int32.reduceMul, Int32.reduceToNatClampNeg, not_false_eq_true, not_true_eq_false, false_implies, true_implies, Nat.zero_add, reduceIte, Nat.reduceMul, Nat.reduceEqDiff, nxa, nxc, lgn, nL_of, swx, Int.reduceAdd, gI_a, gI_k, gL_a, gL_k, gI_r, gL_r, nI_and, nI_or, nI_xor, nI_ndf, nI_shl, nI_shr, ne_eq, and_true, true_and, eq_self, true_or, or_true, false_or, or_false, Option.toList, List.cons_append, List.nil_append, List.length_nil, List.length_cons, Nat.not_lt_zero, kdx (G1.1.Sh hs)]
  refine c_advance X _ τ1 n (tD n B b) B (G1.1.Sh hs) (G1.1.Rf hr) (hT.keepR G1) q2 C1.2.1 _ (fun τ2 F2 C2 => ?_)
  have M2 := M1.T A1 A2 F2
  have G2 := M2.1
  have b2n := (tE_le (B := B) q2).2.1
  simp (disch := first | decide | omega) only [mxa, vxa, vxb, vxc, vnd, vne, Nat.reduceAdd, Nat.reduceSub, Nat.reduceLeDiff, Nat.reduceLT, Int32.reduceLT, Int32.reduceLE, Int32.reduceAdd, Int32.reduceSub, Int32.reduceMul, Int32.reduceToNatClampNeg, not_false_eq_true, not_true_eq_false, false_implies, true_implies, Nat.zero_add, reduceIte, Nat.reduceMul, Nat.reduceEqDiff, nxa, nxc, lgn, nL_of, swx, Int.reduceAdd, gI_a, gI_k, gL_a, gL_k, gI_r, gL_r, nI_and, nI_or, nI_xor, nI_ndf, nI_shl, nI_shr, ne_eq, and_true, true_and, eq_self, true_or, or_true, false_or, or_false, Option.toList, List.cons_append, List.nil_append, List.length_nil, List.length_cons, Nat.not_lt_zero, kdx (G2.1.Sh hs), (fmk _ G2).1]
  refine c_numY X _ τ2 n (tD n B b) 0 31 (nI 30) B (G2.1.Sh hs) (G2.1.Rf hr) (hT.keepR G2) q2 C2 (by omega) (cn 30 (by omega)) ((F2.2 0 (by omega)).trans v0) _ (fun ok τ4 F4 C4 => ?_) (fun nok => ?_)
  · rw [if_pos ok] at hf hy
    have M4 := (M2.T A1 A2 F4).s0 (x := nI (vN n B (tD n B b))) A1 A2
    have C5 : CT (sI τ4 A 0 (nI (vN n B (tD n B b)))) n B (tD n B (tD n B b)) := C4.mv (fun j _ => gI_a (by omega))
    have x0 : gI (sI τ4 A 0 (nI (vN n B (tD n B b)))) 145 0 = nI 0 := (gI_a (by omega)).trans ((F4.2 0 (by omega)).trans ((F2.2 0 (by omega)).trans v0))
    have e30 : vN n B (tD n B b) ≤ 30 := by have := ok.2.2; omega
    have G4 := (M2.T A1 A2 F4).1
    have b1 := (tP_le (B := B) q2).1
    have b2 := (tE_le (B := B) q2).1
    have kl := (tK_le (n := n) (B := B) (b := tD n B (tD n B b))).1
    have cl := cc_le _ kl
    by_cases c : tK n B (tD n B (tD n B b)) = 1
    · have c6 : cc (tK n B (tD n B (tD n B b))) = 6 := by rw [c]; rfl
      simp (disch := first | decide | omega) only [mxa, vxa, vxb, vxc, vnd, vne, Nat.reduceAdd, Nat.reduceSub, Nat.reduceLeDiff, Nat.reduceLT, Int32.reduceLT, Int32.reduceLE, Int32.reduceAdd, Int32.reduceSub, Int32.reduceMul, Int32.reduceToNatClampNeg, not_false_eq_true, not_true_eq_false, false_implies, true_implies, Nat.zero_add, reduceIte, Nat.reduceMul, Nat.reduceEqDiff, nxa, nxc, lgn, nL_of, swx, Int.reduceAdd, gI_a, gI_k, gL_a, gL_k, gI_r, gL_r, nI_and, nI_or, nI_xor, nI_ndf, nI_shl, nI_shr, ne_eq, and_true, true_and, eq_self, true_or, or_true, false_or, or_false, Option.toList, List.cons_append, List.nil_append, List.length_nil, List.length_cons, Nat.not_lt_zero, kdx (G4.1.Sh hs), (fmk _ G4).1, C4.2.2.1, c6]
      generalize sI τ4 A 0 (nI (vN n B (tD n B b))) = μ at *
      have Gm := M4.1
      have sm := Gm.1.Sh hs
      refine c_advance X _ μ n _ B sm (Gm.1.Rf hr) (hT.keepR Gm) (tE_le (B := B) b2n).2.1 C5.2.1 _ (fun τ6 F6 C6 => ?_)
      have M6 := M4.T A1 A2 F6
      have G6 := M6.1
      have b3n := (tE_le (B := B) b2n).2.1
      simp (disch := first | decide | omega) only [mxa, vxa, vxb, vxc, vnd, vne, Nat.reduceAdd, Nat.reduceSub, Nat.reduceLeDiff, Nat.reduceLT, Int32.reduceLT, Int32.reduceLE, Int32.reduceAdd, Int32.reduceSub, Int32.reduceMul, Int32.reduceToNatClampNeg, not_false_eq_true, not_true_eq_false, false_implies, true_implies, Nat.zero_add, reduceIte, Nat.reduceMul, Nat.reduceEqDiff, nxa, nxc, lgn, nL_of, swx, Int.reduceAdd, gI_a, gI_k, gL_a, gL_k, gI_r, gL_r, nI_and, nI_or, nI_xor, nI_ndf, nI_shl, nI_shr, ne_eq, and_true, true_and, eq_self, true_or, or_true, false_or, or_false, Option.toList, List.cons_append, List.nil_append, List.length_nil, List.length_cons, Nat.not_lt_zero, kdx (G6.1.Sh hs), (fmk _ G6).1]
      refine c_numY X _ τ6 n _ 0 1000 (nI 999) B (G6.1.Sh hs) (G6.1.Rf hr) (hT.keepR G6) b3n C6 (by omega) (cn 999 (by omega)) ((F6.2 0 (by omega)).trans x0) _ (fun ok2 τ8 F8 C8 => ?_) (fun nok => ?_)
      · have op := optN_y (v := 50) c ok2
        rw [op] at hf hy
        have M8 := (M6.T A1 A2 F8).s1 (x := nI (vN n B (tD n B (tD n B (tD n B b))))) A1 A2
        have G8 := (M6.T A1 A2 F8).1
        have b3 := (tE_le (B := B) b2n).1
        have b4 := (tP_le (B := B) b2n).1
        have b5 := (tP_le (B := B) b3n).1
        have b6 := (tE_le (B := B) b3n).1
        simp (disch := first | decide | omega) only [mxa, vxa, vxb, vxc, vnd, vne, Nat.reduceAdd, Nat.reduceSub, Nat.reduceLeDiff, Nat.reduceLT, Int32.reduceLT, Int32.reduceLE, Int32.reduceAdd, Int32.reduceSub, Int32.reduceMul, Int32.reduceToNatClampNeg, not_false_eq_true, not_true_eq_false, false_implies, true_implies, Nat.zero_add, reduceIte, Nat.reduceMul, Nat.reduceEqDiff, nxa, nxc, lgn, nL_of, swx, Int.reduceAdd, gI_a, gI_k, gL_a, gL_k, gI_r, gL_r, nI_and, nI_or, nI_xor, nI_ndf, nI_shl, nI_shr, ne_eq, and_true, true_and, eq_self, true_or, or_true, false_or, or_false, Option.toList, List.cons_append, List.nil_append, List.length_nil, List.length_cons, Nat.not_lt_zero, (fmk _ G8).1]
        refine w79 _ _ _ _ e30 (by have := ok2.2.2; omega) (tE_le (B := B) b3n).2.1 (by omega) M8 (C8.mv (fun j _ => gI_a (by omega))) ((gI_a (by omega)).trans ((F8.2 0 (by omega)).trans ((F6.2 0 (by omega)).trans x0))) (fun k p ho => hf k p (by simp only [ho])) (fun m b6' ho => ⟨fun k p h3 => hf k p (by simp only [ho, h3]), fun w b8 h3 => hy _ b8 (by simp only [ho, h3])⟩)
      · have op := optN_f (v := 50) c nok
        rw [op] at hf
        simp (disch := first | decide | omega) only [mxa, vxa, vxb, vxc, vnd, vne, Nat.reduceAdd, Nat.reduceSub, Nat.reduceLeDiff, Nat.reduceLT, Int32.reduceLT, Int32.reduceLE, Int32.reduceAdd, Int32.reduceSub, Int32.reduceMul, Int32.reduceToNatClampNeg, not_false_eq_true, not_true_eq_false, false_implies, true_implies, Nat.zero_add, reduceIte, Nat.reduceMul, Nat.reduceEqDiff, nxa, nxc, lgn, nL_of, swx, Int.reduceAdd, gI_a, gI_k, gL_a, gL_k, gI_r, gL_r, nI_and, nI_or, nI_xor, nI_ndf, nI_shl, nI_shr, ne_eq, and_true, true_and, eq_self, true_or, or_true, false_or, or_false, Option.toList, List.cons_append, List.nil_append, List.length_nil, List.length_cons, Nat.not_lt_zero, (fmk _ G6).1]
        exact t79 _ _ (hf _ _ rfl) _ ⟨(G6.tr (FrR.b2 (nF_le n B _))).tr (FrR.sI (by omega) (by omega)), ⟨_, b3n, C6.mv (fun j hj => (gI_a (by omega)).trans ((gI_k (by omega)).trans (gI_k (by omega))))⟩, (gI_a (by omega)).trans ((gI_k (by decide)).trans (gI_same _ _ _ _)), (gI_a (by omega)).trans (gI_same _ _ _ _), nF_le n B _⟩
    · have c6 : ¬ cc (tK n B (tD n B (tD n B b))) = 6 := fun q => c ((cc_is kl (show 1 ≤ 12 by omega)).mp (q.trans rfl))
      have op := optN_n (lo := 0) (H := 1000) (v := 50) c
      rw [op] at hf hy
      simp (disch := first | decide | omega) only [mxa, vxa, vxb, vxc, vnd, vne, Nat.reduceAdd, Nat.reduceSub, Nat.reduceLeDiff, Nat.reduceLT, Int32.reduceLT, Int32.reduceLE, Int32.reduceAdd, Int32.reduceSub, Int32.reduceMul, Int32.reduceToNatClampNeg, not_false_eq_true, not_true_eq_false, false_implies, true_implies, Nat.zero_add, reduceIte, Nat.reduceMul, Nat.reduceEqDiff, nxa, nxc, lgn, nL_of, swx, Int.reduceAdd, gI_a, gI_k, gL_a, gL_k, gI_r, gL_r, nI_and, nI_or, nI_xor, nI_ndf, nI_shl, nI_shr, ne_eq, and_true, true_and, eq_self, true_or, or_true, false_or, or_false, Option.toList, List.cons_append, List.nil_append, List.length_nil, List.length_cons, Nat.not_lt_zero, kdx (G4.1.Sh hs), (fmk _ G4).1, C4.2.2.1, c6]
      refine w79 _ 50 _ _ e30 (by omega) b2n (by omega) M4 C5 x0 (fun k p ho => hf k p (by simp only [ho])) (fun m b6' ho => ⟨fun k p h3 => hf k p (by simp only [ho, h3]), fun w b8 h3 => hy _ b8 (by simp only [ho, h3])⟩)
  · rw [if_neg nok] at hf
    have q := hf _ _ rfl
    have fl : FCs σ (sI (sI (sI τ2 145 0 (nI (nFt n B (tD n B b)))) 145 1 (nI (tP n B (tD n B b)))) A 0 (nI 0)) n B (nFt n B (tD n B b)) (tP n B (tD n B b)) := ⟨(G2.tr (FrR.b2 (nF_le n B _))).tr (FrR.sI (by omega) (by omega)), ⟨_, q2, C2.mv (fun j hj => (gI_a (by omega)).trans ((gI_k (by omega)).trans (gI_k (by omega))))⟩, (gI_a (by omega)).trans ((gI_k (by decide)).trans (gI_same _ _ _ _)), (gI_a (by omega)).trans (gI_same _ _ _ _), nF_le n B _⟩
    have Cm : CT (sI (sI (sI τ2 145 0 (nI (nFt n B (tD n B b)))) 145 1 (nI (tP n B (tD n B b)))) A 0 (nI 0)) n B (tD n B b) := C2.mv (fun j hj => (gI_a (by omega)).trans ((gI_k (by omega)).trans (gI_k (by omega))))
    have nl := nF_le n B (tD n B b)
    have kl := (tK_le (n := n) (B := B) (b := tD n B b)).1
    have cl := cc_le _ kl
    by_cases c : cc (tK n B (tD n B b)) = 6
    · simp (disch := first | decide | omega) only [mxa, vxa, vxb, vxc, vnd, vne, Nat.reduceAdd, Nat.reduceSub, Nat.reduceLeDiff, Nat.reduceLT, Int32.reduceLT, Int32.reduceLE, Int32.reduceAdd, Int32.reduceSub, Int32.reduceMul, Int32.reduceToNatClampNeg, not_false_eq_true, not_true_eq_false, false_implies, true_implies, Nat.zero_add, reduceIte, Nat.reduceMul, Nat.reduceEqDiff, nxa, nxc, lgn, nL_of, swx, Int.reduceAdd, gI_a, gI_k, gL_a, gL_k, gI_r, gL_r, nI_and, nI_or, nI_xor, nI_ndf, nI_shl, nI_shr, ne_eq, and_true, true_and, eq_self, true_or, or_true, false_or, or_false, Option.toList, List.cons_append, List.nil_append, List.length_nil, List.length_cons, Nat.not_lt_zero, kdx (G2.1.Sh hs), (fmk _ G2).1, C2.2.2.1, c]
      refine c_advance X _ _ n (tD n B (tD n B b)) B (by exact G2.1.Sh hs) (by exact G2.1.Rf hr) (hT.keepR fl.1) b2n Cm.2.1 _ (fun τ6 F6 C6 => ?_)
      have F7 := fl.1.tr F6.R
      simp (disch := first | decide | omega) only [mxa, vxa, vxb, vxc, vnd, vne, Nat.reduceAdd, Nat.reduceSub, Nat.reduceLeDiff, Nat.reduceLT, Int32.reduceLT, Int32.reduceLE, Int32.reduceAdd, Int32.reduceSub, Int32.reduceMul, Int32.reduceToNatClampNeg, not_false_eq_true, not_true_eq_false, false_implies, true_implies, Nat.zero_add, reduceIte, Nat.reduceMul, Nat.reduceEqDiff, nxa, nxc, lgn, nL_of, swx, Int.reduceAdd, gI_a, gI_k, gL_a, gL_k, gI_r, gL_r, nI_and, nI_or, nI_xor, nI_ndf, nI_shl, nI_shr, ne_eq, and_true, true_and, eq_self, true_or, or_true, false_or, or_false, Option.toList, List.cons_append, List.nil_append, List.length_nil, List.length_cons, Nat.not_lt_zero, kdx (F7.1.Sh hs), (fmk _ F7).1]
      refine c_numF X _ τ6 n _ _ (nI 0) (nI 999) B (F7.1.Sh hs) (F7.1.Rf hr) (hT.keepR F7) b2n C6 ((F6.2 0 (by omega)).trans fl.2.2.1) nl.1 nl.2 _ (fun τ8 b8 x F8 hb8 C8 => ?_)
      have F9 := F7.tr F8.R
      simp (disch := first | decide | omega) only [mxa, vxa, vxb, vxc, vnd, vne, Nat.reduceAdd, Nat.reduceSub, Nat.reduceLeDiff, Nat.reduceLT, Int32.reduceLT, Int32.reduceLE, Int32.reduceAdd, Int32.reduceSub, Int32.reduceMul, Int32.reduceToNatClampNeg, not_false_eq_true, not_true_eq_false, false_implies, true_implies, Nat.zero_add, reduceIte, Nat.reduceMul, Nat.reduceEqDiff, nxa, nxc, lgn, nL_of, swx, Int.reduceAdd, gI_a, gI_k, gL_a, gL_k, gI_r, gL_r, nI_and, nI_or, nI_xor, nI_ndf, nI_shl, nI_shr, ne_eq, and_true, true_and, eq_self, true_or, or_true, false_or, or_false, Option.toList, List.cons_append, List.nil_append, List.length_nil, List.length_cons, Nat.not_lt_zero, (fmk _ F9).1]
      exact t79 _ _ q _ ⟨F9.tr (FrR.sI (by omega) (by omega)), ⟨b8, hb8, C8.mv (fun j _ => gI_a (by omega))⟩, (gI_a (by omega)).trans ((F8.2 0 (by omega)).trans ((F6.2 0 (by omega)).trans fl.2.2.1)), (gI_a (by omega)).trans ((F8.2 1 (by omega)).trans ((F6.2 1 (by omega)).trans fl.2.2.2.1)), nl⟩
    · simp (disch := first | decide | omega) only [mxa, vxa, vxb, vxc, vnd, vne, Nat.reduceAdd, Nat.reduceSub, Nat.reduceLeDiff, Nat.reduceLT, Int32.reduceLT, Int32.reduceLE, Int32.reduceAdd, Int32.reduceSub, Int32.reduceMul, Int32.reduceToNatClampNeg, not_false_eq_true, not_true_eq_false, false_implies, true_implies, Nat.zero_add, reduceIte, Nat.reduceMul, Nat.reduceEqDiff, nxa, nxc, lgn, nL_of, swx, Int.reduceAdd, gI_a, gI_k, gL_a, gL_k, gI_r, gL_r, nI_and, nI_or, nI_xor, nI_ndf, nI_shl, nI_shr, ne_eq, and_true, true_and, eq_self, true_or, or_true, false_or, or_false, Option.toList, List.cons_append, List.nil_append, List.length_nil, List.length_cons, Nat.not_lt_zero, kdx (G2.1.Sh hs), (fmk _ G2).1, C2.2.2.1, c]
      exact t79 _ _ q _ fl
