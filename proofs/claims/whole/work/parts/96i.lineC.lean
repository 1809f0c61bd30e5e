/-! the other lines, the text: the class -/
set_option maxRecDepth 20000
theorem cn_le {h v : Nat} (hh : h ≤ 999) (hv : v ≤ 999) : nI v ≤ nI h ↔ v < h + 1 := by
  rw [Int32.le_iff_toInt_le, nI_toInt (by omega), nI_toInt (by omega)]; omega
theorem FV.mid {W W' : Nat → Int32} {N O O' K K' : Nat} (h : FV W N O K) (e : ∀ i, 9 ≤ i → W' i = W i) (h0 : W' 0 = W 0) (h1 : W' 1 = nI O' ∧ O' ≤ 3) (h3 : W' 3 = nI K' ∧ 1 ≤ K' ∧ K' ≤ 5) (h4 : bd (W' 4) 999) (h2 : bd (W' 2) 999) (hz : ∀ o, o < O' → ∃ z, 1 ≤ z ∧ z ≤ 60 ∧ W' (6 + o) = nI z) (hK : K ≤ K' ∨ N = 0) : FV W' N O' K' := by
  obtain ⟨⟨⟨g0, gN⟩, -, -, -, -, -, gf, gb, ⟨gq1, gq2, gq3⟩, gd⟩, z1, z2⟩ := h
  refine ⟨⟨⟨h0.trans g0, gN⟩, h1, h3, h4, h2, hz, fun f hf => ?_, fun f hf k hk => ?_, ⟨fun f g hf hg => ?_, fun f hf => ?_, fun f g hf hg hN' => ?_⟩, fun f g hf hg => ?_⟩, fun j f hj hf h10 => ?_, fun f a hf h10 ha => ?_⟩
  · rw [e _ (by omega), e _ (by omega), e _ (by omega)]; exact gf f hf
  · rw [e _ (by omega)]
    obtain ⟨x1, x2⟩ := gb f hf k hk
    exact ⟨x1, fun q => x2 (by omega)⟩
  · rw [e _ (by omega), e _ (by omega)]; exact gq1 f g hf hg
  · rw [e _ (by omega)]; exact gq2 f hf
  · rw [e _ (by omega)]; exact gq3 f g hf hg hN'
  · rw [e _ (by omega)]; exact gd f g hf hg
  · rw [e _ (by omega)]; exact z1 j f hj hf h10
  · rw [e _ (by omega)]; exact z2 f a hf h10 ha
theorem VR.mid {σ τ : Mm} {W W' : Nat → Int32} {N O O' : Nat} (hst : St σ) (hN : N ≤ 10) (h : VR σ 34 W N O) (R : ∀ a k, gR τ a k = gR σ a k) (o : ∀ a, 37 ≤ a → a ≤ 66 → ∀ k, gI τ a k = gI σ a k) (e : ∀ i, 9 ≤ i → W' i = W i) (h0 : gI τ 34 0 = W' 0 ∧ gI τ 34 1 = W' 1 ∧ gI τ 34 4 = W' 2 ∧ gI τ 34 2 = W' 3 ∧ gI τ 34 3 = W' 4 ∧ gI τ 34 5 = W' 5) (h7 : ∀ q, q < O' → gI τ 36 q = W' (6 + q)) : VR τ 34 W' N O' := by
  refine ⟨h0, h7, fun f hf => ?_⟩
  have hfa : fa τ 34 f = fa σ 34 f := by unfold fa; rw [R]
  obtain ⟨b1, b2, b3, b4⟩ := h.2.2 f hf
  obtain ⟨-, -, p, hp, ep⟩ := fa_ok hst.1 hst.2.1 (Or.inr (Or.inl rfl)) (hst.2.2 34 (Or.inr (Or.inl rfl))) (show f < 10 by omega)
  rw [hfa]
  refine ⟨fun j hj => by rw [o _ (by omega) (by omega), e _ (by omega)]; exact b1 j hj, by rw [o _ (by omega) (by omega), qm_same (fun g hg => e _ (by omega))]; exact b2, fun k hk => by rw [o _ (by omega) (by omega), e _ (by omega)]; exact b3 k hk, fun g hg => by rw [o _ (by omega) (by omega), e _ (by omega)]; exact b4 g hg⟩
/-- a fault at b -/
theorem FC_new {σ τ : Mm} {n b k : Nat} {B : Nat → Nat} (F : FrR σ τ) (hb : b ≤ n) (hC : CT τ n B b) (hk : 1 ≤ k ∧ k ≤ 4) : FCs σ (sI (sI τ 144 1 (nI k)) 144 2 (nI (tP n B b))) n B k (tP n B b) := ⟨F.tr (FrR.b2 hk), ⟨b, hb, hC.mv (fun j hj => (gI_k (by omega)).trans (gI_k (by omega)))⟩, (gI_k (by decide)).trans (gI_same _ _ _ _), gI_same _ _ _ _, hk⟩
theorem c_readOven (X : Cx) (d : Nat) (σ : Mm) (n b N O K : Nat) (B : Nat → Nat) (W : Nat → Int32) (hst : St σ) (hT : TX σ n B) (hb : b ≤ n) (hC : CT σ n B b) (h0 : gI σ 144 1 = nI 0) (hV : VR σ 34 W N O) (hF : FV W N O K) (Q : Po) (hf : ∀ k p, ovS n B W O b = .inl (k, p) → ∀ τ : Mm, FCs σ τ n B k p → Q none τ) (hy : ∀ W' b', ovS n B W O b = .inr (W', b') → ∀ τ : Mm, UCs σ τ n B b' W' N (O + 1) K → Q none τ) : Call X (d + 10) 0 0 mX5_readOven [.ref 144, .ref 34] σ Q := by
  have hs := hst.1
  have hr := hst.2.1
  have hN10 := hF.1.1.2
  have e1 : gI σ 34 1 = nI O := hV.1.2.1.trans hF.1.2.1.1
  have hO3 := hF.1.2.1.2
  have q2 := (tE_le (B := B) hb).2.1
  have b2n := (tE_le (B := B) q2).2.1
  unfold ovS at hf hy
  by_cases O3 : O = 3
  · rw [if_pos O3] at hf
    have q := hf _ _ rfl
    refine call_of eX5_readOven rfl ?_
    refine wp_blk kX5_readOven_0 ?_
    simp (disch := first | decide | omega) only [mxa, vxa, vxb, vxc, vnd, vne, Nat.reduceAdd, Nat.reduceSub, Nat.reduceLeDiff, Nat.reduceLT, Int32.reduceLT, Int32.reduceLE, Int32.reduceAdd, Int32.reduceSub, Int32.reduceMul, Int32.reduceToNatClampNeg, not_false_eq_true, not_true_eq_false, false_implies, true_implies, Nat.zero_add, reduceIte, Nat.reduceMul, Nat.reduceEqDiff, nxa, nxc, lgn, nL_of, swx, Int.reduceAdd, gI_a, gI_k, gL_a, gL_k, gI_r, gL_r, nI_and, nI_or, nI_xor, nI_ndf, nI_shl, nI_shr, ne_eq, and_true, true_and, eq_self, true_or, or_true, false_or, or_false, Option.toList, List.cons_append, List.nil_append, List.length_nil, List.length_cons, Nat.not_lt_zero, bX5_readOven_0, kdx hs, grx hr, e1, show ¬ O < 3 by omega]
    refine c_blame0 X _ σ n b 4 B hs hC h0 (by omega) _ ?_
    simp (disch := first | decide | omega) only [mxa, vxa, vxb, vxc, vnd, vne, Nat.reduceAdd, Nat.reduceSub, Nat.reduceLeDiff, Nat.reduceLT, Int32.reduceLT, Int32.reduceLE, Int32.reduceAdd, Int32.reduceSub, Int32.reduceMul, Int32.reduceToNatClampNeg, not_false_eq_true, not_true_eq_false, false_implies, true_implies, Nat.zero_add, reduceIte, Nat.reduceMul, Nat.reduceEqDiff, nxa, nxc, lgn, nL_of, swx, Int.reduceAdd, gI_a, gI_k, gL_a, gL_k, gI_r, gL_r, nI_and, nI_or, nI_xor, nI_ndf, nI_shl, nI_shr, ne_eq, and_true, true_and, eq_self, true_or, or_true, false_or, or_false, Option.toList, List.cons_append, List.nil_append, List.length_nil, List.length_cons, Nat.not_lt_zero]
    exact q _ (FC_new FrR.rf hb hC (fT_le (by omega) (by omega)))
  · rw [if_neg O3] at hf hy
    refine call_of eX5_readOven rfl ?_
    refine wp_blk kX5_readOven_0 ?_
    simp (disch := first | decide | omega) only [mxa, vxa, vxb, vxc, vnd, vne, Nat.reduceAdd, Nat.reduceSub, Nat.reduceLeDiff, Nat.reduceLT, Int32.reduceLT, Int32.reduceLE, Int32.reduceAdd, Int32.reduceSub, Int32.reduceMul, Int32.reduceToNatClampNeg, not_false_eq_true, not_true_eq_false, false_implies, true_implies, Nat.zero_add, reduceIte, Nat.reduceMul, Nat.reduceEqDiff, nxa, nxc, lgn, nL_of, swx, Int.reduceAdd, gI_a, gI_k, gL_a, gL_k, gI_r, gL_r, nI_and, nI_or, nI_xor, nI_ndf, nI_shl, nI_shr, ne_eq, and_true, true_and, eq_self, true_or, or_true, false_or, or_false, Option.toList, List.cons_append, List.nil_append, List.length_nil, List.length_cons, Nat.not_lt_zero, bX5_readOven_0, kdx hs, grx hr, e1, show O < 3 by omega]
    refine wp_blk kX5_readOven_14 ?_
    simp (disch := first | decide | omega) only [mxa, vxa, vxb, vxc, vnd, vne, Nat.reduceAdd, Nat.reduceSub, Nat.reduceLeDiff, Nat.reduceLT, Int32.reduceLT, Int32.reduceLE, Int32.reduceAdd, Int32.reduceSub, Int32.reduceMul, Int32.reduceToNatClampNeg, not_false_eq_true, not_true_eq_false, false_implies, true_implies, Nat.zero_add, reduceIte, Nat.reduceMul, Nat.reduceEqDiff, nxa, nxc, lgn, nL_of, swx, Int.reduceAdd, gI_a, gI_k, gL_a, gL_k, gI_r, gL_r, nI_and, nI_or, nI_xor, nI_ndf, nI_shl, nI_shr, ne_eq, and_true, true_and, eq_self, true_or, or_true, false_or, or_false, Option.toList, List.cons_append, List.nil_append, List.length_nil, List.length_cons, Nat.not_lt_zero, bX5_readOven_14, kdx hs, grx hr]
    refine c_advance X _ σ n (tD n B b) B hs hr hT q2 hC.2.1 _ (fun τ2 F2 C2 => ?_)
    have F := F2.R
    have st := F.1.Sh hs
    have rt := F.1.Rf hr
    have u0 : gI τ2 144 1 = nI 0 := (F2.2 1 (by omega)).trans h0
    have u1 : gI τ2 34 1 = nI O := (F2.1.2.2.1 34 (by omega) 1).trans e1
    simp (disch := first | decide | omega) only [mxa, vxa, vxb, vxc, vnd, vne, Nat.reduceAdd, Nat.reduceSub, Nat.reduceLeDiff, Nat.reduceLT, Int32.reduceLT, Int32.reduceLE, Int32.reduceAdd, Int32.reduceSub, Int32.reduceMul, Int32.reduceToNatClampNeg, not_false_eq_true, not_true_eq_false, false_implies, true_implies, Nat.zero_add, reduceIte, Nat.reduceMul, Nat.reduceEqDiff, nxa, nxc, lgn, nL_of, swx, Int.reduceAdd, gI_a, gI_k, gL_a, gL_k, gI_r, gL_r, nI_and, nI_or, nI_xor, nI_ndf, nI_shl, nI_shr, ne_eq, and_true, true_and, eq_self, true_or, or_true, false_or, or_false, Option.toList, List.cons_append, List.nil_append, List.length_nil, List.length_cons, Nat.not_lt_zero, kdx st, grx rt, u1]
    refine c_numY X _ τ2 n (tD n B b) 1 61 (nI 60) B st rt (hT.keepR F) q2 C2 (by omega) (fun v hv => cn_le (by omega) hv) u0 _ (fun ok τ4 F4 C4 => ?_) (fun nok => ?_)
    · rw [if_pos ok] at hy
      have q := hy _ _ rfl
      have G := F.tr F4.R
      have s4 := G.1.Sh hs
      have r4 := G.1.Rf hr
      have x1 : gI τ4 34 1 = nI O := (F4.1.2.2.1 34 (by omega) 1).trans u1
      have o : ∀ a, a ≠ 144 → ∀ k, gI τ4 a k = gI σ a k := fun a z k => (F4.1.2.2.1 a z k).trans (F2.1.2.2.1 a z k)
      simp (disch := first | decide | omega) only [mxa, vxa, vxb, vxc, vnd, vne, Nat.reduceAdd, Nat.reduceSub, Nat.reduceLeDiff, Nat.reduceLT, Int32.reduceLT, Int32.reduceLE, Int32.reduceAdd, Int32.reduceSub, Int32.reduceMul, Int32.reduceToNatClampNeg, not_false_eq_true, not_true_eq_false, false_implies, true_implies, Nat.zero_add, reduceIte, Nat.reduceMul, Nat.reduceEqDiff, nxa, nxc, lgn, nL_of, swx, Int.reduceAdd, gI_a, gI_k, gL_a, gL_k, gI_r, gL_r, nI_and, nI_or, nI_xor, nI_ndf, nI_shl, nI_shr, ne_eq, and_true, true_and, eq_self, true_or, or_true, false_or, or_false, Option.toList, List.cons_append, List.nil_append, List.length_nil, List.length_cons, Nat.not_lt_zero, kdx s4, grx r4, x1]
      refine q _ ⟨(G.tr (FrR.sI (by omega) (by omega))).tr (FrR.sI (by omega) (by omega)), b2n, C4.mv (fun j _ => (gI_a (by omega)).trans (gI_a (by omega))), (gI_a (by omega)).trans ((gI_a (by omega)).trans ((F4.2 1 (by omega)).trans u0)), ?_, ?_⟩
      · obtain ⟨⟨v1, v2, v3, v4, v5, v6⟩, v7, -⟩ := id hV
        refine VR.mid hst hN10 hV (fun a k => G.1.gR a k) (fun a z1 z2 k => (gI_a (by omega)).trans ((gI_a (by omega)).trans (o a (by omega) k))) (fun i hi => by rw [upd_n (by omega), upd_n (by omega)]) ⟨?_, ?_, ?_, ?_, ?_, ?_⟩ (fun z hz => ?_)
        · rw [gI_k (by decide), gI_a (by omega), o 34 (by omega), upd_n (by omega), upd_n (by omega)]; exact v1
        · rw [gI_same, upd_s]
        · rw [gI_k (by decide), gI_a (by omega), o 34 (by omega), upd_n (by omega), upd_n (by omega)]; exact v3
        · rw [gI_k (by decide), gI_a (by omega), o 34 (by omega), upd_n (by omega), upd_n (by omega)]; exact v4
        · rw [gI_k (by decide), gI_a (by omega), o 34 (by omega), upd_n (by omega), upd_n (by omega)]; exact v5
        · rw [gI_k (by decide), gI_a (by omega), o 34 (by omega), upd_n (by omega), upd_n (by omega)]; exact v6
        · rw [gI_a (by omega), upd_n (by omega)]
          by_cases y : z = O
          · rw [y, gI_same, upd_s]
          · rw [gI_k y, o 36 (by omega), upd_n (by omega)]; exact v7 z (by omega)
      · obtain ⟨⟨⟨g0, gN⟩, ⟨g1, gO⟩, g3, g4, g2, gz, -⟩, -⟩ := id hF
        refine hF.mid (fun i hi => by rw [upd_n (by omega), upd_n (by omega)]) (by rw [upd_n (by omega), upd_n (by omega)]) ⟨upd_s _ _ _, by omega⟩ (by rw [upd_n (by omega), upd_n (by omega)]; exact g3) (by rw [upd_n (by omega), upd_n (by omega)]; exact g4) (by rw [upd_n (by omega), upd_n (by omega)]; exact g2) (fun z hz => ?_) (Or.inl (Nat.le_refl _))
        rw [upd_n (by omega)]
        by_cases y : z = O
        · rw [y, upd_s]; exact ⟨_, ok.2.1, by have := ok.2.2; omega, rfl⟩
        · rw [upd_n (by omega)]; exact gz z (by omega)
    · rw [if_neg nok] at hf
      have q := hf _ _ rfl
      have C5 := FC_new F q2 C2 (nF_le n B (tD n B b))
      have x1 : gI (sI (sI τ2 144 1 (nI (nFt n B (tD n B b)))) 144 2 (nI (tP n B (tD n B b)))) 34 1 = nI O := (gI_a (by omega)).trans ((gI_a (by omega)).trans u1)
      simp (disch := first | decide | omega) only [mxa, vxa, vxb, vxc, vnd, vne, Nat.reduceAdd, Nat.reduceSub, Nat.reduceLeDiff, Nat.reduceLT, Int32.reduceLT, Int32.reduceLE, Int32.reduceAdd, Int32.reduceSub, Int32.reduceMul, Int32.reduceToNatClampNeg, not_false_eq_true, not_true_eq_false, false_implies, true_implies, Nat.zero_add, reduceIte, Nat.reduceMul, Nat.reduceEqDiff, nxa, nxc, lgn, nL_of, swx, Int.reduceAdd, gI_a, gI_k, gL_a, gL_k, gI_r, gL_r, nI_and, nI_or, nI_xor, nI_ndf, nI_shl, nI_shr, ne_eq, and_true, true_and, eq_self, true_or, or_true, false_or, or_false, Option.toList, List.cons_append, List.nil_append, List.length_nil, List.length_cons, Nat.not_lt_zero, kdx st, grx rt, u1]
      obtain ⟨G, ⟨b2, hb2, D2⟩, y0, y1, yk⟩ := C5
      exact q _ ⟨(G.tr (FrR.sI (by omega) (by omega))).tr (FrR.sI (by omega) (by omega)), ⟨b2, hb2, D2.mv (fun j _ => (gI_a (by omega)).trans (gI_a (by omega)))⟩, (gI_a (by omega)).trans ((gI_a (by omega)).trans y0), (gI_a (by omega)).trans ((gI_a (by omega)).trans y1), yk⟩
theorem c_readKeep (X : Cx) (d : Nat) (σ : Mm) (n b N O K : Nat) (B : Nat → Nat) (W : Nat → Int32) (hst : St σ) (hT : TX σ n B) (hb : b ≤ n) (hC : CT σ n B b) (h0 : gI σ 144 1 = nI 0) (hV : VR σ 34 W N O) (hF : FV W N O K) (Q : Po) (hf : ∀ k p, keS n B W N b = .inl (k, p) → ∀ τ : Mm, FCs σ τ n B k p → Q none τ) (hy : ∀ W' b', keS n B W N b = .inr (W', b') → ∀ τ : Mm, UCs σ τ n B b' W' N O (vN n B (tD n B b)) → Q none τ) : Call X (d + 10) 0 0 mX5_readKeep [.ref 144, .ref 34] σ Q := by
  have hs := hst.1
  have hr := hst.2.1
  have hN10 := hF.1.1.2
  have e0 : gI σ 34 0 = nI N := hV.1.1.trans hF.1.1.1
  have q2 := (tE_le (B := B) hb).2.1
  have b2n := (tE_le (B := B) q2).2.1
  unfold keS at hf hy
  by_cases N0 : N = 0
  · rw [if_pos N0] at hf hy
    refine call_of eX5_readKeep rfl ?_
    refine wp_blk kX5_readKeep_0 ?_
    simp (disch := first | decide | omega) only [mxa, vxa, vxb, vxc, vnd, vne, Nat.reduceAdd, Nat.reduceSub, Nat.reduceLeDiff, Nat.reduceLT, Int32.reduceLT, Int32.reduceLE, Int32.reduceAdd, Int32.reduceSub, Int32.reduceMul, Int32.reduceToNatClampNeg, not_false_eq_true, not_true_eq_false, false_implies, true_implies, Nat.zero_add, reduceIte, Nat.reduceMul, Nat.reduceEqDiff, nxa, nxc, lgn, nL_of, swx, Int.reduceAdd, gI_a, gI_k, gL_a, gL_k, gI_r, gL_r, nI_and, nI_or, nI_xor, nI_ndf, nI_shl, nI_shr, ne_eq, and_true, true_and, eq_self, true_or, or_true, false_or, or_false, Option.toList, List.cons_append, List.nil_append, List.length_nil, List.length_cons, Nat.not_lt_zero, bX5_readKeep_0, kdx hs, grx hr, e0, show N ≤ 0 by omega]
    refine wp_blk kX5_readKeep_13 ?_
    simp (disch := first | decide | omega) only [mxa, vxa, vxb, vxc, vnd, vne, Nat.reduceAdd, Nat.reduceSub, Nat.reduceLeDiff, Nat.reduceLT, Int32.reduceLT, Int32.reduceLE, Int32.reduceAdd, Int32.reduceSub, Int32.reduceMul, Int32.reduceToNatClampNeg, not_false_eq_true, not_true_eq_false, false_implies, true_implies, Nat.zero_add, reduceIte, Nat.reduceMul, Nat.reduceEqDiff, nxa, nxc, lgn, nL_of, swx, Int.reduceAdd, gI_a, gI_k, gL_a, gL_k, gI_r, gL_r, nI_and, nI_or, nI_xor, nI_ndf, nI_shl, nI_shr, ne_eq, and_true, true_and, eq_self, true_or, or_true, false_or, or_false, Option.toList, List.cons_append, List.nil_append, List.length_nil, List.length_cons, Nat.not_lt_zero, bX5_readKeep_13, kdx hs, grx hr]
    refine c_advance X _ σ n (tD n B b) B hs hr hT q2 hC.2.1 _ (fun τ2 F2 C2 => ?_)
    have F := F2.R
    have st := F.1.Sh hs
    have rt := F.1.Rf hr
    have u0 : gI τ2 144 1 = nI 0 := (F2.2 1 (by omega)).trans h0
    simp (disch := first | decide | omega) only [mxa, vxa, vxb, vxc, vnd, vne, Nat.reduceAdd, Nat.reduceSub, Nat.reduceLeDiff, Nat.reduceLT, Int32.reduceLT, Int32.reduceLE, Int32.reduceAdd, Int32.reduceSub, Int32.reduceMul, Int32.reduceToNatClampNeg, not_false_eq_true, not_true_eq_false, false_implies, true_implies, Nat.zero_add, reduceIte, Nat.reduceMul, Nat.reduceEqDiff, nxa, nxc, lgn, nL_of, swx, Int.reduceAdd, gI_a, gI_k, gL_a, gL_k, gI_r, gL_r, nI_and, nI_or, nI_xor, nI_ndf, nI_shl, nI_shr, ne_eq, and_true, true_and, eq_self, true_or, or_true, false_or, or_false, Option.toList, List.cons_append, List.nil_append, List.length_nil, List.length_cons, Nat.not_lt_zero, kdx st]
    refine c_numY X _ τ2 n (tD n B b) 1 6 (nI 5) B st rt (hT.keepR F) q2 C2 (by omega) (fun v hv => cn_le (by omega) hv) u0 _ (fun ok τ4 F4 C4 => ?_) (fun nok => ?_)
    · rw [if_pos ok] at hy
      have q := hy _ _ rfl
      have G := F.tr F4.R
      have s4 := G.1.Sh hs
      have o : ∀ a, a ≠ 144 → ∀ k, gI τ4 a k = gI σ a k := fun a z k => (F4.1.2.2.1 a z k).trans (F2.1.2.2.1 a z k)
      simp (disch := first | decide | omega) only [mxa, vxa, vxb, vxc, vnd, vne, Nat.reduceAdd, Nat.reduceSub, Nat.reduceLeDiff, Nat.reduceLT, Int32.reduceLT, Int32.reduceLE, Int32.reduceAdd, Int32.reduceSub, Int32.reduceMul, Int32.reduceToNatClampNeg, not_false_eq_true, not_true_eq_false, false_implies, true_implies, Nat.zero_add, reduceIte, Nat.reduceMul, Nat.reduceEqDiff, nxa, nxc, lgn, nL_of, swx, Int.reduceAdd, gI_a, gI_k, gL_a, gL_k, gI_r, gL_r, nI_and, nI_or, nI_xor, nI_ndf, nI_shl, nI_shr, ne_eq, and_true, true_and, eq_self, true_or, or_true, false_or, or_false, Option.toList, List.cons_append, List.nil_append, List.length_nil, List.length_cons, Nat.not_lt_zero, kdx s4]
      refine q _ ⟨G.tr (FrR.sI (by omega) (by omega)), b2n, C4.mv (fun j _ => gI_a (by omega)), (gI_a (by omega)).trans ((F4.2 1 (by omega)).trans u0), ?_, ?_⟩
      · obtain ⟨⟨v1, v2, v3, v4, v5, v6⟩, v7, -⟩ := id hV
        refine VR.mid hst hN10 hV (fun a k => G.1.gR a k) (fun a z1 z2 k => (gI_a (by omega)).trans (o a (by omega) k)) (fun i hi => by rw [upd_n (by omega)]) ⟨?_, ?_, ?_, ?_, ?_, ?_⟩ (fun z hz => ?_)
        · rw [gI_k (by decide), o 34 (by omega), upd_n (by omega)]; exact v1
        · rw [gI_k (by decide), o 34 (by omega), upd_n (by omega)]; exact v2
        · rw [gI_k (by decide), o 34 (by omega), upd_n (by omega)]; exact v3
        · rw [gI_same, upd_s]
        · rw [gI_k (by decide), o 34 (by omega), upd_n (by omega)]; exact v5
        · rw [gI_k (by decide), o 34 (by omega), upd_n (by omega)]; exact v6
        · have hO3 := hF.1.2.1.2
          rw [gI_a (by omega), o 36 (by omega), upd_n (by omega)]; exact v7 z hz
      · obtain ⟨⟨⟨g0, gN⟩, ⟨g1, gO⟩, g3, g4, g2, gz, -⟩, -⟩ := id hF
        refine hF.mid (fun i hi => by rw [upd_n (by omega)]) (by rw [upd_n (by omega)]) (by rw [upd_n (by omega)]; exact ⟨g1, gO⟩) ⟨upd_s _ _ _, ok.2.1, by have := ok.2.2; omega⟩ (by rw [upd_n (by omega)]; exact g4) (by rw [upd_n (by omega)]; exact g2) (fun z hz => ?_) (Or.inr N0)
        rw [upd_n (by omega)]; exact gz z hz
    · rw [if_neg nok] at hf
      have q := hf _ _ rfl
      obtain ⟨G, ⟨b2, hb2, D2⟩, y0, y1, yk⟩ := FC_new F q2 C2 (nF_le n B (tD n B b))
      simp (disch := first | decide | omega) only [mxa, vxa, vxb, vxc, vnd, vne, Nat.reduceAdd, Nat.reduceSub, Nat.reduceLeDiff, Nat.reduceLT, Int32.reduceLT, Int32.reduceLE, Int32.reduceAdd, Int32.reduceSub, Int32.reduceMul, Int32.reduceToNatClampNeg, not_false_eq_true, not_true_eq_false, false_implies, true_implies, Nat.zero_add, reduceIte, Nat.reduceMul, Nat.reduceEqDiff, nxa, nxc, lgn, nL_of, swx, Int.reduceAdd, gI_a, gI_k, gL_a, gL_k, gI_r, gL_r, nI_and, nI_or, nI_xor, nI_ndf, nI_shl, nI_shr, ne_eq, and_true, true_and, eq_self, true_or, or_true, false_or, or_false, Option.toList, List.cons_append, List.nil_append, List.length_nil, List.length_cons, Nat.not_lt_zero, kdx st]
      exact q _ ⟨G.tr (FrR.sI (by omega) (by omega)), ⟨b2, hb2, D2.mv (fun j _ => gI_a (by omega))⟩, (gI_a (by omega)).trans y0, (gI_a (by omega)).trans y1, yk⟩
  · rw [if_neg N0] at hf
    have q := hf _ _ rfl
    refine call_of eX5_readKeep rfl ?_
    refine wp_blk kX5_readKeep_0 ?_
    simp (disch := first | decide | omega) only [mxa, vxa, vxb, vxc, vnd, vne, Nat.reduceAdd, Nat.reduceSub, Nat.reduceLeDiff, Nat.reduceLT, Int32.reduceLT, Int32.reduceLE, Int32.reduceAdd, Int32.reduceSub, Int32.reduceMul, Int32.reduceToNatClampNeg, not_false_eq_true, not_true_eq_false, false_implies, true_implies, Nat.zero_add, reduceIte, Nat.reduceMul, Nat.reduceEqDiff, nxa, nxc, lgn, nL_of, swx, Int.reduceAdd, gI_a, gI_k, gL_a, gL_k, gI_r, gL_r, nI_and, nI_or, nI_xor, nI_ndf, nI_shl, nI_shr, ne_eq, and_true, true_and, eq_self, true_or, or_true, false_or, or_false, Option.toList, List.cons_append, List.nil_append, List.length_nil, List.length_cons, Nat.not_lt_zero, bX5_readKeep_0, kdx hs, grx hr, e0, show ¬ N ≤ 0 by omega]
    refine c_blame0 X _ σ n b 2 B hs hC h0 (by omega) _ ?_
    simp (disch := first | decide | omega) only [mxa, vxa, vxb, vxc, vnd, vne, Nat.reduceAdd, Nat.reduceSub, Nat.reduceLeDiff, Nat.reduceLT, Int32.reduceLT, Int32.reduceLE, Int32.reduceAdd, Int32.reduceSub, Int32.reduceMul, Int32.reduceToNatClampNeg, not_false_eq_true, not_true_eq_false, false_implies, true_implies, Nat.zero_add, reduceIte, Nat.reduceMul, Nat.reduceEqDiff, nxa, nxc, lgn, nL_of, swx, Int.reduceAdd, gI_a, gI_k, gL_a, gL_k, gI_r, gL_r, nI_and, nI_or, nI_xor, nI_ndf, nI_shl, nI_shr, ne_eq, and_true, true_and, eq_self, true_or, or_true, false_or, or_false, Option.toList, List.cons_append, List.nil_append, List.length_nil, List.length_cons, Nat.not_lt_zero]
    exact q _ (FC_new FrR.rf hb hC (fT_le (by omega) (by omega)))
