/-! quarrels, a line, the text: the class -/
set_option maxRecDepth 20000
theorem le_N1 {N v : Nat} (hN : N ≤ 10) (hv : v ≤ 999) : nI v ≤ nI N - nI 1 ↔ v < N := by
  by_cases z : N = 0
  · subst z
    have e : nI 0 - nI 1 = (-1 : Int32) := rfl
    have t : (-1 : Int32).toInt = -1 := rfl
    rw [e, Int32.le_iff_toInt_le, nI_toInt (by omega), t]; omega
  · rw [nI_dec1 (by omega), Int32.le_iff_toInt_le, nI_toInt (by omega), nI_toInt (by omega)]; omega
theorem qm_set {V : Nat → Int32} {f g : Nat} (hg : g < 10) : qm (upd V (119 + 10 * f + g) (nI 1)) f = qm V f ||| 1 * 2 ^ g := bit_eq (fun i => by
  rw [Nat.one_mul, Nat.testBit_or, Nat.testBit_two_pow, qm_bit, qm_bit]
  unfold qq
  by_cases e : i = g
  · subst e
    rw [upd_s]
    simp [hg]
    decide
  · rw [upd_n (by omega)]
    simp [Ne.symm e])
theorem FV.foe {W : Nat → Int32} {N O K f g : Nat} (h : FV W N O K) (hf : f < N) (hg : g < N) (hfg : f ≠ g) : FV (upd (upd W (119 + 10 * f + g) (nI 1)) (119 + 10 * g + f) (nI 1)) N O K := by
  have hN := h.1.1.2
  refine ⟨h.1.foe hf hg hfg (Or.inr rfl), fun j f' hj h1 h2 => ?_, fun f' a h1 h2 ha => ?_⟩
  · rw [upd_n (by omega), upd_n (by omega)]; exact h.2.1 j f' hj h1 h2
  · rw [upd_n (by omega), upd_n (by omega)]; exact h.2.2 f' a h1 h2 ha
theorem c_readQuarrel (X : Cx) (d : Nat) (σ : Mm) (n b N O K : Nat) (B : Nat → Nat) (W : Nat → Int32) (hst : St σ) (hT : TX σ n B) (hb : b ≤ n) (hC : CT σ n B b) (h0 : gI σ 144 1 = nI 0) (hV : VR σ 34 W N O) (hF : FV W N O K) (Q : Po) (hf : ∀ k p, quS n B W N b = .inl (k, p) → ∀ τ : Mm, FCs σ τ n B k p → Q none τ) (hy : ∀ W' b', quS n B W N b = .inr (W', b') → ∀ τ : Mm, UCs σ τ n B b' W' N O K → Q none τ) : Call X (d + 10) 0 0 mX5_readQuarrel [.ref 144, .ref 34] σ Q := by
  have hs := hst.1
  have hr := hst.2.1
  have hN10 := hF.1.1.2
  have hO3 := hF.1.2.1.2
  have e0 : gI σ 34 0 = nI N := hV.1.1.trans hF.1.1.1
  have q2 := (tE_le (B := B) hb).2.1
  have b2n := (tE_le (B := B) q2).2.1
  have b3n := (tE_le (B := B) b2n).2.1
  have t37 : ∀ k p (x : Int32), (∀ τ : Mm, FCs σ τ n B k p → Q none τ) → ∀ τ : Mm, FCs σ τ n B k p → gI τ 34 0 = nI N → Wp X mX5_readQuarrel (rmo (d + 10) 0 0) (d + 10) Q 0 0 37 [some (.ref 144), some (.ref 34), some (.int x), none] [] τ := fun k p x q τ h u => by
    obtain ⟨F, ⟨b2, hb2, C2⟩, u0, u1, uk⟩ := id h
    have st := F.1.Sh hs
    have rt := F.1.Rf hr
    refine wp_blk kX5_readQuarrel_37 ?_
    simp (disch := first | decide | omega) only [mxa, vxa, vxb, vxc, vnd, vne, Nat.reduceAdd, Nat.reduceSub, Nat.reduceLeDiff, Nat.reduceLT, Int32.reduceLT, Int32.reduceLE, Int32.reduceAdd, Int32.reduceSub, Int32.reduceMul, Int32.reduceToNatClampNeg, not_false_eq_true, not_true_eq_false, false_implies, true_implies, Nat.zero_add, reduceIte, Nat.reduceMul, Nat.reduceEqDiff, nxa, nxc, lgn, nL_of, swx, Int.reduceAdd, gI_a, gI_k, gL_a, gL_k, gI_r, gL_r, nI_and, nI_or, nI_xor, nI_ndf, nI_shl, nI_shr, ne_eq, and_true, true_and, eq_self, true_or, or_true, false_or, or_false, Option.toList, List.cons_append, List.nil_append, List.length_nil, List.length_cons, Nat.not_lt_zero, bX5_readQuarrel_37, kdx st, u]
    refine c_numF X _ τ n b2 k (nI 0) _ B st rt (hT.keepR F) hb2 C2 u0 uk.1 uk.2 _ (fun τ4 b4 y F4 hb4 C4 => ?_)
    have F5 := F.tr F4.R
    have y0 : gI τ4 144 1 = nI k := (F4.2 1 (by omega)).trans u0
    have q' := q τ4 ⟨F5, ⟨b4, hb4, C4⟩, y0, (F4.2 2 (by omega)).trans u1, uk⟩
    simp (disch := first | decide | omega) only [mxa, vxa, vxb, vxc, vnd, vne, Nat.reduceAdd, Nat.reduceSub, Nat.reduceLeDiff, Nat.reduceLT, Int32.reduceLT, Int32.reduceLE, Int32.reduceAdd, Int32.reduceSub, Int32.reduceMul, Int32.reduceToNatClampNeg, not_false_eq_true, not_true_eq_false, false_implies, true_implies, Nat.zero_add, reduceIte, Nat.reduceMul, Nat.reduceEqDiff, nxa, nxc, lgn, nL_of, swx, Int.reduceAdd, gI_a, gI_k, gL_a, gL_k, gI_r, gL_r, nI_and, nI_or, nI_xor, nI_ndf, nI_shl, nI_shr, ne_eq, and_true, true_and, eq_self, true_or, or_true, false_or, or_false, Option.toList, List.cons_append, List.nil_append, List.length_nil, List.length_cons, Nat.not_lt_zero, kdx (F5.1.Sh hs), y0, show ¬ k = 0 by omega]
    refine wp_blk kX5_readQuarrel_90 ?_
    simp (disch := first | decide | omega) only [mxa, vxa, vxb, vxc, vnd, vne, Nat.reduceAdd, Nat.reduceSub, Nat.reduceLeDiff, Nat.reduceLT, Int32.reduceLT, Int32.reduceLE, Int32.reduceAdd, Int32.reduceSub, Int32.reduceMul, Int32.reduceToNatClampNeg, not_false_eq_true, not_true_eq_false, false_implies, true_implies, Nat.zero_add, reduceIte, Nat.reduceMul, Nat.reduceEqDiff, nxa, nxc, lgn, nL_of, swx, Int.reduceAdd, gI_a, gI_k, gL_a, gL_k, gI_r, gL_r, nI_and, nI_or, nI_xor, nI_ndf, nI_shl, nI_shr, ne_eq, and_true, true_and, eq_self, true_or, or_true, false_or, or_false, Option.toList, List.cons_append, List.nil_append, List.length_nil, List.length_cons, Nat.not_lt_zero, bX5_readQuarrel_90]
    exact q'
  unfold quS at hf hy
  refine call_of eX5_readQuarrel rfl ?_
  refine wp_blk kX5_readQuarrel_0 ?_
  simp (disch := first | decide | omega) only [mxa, vxa, vxb, vxc, vnd, vne, Nat.reduceAdd, Nat.reduceSub, Nat.reduceLeDiff, Nat.reduceLT, Int32.reduceLT, Int32.reduceLE, Int32.reduceAdd, Int32.reduceSub, Int32.reduceMul, Int32.reduceToNatClampNeg, not_false_eq_true, not_true_eq_false, false_implies, true_implies, Nat.zero_add, reduceIte, Nat.reduceMul, Nat.reduceEqDiff, nxa, nxc, lgn, nL_of, swx, Int.reduceAdd, gI_a, gI_k, gL_a, gL_k, gI_r, gL_r, nI_and, nI_or, nI_xor, nI_ndf, nI_shl, nI_shr, ne_eq, and_true, true_and, eq_self, true_or, or_true, false_or, or_false, Option.toList, List.cons_append, List.nil_append, List.length_nil, List.length_cons, Nat.not_lt_zero, bX5_readQuarrel_0, kdx hs, grx hr]
  refine c_advance X _ σ n (tD n B b) B hs hr hT q2 hC.2.1 _ (fun τ2 F2 C2 => ?_)
  have F := F2.R
  have st := F.1.Sh hs
  have rt := F.1.Rf hr
  have u0 : gI τ2 144 1 = nI 0 := (F2.2 1 (by omega)).trans h0
  have uN : gI τ2 34 0 = nI N := (F2.1.2.2.1 34 (by omega) 0).trans e0
  simp (disch := first | decide | omega) only [mxa, vxa, vxb, vxc, vnd, vne, Nat.reduceAdd, Nat.reduceSub, Nat.reduceLeDiff, Nat.reduceLT, Int32.reduceLT, Int32.reduceLE, Int32.reduceAdd, Int32.reduceSub, Int32.reduceMul, Int32.reduceToNatClampNeg, not_false_eq_true, not_true_eq_false, false_implies, true_implies, Nat.zero_add, reduceIte, Nat.reduceMul, Nat.reduceEqDiff, nxa, nxc, lgn, nL_of, swx, Int.reduceAdd, gI_a, gI_k, gL_a, gL_k, gI_r, gL_r, nI_and, nI_or, nI_xor, nI_ndf, nI_shl, nI_shr, ne_eq, and_true, true_and, eq_self, true_or, or_true, false_or, or_false, Option.toList, List.cons_append, List.nil_append, List.length_nil, List.length_cons, Nat.not_lt_zero, kdx st, uN]
  refine c_numY X _ τ2 n (tD n B b) 0 N _ B st rt (hT.keepR F) q2 C2 (by omega) (fun v hv => le_N1 hN10 hv) u0 _ (fun ok τ4 F4 C4 => ?_) (fun nok => ?_)
  · rw [if_pos ok] at hf hy
    have G := F.tr F4.R
    have s4 := G.1.Sh hs
    have r4 := G.1.Rf hr
    have x0 : gI τ4 144 1 = nI 0 := (F4.2 1 (by omega)).trans u0
    have xN : gI τ4 34 0 = nI N := (F4.1.2.2.1 34 (by omega) 0).trans uN
    have v1 := ok.2.2
    obtain ⟨kl, -, k9, -⟩ := tK_le (n := n) (B := B) (b := tD n B (tD n B b))
    have cl := cc_le _ kl
    by_cases same : tK n B (tD n B (tD n B b)) = 9 ∧ vN n B (tD n B (tD n B b)) = vN n B (tD n B b)
    · rw [if_pos same] at hf
      have c3 : cc (tK n B (tD n B (tD n B b))) = 3 := by rw [same.1]; rfl
      have v5 := C4.2.2.2 same.1
      have f3 : fT n B (tD n B (tD n B b)) 3 = 3 := by unfold fT; rw [if_neg (by omega)]
      simp (disch := first | decide | omega) only [mxa, vxa, vxb, vxc, vnd, vne, Nat.reduceAdd, Nat.reduceSub, Nat.reduceLeDiff, Nat.reduceLT, Int32.reduceLT, Int32.reduceLE, Int32.reduceAdd, Int32.reduceSub, Int32.reduceMul, Int32.reduceToNatClampNeg, not_false_eq_true, not_true_eq_false, false_implies, true_implies, Nat.zero_add, reduceIte, Nat.reduceMul, Nat.reduceEqDiff, nxa, nxc, lgn, nL_of, swx, Int.reduceAdd, gI_a, gI_k, gL_a, gL_k, gI_r, gL_r, nI_and, nI_or, nI_xor, nI_ndf, nI_shl, nI_shr, ne_eq, and_true, true_and, eq_self, true_or, or_true, false_or, or_false, Option.toList, List.cons_append, List.nil_append, List.length_nil, List.length_cons, Nat.not_lt_zero, kdx s4, C4.2.2.1, c3, v5, same.2]
      refine c_blame0 X _ τ4 n (tD n B (tD n B b)) 3 B s4 C4 x0 (by omega) _ ?_
      rw [f3]
      simp (disch := first | decide | omega) only [mxa, vxa, vxb, vxc, vnd, vne, Nat.reduceAdd, Nat.reduceSub, Nat.reduceLeDiff, Nat.reduceLT, Int32.reduceLT, Int32.reduceLE, Int32.reduceAdd, Int32.reduceSub, Int32.reduceMul, Int32.reduceToNatClampNeg, not_false_eq_true, not_true_eq_false, false_implies, true_implies, Nat.zero_add, reduceIte, Nat.reduceMul, Nat.reduceEqDiff, nxa, nxc, lgn, nL_of, swx, Int.reduceAdd, gI_a, gI_k, gL_a, gL_k, gI_r, gL_r, nI_and, nI_or, nI_xor, nI_ndf, nI_shl, nI_shr, ne_eq, and_true, true_and, eq_self, true_or, or_true, false_or, or_false, Option.toList, List.cons_append, List.nil_append, List.length_nil, List.length_cons, Nat.not_lt_zero]
      exact t37 3 _ _ (hf _ _ rfl) _ (FC_new G b2n C4 (by omega)) ((gI_a (by omega)).trans ((gI_a (by omega)).trans xN))
    · rw [if_neg same] at hf hy
      have at37 : Wp X mX5_readQuarrel (rmo (d + 10) 0 0) (d + 10) Q 0 0 37 [some (.ref 144), some (.ref 34), some (.int (nI (vN n B (tD n B b)))), none] [] τ4 := by
        refine wp_blk kX5_readQuarrel_37 ?_
        simp (disch := first | decide | omega) only [mxa, vxa, vxb, vxc, vnd, vne, Nat.reduceAdd, Nat.reduceSub, Nat.reduceLeDiff, Nat.reduceLT, Int32.reduceLT, Int32.reduceLE, Int32.reduceAdd, Int32.reduceSub, Int32.reduceMul, Int32.reduceToNatClampNeg, not_false_eq_true, not_true_eq_false, false_implies, true_implies, Nat.zero_add, reduceIte, Nat.reduceMul, Nat.reduceEqDiff, nxa, nxc, lgn, nL_of, swx, Int.reduceAdd, gI_a, gI_k, gL_a, gL_k, gI_r, gL_r, nI_and, nI_or, nI_xor, nI_ndf, nI_shl, nI_shr, ne_eq, and_true, true_and, eq_self, true_or, or_true, false_or, or_false, Option.toList, List.cons_append, List.nil_append, List.length_nil, List.length_cons, Nat.not_lt_zero, bX5_readQuarrel_37, kdx s4, xN]
        refine c_numY X _ τ4 n (tD n B (tD n B b)) 0 N _ B s4 r4 (hT.keepR G) b2n C4 (by omega) (fun v hv => by rw [cn_le (by omega) hv]; omega) x0 _ (fun ok2 τ6 F6 C6 => ?_) (fun nok => ?_)
        · rw [if_pos ok2] at hy
          have q := hy _ _ rfl
          have G6 := G.tr F6.R
          have s6 := G6.1.St hst
          have y0 : gI τ6 144 1 = nI 0 := (F6.2 1 (by omega)).trans x0
          have v2 := ok2.2.2
          have ne : vN n B (tD n B b) ≠ vN n B (tD n B (tD n B b)) := fun z => same ⟨ok2.1, z.symm⟩
          have V6 : VR τ6 34 W N O := hV.keep hN10 hst (Or.inr (Or.inl rfl)) G6.1.gR (fun a z1 z2 k => (F6.1.2.2.1 a (by omega) k).trans ((F4.1.2.2.1 a (by omega) k).trans (F2.1.2.2.1 a (by omega) k)))
          generalize vN n B (tD n B b) = f at *
          generalize vN n B (tD n B (tD n B b)) = g at *
          obtain ⟨rf1, mf, pf, pf1, pf2⟩ := fa_ok s6.1 s6.2.1 (Or.inr (Or.inl rfl)) (s6.2.2 34 (Or.inr (Or.inl rfl))) (show f < 10 by omega)
          obtain ⟨rg1, mg, pg, pg1, pg2⟩ := fa_ok s6.1 s6.2.1 (Or.inr (Or.inl rfl)) (s6.2.2 34 (Or.inr (Or.inl rfl))) (show g < 10 by omega)
          have rf1' : gR τ6 35 f = some (fa τ6 34 f) := rf1
          have rg1' : gR τ6 35 g = some (fa τ6 34 g) := rg1
          have pne : fa τ6 34 f ≠ fa τ6 34 g := fun z => ne (fa_inj (s6.2.2 34 (Or.inr (Or.inl rfl))) (by omega) (by omega) z)
          have ff : gI τ6 (fa τ6 34 f) 6 = nI (qm W f) := (V6.2.2 f v1).2.1
          have fg : gI τ6 (fa τ6 34 g) 6 = nI (qm W g) := (V6.2.2 g v2).2.1
          have qf := qm_set (V := W) (f := f) (g := g) (by omega)
          have qg : qm (upd (upd W (119 + 10 * f + g) (nI 1)) (119 + 10 * g + f) (nI 1)) g = qm W g ||| 1 * 2 ^ f := by
            rw [qm_set (by omega), qm_same (V := W) (fun i hi => upd_n (by omega))]
          have w1 := V6.foe s6 (Or.inr (Or.inl rfl)) hN10 hO3 v1 (V' := upd W (119 + 10 * f + g) (nI 1)) (fun k hk => upd_n (by omega))
          rw [qf] at w1
          have s7 : St (sI τ6 (fa τ6 34 f) 6 (nI (qm W f ||| 1 * 2 ^ g))) := (Fr.sI (S := fun _ => True) trivial).St s6
          have w2 := w1.foe s7 (Or.inr (Or.inl rfl)) hN10 hO3 v2 (V' := upd (upd W (119 + 10 * f + g) (nI 1)) (119 + 10 * g + f) (nI 1)) (fun k hk => upd_n (by omega))
          rw [qg] at w2
          simp (disch := first | decide | omega) only [mxa, vxa, vxb, vxc, vnd, vne, Nat.reduceAdd, Nat.reduceSub, Nat.reduceLeDiff, Nat.reduceLT, Int32.reduceLT, Int32.reduceLE, Int32.reduceAdd, Int32.reduceSub, Int32.reduceMul, Int32.reduceToNatClampNeg, not_false_eq_true, not_true_eq_false, false_implies, true_implies, Nat.zero_add, reduceIte, Nat.reduceMul, Nat.reduceEqDiff, nxa, nxc, lgn, nL_of, swx, Int.reduceAdd, gI_a, gI_k, gL_a, gL_k, gI_r, gL_r, nI_and, nI_or, nI_xor, nI_ndf, nI_shl, nI_shr, ne_eq, and_true, true_and, eq_self, true_or, or_true, false_or, or_false, Option.toList, List.cons_append, List.nil_append, List.length_nil, List.length_cons, Nat.not_lt_zero, kdx s6.1, grx s6.2.1, y0, rf1', rg1', mf.1, mg.1, ff, fg]
          refine wp_blk kX5_readQuarrel_90 ?_
          simp (disch := first | decide | omega) only [mxa, vxa, vxb, vxc, vnd, vne, Nat.reduceAdd, Nat.reduceSub, Nat.reduceLeDiff, Nat.reduceLT, Int32.reduceLT, Int32.reduceLE, Int32.reduceAdd, Int32.reduceSub, Int32.reduceMul, Int32.reduceToNatClampNeg, not_false_eq_true, not_true_eq_false, false_implies, true_implies, Nat.zero_add, reduceIte, Nat.reduceMul, Nat.reduceEqDiff, nxa, nxc, lgn, nL_of, swx, Int.reduceAdd, gI_a, gI_k, gL_a, gL_k, gI_r, gL_r, nI_and, nI_or, nI_xor, nI_ndf, nI_shl, nI_shr, ne_eq, and_true, true_and, eq_self, true_or, or_true, false_or, or_false, Option.toList, List.cons_append, List.nil_append, List.length_nil, List.length_cons, Nat.not_lt_zero, bX5_readQuarrel_90]
          refine q _ ⟨(G6.tr (FrR.sI (by omega) (by omega))).tr (FrR.sI (by omega) (by omega)), b3n, C6.mv (fun j _ => (gI_a (by omega)).trans (gI_a (by omega))), (gI_a (by omega)).trans ((gI_a (by omega)).trans y0), w2, hF.foe v1 v2 ne⟩
        · rw [if_neg nok] at hf
          have q := hf _ _ rfl _ (FC_new G b2n C4 (nF_le n B _))
          have nl := nF_le n B (tD n B (tD n B b))
          simp (disch := first | decide | omega) only [mxa, vxa, vxb, vxc, vnd, vne, Nat.reduceAdd, Nat.reduceSub, Nat.reduceLeDiff, Nat.reduceLT, Int32.reduceLT, Int32.reduceLE, Int32.reduceAdd, Int32.reduceSub, Int32.reduceMul, Int32.reduceToNatClampNeg, not_false_eq_true, not_true_eq_false, false_implies, true_implies, Nat.zero_add, reduceIte, Nat.reduceMul, Nat.reduceEqDiff, nxa, nxc, lgn, nL_of, swx, Int.reduceAdd, gI_a, gI_k, gL_a, gL_k, gI_r, gL_r, nI_and, nI_or, nI_xor, nI_ndf, nI_shl, nI_shr, ne_eq, and_true, true_and, eq_self, true_or, or_true, false_or, or_false, Option.toList, List.cons_append, List.nil_append, List.length_nil, List.length_cons, Nat.not_lt_zero, kdx s4, show ¬ nFt n B (tD n B (tD n B b)) = 0 by omega]
          refine wp_blk kX5_readQuarrel_90 ?_
          simp (disch := first | decide | omega) only [mxa, vxa, vxb, vxc, vnd, vne, Nat.reduceAdd, Nat.reduceSub, Nat.reduceLeDiff, Nat.reduceLT, Int32.reduceLT, Int32.reduceLE, Int32.reduceAdd, Int32.reduceSub, Int32.reduceMul, Int32.reduceToNatClampNeg, not_false_eq_true, not_true_eq_false, false_implies, true_implies, Nat.zero_add, reduceIte, Nat.reduceMul, Nat.reduceEqDiff, nxa, nxc, lgn, nL_of, swx, Int.reduceAdd, gI_a, gI_k, gL_a, gL_k, gI_r, gL_r, nI_and, nI_or, nI_xor, nI_ndf, nI_shl, nI_shr, ne_eq, and_true, true_and, eq_self, true_or, or_true, false_or, or_false, Option.toList, List.cons_append, List.nil_append, List.length_nil, List.length_cons, Nat.not_lt_zero, bX5_readQuarrel_90]
          exact q
      by_cases h9 : tK n B (tD n B (tD n B b)) = 9
      · have c3 : cc (tK n B (tD n B (tD n B b))) = 3 := by rw [h9]; rfl
        have v5 := C4.2.2.2 h9
        have vl := vN_le b2n (k9 h9).1
        have nv : ¬ vN n B (tD n B (tD n B b)) = vN n B (tD n B b) := fun z => same ⟨h9, z⟩
        simp (disch := first | decide | omega) only [mxa, vxa, vxb, vxc, vnd, vne, Nat.reduceAdd, Nat.reduceSub, Nat.reduceLeDiff, Nat.reduceLT, Int32.reduceLT, Int32.reduceLE, Int32.reduceAdd, Int32.reduceSub, Int32.reduceMul, Int32.reduceToNatClampNeg, not_false_eq_true, not_true_eq_false, false_implies, true_implies, Nat.zero_add, reduceIte, Nat.reduceMul, Nat.reduceEqDiff, nxa, nxc, lgn, nL_of, swx, Int.reduceAdd, gI_a, gI_k, gL_a, gL_k, gI_r, gL_r, nI_and, nI_or, nI_xor, nI_ndf, nI_shl, nI_shr, ne_eq, and_true, true_and, eq_self, true_or, or_true, false_or, or_false, Option.toList, List.cons_append, List.nil_append, List.length_nil, List.length_cons, Nat.not_lt_zero, kdx s4, C4.2.2.1, c3, v5, nv]
        exact at37
      · have c3 : ¬ cc (tK n B (tD n B (tD n B b))) = 3 := fun z => h9 ((cc_is kl (show 9 ≤ 9 ∧ 9 ≤ 12 by omega)).mp (z.trans rfl))
        simp (disch := first | decide | omega) only [mxa, vxa, vxb, vxc, vnd, vne, Nat.reduceAdd, Nat.reduceSub, Nat.reduceLeDiff, Nat.reduceLT, Int32.reduceLT, Int32.reduceLE, Int32.reduceAdd, Int32.reduceSub, Int32.reduceMul, Int32.reduceToNatClampNeg, not_false_eq_true, not_true_eq_false, false_implies, true_implies, Nat.zero_add, reduceIte, Nat.reduceMul, Nat.reduceEqDiff, nxa, nxc, lgn, nL_of, swx, Int.reduceAdd, gI_a, gI_k, gL_a, gL_k, gI_r, gL_r, nI_and, nI_or, nI_xor, nI_ndf, nI_shl, nI_shr, ne_eq, and_true, true_and, eq_self, true_or, or_true, false_or, or_false, Option.toList, List.cons_append, List.nil_append, List.length_nil, List.length_cons, Nat.not_lt_zero, kdx s4, C4.2.2.1, c3]
        exact at37
  · rw [if_neg nok] at hf
    have q := hf _ _ rfl
    have fl := FC_new F q2 C2 (nF_le n B (tD n B b))
    have nl := nF_le n B (tD n B b)
    obtain ⟨kl, -, k9, -⟩ := tK_le (n := n) (B := B) (b := tD n B b)
    have cl := cc_le _ kl
    have xN : gI (sI (sI τ2 144 1 (nI (nFt n B (tD n B b)))) 144 2 (nI (tP n B (tD n B b)))) 34 0 = nI N := (gI_a (by omega)).trans ((gI_a (by omega)).trans uN)
    have out := t37 _ _ (nI 0) q _ fl xN
    by_cases c3 : cc (tK n B (tD n B b)) = 3
    · have h9 : tK n B (tD n B b) = 9 := (cc_is kl (show 9 ≤ 9 ∧ 9 ≤ 12 by omega)).mp (c3.trans rfl)
      have v5 := C2.2.2.2 h9
      have vl := vN_le q2 (k9 h9).1
      by_cases z : vN n B (tD n B b) = 0
      · simp (disch := first | decide | omega) only [mxa, vxa, vxb, vxc, vnd, vne, Nat.reduceAdd, Nat.reduceSub, Nat.reduceLeDiff, Nat.reduceLT, Int32.reduceLT, Int32.reduceLE, Int32.reduceAdd, Int32.reduceSub, Int32.reduceMul, Int32.reduceToNatClampNeg, not_false_eq_true, not_true_eq_false, false_implies, true_implies, Nat.zero_add, reduceIte, Nat.reduceMul, Nat.reduceEqDiff, nxa, nxc, lgn, nL_of, swx, Int.reduceAdd, gI_a, gI_k, gL_a, gL_k, gI_r, gL_r, nI_and, nI_or, nI_xor, nI_ndf, nI_shl, nI_shr, ne_eq, and_true, true_and, eq_self, true_or, or_true, false_or, or_false, Option.toList, List.cons_append, List.nil_append, List.length_nil, List.length_cons, Nat.not_lt_zero, kdx st, C2.2.2.1, c3, v5, z]
        refine c_blameF X _ _ 3 _ (by exact st) fl.2.2.1 nl.1 nl.2 _ ?_
        simp (disch := first | decide | omega) only [mxa, vxa, vxb, vxc, vnd, vne, Nat.reduceAdd, Nat.reduceSub, Nat.reduceLeDiff, Nat.reduceLT, Int32.reduceLT, Int32.reduceLE, Int32.reduceAdd, Int32.reduceSub, Int32.reduceMul, Int32.reduceToNatClampNeg, not_false_eq_true, not_true_eq_false, false_implies, true_implies, Nat.zero_add, reduceIte, Nat.reduceMul, Nat.reduceEqDiff, nxa, nxc, lgn, nL_of, swx, Int.reduceAdd, gI_a, gI_k, gL_a, gL_k, gI_r, gL_r, nI_and, nI_or, nI_xor, nI_ndf, nI_shl, nI_shr, ne_eq, and_true, true_and, eq_self, true_or, or_true, false_or, or_false, Option.toList, List.cons_append, List.nil_append, List.length_nil, List.length_cons, Nat.not_lt_zero]
        exact out
      · simp (disch := first | decide | omega) only [mxa, vxa, vxb, vxc, vnd, vne, Nat.reduceAdd, Nat.reduceSub, Nat.reduceLeDiff, Nat.reduceLT, Int32.reduceLT, Int32.reduceLE, Int32.reduceAdd, Int32.reduceSub, Int32.reduceMul, Int32.reduceToNatClampNeg, not_false_eq_true, not_true_eq_false, false_implies, true_implies, Nat.zero_add, reduceIte, Nat.reduceMul, Nat.reduceEqDiff, nxa, nxc, lgn, nL_of, swx, Int.reduceAdd, gI_a, gI_k, gL_a, gL_k, gI_r, gL_r, nI_and, nI_or, nI_xor, nI_ndf, nI_shl, nI_shr, ne_eq, and_true, true_and, eq_self, true_or, or_true, false_or, or_false, Option.toList, List.cons_append, List.nil_append, List.length_nil, List.length_cons, Nat.not_lt_zero, kdx st, C2.2.2.1, c3, v5, z]
        exact out
    · simp (disch := first | decide | omega) only [mxa, vxa, vxb, vxc, vnd, vne, Nat.reduceAdd, Nat.reduceSub, Nat.reduceLeDiff, Nat.reduceLT, Int32.reduceLT, Int32.reduceLE, Int32.reduceAdd, Int32.reduceSub, Int32.reduceMul, Int32.reduceToNatClampNeg, not_false_eq_true, not_true_eq_false, false_implies, true_implies, Nat.zero_add, reduceIte, Nat.reduceMul, Nat.reduceEqDiff, nxa, nxc, lgn, nL_of, swx, Int.reduceAdd, gI_a, gI_k, gL_a, gL_k, gI_r, gL_r, nI_and, nI_or, nI_xor, nI_ndf, nI_shl, nI_shr, ne_eq, and_true, true_and, eq_self, true_or, or_true, false_or, or_false, Option.toList, List.cons_append, List.nil_append, List.length_nil, List.length_cons, Nat.not_lt_zero, kdx st, C2.2.2.1, c3]
      exact out
