/-! lines: the model's way through them -/
set_option maxRecDepth 20000
theorem FM_new {σ τ : Mm} {n b k : Nat} {B : Nat → Nat} (F : FrN σ τ) (hb : b ≤ n) (hC : MT τ n B b) (hk : 1 ≤ k ∧ k ≤ 4) : FMs σ (sI (sI τ 190 11 (nI k)) 190 12 (nI (tP n B b))) n B k (tP n B b) := ⟨F.tr FrN.b2, ⟨b, hb, hC.mv (fun j hj => (gI_k (by omega)).trans (gI_k (by omega)))⟩, (gI_k (by decide)).trans (gI_same _ _ _ _), gI_same _ _ _ _, hk⟩
theorem FMs.put {σ τ : Mm} {n k p i : Nat} {B : Nat → Nat} {x : Int32} (h : FMs σ τ n B k p) : FMs σ (sI τ 194 i x) n B k p := by
  obtain ⟨F, ⟨b, hb, C⟩, h0, h1, hk⟩ := h
  exact ⟨F.tr FrN.put, ⟨b, hb, C.mv (fun j _ => gI_a (by decide))⟩, (gI_a (by decide)).trans h0, (gI_a (by decide)).trans h1, hk⟩
theorem c_mbread (X : Cx) (d : Nat) (σ : Mm) (n b N K : Nat) (B : Nat → Nat) (hs : Sh σ) (hr : Rf σ) (hT : MX σ n B) (hN : N < 10) (hb : b ≤ n) (hC : MT σ n B b) (K1 : 1 ≤ K) (K5 : K ≤ 5) (h3 : gI σ 194 3 = nI K) (h0 : gI σ 190 11 = nI 0) (Q : Po) (hy : ∀ m b', brS n B K 7 0 b = .inr (m, b') → ∀ τ : Mm, FrN σ τ → b' ≤ n → MT τ n B b' → gI τ 190 11 = nI 0 → m ≤ K → (∀ a, a < m → gI τ 194 (69 + 5 * N + a) = nI (vN n B (itE n B a b))) → (∀ i, i < 69 + 5 * N ∨ 69 + 5 * N + m ≤ i → gI τ 194 i = gI σ 194 i) → Q none τ) (hn : ∀ k p, brS n B K 7 0 b = .inl (k, p) → ∀ τ : Mm, FMs σ τ n B k p → Q none τ) : Call X (d + 7) 0 0 mX10_readBread [.ref 190, .int (nI N)] σ Q := by
  have loop : ∀ f a b2, f + a = 7 → a ≤ K → brS n B K f a b2 = brS n B K 7 0 b → b2 = itE n B a b → b2 ≤ n → ∀ τ : Mm, FrN σ τ → MT τ n B b2 → gI τ 190 11 = nI 0 → (∀ i, i < a → gI τ 194 (69 + 5 * N + i) = nI (vN n B (itE n B i b))) → (∀ i, i < 69 + 5 * N ∨ 69 + 5 * N + a ≤ i → gI τ 194 i = gI σ 194 i) → Wp X mX10_readBread (rmo (d + 7) 0 0) (d + 7) Q 0 0 2 [some (.ref 190), some (.int (nI N)), some (.int (nI a)), none] [] τ := by
    intro f
    induction f with
    | zero => intro a b2 e; omega
    | succ f ih =>
      intro a b2 fa haK hbr hit hb2 τ F C2 t0 g1 g2
      have st : Sh τ := F.1.Sh hs
      have rt : Rf τ := F.1.Rf hr
      have tT := hT.keepN F
      obtain ⟨kl, -, k9, -⟩ := tK_le (n := n) (B := B) (b := b2)
      obtain ⟨e1, e2, e3⟩ := tE_le (B := B) hb2
      have u3 : gI τ 194 3 = nI K := (g2 3 (by omega)).trans h3
      have fail61 : ∀ k p, brS n B K 7 0 b = .inl (k, p) → ∀ τ2 : Mm, FMs σ τ2 n B k p → Wp X mX10_readBread (rmo (d + 7) 0 0) (d + 7) Q 0 0 61 [some (.ref 190), some (.int (nI N)), some (.int (nI a)), none] [] τ2 := fun k p hb' τ2 h2 => by
        have q := hn k p hb' τ2 h2
        have s2 := h2.1.1.Sh hs
        have hk := h2.2.2.2.2
        refine wp_blk kX10_readBread_61 ?_
        simp (disch := first | decide | omega) only [mxa, vxa, vxb, vxc, vnd, vne, Nat.reduceAdd, Nat.reduceSub, Nat.reduceLeDiff, Nat.reduceLT, Int32.reduceLT, Int32.reduceLE, Int32.reduceAdd, Int32.reduceSub, Int32.reduceMul, Int32.reduceToNatClampNeg, not_false_eq_true, not_true_eq_false, false_implies, true_implies, Nat.zero_add, reduceIte, Nat.reduceMul, Nat.reduceEqDiff, nxa, nxc, lgn, nL_of, swx, Int.reduceAdd, gI_a, gI_k, gL_a, gL_k, gI_r, gL_r, nI_and, nI_or, nI_xor, nI_ndf, nI_shl, nI_shr, ne_eq, and_true, true_and, eq_self, true_or, or_true, false_or, or_false, Option.toList, List.cons_append, List.nil_append, List.length_nil, List.length_cons, Nat.not_lt_zero, bX10_readBread_61, kdx s2]
        refine c_takesF X _ τ2 k _ _ s2 h2.2.2.1 hk _ (fun x => ?_)
        simp (disch := first | decide | omega) only [mxa, vxa, vxb, vxc, vnd, vne, Nat.reduceAdd, Nat.reduceSub, Nat.reduceLeDiff, Nat.reduceLT, Int32.reduceLT, Int32.reduceLE, Int32.reduceAdd, Int32.reduceSub, Int32.reduceMul, Int32.reduceToNatClampNeg, not_false_eq_true, not_true_eq_false, false_implies, true_implies, Nat.zero_add, reduceIte, Nat.reduceMul, Nat.reduceEqDiff, nxa, nxc, lgn, nL_of, swx, Int.reduceAdd, gI_a, gI_k, gL_a, gL_k, gI_r, gL_r, nI_and, nI_or, nI_xor, nI_ndf, nI_shl, nI_shr, ne_eq, and_true, true_and, eq_self, true_or, or_true, false_or, or_false, Option.toList, List.cons_append, List.nil_append, List.length_nil, List.length_cons, Nat.not_lt_zero, kdx s2, h2.2.2.1, show ¬ k = 0 by omega]
        exact q
      have at61 : (¬ (okNum n B b2 0 100 ∧ a = K)) → ¬ (a ≠ 0 ∧ tK n B b2 ≠ 9) → Wp X mX10_readBread (rmo (d + 7) 0 0) (d + 7) Q 0 0 61 [some (.ref 190), some (.int (nI N)), some (.int (nI a)), none] [] τ := fun hno nz => by
        refine wp_blk kX10_readBread_61 ?_
        simp (disch := first | decide | omega) only [mxa, vxa, vxb, vxc, vnd, vne, Nat.reduceAdd, Nat.reduceSub, Nat.reduceLeDiff, Nat.reduceLT, Int32.reduceLT, Int32.reduceLE, Int32.reduceAdd, Int32.reduceSub, Int32.reduceMul, Int32.reduceToNatClampNeg, not_false_eq_true, not_true_eq_false, false_implies, true_implies, Nat.zero_add, reduceIte, Nat.reduceMul, Nat.reduceEqDiff, nxa, nxc, lgn, nL_of, swx, Int.reduceAdd, gI_a, gI_k, gL_a, gL_k, gI_r, gL_r, nI_and, nI_or, nI_xor, nI_ndf, nI_shl, nI_shr, ne_eq, and_true, true_and, eq_self, true_or, or_true, false_or, or_false, Option.toList, List.cons_append, List.nil_append, List.length_nil, List.length_cons, Nat.not_lt_zero, bX10_readBread_61, kdx st]
        refine c_takesY X _ τ n b2 0 100 (nI 99) B st rt tT hb2 C2 t0 (by omega) (wi_le (by omega) (by omega)) _ (fun ok τ2 F2 C3 => ?_) (fun nok x => ?_)
        · have aK : a < K := by
            rcases Nat.lt_or_ge a K with z | z
            · exact z
            · exact absurd ⟨ok, by omega⟩ hno
          have v9 := ok.2.2
          have F3 := F.tr F2.N
          have s2 := F3.1.Sh hs
          have r2 := F3.1.Rf hr
          have x0 : gI τ2 190 11 = nI 0 := (F2.2 11 (by decide) (by decide) (by decide) (by decide)).trans t0
          simp (disch := first | decide | omega) only [mxa, vxa, vxb, vxc, vnd, vne, Nat.reduceAdd, Nat.reduceSub, Nat.reduceLeDiff, Nat.reduceLT, Int32.reduceLT, Int32.reduceLE, Int32.reduceAdd, Int32.reduceSub, Int32.reduceMul, Int32.reduceToNatClampNeg, not_false_eq_true, not_true_eq_false, false_implies, true_implies, Nat.zero_add, reduceIte, Nat.reduceMul, Nat.reduceEqDiff, nxa, nxc, lgn, nL_of, swx, Int.reduceAdd, gI_a, gI_k, gL_a, gL_k, gI_r, gL_r, nI_and, nI_or, nI_xor, nI_ndf, nI_shl, nI_shr, ne_eq, and_true, true_and, eq_self, true_or, or_true, false_or, or_false, Option.toList, List.cons_append, List.nil_append, List.length_nil, List.length_cons, Nat.not_lt_zero, kdx s2, x0]
          refine wp_blk kX10_readBread_77 ?_
          simp (disch := first | decide | omega) only [mxa, vxa, vxb, vxc, vnd, vne, Nat.reduceAdd, Nat.reduceSub, Nat.reduceLeDiff, Nat.reduceLT, Int32.reduceLT, Int32.reduceLE, Int32.reduceAdd, Int32.reduceSub, Int32.reduceMul, Int32.reduceToNatClampNeg, not_false_eq_true, not_true_eq_false, false_implies, true_implies, Nat.zero_add, reduceIte, Nat.reduceMul, Nat.reduceEqDiff, nxa, nxc, lgn, nL_of, swx, Int.reduceAdd, gI_a, gI_k, gL_a, gL_k, gI_r, gL_r, nI_and, nI_or, nI_xor, nI_ndf, nI_shl, nI_shr, ne_eq, and_true, true_and, eq_self, true_or, or_true, false_or, or_false, Option.toList, List.cons_append, List.nil_append, List.length_nil, List.length_cons, Nat.not_lt_zero, bX10_readBread_77, kdx s2, grx r2]
          refine Wp.fog 3 (ih (a + 1) (tD n B b2) (by omega) (by omega) (by rw [← brS_y nz ok (by omega)]; exact hbr) (by rw [itE_s, hit]) e2 _ (F3.tr FrN.put) (C3.mv (fun j _ => gI_a (by decide))) ((gI_a (by decide)).trans x0) (fun i hi => ?_) (fun i hi => ?_))
          · by_cases z : i = a
            · rw [z, gI_same, ← hit]
            · rw [gI_k (by omega), F2.1.2.2.1 194 (by omega)]; exact g1 i (by omega)
          · rw [gI_k (by omega), F2.1.2.2.1 194 (by omega)]; exact g2 i (by omega)
        · have nl := nF_le n B b2
          have q := hn _ _ (hbr.symm.trans (brS_n nz nok)) _ (FM_new F hb2 C2 nl)
          simp (disch := first | decide | omega) only [mxa, vxa, vxb, vxc, vnd, vne, Nat.reduceAdd, Nat.reduceSub, Nat.reduceLeDiff, Nat.reduceLT, Int32.reduceLT, Int32.reduceLE, Int32.reduceAdd, Int32.reduceSub, Int32.reduceMul, Int32.reduceToNatClampNeg, not_false_eq_true, not_true_eq_false, false_implies, true_implies, Nat.zero_add, reduceIte, Nat.reduceMul, Nat.reduceEqDiff, nxa, nxc, lgn, nL_of, swx, Int.reduceAdd, gI_a, gI_k, gL_a, gL_k, gI_r, gL_r, nI_and, nI_or, nI_xor, nI_ndf, nI_shl, nI_shr, ne_eq, and_true, true_and, eq_self, true_or, or_true, false_or, or_false, Option.toList, List.cons_append, List.nil_append, List.length_nil, List.length_cons, Nat.not_lt_zero, kdx st, show ¬ nFt n B b2 = 0 by omega]
          exact q
      have at22 : ¬ (a ≠ 0 ∧ tK n B b2 ≠ 9) → Wp X mX10_readBread (rmo (d + 7) 0 0) (d + 7) Q 0 0 22 [some (.ref 190), some (.int (nI N)), some (.int (nI a)), none] [] τ := fun nz => by
        by_cases h9 : tK n B b2 = 9
        · have v9 := vN_le hb2 (k9 h9).1
          have v10 := C2.2.2.2 h9
          have w := wi_le (lo := 0) (h := 99) (by omega) (by omega) _ v9
          have w' : wi (nL (vN n B b2)) (nL 0) (nL 99) = nI (if 0 ≤ vN n B b2 ∧ vN n B b2 < 99 + 1 then 1 else 0) := w
          refine wp_blk kX10_readBread_22 ?_
          simp (disch := first | decide | omega) only [mxa, vxa, vxb, vxc, vnd, vne, Nat.reduceAdd, Nat.reduceSub, Nat.reduceLeDiff, Nat.reduceLT, Int32.reduceLT, Int32.reduceLE, Int32.reduceAdd, Int32.reduceSub, Int32.reduceMul, Int32.reduceToNatClampNeg, not_false_eq_true, not_true_eq_false, false_implies, true_implies, Nat.zero_add, reduceIte, Nat.reduceMul, Nat.reduceEqDiff, nxa, nxc, lgn, nL_of, swx, Int.reduceAdd, gI_a, gI_k, gL_a, gL_k, gI_r, gL_r, nI_and, nI_or, nI_xor, nI_ndf, nI_shl, nI_shr, ne_eq, and_true, true_and, eq_self, true_or, or_true, false_or, or_false, Option.toList, List.cons_append, List.nil_append, List.length_nil, List.length_cons, Nat.not_lt_zero, bX10_readBread_22, kdx st, C2.2.2.1, h9, v10]
          refine c_within X _ _ _ _ _ _ ?_
          by_cases ok : 0 ≤ vN n B b2 ∧ vN n B b2 < 99 + 1
          · rw [if_pos ok] at w'
            have okn : okNum n B b2 0 100 := ⟨h9, ok⟩
            by_cases eK : a = K
            · have f4 : fT n B b2 4 = 4 := by unfold fT; rw [if_neg (by omega)]
              simp (disch := first | decide | omega) only [mxa, vxa, vxb, vxc, vnd, vne, Nat.reduceAdd, Nat.reduceSub, Nat.reduceLeDiff, Nat.reduceLT, Int32.reduceLT, Int32.reduceLE, Int32.reduceAdd, Int32.reduceSub, Int32.reduceMul, Int32.reduceToNatClampNeg, not_false_eq_true, not_true_eq_false, false_implies, true_implies, Nat.zero_add, reduceIte, Nat.reduceMul, Nat.reduceEqDiff, nxa, nxc, lgn, nL_of, swx, Int.reduceAdd, gI_a, gI_k, gL_a, gL_k, gI_r, gL_r, nI_and, nI_or, nI_xor, nI_ndf, nI_shl, nI_shr, ne_eq, and_true, true_and, eq_self, true_or, or_true, false_or, or_false, Option.toList, List.cons_append, List.nil_append, List.length_nil, List.length_cons, Nat.not_lt_zero, w', kdx st, grx rt, u3, eK]
              refine c_failsY X _ τ n b2 4 B st C2 t0 (by omega) _ ?_
              rw [f4]
              simp (disch := first | decide | omega) only [mxa, vxa, vxb, vxc, vnd, vne, Nat.reduceAdd, Nat.reduceSub, Nat.reduceLeDiff, Nat.reduceLT, Int32.reduceLT, Int32.reduceLE, Int32.reduceAdd, Int32.reduceSub, Int32.reduceMul, Int32.reduceToNatClampNeg, not_false_eq_true, not_true_eq_false, false_implies, true_implies, Nat.zero_add, reduceIte, Nat.reduceMul, Nat.reduceEqDiff, nxa, nxc, lgn, nL_of, swx, Int.reduceAdd, gI_a, gI_k, gL_a, gL_k, gI_r, gL_r, nI_and, nI_or, nI_xor, nI_ndf, nI_shl, nI_shr, ne_eq, and_true, true_and, eq_self, true_or, or_true, false_or, or_false, Option.toList, List.cons_append, List.nil_append, List.length_nil, List.length_cons, Nat.not_lt_zero]
              have := fail61 4 _ (hbr.symm.trans (brS_k nz okn eK)) _ (FM_new F hb2 C2 (by omega))
              rw [eK] at this
              exact this
            · simp (disch := first | decide | omega) only [mxa, vxa, vxb, vxc, vnd, vne, Nat.reduceAdd, Nat.reduceSub, Nat.reduceLeDiff, Nat.reduceLT, Int32.reduceLT, Int32.reduceLE, Int32.reduceAdd, Int32.reduceSub, Int32.reduceMul, Int32.reduceToNatClampNeg, not_false_eq_true, not_true_eq_false, false_implies, true_implies, Nat.zero_add, reduceIte, Nat.reduceMul, Nat.reduceEqDiff, nxa, nxc, lgn, nL_of, swx, Int.reduceAdd, gI_a, gI_k, gL_a, gL_k, gI_r, gL_r, nI_and, nI_or, nI_xor, nI_ndf, nI_shl, nI_shr, ne_eq, and_true, true_and, eq_self, true_or, or_true, false_or, or_false, Option.toList, List.cons_append, List.nil_append, List.length_nil, List.length_cons, Nat.not_lt_zero, w', kdx st, grx rt, u3, eK]
              exact at61 (fun z => eK z.2) nz
          · rw [if_neg ok] at w'
            simp (disch := first | decide | omega) only [mxa, vxa, vxb, vxc, vnd, vne, Nat.reduceAdd, Nat.reduceSub, Nat.reduceLeDiff, Nat.reduceLT, Int32.reduceLT, Int32.reduceLE, Int32.reduceAdd, Int32.reduceSub, Int32.reduceMul, Int32.reduceToNatClampNeg, not_false_eq_true, not_true_eq_false, false_implies, true_implies, Nat.zero_add, reduceIte, Nat.reduceMul, Nat.reduceEqDiff, nxa, nxc, lgn, nL_of, swx, Int.reduceAdd, gI_a, gI_k, gL_a, gL_k, gI_r, gL_r, nI_and, nI_or, nI_xor, nI_ndf, nI_shl, nI_shr, ne_eq, and_true, true_and, eq_self, true_or, or_true, false_or, or_false, Option.toList, List.cons_append, List.nil_append, List.length_nil, List.length_cons, Nat.not_lt_zero, w']
            exact at61 (fun z => ok z.1.2) nz
        · refine wp_blk kX10_readBread_22 ?_
          simp (disch := first | decide | omega) only [mxa, vxa, vxb, vxc, vnd, vne, Nat.reduceAdd, Nat.reduceSub, Nat.reduceLeDiff, Nat.reduceLT, Int32.reduceLT, Int32.reduceLE, Int32.reduceAdd, Int32.reduceSub, Int32.reduceMul, Int32.reduceToNatClampNeg, not_false_eq_true, not_true_eq_false, false_implies, true_implies, Nat.zero_add, reduceIte, Nat.reduceMul, Nat.reduceEqDiff, nxa, nxc, lgn, nL_of, swx, Int.reduceAdd, gI_a, gI_k, gL_a, gL_k, gI_r, gL_r, nI_and, nI_or, nI_xor, nI_ndf, nI_shl, nI_shr, ne_eq, and_true, true_and, eq_self, true_or, or_true, false_or, or_false, Option.toList, List.cons_append, List.nil_append, List.length_nil, List.length_cons, Nat.not_lt_zero, bX10_readBread_22, kdx st, C2.2.2.1, h9]
          exact at61 (fun z => h9 z.1.1) nz
      by_cases a0 : a = 0
      · refine wp_blk kX10_readBread_2 ?_
        simp (disch := first | decide | omega) only [mxa, vxa, vxb, vxc, vnd, vne, Nat.reduceAdd, Nat.reduceSub, Nat.reduceLeDiff, Nat.reduceLT, Int32.reduceLT, Int32.reduceLE, Int32.reduceAdd, Int32.reduceSub, Int32.reduceMul, Int32.reduceToNatClampNeg, not_false_eq_true, not_true_eq_false, false_implies, true_implies, Nat.zero_add, reduceIte, Nat.reduceMul, Nat.reduceEqDiff, nxa, nxc, lgn, nL_of, swx, Int.reduceAdd, gI_a, gI_k, gL_a, gL_k, gI_r, gL_r, nI_and, nI_or, nI_xor, nI_ndf, nI_shl, nI_shr, ne_eq, and_true, true_and, eq_self, true_or, or_true, false_or, or_false, Option.toList, List.cons_append, List.nil_append, List.length_nil, List.length_cons, Nat.not_lt_zero, bX10_readBread_2, kdx st, t0, a0]
        have := at22 (fun z => z.1 a0)
        rw [a0] at this
        exact this
      · by_cases h9 : tK n B b2 = 9
        · refine wp_blk kX10_readBread_2 ?_
          simp (disch := first | decide | omega) only [mxa, vxa, vxb, vxc, vnd, vne, Nat.reduceAdd, Nat.reduceSub, Nat.reduceLeDiff, Nat.reduceLT, Int32.reduceLT, Int32.reduceLE, Int32.reduceAdd, Int32.reduceSub, Int32.reduceMul, Int32.reduceToNatClampNeg, not_false_eq_true, not_true_eq_false, false_implies, true_implies, Nat.zero_add, reduceIte, Nat.reduceMul, Nat.reduceEqDiff, nxa, nxc, lgn, nL_of, swx, Int.reduceAdd, gI_a, gI_k, gL_a, gL_k, gI_r, gL_r, nI_and, nI_or, nI_xor, nI_ndf, nI_shl, nI_shr, ne_eq, and_true, true_and, eq_self, true_or, or_true, false_or, or_false, Option.toList, List.cons_append, List.nil_append, List.length_nil, List.length_cons, Nat.not_lt_zero, bX10_readBread_2, kdx st, t0, a0, C2.2.2.1, h9]
          exact at22 (fun z => z.2 h9)
        · have q := hy a b2 (hbr.symm.trans (brS_e ⟨a0, h9⟩)) τ F hb2 C2 t0 haK g1 g2
          refine wp_blk kX10_readBread_2 ?_
          simp (disch := first | decide | omega) only [mxa, vxa, vxb, vxc, vnd, vne, Nat.reduceAdd, Nat.reduceSub, Nat.reduceLeDiff, Nat.reduceLT, Int32.reduceLT, Int32.reduceLE, Int32.reduceAdd, Int32.reduceSub, Int32.reduceMul, Int32.reduceToNatClampNeg, not_false_eq_true, not_true_eq_false, false_implies, true_implies, Nat.zero_add, reduceIte, Nat.reduceMul, Nat.reduceEqDiff, nxa, nxc, lgn, nL_of, swx, Int.reduceAdd, gI_a, gI_k, gL_a, gL_k, gI_r, gL_r, nI_and, nI_or, nI_xor, nI_ndf, nI_shl, nI_shr, ne_eq, and_true, true_and, eq_self, true_or, or_true, false_or, or_false, Option.toList, List.cons_append, List.nil_append, List.length_nil, List.length_cons, Nat.not_lt_zero, bX10_readBread_2, kdx st, t0, a0, C2.2.2.1, h9]
          refine wp_blk kX10_readBread_97 ?_
          simp (disch := first | decide | omega) only [mxa, vxa, vxb, vxc, vnd, vne, Nat.reduceAdd, Nat.reduceSub, Nat.reduceLeDiff, Nat.reduceLT, Int32.reduceLT, Int32.reduceLE, Int32.reduceAdd, Int32.reduceSub, Int32.reduceMul, Int32.reduceToNatClampNeg, not_false_eq_true, not_true_eq_false, false_implies, true_implies, Nat.zero_add, reduceIte, Nat.reduceMul, Nat.reduceEqDiff, nxa, nxc, lgn, nL_of, swx, Int.reduceAdd, gI_a, gI_k, gL_a, gL_k, gI_r, gL_r, nI_and, nI_or, nI_xor, nI_ndf, nI_shl, nI_shr, ne_eq, and_true, true_and, eq_self, true_or, or_true, false_or, or_false, Option.toList, List.cons_append, List.nil_append, List.length_nil, List.length_cons, Nat.not_lt_zero, bX10_readBread_97]
          exact q
  refine call_of eX10_readBread rfl ?_
  refine wp_blk kX10_readBread_0 ?_
  simp (disch := first | decide | omega) only [mxa, vxa, vxb, vxc, vnd, vne, Nat.reduceAdd, Nat.reduceSub, Nat.reduceLeDiff, Nat.reduceLT, Int32.reduceLT, Int32.reduceLE, Int32.reduceAdd, Int32.reduceSub, Int32.reduceMul, Int32.reduceToNatClampNeg, not_false_eq_true, not_true_eq_false, false_implies, true_implies, Nat.zero_add, reduceIte, Nat.reduceMul, Nat.reduceEqDiff, nxa, nxc, lgn, nL_of, swx, Int.reduceAdd, gI_a, gI_k, gL_a, gL_k, gI_r, gL_r, nI_and, nI_or, nI_xor, nI_ndf, nI_shl, nI_shr, ne_eq, and_true, true_and, eq_self, true_or, or_true, false_or, or_false, Option.toList, List.cons_append, List.nil_append, List.length_nil, List.length_cons, Nat.not_lt_zero, bX10_readBread_0]
  exact loop 7 0 b (by omega) (by omega) rfl rfl hb σ FrN.rf hC h0 (fun i hi => absurd hi (by omega)) (fun _ _ => rfl)
theorem c_mfam (X : Cx) (d : Nat) (σ : Mm) (n b N K : Nat) (B : Nat → Nat) (W : Nat → Int32) (hs : Sh σ) (hr : Rf σ) (hT : MX σ n B) (hN10 : N ≤ 10) (K1 : 1 ≤ K) (K5 : K ≤ 5) (hb : b ≤ n) (hC : MT σ n B b) (h0 : gI σ 190 11 = nI 0) (hW : ∀ i, i < 319 → gI σ 194 i = W i) (w0 : W 0 = nI N) (w3 : W 3 = nI K) (Q : Po) (hf : ∀ k p, famS n B W N K b = .inl (k, p) → ∀ τ : Mm, FMs σ τ n B k p → Q none τ) (hy : ∀ W' b', famS n B W N K b = .inr (W', b') → ∀ τ : Mm, UMs σ τ n B b' W' → Q none τ) : Call X (d + 8) 0 0 mX10_readFamily [.ref 190] σ Q := by
  have q2 := (tE_le (B := B) hb).2.1
  have b2n := (tE_le (B := B) q2).2.1
  have e0 : gI σ 194 0 = nI N := (hW 0 (by omega)).trans w0
  have e3 : gI σ 194 3 = nI K := (hW 3 (by omega)).trans w3
  unfold famS at hf hy
  by_cases N10 : N = 10
  · rw [if_pos N10] at hf
    have fl := fT_le (n := n) (b := b) (k := 4) (B := B) (by omega) (by omega)
    have q := hf _ _ rfl _ (FM_new FrN.rf hb hC fl)
    refine call_of eX10_readFamily rfl ?_
    refine wp_blk kX10_readFamily_0 ?_
    simp (disch := first | decide | omega) only [mxa, vxa, vxb, vxc, vnd, vne, Nat.reduceAdd, Nat.reduceSub, Nat.reduceLeDiff, Nat.reduceLT, Int32.reduceLT, Int32.reduceLE, Int32.reduceAdd, Int32.reduceSub, Int32.reduceMul, Int32.reduceToNatClampNeg, not_false_eq_true, not_true_eq_false, false_implies, true_implies, Nat.zero_add, reduceIte, Nat.reduceMul, Nat.reduceEqDiff, nxa, nxc, lgn, nL_of, swx, Int.reduceAdd, gI_a, gI_k, gL_a, gL_k, gI_r, gL_r, nI_and, nI_or, nI_xor, nI_ndf, nI_shl, nI_shr, ne_eq, and_true, true_and, eq_self, true_or, or_true, false_or, or_false, Option.toList, List.cons_append, List.nil_append, List.length_nil, List.length_cons, Nat.not_lt_zero, bX10_readFamily_0, kdx hs, grx hr, e0, N10]
    refine c_failsY X _ σ n b 4 B hs hC h0 (by omega) _ ?_
    simp (disch := first | decide | omega) only [mxa, vxa, vxb, vxc, vnd, vne, Nat.reduceAdd, Nat.reduceSub, Nat.reduceLeDiff, Nat.reduceLT, Int32.reduceLT, Int32.reduceLE, Int32.reduceAdd, Int32.reduceSub, Int32.reduceMul, Int32.reduceToNatClampNeg, not_false_eq_true, not_true_eq_false, false_implies, true_implies, Nat.zero_add, reduceIte, Nat.reduceMul, Nat.reduceEqDiff, nxa, nxc, lgn, nL_of, swx, Int.reduceAdd, gI_a, gI_k, gL_a, gL_k, gI_r, gL_r, nI_and, nI_or, nI_xor, nI_ndf, nI_shl, nI_shr, ne_eq, and_true, true_and, eq_self, true_or, or_true, false_or, or_false, Option.toList, List.cons_append, List.nil_append, List.length_nil, List.length_cons, Nat.not_lt_zero]
    refine wp_blk kX10_readFamily_18 ?_
    simp (disch := first | decide | omega) only [mxa, vxa, vxb, vxc, vnd, vne, Nat.reduceAdd, Nat.reduceSub, Nat.reduceLeDiff, Nat.reduceLT, Int32.reduceLT, Int32.reduceLE, Int32.reduceAdd, Int32.reduceSub, Int32.reduceMul, Int32.reduceToNatClampNeg, not_false_eq_true, not_true_eq_false, false_implies, true_implies, Nat.zero_add, reduceIte, Nat.reduceMul, Nat.reduceEqDiff, nxa, nxc, lgn, nL_of, swx, Int.reduceAdd, gI_a, gI_k, gL_a, gL_k, gI_r, gL_r, nI_and, nI_or, nI_xor, nI_ndf, nI_shl, nI_shr, ne_eq, and_true, true_and, eq_self, true_or, or_true, false_or, or_false, Option.toList, List.cons_append, List.nil_append, List.length_nil, List.length_cons, Nat.not_lt_zero, bX10_readFamily_18, kdx hs, grx hr, show ¬ fT n B b 4 = 0 by omega]
    exact q
  rw [if_neg N10] at hf hy
  have hN : N < 10 := by omega
  -- after a fault
  have t116 : ∀ k p (x : Int32), (∀ τ : Mm, FMs σ τ n B k p → Q none τ) → ∀ τ : Mm, FMs σ τ n B k p → Wp X mX10_readFamily (rmo (d + 8) 0 0) (d + 8) Q 0 0 116 [some (.ref 190), some (.int (nI N))] [.int x, .int (nI (29 + N)), .ref 194] τ := fun k p x q τ h => by
    have st := h.1.1.Sh hs
    have hk := h.2.2.2.2
    have q' := q _ (h.put (i := 29 + N) (x := x))
    refine wp_blk kX10_readFamily_116 ?_
    simp (disch := first | decide | omega) only [mxa, vxa, vxb, vxc, vnd, vne, Nat.reduceAdd, Nat.reduceSub, Nat.reduceLeDiff, Nat.reduceLT, Int32.reduceLT, Int32.reduceLE, Int32.reduceAdd, Int32.reduceSub, Int32.reduceMul, Int32.reduceToNatClampNeg, not_false_eq_true, not_true_eq_false, false_implies, true_implies, Nat.zero_add, reduceIte, Nat.reduceMul, Nat.reduceEqDiff, nxa, nxc, lgn, nL_of, swx, Int.reduceAdd, gI_a, gI_k, gL_a, gL_k, gI_r, gL_r, nI_and, nI_or, nI_xor, nI_ndf, nI_shl, nI_shr, ne_eq, and_true, true_and, eq_self, true_or, or_true, false_or, or_false, Option.toList, List.cons_append, List.nil_append, List.length_nil, List.length_cons, Nat.not_lt_zero, bX10_readFamily_116, kdx st, h.2.2.1, show ¬ k = 0 by omega]
    refine wp_blk kX10_readFamily_134 ?_
    simp (disch := first | decide | omega) only [mxa, vxa, vxb, vxc, vnd, vne, Nat.reduceAdd, Nat.reduceSub, Nat.reduceLeDiff, Nat.reduceLT, Int32.reduceLT, Int32.reduceLE, Int32.reduceAdd, Int32.reduceSub, Int32.reduceMul, Int32.reduceToNatClampNeg, not_false_eq_true, not_true_eq_false, false_implies, true_implies, Nat.zero_add, reduceIte, Nat.reduceMul, Nat.reduceEqDiff, nxa, nxc, lgn, nL_of, swx, Int.reduceAdd, gI_a, gI_k, gL_a, gL_k, gI_r, gL_r, nI_and, nI_or, nI_xor, nI_ndf, nI_shl, nI_shr, ne_eq, and_true, true_and, eq_self, true_or, or_true, false_or, or_false, Option.toList, List.cons_append, List.nil_append, List.length_nil, List.length_cons, Nat.not_lt_zero, bX10_readFamily_134]
    exact q'
  have t89 : ∀ k p, (∀ τ : Mm, FMs σ τ n B k p → Q none τ) → ∀ τ : Mm, FMs σ τ n B k p → Wp X mX10_readFamily (rmo (d + 8) 0 0) (d + 8) Q 0 0 89 [some (.ref 190), some (.int (nI N))] [] τ := fun k p q τ h => by
    have st := h.1.1.Sh hs
    have rt := h.1.1.Rf hr
    refine wp_blk kX10_readFamily_89 ?_
    simp (disch := first | decide | omega) only [mxa, vxa, vxb, vxc, vnd, vne, Nat.reduceAdd, Nat.reduceSub, Nat.reduceLeDiff, Nat.reduceLT, Int32.reduceLT, Int32.reduceLE, Int32.reduceAdd, Int32.reduceSub, Int32.reduceMul, Int32.reduceToNatClampNeg, not_false_eq_true, not_true_eq_false, false_implies, true_implies, Nat.zero_add, reduceIte, Nat.reduceMul, Nat.reduceEqDiff, nxa, nxc, lgn, nL_of, swx, Int.reduceAdd, gI_a, gI_k, gL_a, gL_k, gI_r, gL_r, nI_and, nI_or, nI_xor, nI_ndf, nI_shl, nI_shr, ne_eq, and_true, true_and, eq_self, true_or, or_true, false_or, or_false, Option.toList, List.cons_append, List.nil_append, List.length_nil, List.length_cons, Nat.not_lt_zero, bX10_readFamily_89, kdx st, grx rt]
    refine c_eatsF X _ τ k _ st h.2.2.1 h.2.2.2.2 _ ?_
    simp (disch := first | decide | omega) only [mxa, vxa, vxb, vxc, vnd, vne, Nat.reduceAdd, Nat.reduceSub, Nat.reduceLeDiff, Nat.reduceLT, Int32.reduceLT, Int32.reduceLE, Int32.reduceAdd, Int32.reduceSub, Int32.reduceMul, Int32.reduceToNatClampNeg, not_false_eq_true, not_true_eq_false, false_implies, true_implies, Nat.zero_add, reduceIte, Nat.reduceMul, Nat.reduceEqDiff, nxa, nxc, lgn, nL_of, swx, Int.reduceAdd, gI_a, gI_k, gL_a, gL_k, gI_r, gL_r, nI_and, nI_or, nI_xor, nI_ndf, nI_shl, nI_shr, ne_eq, and_true, true_and, eq_self, true_or, or_true, false_or, or_false, Option.toList, List.cons_append, List.nil_append, List.length_nil, List.length_cons, Nat.not_lt_zero]
    refine wp_blk kX10_readFamily_115 ?_
    simp (disch := first | decide | omega) only [mxa, vxa, vxb, vxc, vnd, vne, Nat.reduceAdd, Nat.reduceSub, Nat.reduceLeDiff, Nat.reduceLT, Int32.reduceLT, Int32.reduceLE, Int32.reduceAdd, Int32.reduceSub, Int32.reduceMul, Int32.reduceToNatClampNeg, not_false_eq_true, not_true_eq_false, false_implies, true_implies, Nat.zero_add, reduceIte, Nat.reduceMul, Nat.reduceEqDiff, nxa, nxc, lgn, nL_of, swx, Int.reduceAdd, gI_a, gI_k, gL_a, gL_k, gI_r, gL_r, nI_and, nI_or, nI_xor, nI_ndf, nI_shl, nI_shr, ne_eq, and_true, true_and, eq_self, true_or, or_true, false_or, or_false, Option.toList, List.cons_append, List.nil_append, List.length_nil, List.length_cons, Nat.not_lt_zero, bX10_readFamily_115]
    exact t116 k p _ q τ h
  have t75 : ∀ k p (x : Int32), (∀ τ : Mm, FMs σ τ n B k p → Q none τ) → ∀ τ : Mm, FMs σ τ n B k p → Wp X mX10_readFamily (rmo (d + 8) 0 0) (d + 8) Q 0 0 75 [some (.ref 190), some (.int (nI N))] [.int x, .int (nI (19 + N)), .ref 194] τ := fun k p x q τ h => by
    have st := h.1.1.Sh hs
    have h' := h.put (i := 19 + N) (x := x)
    refine wp_blk kX10_readFamily_75 ?_
    simp (disch := first | decide | omega) only [mxa, vxa, vxb, vxc, vnd, vne, Nat.reduceAdd, Nat.reduceSub, Nat.reduceLeDiff, Nat.reduceLT, Int32.reduceLT, Int32.reduceLE, Int32.reduceAdd, Int32.reduceSub, Int32.reduceMul, Int32.reduceToNatClampNeg, not_false_eq_true, not_true_eq_false, false_implies, true_implies, Nat.zero_add, reduceIte, Nat.reduceMul, Nat.reduceEqDiff, nxa, nxc, lgn, nL_of, swx, Int.reduceAdd, gI_a, gI_k, gL_a, gL_k, gI_r, gL_r, nI_and, nI_or, nI_xor, nI_ndf, nI_shl, nI_shr, ne_eq, and_true, true_and, eq_self, true_or, or_true, false_or, or_false, Option.toList, List.cons_append, List.nil_append, List.length_nil, List.length_cons, Nat.not_lt_zero, bX10_readFamily_75, kdx st]
    refine c_eatsF X _ _ k _ (by exact st) h'.2.2.1 h'.2.2.2.2 _ ?_
    simp (disch := first | decide | omega) only [mxa, vxa, vxb, vxc, vnd, vne, Nat.reduceAdd, Nat.reduceSub, Nat.reduceLeDiff, Nat.reduceLT, Int32.reduceLT, Int32.reduceLE, Int32.reduceAdd, Int32.reduceSub, Int32.reduceMul, Int32.reduceToNatClampNeg, not_false_eq_true, not_true_eq_false, false_implies, true_implies, Nat.zero_add, reduceIte, Nat.reduceMul, Nat.reduceEqDiff, nxa, nxc, lgn, nL_of, swx, Int.reduceAdd, gI_a, gI_k, gL_a, gL_k, gI_r, gL_r, nI_and, nI_or, nI_xor, nI_ndf, nI_shl, nI_shr, ne_eq, and_true, true_and, eq_self, true_or, or_true, false_or, or_false, Option.toList, List.cons_append, List.nil_append, List.length_nil, List.length_cons, Nat.not_lt_zero]
    exact t89 k p q _ h'
  -- no fault
  have w89 : ∀ (e fl m b4 b6 : Nat) (τ : Mm), b6 ≤ n → m ≤ K → FrN σ τ → MT τ n B b6 → gI τ 190 11 = nI 0 → (∀ i, i < 319 → i ≠ 0 → i ≠ 29 + N → gI τ 194 i = famV n B W N e fl 0 m b4 i) → gI τ 194 0 = nI N → (∀ k p, optN n B b6 3 0 100 0 = .inl (k, p) → ∀ τ : Mm, FMs σ τ n B k p → Q none τ) → (∀ w b8, optN n B b6 3 0 100 0 = .inr (w, b8) → ∀ τ : Mm, UMs σ τ n B b8 (famV n B W N e fl w m b4) → Q none τ) → Wp X mX10_readFamily (rmo (d + 8) 0 0) (d + 8) Q 0 0 89 [some (.ref 190), some (.int (nI N))] [] τ := by
    intro e fl m b4 b6 τ hb6 hm F C6 u0 row r0 gf gy
    have st := F.1.Sh hs
    have rt := F.1.Rf hr
    have fin : ∀ (w b8 : Nat) (τ2 : Mm), b8 ≤ n → FrN σ τ2 → MT τ2 n B b8 → gI τ2 190 11 = nI 0 → (∀ i, i < 319 → i ≠ 0 → i ≠ 29 + N → gI τ2 194 i = famV n B W N e fl 0 m b4 i) → gI τ2 194 0 = nI N → optN n B b6 3 0 100 0 = .inr (w, b8) → Wp X mX10_readFamily (rmo (d + 8) 0 0) (d + 8) Q 0 0 116 [some (.ref 190), some (.int (nI N))] [.int (nI w), .int (nI (29 + N)), .ref 194] τ2 := fun w b8 τ2 hb8 F2 C8 v0 row2 r2 ho => by
      have s2 := F2.1.Sh hs
      have rr2 := F2.1.Rf hr
      have q := gy w b8 ho (sI (sI τ2 194 (29 + N) (nI w)) 194 0 (nI (N + 1))) ⟨(F2.tr FrN.put).tr FrN.put, hb8, C8.mv (fun j _ => (gI_a (by decide)).trans (gI_a (by decide))), (gI_a (by decide)).trans ((gI_a (by decide)).trans v0), fun i hi => by
        by_cases z : i = 0
        · rw [z, gI_same, famV_0]
        · rw [gI_k z]
          by_cases y : i = 29 + N
          · rw [y, gI_same, famV_3]
          · rw [gI_k y, row2 i hi z y]
            unfold famV
            rw [if_neg z, if_neg z, if_neg y, if_neg y]⟩
      refine wp_blk kX10_readFamily_116 ?_
      simp (disch := first | decide | omega) only [mxa, vxa, vxb, vxc, vnd, vne, Nat.reduceAdd, Nat.reduceSub, Nat.reduceLeDiff, Nat.reduceLT, Int32.reduceLT, Int32.reduceLE, Int32.reduceAdd, Int32.reduceSub, Int32.reduceMul, Int32.reduceToNatClampNeg, not_false_eq_true, not_true_eq_false, false_implies, true_implies, Nat.zero_add, reduceIte, Nat.reduceMul, Nat.reduceEqDiff, nxa, nxc, lgn, nL_of, swx, Int.reduceAdd, gI_a, gI_k, gL_a, gL_k, gI_r, gL_r, nI_and, nI_or, nI_xor, nI_ndf, nI_shl, nI_shr, ne_eq, and_true, true_and, eq_self, true_or, or_true, false_or, or_false, Option.toList, List.cons_append, List.nil_append, List.length_nil, List.length_cons, Nat.not_lt_zero, bX10_readFamily_116, kdx s2, grx rr2, v0, r2]
      refine wp_blk kX10_readFamily_134 ?_
      simp (disch := first | decide | omega) only [mxa, vxa, vxb, vxc, vnd, vne, Nat.reduceAdd, Nat.reduceSub, Nat.reduceLeDiff, Nat.reduceLT, Int32.reduceLT, Int32.reduceLE, Int32.reduceAdd, Int32.reduceSub, Int32.reduceMul, Int32.reduceToNatClampNeg, not_false_eq_true, not_true_eq_false, false_implies, true_implies, Nat.zero_add, reduceIte, Nat.reduceMul, Nat.reduceEqDiff, nxa, nxc, lgn, nL_of, swx, Int.reduceAdd, gI_a, gI_k, gL_a, gL_k, gI_r, gL_r, nI_and, nI_or, nI_xor, nI_ndf, nI_shl, nI_shr, ne_eq, and_true, true_and, eq_self, true_or, or_true, false_or, or_false, Option.toList, List.cons_append, List.nil_append, List.length_nil, List.length_cons, Nat.not_lt_zero, bX10_readFamily_134]
      exact q
    refine wp_blk kX10_readFamily_89 ?_
    simp (disch := first | decide | omega) only [mxa, vxa, vxb, vxc, vnd, vne, Nat.reduceAdd, Nat.reduceSub, Nat.reduceLeDiff, Nat.reduceLT, Int32.reduceLT, Int32.reduceLE, Int32.reduceAdd, Int32.reduceSub, Int32.reduceMul, Int32.reduceToNatClampNeg, not_false_eq_true, not_true_eq_false, false_implies, true_implies, Nat.zero_add, reduceIte, Nat.reduceMul, Nat.reduceEqDiff, nxa, nxc, lgn, nL_of, swx, Int.reduceAdd, gI_a, gI_k, gL_a, gL_k, gI_r, gL_r, nI_and, nI_or, nI_xor, nI_ndf, nI_shl, nI_shr, ne_eq, and_true, true_and, eq_self, true_or, or_true, false_or, or_false, Option.toList, List.cons_append, List.nil_append, List.length_nil, List.length_cons, Nat.not_lt_zero, bX10_readFamily_89, kdx st, grx rt]
    refine c_eatsY X _ τ n b6 3 B st rt (hT.keepN F) hb6 C6 u0 (by omega) _ (fun c τ2 F2 C2 => ?_) (fun c => ?_)
    · have G := F.tr F2.N
      have s2 := G.1.Sh hs
      have r2 := G.1.Rf hr
      have b7n := (tE_le (B := B) hb6).2.1
      have v0 : gI τ2 190 11 = nI 0 := (F2.2 11 (by decide) (by decide) (by decide) (by decide)).trans u0
      simp (disch := first | decide | omega) only [mxa, vxa, vxb, vxc, vnd, vne, Nat.reduceAdd, Nat.reduceSub, Nat.reduceLeDiff, Nat.reduceLT, Int32.reduceLT, Int32.reduceLE, Int32.reduceAdd, Int32.reduceSub, Int32.reduceMul, Int32.reduceToNatClampNeg, not_false_eq_true, not_true_eq_false, false_implies, true_implies, Nat.zero_add, reduceIte, Nat.reduceMul, Nat.reduceEqDiff, nxa, nxc, lgn, nL_of, swx, Int.reduceAdd, gI_a, gI_k, gL_a, gL_k, gI_r, gL_r, nI_and, nI_or, nI_xor, nI_ndf, nI_shl, nI_shr, ne_eq, and_true, true_and, eq_self, true_or, or_true, false_or, or_false, Option.toList, List.cons_append, List.nil_append, List.length_nil, List.length_cons, Nat.not_lt_zero, kdx s2]
      refine c_takesY X _ τ2 n (tD n B b6) 0 100 (nI 99) B s2 r2 (hT.keepN G) b7n C2 v0 (by omega) (wi_le (by omega) (by omega)) _ (fun ok τ4 F4 C4 => ?_) (fun nok x => ?_)
      · have G4 := G.tr F4.N
        simp (disch := first | decide | omega) only [mxa, vxa, vxb, vxc, vnd, vne, Nat.reduceAdd, Nat.reduceSub, Nat.reduceLeDiff, Nat.reduceLT, Int32.reduceLT, Int32.reduceLE, Int32.reduceAdd, Int32.reduceSub, Int32.reduceMul, Int32.reduceToNatClampNeg, not_false_eq_true, not_true_eq_false, false_implies, true_implies, Nat.zero_add, reduceIte, Nat.reduceMul, Nat.reduceEqDiff, nxa, nxc, lgn, nL_of, swx, Int.reduceAdd, gI_a, gI_k, gL_a, gL_k, gI_r, gL_r, nI_and, nI_or, nI_xor, nI_ndf, nI_shl, nI_shr, ne_eq, and_true, true_and, eq_self, true_or, or_true, false_or, or_false, Option.toList, List.cons_append, List.nil_append, List.length_nil, List.length_cons, Nat.not_lt_zero]
        exact fin _ _ τ4 (tE_le (B := B) b7n).2.1 G4 C4 ((F4.2 11 (by decide) (by decide) (by decide) (by decide)).trans v0) (fun i h1 h2 h3 => (F4.1.2.2.1 194 (by omega) i).trans ((F2.1.2.2.1 194 (by omega) i).trans (row i h1 h2 h3))) ((F4.1.2.2.1 194 (by omega) 0).trans ((F2.1.2.2.1 194 (by omega) 0).trans r0)) (optN_y c ok)
      · simp (disch := first | decide | omega) only [mxa, vxa, vxb, vxc, vnd, vne, Nat.reduceAdd, Nat.reduceSub, Nat.reduceLeDiff, Nat.reduceLT, Int32.reduceLT, Int32.reduceLE, Int32.reduceAdd, Int32.reduceSub, Int32.reduceMul, Int32.reduceToNatClampNeg, not_false_eq_true, not_true_eq_false, false_implies, true_implies, Nat.zero_add, reduceIte, Nat.reduceMul, Nat.reduceEqDiff, nxa, nxc, lgn, nL_of, swx, Int.reduceAdd, gI_a, gI_k, gL_a, gL_k, gI_r, gL_r, nI_and, nI_or, nI_xor, nI_ndf, nI_shl, nI_shr, ne_eq, and_true, true_and, eq_self, true_or, or_true, false_or, or_false, Option.toList, List.cons_append, List.nil_append, List.length_nil, List.length_cons, Nat.not_lt_zero]
        exact t116 _ _ _ (gf _ _ (optN_f c nok)) _ (FM_new G b7n C2 (nF_le n B _))
    · simp (disch := first | decide | omega) only [mxa, vxa, vxb, vxc, vnd, vne, Nat.reduceAdd, Nat.reduceSub, Nat.reduceLeDiff, Nat.reduceLT, Int32.reduceLT, Int32.reduceLE, Int32.reduceAdd, Int32.reduceSub, Int32.reduceMul, Int32.reduceToNatClampNeg, not_false_eq_true, not_true_eq_false, false_implies, true_implies, Nat.zero_add, reduceIte, Nat.reduceMul, Nat.reduceEqDiff, nxa, nxc, lgn, nL_of, swx, Int.reduceAdd, gI_a, gI_k, gL_a, gL_k, gI_r, gL_r, nI_and, nI_or, nI_xor, nI_ndf, nI_shl, nI_shr, ne_eq, and_true, true_and, eq_self, true_or, or_true, false_or, or_false, Option.toList, List.cons_append, List.nil_append, List.length_nil, List.length_cons, Nat.not_lt_zero]
      refine wp_blk kX10_readFamily_115 ?_
      simp (disch := first | decide | omega) only [mxa, vxa, vxb, vxc, vnd, vne, Nat.reduceAdd, Nat.reduceSub, Nat.reduceLeDiff, Nat.reduceLT, Int32.reduceLT, Int32.reduceLE, Int32.reduceAdd, Int32.reduceSub, Int32.reduceMul, Int32.reduceToNatClampNeg, not_false_eq_true, not_true_eq_false, false_implies, true_implies, Nat.zero_add, reduceIte, Nat.reduceMul, Nat.reduceEqDiff, nxa, nxc, lgn, nL_of, swx, Int.reduceAdd, gI_a, gI_k, gL_a, gL_k, gI_r, gL_r, nI_and, nI_or, nI_xor, nI_ndf, nI_shl, nI_shr, ne_eq, and_true, true_and, eq_self, true_or, or_true, false_or, or_false, Option.toList, List.cons_append, List.nil_append, List.length_nil, List.length_cons, Nat.not_lt_zero, bX10_readFamily_115]
      exact fin 0 b6 τ hb6 F C6 u0 row r0 (optN_n c)
  have w75 : ∀ (e fl b4 : Nat) (τ : Mm), b4 ≤ n → FrN σ τ → MT τ n B b4 → gI τ 190 11 = nI 0 → (∀ i, i < 319 → gI τ 194 i = if i = 9 + N then nI e else W i) → (∀ k p, optB n B K b4 = .inl (k, p) → ∀ τ : Mm, FMs σ τ n B k p → Q none τ) → (∀ m b6, optB n B K b4 = .inr (m, b6) → (∀ k p, optN n B b6 3 0 100 0 = .inl (k, p) → ∀ τ : Mm, FMs σ τ n B k p → Q none τ) ∧ (∀ w b8, optN n B b6 3 0 100 0 = .inr (w, b8) → ∀ τ : Mm, UMs σ τ n B b8 (famV n B W N e fl w m (tD n B b4)) → Q none τ)) → Wp X mX10_readFamily (rmo (d + 8) 0 0) (d + 8) Q 0 0 75 [some (.ref 190), some (.int (nI N))] [.int (nI fl), .int (nI (19 + N)), .ref 194] τ := by
    intro e fl b4 τ hb4 F C4 u0 row gf gy
    have st := F.1.Sh hs
    have F' : FrN σ (sI τ 194 (19 + N) (nI fl)) := F.tr FrN.put
    have C' : MT (sI τ 194 (19 + N) (nI fl)) n B b4 := C4.mv (fun j _ => gI_a (by decide))
    have u0' : gI (sI τ 194 (19 + N) (nI fl)) 190 11 = nI 0 := (gI_a (by decide)).trans u0
    have row' : ∀ i, i < 319 → gI (sI τ 194 (19 + N) (nI fl)) 194 i = if i = 9 + N then nI e else if i = 19 + N then nI fl else W i := fun i hi => by
      by_cases z : i = 19 + N
      · rw [z, gI_same, if_neg (by omega), if_pos rfl]
      · rw [gI_k z, row i hi, if_neg z]
    refine wp_blk kX10_readFamily_75 ?_
    simp (disch := first | decide | omega) only [mxa, vxa, vxb, vxc, vnd, vne, Nat.reduceAdd, Nat.reduceSub, Nat.reduceLeDiff, Nat.reduceLT, Int32.reduceLT, Int32.reduceLE, Int32.reduceAdd, Int32.reduceSub, Int32.reduceMul, Int32.reduceToNatClampNeg, not_false_eq_true, not_true_eq_false, false_implies, true_implies, Nat.zero_add, reduceIte, Nat.reduceMul, Nat.reduceEqDiff, nxa, nxc, lgn, nL_of, swx, Int.reduceAdd, gI_a, gI_k, gL_a, gL_k, gI_r, gL_r, nI_and, nI_or, nI_xor, nI_ndf, nI_shl, nI_shr, ne_eq, and_true, true_and, eq_self, true_or, or_true, false_or, or_false, Option.toList, List.cons_append, List.nil_append, List.length_nil, List.length_cons, Nat.not_lt_zero, bX10_readFamily_75, kdx st]
    generalize sI τ 194 (19 + N) (nI fl) = μ at *
    have sm := F'.1.Sh hs
    have rm := F'.1.Rf hr
    refine c_eatsY X _ μ n b4 2 B sm rm (hT.keepN F') hb4 C' u0' (by omega) _ (fun c τ2 F2 C2 => ?_) (fun c => ?_)
    · have ob : optB n B K b4 = brS n B K 7 0 (tD n B b4) := if_pos c
      have G := F'.tr F2.N
      have s2 := G.1.Sh hs
      have r2 := G.1.Rf hr
      have b5n := (tE_le (B := B) hb4).2.1
      have v0 : gI τ2 190 11 = nI 0 := (F2.2 11 (by decide) (by decide) (by decide) (by decide)).trans u0'
      have row2 : ∀ i, i < 319 → gI τ2 194 i = if i = 9 + N then nI e else if i = 19 + N then nI fl else W i := fun i hi => (F2.1.2.2.1 194 (by omega) i).trans (row' i hi)
      have v3 : gI τ2 194 3 = nI K := by rw [row2 3 (by omega), if_neg (by omega), if_neg (by omega)]; exact w3
      simp (disch := first | decide | omega) only [mxa, vxa, vxb, vxc, vnd, vne, Nat.reduceAdd, Nat.reduceSub, Nat.reduceLeDiff, Nat.reduceLT, Int32.reduceLT, Int32.reduceLE, Int32.reduceAdd, Int32.reduceSub, Int32.reduceMul, Int32.reduceToNatClampNeg, not_false_eq_true, not_true_eq_false, false_implies, true_implies, Nat.zero_add, reduceIte, Nat.reduceMul, Nat.reduceEqDiff, nxa, nxc, lgn, nL_of, swx, Int.reduceAdd, gI_a, gI_k, gL_a, gL_k, gI_r, gL_r, nI_and, nI_or, nI_xor, nI_ndf, nI_shl, nI_shr, ne_eq, and_true, true_and, eq_self, true_or, or_true, false_or, or_false, Option.toList, List.cons_append, List.nil_append, List.length_nil, List.length_cons, Nat.not_lt_zero, kdx s2]
      refine c_mbread X _ τ2 n (tD n B b4) N K B s2 r2 (hT.keepN G) hN b5n C2 K1 K5 v3 v0 _ (fun m b6 hm τ4 F4 hb6 C6 x0 mK g1 g2 => ?_) (fun k p hm τ4 h4 => ?_)
      · obtain ⟨y1, y2⟩ := gy m b6 (ob.trans hm)
        simp (disch := first | decide | omega) only [mxa, vxa, vxb, vxc, vnd, vne, Nat.reduceAdd, Nat.reduceSub, Nat.reduceLeDiff, Nat.reduceLT, Int32.reduceLT, Int32.reduceLE, Int32.reduceAdd, Int32.reduceSub, Int32.reduceMul, Int32.reduceToNatClampNeg, not_false_eq_true, not_true_eq_false, false_implies, true_implies, Nat.zero_add, reduceIte, Nat.reduceMul, Nat.reduceEqDiff, nxa, nxc, lgn, nL_of, swx, Int.reduceAdd, gI_a, gI_k, gL_a, gL_k, gI_r, gL_r, nI_and, nI_or, nI_xor, nI_ndf, nI_shl, nI_shr, ne_eq, and_true, true_and, eq_self, true_or, or_true, false_or, or_false, Option.toList, List.cons_append, List.nil_append, List.length_nil, List.length_cons, Nat.not_lt_zero]
        refine w89 e fl m (tD n B b4) b6 τ4 hb6 mK (G.tr F4) C6 x0 (fun i h1 h2 h3 => ?_) ?_ y1 y2
        · unfold famV
          rw [if_neg h2]
          by_cases z : i = 9 + N
          · rw [if_pos z, g2 i (by omega), row2 i h1, if_pos z]
          · rw [if_neg z]
            by_cases y : i = 19 + N
            · rw [if_pos y, g2 i (by omega), row2 i h1, if_neg z, if_pos y]
            · rw [if_neg y, if_neg h3]
              by_cases x : 69 + 5 * N ≤ i ∧ i < 69 + 5 * N + m
              · rw [if_pos x]
                have := g1 (i - (69 + 5 * N)) (by omega)
                rw [show 69 + 5 * N + (i - (69 + 5 * N)) = i by omega] at this
                exact this
              · rw [if_neg x, g2 i (by omega), row2 i h1, if_neg z, if_neg y]
        · rw [g2 0 (by omega), row2 0 (by omega), if_neg (by omega), if_neg (by omega)]; exact w0
      · simp (disch := first | decide | omega) only [mxa, vxa, vxb, vxc, vnd, vne, Nat.reduceAdd, Nat.reduceSub, Nat.reduceLeDiff, Nat.reduceLT, Int32.reduceLT, Int32.reduceLE, Int32.reduceAdd, Int32.reduceSub, Int32.reduceMul, Int32.reduceToNatClampNeg, not_false_eq_true, not_true_eq_false, false_implies, true_implies, Nat.zero_add, reduceIte, Nat.reduceMul, Nat.reduceEqDiff, nxa, nxc, lgn, nL_of, swx, Int.reduceAdd, gI_a, gI_k, gL_a, gL_k, gI_r, gL_r, nI_and, nI_or, nI_xor, nI_ndf, nI_shl, nI_shr, ne_eq, and_true, true_and, eq_self, true_or, or_true, false_or, or_false, Option.toList, List.cons_append, List.nil_append, List.length_nil, List.length_cons, Nat.not_lt_zero]
        obtain ⟨h41, h42⟩ := h4
        exact t89 k p (gf k p (ob.trans hm)) τ4 ⟨G.tr h41, h42⟩
    · have ob : optB n B K b4 = .inr (0, b4) := if_neg c
      obtain ⟨y1, y2⟩ := gy 0 b4 ob
      simp (disch := first | decide | omega) only [mxa, vxa, vxb, vxc, vnd, vne, Nat.reduceAdd, Nat.reduceSub, Nat.reduceLeDiff, Nat.reduceLT, Int32.reduceLT, Int32.reduceLE, Int32.reduceAdd, Int32.reduceSub, Int32.reduceMul, Int32.reduceToNatClampNeg, not_false_eq_true, not_true_eq_false, false_implies, true_implies, Nat.zero_add, reduceIte, Nat.reduceMul, Nat.reduceEqDiff, nxa, nxc, lgn, nL_of, swx, Int.reduceAdd, gI_a, gI_k, gL_a, gL_k, gI_r, gL_r, nI_and, nI_or, nI_xor, nI_ndf, nI_shl, nI_shr, ne_eq, and_true, true_and, eq_self, true_or, or_true, false_or, or_false, Option.toList, List.cons_append, List.nil_append, List.length_nil, List.length_cons, Nat.not_lt_zero]
      refine w89 e fl 0 (tD n B b4) b4 μ hb4 (by omega) F' C' u0' (fun i h1 h2 h3 => ?_) ?_ y1 y2
      · unfold famV
        rw [if_neg h2, if_neg h3, row' i h1]
        by_cases z : i = 9 + N
        · rw [if_pos z, if_pos z]
        · rw [if_neg z, if_neg z]
          by_cases y : i = 19 + N
          · rw [if_pos y, if_pos y]
          · rw [if_neg y, if_neg y, if_neg (by omega)]
      · rw [row' 0 (by omega), if_neg (by omega), if_neg (by omega)]; exact w0
  refine call_of eX10_readFamily rfl ?_
  refine wp_blk kX10_readFamily_0 ?_
  simp (disch := first | decide | omega) only [mxa, vxa, vxb, vxc, vnd, vne, Nat.reduceAdd, Nat.reduceSub, Nat.reduceLeDiff, Nat.reduceLT, Int32.reduceLT, Int32.reduceLE, Int32.reduceAdd, Int32.reduceSub, Int32.reduceMul, Int32.reduceToNatClampNeg, not_false_eq_true, not_true_eq_false, false_implies, true_implies, Nat.zero_add, reduceIte, Nat.reduceMul, Nat.reduceEqDiff, nxa, nxc, lgn, nL_of, swx, Int.reduceAdd, gI_a, gI_k, gL_a, gL_k, gI_r, gL_r, nI_and, nI_or, nI_xor, nI_ndf, nI_shl, nI_shr, ne_eq, and_true, true_and, eq_self, true_or, or_true, false_or, or_false, Option.toList, List.cons_append, List.nil_append, List.length_nil, List.length_cons, Nat.not_lt_zero, bX10_readFamily_0, kdx hs, grx hr, e0, N10]
  refine wp_blk kX10_readFamily_18 ?_
  simp (disch := first | decide | omega) only [mxa, vxa, vxb, vxc, vnd, vne, Nat.reduceAdd, Nat.reduceSub, Nat.reduceLeDiff, Nat.reduceLT, Int32.reduceLT, Int32.reduceLE, Int32.reduceAdd, Int32.reduceSub, Int32.reduceMul, Int32.reduceToNatClampNeg, not_false_eq_true, not_true_eq_false, false_implies, true_implies, Nat.zero_add, reduceIte, Nat.reduceMul, Nat.reduceEqDiff, nxa, nxc, lgn, nL_of, swx, Int.reduceAdd, gI_a, gI_k, gL_a, gL_k, gI_r, gL_r, nI_and, nI_or, nI_xor, nI_ndf, nI_shl, nI_shr, ne_eq, and_true, true_and, eq_self, true_or, or_true, false_or, or_false, Option.toList, List.cons_append, List.nil_append, List.length_nil, List.length_cons, Nat.not_lt_zero, bX10_readFamily_18, kdx hs, grx hr, h0]
  refine wp_blk kX10_readFamily_26 ?_
  simp (disch := first | decide | omega) only [mxa, vxa, vxb, vxc, vnd, vne, Nat.reduceAdd, Nat.reduceSub, Nat.reduceLeDiff, Nat.reduceLT, Int32.reduceLT, Int32.reduceLE, Int32.reduceAdd, Int32.reduceSub, Int32.reduceMul, Int32.reduceToNatClampNeg, not_false_eq_true, not_true_eq_false, false_implies, true_implies, Nat.zero_add, reduceIte, Nat.reduceMul, Nat.reduceEqDiff, nxa, nxc, lgn, nL_of, swx, Int.reduceAdd, gI_a, gI_k, gL_a, gL_k, gI_r, gL_r, nI_and, nI_or, nI_xor, nI_ndf, nI_shl, nI_shr, ne_eq, and_true, true_and, eq_self, true_or, or_true, false_or, or_false, Option.toList, List.cons_append, List.nil_append, List.length_nil, List.length_cons, Nat.not_lt_zero, bX10_readFamily_26, kdx hs, grx hr]
  refine c_next X _ σ n (tD n B b) B hs hr hT q2 hC.2.1 _ (fun τ2 F2 C2 => ?_)
  have F := F2.N
  have st := F.1.Sh hs
  have rt := F.1.Rf hr
  have u0 : gI τ2 190 11 = nI 0 := (F2.2 11 (by decide) (by decide) (by decide) (by decide)).trans h0
  simp (disch := first | decide | omega) only [mxa, vxa, vxb, vxc, vnd, vne, Nat.reduceAdd, Nat.reduceSub, Nat.reduceLeDiff, Nat.reduceLT, Int32.reduceLT, Int32.reduceLE, Int32.reduceAdd, Int32.reduceSub, Int32.reduceMul, Int32.reduceToNatClampNeg, not_false_eq_true, not_true_eq_false, false_implies, true_implies, Nat.zero_add, reduceIte, Nat.reduceMul, Nat.reduceEqDiff, nxa, nxc, lgn, nL_of, swx, Int.reduceAdd, gI_a, gI_k, gL_a, gL_k, gI_r, gL_r, nI_and, nI_or, nI_xor, nI_ndf, nI_shl, nI_shr, ne_eq, and_true, true_and, eq_self, true_or, or_true, false_or, or_false, Option.toList, List.cons_append, List.nil_append, List.length_nil, List.length_cons, Nat.not_lt_zero, kdx st, grx rt]
  refine c_takesY X _ τ2 n (tD n B b) 0 31 (nI 30) B st rt (hT.keepN F) q2 C2 u0 (by omega) (wi_le (by omega) (by omega)) _ (fun ok τ4 F4 C4 => ?_) (fun nok x => ?_)
  · rw [if_pos ok] at hf hy
    have G := F.tr F4.N
    have G' : FrN σ (sI τ4 194 (9 + N) (nI (vN n B (tD n B b)))) := G.tr FrN.put
    have C' : MT (sI τ4 194 (9 + N) (nI (vN n B (tD n B b)))) n B (tD n B (tD n B b)) := C4.mv (fun j _ => gI_a (by decide))
    have v0 : gI (sI τ4 194 (9 + N) (nI (vN n B (tD n B b)))) 190 11 = nI 0 := (gI_a (by decide)).trans ((F4.2 11 (by decide) (by decide) (by decide) (by decide)).trans u0)
    have row : ∀ i, i < 319 → gI (sI τ4 194 (9 + N) (nI (vN n B (tD n B b)))) 194 i = if i = 9 + N then nI (vN n B (tD n B b)) else W i := fun i hi => by
      by_cases z : i = 9 + N
      · rw [z, gI_same, if_pos rfl]
      · rw [gI_k z, if_neg z, F4.1.2.2.1 194 (by omega), F2.1.2.2.1 194 (by omega)]; exact hW i hi
    have s4 := G.1.Sh hs
    have r4 := G.1.Rf hr
    simp (disch := first | decide | omega) only [mxa, vxa, vxb, vxc, vnd, vne, Nat.reduceAdd, Nat.reduceSub, Nat.reduceLeDiff, Nat.reduceLT, Int32.reduceLT, Int32.reduceLE, Int32.reduceAdd, Int32.reduceSub, Int32.reduceMul, Int32.reduceToNatClampNeg, not_false_eq_true, not_true_eq_false, false_implies, true_implies, Nat.zero_add, reduceIte, Nat.reduceMul, Nat.reduceEqDiff, nxa, nxc, lgn, nL_of, swx, Int.reduceAdd, gI_a, gI_k, gL_a, gL_k, gI_r, gL_r, nI_and, nI_or, nI_xor, nI_ndf, nI_shl, nI_shr, ne_eq, and_true, true_and, eq_self, true_or, or_true, false_or, or_false, Option.toList, List.cons_append, List.nil_append, List.length_nil, List.length_cons, Nat.not_lt_zero, kdx s4, grx r4]
    generalize sI τ4 194 (9 + N) (nI (vN n B (tD n B b))) = μ at *
    have sm := G'.1.Sh hs
    have rm := G'.1.Rf hr
    refine c_eatsY X _ μ n (tD n B (tD n B b)) 1 B sm rm (hT.keepN G') b2n C' v0 (by omega) _ (fun c τ6 F6 C6 => ?_) (fun c => ?_)
    · have G6 := G'.tr F6.N
      have s6 := G6.1.Sh hs
      have r6 := G6.1.Rf hr
      have b3n := (tE_le (B := B) b2n).2.1
      have x0 : gI τ6 190 11 = nI 0 := (F6.2 11 (by decide) (by decide) (by decide) (by decide)).trans v0
      simp (disch := first | decide | omega) only [mxa, vxa, vxb, vxc, vnd, vne, Nat.reduceAdd, Nat.reduceSub, Nat.reduceLeDiff, Nat.reduceLT, Int32.reduceLT, Int32.reduceLE, Int32.reduceAdd, Int32.reduceSub, Int32.reduceMul, Int32.reduceToNatClampNeg, not_false_eq_true, not_true_eq_false, false_implies, true_implies, Nat.zero_add, reduceIte, Nat.reduceMul, Nat.reduceEqDiff, nxa, nxc, lgn, nL_of, swx, Int.reduceAdd, gI_a, gI_k, gL_a, gL_k, gI_r, gL_r, nI_and, nI_or, nI_xor, nI_ndf, nI_shl, nI_shr, ne_eq, and_true, true_and, eq_self, true_or, or_true, false_or, or_false, Option.toList, List.cons_append, List.nil_append, List.length_nil, List.length_cons, Nat.not_lt_zero, kdx s6]
      refine c_takesY X _ τ6 n (tD n B (tD n B (tD n B b))) 0 1000 (nI 999) B s6 r6 (hT.keepN G6) b3n C6 x0 (by omega) (wi_le (by omega) (by omega)) _ (fun ok2 τ8 F8 C8 => ?_) (fun nok x => ?_)
      · have op := optN_y (v := 50) c ok2
        rw [op] at hf hy
        simp (disch := first | decide | omega) only [mxa, vxa, vxb, vxc, vnd, vne, Nat.reduceAdd, Nat.reduceSub, Nat.reduceLeDiff, Nat.reduceLT, Int32.reduceLT, Int32.reduceLE, Int32.reduceAdd, Int32.reduceSub, Int32.reduceMul, Int32.reduceToNatClampNeg, not_false_eq_true, not_true_eq_false, false_implies, true_implies, Nat.zero_add, reduceIte, Nat.reduceMul, Nat.reduceEqDiff, nxa, nxc, lgn, nL_of, swx, Int.reduceAdd, gI_a, gI_k, gL_a, gL_k, gI_r, gL_r, nI_and, nI_or, nI_xor, nI_ndf, nI_shl, nI_shr, ne_eq, and_true, true_and, eq_self, true_or, or_true, false_or, or_false, Option.toList, List.cons_append, List.nil_append, List.length_nil, List.length_cons, Nat.not_lt_zero]
        exact w75 _ _ _ τ8 (tE_le (B := B) b3n).2.1 (G6.tr F8.N) C8 ((F8.2 11 (by decide) (by decide) (by decide) (by decide)).trans x0) (fun i hi => (F8.1.2.2.1 194 (by omega) i).trans ((F6.1.2.2.1 194 (by omega) i).trans (row i hi))) (fun k p ho => hf k p (by simp only [ho])) (fun m b6' ho => ⟨fun k p h3 => hf k p (by simp only [ho, h3]), fun w b8 h3 => hy _ b8 (by simp only [ho, h3])⟩)
      · have op := optN_f (v := 50) c nok
        rw [op] at hf
        simp (disch := first | decide | omega) only [mxa, vxa, vxb, vxc, vnd, vne, Nat.reduceAdd, Nat.reduceSub, Nat.reduceLeDiff, Nat.reduceLT, Int32.reduceLT, Int32.reduceLE, Int32.reduceAdd, Int32.reduceSub, Int32.reduceMul, Int32.reduceToNatClampNeg, not_false_eq_true, not_true_eq_false, false_implies, true_implies, Nat.zero_add, reduceIte, Nat.reduceMul, Nat.reduceEqDiff, nxa, nxc, lgn, nL_of, swx, Int.reduceAdd, gI_a, gI_k, gL_a, gL_k, gI_r, gL_r, nI_and, nI_or, nI_xor, nI_ndf, nI_shl, nI_shr, ne_eq, and_true, true_and, eq_self, true_or, or_true, false_or, or_false, Option.toList, List.cons_append, List.nil_append, List.length_nil, List.length_cons, Nat.not_lt_zero]
        exact t75 _ _ _ (hf _ _ rfl) _ (FM_new G6 b3n C6 (nF_le n B _))
    · have op := optN_n (lo := 0) (H := 1000) (v := 50) c
      rw [op] at hf hy
      simp (disch := first | decide | omega) only [mxa, vxa, vxb, vxc, vnd, vne, Nat.reduceAdd, Nat.reduceSub, Nat.reduceLeDiff, Nat.reduceLT, Int32.reduceLT, Int32.reduceLE, Int32.reduceAdd, Int32.reduceSub, Int32.reduceMul, Int32.reduceToNatClampNeg, not_false_eq_true, not_true_eq_false, false_implies, true_implies, Nat.zero_add, reduceIte, Nat.reduceMul, Nat.reduceEqDiff, nxa, nxc, lgn, nL_of, swx, Int.reduceAdd, gI_a, gI_k, gL_a, gL_k, gI_r, gL_r, nI_and, nI_or, nI_xor, nI_ndf, nI_shl, nI_shr, ne_eq, and_true, true_and, eq_self, true_or, or_true, false_or, or_false, Option.toList, List.cons_append, List.nil_append, List.length_nil, List.length_cons, Nat.not_lt_zero]
      refine wp_blk kX10_readFamily_73 ?_
      simp (disch := first | decide | omega) only [mxa, vxa, vxb, vxc, vnd, vne, Nat.reduceAdd, Nat.reduceSub, Nat.reduceLeDiff, Nat.reduceLT, Int32.reduceLT, Int32.reduceLE, Int32.reduceAdd, Int32.reduceSub, Int32.reduceMul, Int32.reduceToNatClampNeg, not_false_eq_true, not_true_eq_false, false_implies, true_implies, Nat.zero_add, reduceIte, Nat.reduceMul, Nat.reduceEqDiff, nxa, nxc, lgn, nL_of, swx, Int.reduceAdd, gI_a, gI_k, gL_a, gL_k, gI_r, gL_r, nI_and, nI_or, nI_xor, nI_ndf, nI_shl, nI_shr, ne_eq, and_true, true_and, eq_self, true_or, or_true, false_or, or_false, Option.toList, List.cons_append, List.nil_append, List.length_nil, List.length_cons, Nat.not_lt_zero, bX10_readFamily_73]
      exact w75 _ 50 _ μ b2n G' C' v0 row (fun k p ho => hf k p (by simp only [ho])) (fun m b6' ho => ⟨fun k p h3 => hf k p (by simp only [ho, h3]), fun w b8 h3 => hy _ b8 (by simp only [ho, h3])⟩)
  · rw [if_neg nok] at hf
    have q := hf _ _ rfl
    have fl := FM_new F q2 C2 (nF_le n B (tD n B b))
    have fl' := fl.put (i := 9 + N) (x := x)
    simp (disch := first | decide | omega) only [mxa, vxa, vxb, vxc, vnd, vne, Nat.reduceAdd, Nat.reduceSub, Nat.reduceLeDiff, Nat.reduceLT, Int32.reduceLT, Int32.reduceLE, Int32.reduceAdd, Int32.reduceSub, Int32.reduceMul, Int32.reduceToNatClampNeg, not_false_eq_true, not_true_eq_false, false_implies, true_implies, Nat.zero_add, reduceIte, Nat.reduceMul, Nat.reduceEqDiff, nxa, nxc, lgn, nL_of, swx, Int.reduceAdd, gI_a, gI_k, gL_a, gL_k, gI_r, gL_r, nI_and, nI_or, nI_xor, nI_ndf, nI_shl, nI_shr, ne_eq, and_true, true_and, eq_self, true_or, or_true, false_or, or_false, Option.toList, List.cons_append, List.nil_append, List.length_nil, List.length_cons, Nat.not_lt_zero, kdx st, grx rt]
    refine c_eatsF X _ _ _ _ (by exact st) fl'.2.2.1 fl'.2.2.2.2 _ ?_
    simp (disch := first | decide | omega) only [mxa, vxa, vxb, vxc, vnd, vne, Nat.reduceAdd, Nat.reduceSub, Nat.reduceLeDiff, Nat.reduceLT, Int32.reduceLT, Int32.reduceLE, Int32.reduceAdd, Int32.reduceSub, Int32.reduceMul, Int32.reduceToNatClampNeg, not_false_eq_true, not_true_eq_false, false_implies, true_implies, Nat.zero_add, reduceIte, Nat.reduceMul, Nat.reduceEqDiff, nxa, nxc, lgn, nL_of, swx, Int.reduceAdd, gI_a, gI_k, gL_a, gL_k, gI_r, gL_r, nI_and, nI_or, nI_xor, nI_ndf, nI_shl, nI_shr, ne_eq, and_true, true_and, eq_self, true_or, or_true, false_or, or_false, Option.toList, List.cons_append, List.nil_append, List.length_nil, List.length_cons, Nat.not_lt_zero]
    refine wp_blk kX10_readFamily_73 ?_
    simp (disch := first | decide | omega) only [mxa, vxa, vxb, vxc, vnd, vne, Nat.reduceAdd, Nat.reduceSub, Nat.reduceLeDiff, Nat.reduceLT, Int32.reduceLT, Int32.reduceLE, Int32.reduceAdd, Int32.reduceSub, Int32.reduceMul, Int32.reduceToNatClampNeg, not_false_eq_true, not_true_eq_false, false_implies, true_implies, Nat.zero_add, reduceIte, Nat.reduceMul, Nat.reduceEqDiff, nxa, nxc, lgn, nL_of, swx, Int.reduceAdd, gI_a, gI_k, gL_a, gL_k, gI_r, gL_r, nI_and, nI_or, nI_xor, nI_ndf, nI_shl, nI_shr, ne_eq, and_true, true_and, eq_self, true_or, or_true, false_or, or_false, Option.toList, List.cons_append, List.nil_append, List.length_nil, List.length_cons, Nat.not_lt_zero, bX10_readFamily_73]
    exact t75 _ _ _ q _ fl'
