/-! better: the class -/
set_option maxRecDepth 20000
def FrB (σ τ : Mm) : Prop := Fr (fun c => c = 151) σ τ ∧ ∀ j, j ≠ 2 → j ≠ 3 → j ≠ 4 → gI τ 151 j = gI σ 151 j
theorem FrB.tr {a b c : Mm} (h : FrB a b) (g : FrB b c) : FrB a c := ⟨h.1.tr g.1, fun j q1 q2 q3 => (g.2 j q1 q2 q3).trans (h.2 j q1 q2 q3)⟩
theorem c_tryWishes (X : Cx) (d : Nat) (σ : Mm) (V : Nat → Int32) (t N O K f S : Nat) (T : Nat → Int32) (cT : Nat → Nat) (hs : Sh σ) (hr : Rf σ) (hG : Gd V t N O K) (hT : ∀ s, s &&& wsh V N = s → T s = nI (cT s) ∧ cT s ≤ 10) (tt : gI σ 153 = T) (e1 : gI σ 1 1 = nI O) (e4 : ∀ o, o < O → gI σ 3 o = nI (zN V o)) (ew : gI σ 151 0 = nI (wsh V N)) (hf : f < N) (hS : S < 2 ^ N) (S1' : S.testBit f = false) (S2' : S &&& qm V f = 0) (S3' : gdS V N S) (eS : gI σ 152 S = nI (sW V N S)) (P : Nat → Nat → Nat → Prop) (hPf : ∀ f' w' c', P f' w' c' → f' ≤ f) (c0 C : Nat) (hC : C ≤ 30) (hB : BST P c0 (gI σ 151 2) (gI σ 151 3) C) (eC : gI σ 151 4 = nI C) (Q : Po) (hQ : ∀ τ C', FrB σ τ → C' ≤ 30 → gI τ 151 4 = nI C' → BST (fun f' w' c' => P f' w' c' ∨ (f' = f ∧ ∃ o', o' < O ∧ KS V N O cT f S o' w' c')) c0 (gI τ 151 2) (gI τ 151 3) C' → Q none τ) : Call X (d + 1) 0 0 mX3_tryWishes [.ref 151, .ref 1, .int (nI f), .int (nI S)] σ Q := by
  have hN10 := hG.1.2
  have hO3 := hG.2.1.2
  have pw := pow_le hN10
  have wl : wsh V N < 2 ^ N := bP_lt _ _
  have fp : 2 ^ f ≤ 2 ^ 9 := Nat.pow_le_pow_right (by omega) (by omega)
  have pS := pcN_le S 10
  have sl := sW_le (s := S) hG
  have rs : ndf (ndf (wsh V N) S) (2 ^ f) &&& wsh V N = ndf (ndf (wsh V N) S) (2 ^ f) := sub_bit.mpr (fun i hi => by
    rw [ndf_bit, ndf_bit, Bool.and_eq_true, Bool.and_eq_true] at hi; exact hi.1.1)
  have rl := sub_le rs
  have nl : ndf (wsh V N) S ≤ wsh V N := sub_le ndf_sub
  obtain ⟨t1, t2⟩ := hT _ rs
  have bd1 : 1 + pcN S 10 + cT (ndf (ndf (wsh V N) S) (2 ^ f)) ≤ 21 := by omega
  have ks : ∀ o w' c', KS V N O cT f S o w' c' ↔ o < O ∧ sW V N S + w' = zN V o ∧ 1 ≤ w' ∧ w' ≤ 99 ∧ c' = 1 + pcN S 10 + cT (ndf (ndf (wsh V N) S) (2 ^ f)) := fun o w' c' => ⟨fun q => ⟨q.2.2.1, q.2.2.2.2⟩, fun q => ⟨hf, hS, q.1, ⟨S1', S2', S3'⟩, q.2⟩⟩
  generalize hcnt : 1 + pcN S 10 + cT (ndf (ndf (wsh V N) S) (2 ^ f)) = cnt at *
  have loop := wfor (fun o => ∀ τ C', FrB σ τ → C' ≤ 30 → gI τ 151 4 = nI C' → BST (fun f' w' c' => P f' w' c' ∨ (f' = f ∧ ∃ o', o' < o ∧ KS V N O cT f S o' w' c')) c0 (gI τ 151 2) (gI τ 151 3) C' → Wp X mX3_tryWishes (rmo (d + 1) 0 0) (d + 1) Q 0 0 41 [some (.ref 151), some (.ref 1), some (.int (nI f)), some (.int (nI S)), some (.int (nI cnt)), some (.int (nI o)), none, none, none] [] τ) O (fun o ho hP τ C' F hC' eC' hB' => by
    have st := F.1.Sh hs
    have rt := F.1.Rf hr
    have e1' : gI τ 1 1 = nI O := (F.1.2.2.1 1 (by omega) 1).trans e1
    have e4' : gI τ 3 o = nI (zN V o) := (F.1.2.2.1 3 (by omega) o).trans (e4 o ho)
    have eS' : gI τ 152 S = nI (sW V N S) := (F.1.2.2.1 152 (by omega) S).trans eS
    obtain ⟨z1, z2, z3⟩ := zN_ok hG ho
    have done : ∀ τ2 C2 (a b c : Int32), FrB τ τ2 → C2 ≤ 30 → gI τ2 151 4 = nI C2 → BST (fun f' w' c' => P f' w' c' ∨ (f' = f ∧ ∃ o', o' < o + 1 ∧ KS V N O cT f S o' w' c')) c0 (gI τ2 151 2) (gI τ2 151 3) C2 → Wp X mX3_tryWishes (rmo (d + 1) 0 0) (d + 1) Q 0 0 155 [some (.ref 151), some (.ref 1), some (.int (nI f)), some (.int (nI S)), some (.int (nI cnt)), some (.int (nI o)), some (.int a), some (.int b), some (.int c)] [] τ2 := fun τ2 C2 a b c F2 h1 h2 h3 => by
      refine wp_blk kX3_tryWishes_155 ?_
      simp (disch := first | decide | omega) only [mxa, vxa, vxb, vxc, vnd, vne, Nat.reduceAdd, Nat.reduceSub, Nat.reduceLeDiff, Nat.reduceLT, Int32.reduceLT, Int32.reduceLE, Int32.reduceAdd, Int32.reduceSub, Int32.reduceMul, Int32.reduceToNatClampNeg, not_false_eq_true, not_true_eq_false, false_implies, true_implies, Nat.zero_add, reduceIte, Nat.reduceMul, Nat.reduceEqDiff, nxa, nxc, lgn, nL_of, swx, Int.reduceAdd, gI_a, gI_k, gL_a, gL_k, gI_r, gL_r, nI_and, nI_or, nI_xor, nI_ndf, nI_shl, nI_shr, ne_eq, and_true, true_and, eq_self, true_or, or_true, false_or, or_false, Option.toList, List.cons_append, List.nil_append, List.length_nil, List.length_cons, Nat.not_lt_zero, bX3_tryWishes_155]
      exact Wp.fog 6 (Wp.fog 7 (Wp.fog 8 (hP τ2 C2 (F.tr F2) h1 h2 h3)))
    have rf2 : FrB τ τ := ⟨Fr.rf, fun _ _ _ _ => rfl⟩
    have sub1 : ∀ f' w' c', (P f' w' c' ∨ (f' = f ∧ ∃ o', o' < o ∧ KS V N O cT f S o' w' c')) → (P f' w' c' ∨ (f' = f ∧ ∃ o', o' < o + 1 ∧ KS V N O cT f S o' w' c')) := fun f' w' c' q => q.imp id (fun ⟨a, o', b, c⟩ => ⟨a, o', by omega, c⟩)
    by_cases lt : sW V N S < zN V o
    · obtain ⟨w, hw⟩ : ∃ w, sW V N S + w = zN V o := ⟨zN V o - sW V N S, by omega⟩
      have ws : nI (zN V o) - nI (sW V N S) = nI w := by
        rw [← hw, ← nI_add]
        generalize nI (sW V N S) = a
        generalize nI w = b
        grind
      have kso : ∀ w' c', KS V N O cT f S o w' c' ↔ w' = w ∧ c' = cnt := fun w' c' => (ks o w' c').trans ⟨fun q => ⟨by omega, q.2.2.2.2⟩, fun q => ⟨ho, by omega, by omega, by omega, q.2⟩⟩
      have sub2 : ∀ f' w' c', (P f' w' c' ∨ (f' = f ∧ ∃ o', o' < o + 1 ∧ KS V N O cT f S o' w' c')) → (P f' w' c' ∨ (f' = f ∧ ∃ o', o' < o ∧ KS V N O cT f S o' w' c')) ∨ (f' = f ∧ w' = w ∧ c' = cnt) := fun f' w' c' q => by
        rcases q with q | ⟨q1, o', q2, q3⟩
        · exact Or.inl (Or.inl q)
        · by_cases e : o' = o
          · subst e; exact Or.inr ⟨q1, (kso _ _).mp q3⟩
          · exact Or.inl (Or.inr ⟨q1, o', by omega, q3⟩)
      have new : P f w cnt ∨ (f = f ∧ ∃ o', o' < o + 1 ∧ KS V N O cT f S o' w cnt) := Or.inr ⟨rfl, o, by omega, (kso _ _).mpr ⟨rfl, rfl⟩⟩
      have can : ∀ q : Nat, q ≤ 1 → (q = 1 ↔ cnt = C' ∧ nI f = gI τ 151 2 ∧ ¬ gI τ 151 3 ≤ nI w) → Wp X mX3_tryWishes (rmo (d + 1) 0 0) (d + 1) Q 0 0 117 [some (.ref 151), some (.ref 1), some (.int (nI f)), some (.int (nI S)), some (.int (nI cnt)), some (.int (nI o)), some (.int (nI w)), some (.int (nI 1)), none] [.int (nI q)] τ := fun q q1 q2 => by
        have upd3 : ∀ a b c : Int32, BST (fun f' w' c' => P f' w' c' ∨ (f' = f ∧ ∃ o', o' < o + 1 ∧ KS V N O cT f S o' w' c')) c0 (nI f) (nI w) cnt → Wp X mX3_tryWishes (rmo (d + 1) 0 0) (d + 1) Q 0 0 138 [some (.ref 151), some (.ref 1), some (.int (nI f)), some (.int (nI S)), some (.int (nI cnt)), some (.int (nI o)), some (.int (nI w)), some (.int b), some (.int c)] [] τ := fun a b c hb => by
          refine wp_blk kX3_tryWishes_138 ?_
          simp (disch := first | decide | omega) only [mxa, vxa, vxb, vxc, vnd, vne, Nat.reduceAdd, Nat.reduceSub, Nat.reduceLeDiff, Nat.reduceLT, Int32.reduceLT, Int32.reduceLE, Int32.reduceAdd, Int32.reduceSub, Int32.reduceMul, Int32.reduceToNatClampNeg, not_false_eq_true, not_true_eq_false, false_implies, true_implies, Nat.zero_add, reduceIte, Nat.reduceMul, Nat.reduceEqDiff, nxa, nxc, lgn, nL_of, swx, Int.reduceAdd, gI_a, gI_k, gL_a, gL_k, gI_r, gL_r, nI_and, nI_or, nI_xor, nI_ndf, nI_shl, nI_shr, ne_eq, and_true, true_and, eq_self, true_or, or_true, false_or, or_false, Option.toList, List.cons_append, List.nil_append, List.length_nil, List.length_cons, Nat.not_lt_zero, bX3_tryWishes_138, kdx st]
          refine done _ cnt _ _ _ ⟨((Fr.sI (S := fun c => c = 151) rfl).tr (Fr.sI rfl)).tr (Fr.sI rfl), fun j j1 j2 j3 => (gI_k j3).trans ((gI_k j2).trans (gI_k j1))⟩ (by omega) (gI_same _ _ _ _) ?_
          rw [gI_k (by decide), gI_k (by decide), gI_same, gI_k (by decide), gI_same]
          exact hb
        by_cases gt : C' < cnt
        · refine wp_blk kX3_tryWishes_117 ?_
          simp (disch := first | decide | omega) only [mxa, vxa, vxb, vxc, vnd, vne, Nat.reduceAdd, Nat.reduceSub, Nat.reduceLeDiff, Nat.reduceLT, Int32.reduceLT, Int32.reduceLE, Int32.reduceAdd, Int32.reduceSub, Int32.reduceMul, Int32.reduceToNatClampNeg, not_false_eq_true, not_true_eq_false, false_implies, true_implies, Nat.zero_add, reduceIte, Nat.reduceMul, Nat.reduceEqDiff, nxa, nxc, lgn, nL_of, swx, Int.reduceAdd, gI_a, gI_k, gL_a, gL_k, gI_r, gL_r, nI_and, nI_or, nI_xor, nI_ndf, nI_shl, nI_shr, ne_eq, and_true, true_and, eq_self, true_or, or_true, false_or, or_false, Option.toList, List.cons_append, List.nil_append, List.length_nil, List.length_cons, Nat.not_lt_zero, bX3_tryWishes_117, kdx st, eC', gt]
          exact upd3 0 _ _ (BST_new hB' gt (by omega) (by omega) new (fun f' w' c' q => (sub2 f' w' c' q).imp id (fun z => ⟨z.1, z.2.1, by omega⟩)))
        · by_cases q' : q = 1
          · obtain ⟨r1, r2, r3⟩ := q2.mp q'
            subst q'
            have hB2 := hB'
            rw [← r2] at hB2
            obtain ⟨w0, w1, w2⟩ : ∃ w0, w0 < 100 ∧ gI τ 151 3 = nI w0 := by
              rcases hB2.2.2 with ⟨-, z, -⟩ | ⟨-, f1, w1, -, g2, -, e2, -⟩
              · exact absurd z (nI_m1 (by omega))
              · exact ⟨w1, g2, e2⟩
            have wlt : w < w0 := by
              rw [w2, Int32.le_iff_toInt_le, nI_toInt (by omega), nI_toInt (by omega)] at r3
              omega
            refine wp_blk kX3_tryWishes_117 ?_
            simp (disch := first | decide | omega) only [mxa, vxa, vxb, vxc, vnd, vne, Nat.reduceAdd, Nat.reduceSub, Nat.reduceLeDiff, Nat.reduceLT, Int32.reduceLT, Int32.reduceLE, Int32.reduceAdd, Int32.reduceSub, Int32.reduceMul, Int32.reduceToNatClampNeg, not_false_eq_true, not_true_eq_false, false_implies, true_implies, Nat.zero_add, reduceIte, Nat.reduceMul, Nat.reduceEqDiff, nxa, nxc, lgn, nL_of, swx, Int.reduceAdd, gI_a, gI_k, gL_a, gL_k, gI_r, gL_r, nI_and, nI_or, nI_xor, nI_ndf, nI_shl, nI_shr, ne_eq, and_true, true_and, eq_self, true_or, or_true, false_or, or_false, Option.toList, List.cons_append, List.nil_append, List.length_nil, List.length_cons, Nat.not_lt_zero, bX3_tryWishes_117, kdx st, eC', gt]
            rw [← r1] at hB2 
            exact upd3 0 _ _ (BST_less hB2 (by omega) (by omega) w2 w1 wlt sub1 new (fun f' w' c' q => (sub2 f' w' c' q).imp id (fun z => ⟨z.1, z.2.1, by omega⟩)))
          · have q0 : q = 0 := by omega
            subst q0
            refine wp_blk kX3_tryWishes_117 ?_
            simp (disch := first | decide | omega) only [mxa, vxa, vxb, vxc, vnd, vne, Nat.reduceAdd, Nat.reduceSub, Nat.reduceLeDiff, Nat.reduceLT, Int32.reduceLT, Int32.reduceLE, Int32.reduceAdd, Int32.reduceSub, Int32.reduceMul, Int32.reduceToNatClampNeg, not_false_eq_true, not_true_eq_false, false_implies, true_implies, Nat.zero_add, reduceIte, Nat.reduceMul, Nat.reduceEqDiff, nxa, nxc, lgn, nL_of, swx, Int.reduceAdd, gI_a, gI_k, gL_a, gL_k, gI_r, gL_r, nI_and, nI_or, nI_xor, nI_ndf, nI_shl, nI_shr, ne_eq, and_true, true_and, eq_self, true_or, or_true, false_or, or_false, Option.toList, List.cons_append, List.nil_append, List.length_nil, List.length_cons, Nat.not_lt_zero, bX3_tryWishes_117, kdx st, eC', gt]
            refine done τ C' _ _ _ rf2 hC' eC' (BST_keep hB' sub1 (fun f' w' c' z => ?_))
            rcases sub2 f' w' c' z with y | ⟨y1, y2, y3⟩
            · exact Or.inl y
            · by_cases e : cnt = C'
              · refine Or.inr (Or.inr ⟨by omega, fun f0 w0 a1 a2 a3 a4 a5 => ?_⟩)
                have le : f0 ≤ f := by
                  rcases a3 with a3 | a3
                  · exact hPf _ _ _ a3
                  · omega
                by_cases ef : f0 = f
                · refine Or.inr ⟨by omega, ?_⟩
                  have : gI τ 151 3 ≤ nI w := Classical.byContradiction (fun u => q' (q2.mpr ⟨e, by rw [a4, ef], u⟩))
                  rw [a5, Int32.le_iff_toInt_le, nI_toInt (by omega), nI_toInt (by omega)] at this
                  omega
                · exact Or.inl (by omega)
              · exact Or.inr (Or.inl (by omega))
      refine wp_blk kX3_tryWishes_41 ?_
      simp (disch := first | decide | omega) only [mxa, vxa, vxb, vxc, vnd, vne, Nat.reduceAdd, Nat.reduceSub, Nat.reduceLeDiff, Nat.reduceLT, Int32.reduceLT, Int32.reduceLE, Int32.reduceAdd, Int32.reduceSub, Int32.reduceMul, Int32.reduceToNatClampNeg, not_false_eq_true, not_true_eq_false, false_implies, true_implies, Nat.zero_add, reduceIte, Nat.reduceMul, Nat.reduceEqDiff, nxa, nxc, lgn, nL_of, swx, Int.reduceAdd, gI_a, gI_k, gL_a, gL_k, gI_r, gL_r, nI_and, nI_or, nI_xor, nI_ndf, nI_shl, nI_shr, ne_eq, and_true, true_and, eq_self, true_or, or_true, false_or, or_false, Option.toList, List.cons_append, List.nil_append, List.length_nil, List.length_cons, Nat.not_lt_zero, bX3_tryWishes_41, kdx st, grx rt, e1', e4', eS', ws, show ¬ O ≤ o by omega, show ¬ w < 1 by omega, show ¬ 99 < w by omega]
      by_cases c1 : cnt = C'
      · by_cases c2 : nI f = gI τ 151 2
        · by_cases c3 : gI τ 151 3 ≤ nI w
          · refine wp_blk kX3_tryWishes_84 ?_
            simp (disch := first | decide | omega) only [mxa, vxa, vxb, vxc, vnd, vne, Nat.reduceAdd, Nat.reduceSub, Nat.reduceLeDiff, Nat.reduceLT, Int32.reduceLT, Int32.reduceLE, Int32.reduceAdd, Int32.reduceSub, Int32.reduceMul, Int32.reduceToNatClampNeg, not_false_eq_true, not_true_eq_false, false_implies, true_implies, Nat.zero_add, reduceIte, Nat.reduceMul, Nat.reduceEqDiff, nxa, nxc, lgn, nL_of, swx, Int.reduceAdd, gI_a, gI_k, gL_a, gL_k, gI_r, gL_r, nI_and, nI_or, nI_xor, nI_ndf, nI_shl, nI_shr, ne_eq, and_true, true_and, eq_self, true_or, or_true, false_or, or_false, Option.toList, List.cons_append, List.nil_append, List.length_nil, List.length_cons, Nat.not_lt_zero, bX3_tryWishes_84, kdx st, eC', eq_true c1, eq_true c2, c3]
            refine wp_blk kX3_tryWishes_116 ?_
            simp (disch := first | decide | omega) only [mxa, vxa, vxb, vxc, vnd, vne, Nat.reduceAdd, Nat.reduceSub, Nat.reduceLeDiff, Nat.reduceLT, Int32.reduceLT, Int32.reduceLE, Int32.reduceAdd, Int32.reduceSub, Int32.reduceMul, Int32.reduceToNatClampNeg, not_false_eq_true, not_true_eq_false, false_implies, true_implies, Nat.zero_add, reduceIte, Nat.reduceMul, Nat.reduceEqDiff, nxa, nxc, lgn, nL_of, swx, Int.reduceAdd, gI_a, gI_k, gL_a, gL_k, gI_r, gL_r, nI_and, nI_or, nI_xor, nI_ndf, nI_shl, nI_shr, ne_eq, and_true, true_and, eq_self, true_or, or_true, false_or, or_false, Option.toList, List.cons_append, List.nil_append, List.length_nil, List.length_cons, Nat.not_lt_zero, bX3_tryWishes_116]
            exact can 0 (by omega) ⟨fun z => absurd z (by omega), fun z => absurd c3 z.2.2⟩
          · refine wp_blk kX3_tryWishes_84 ?_
            simp (disch := first | decide | omega) only [mxa, vxa, vxb, vxc, vnd, vne, Nat.reduceAdd, Nat.reduceSub, Nat.reduceLeDiff, Nat.reduceLT, Int32.reduceLT, Int32.reduceLE, Int32.reduceAdd, Int32.reduceSub, Int32.reduceMul, Int32.reduceToNatClampNeg, not_false_eq_true, not_true_eq_false, false_implies, true_implies, Nat.zero_add, reduceIte, Nat.reduceMul, Nat.reduceEqDiff, nxa, nxc, lgn, nL_of, swx, Int.reduceAdd, gI_a, gI_k, gL_a, gL_k, gI_r, gL_r, nI_and, nI_or, nI_xor, nI_ndf, nI_shl, nI_shr, ne_eq, and_true, true_and, eq_self, true_or, or_true, false_or, or_false, Option.toList, List.cons_append, List.nil_append, List.length_nil, List.length_cons, Nat.not_lt_zero, bX3_tryWishes_84, kdx st, eC', eq_true c1, eq_true c2, c3]
            exact can 1 (by omega) ⟨fun _ => ⟨c1, c2, c3⟩, fun _ => rfl⟩
        · refine wp_blk kX3_tryWishes_84 ?_
          simp (disch := first | decide | omega) only [mxa, vxa, vxb, vxc, vnd, vne, Nat.reduceAdd, Nat.reduceSub, Nat.reduceLeDiff, Nat.reduceLT, Int32.reduceLT, Int32.reduceLE, Int32.reduceAdd, Int32.reduceSub, Int32.reduceMul, Int32.reduceToNatClampNeg, not_false_eq_true, not_true_eq_false, false_implies, true_implies, Nat.zero_add, reduceIte, Nat.reduceMul, Nat.reduceEqDiff, nxa, nxc, lgn, nL_of, swx, Int.reduceAdd, gI_a, gI_k, gL_a, gL_k, gI_r, gL_r, nI_and, nI_or, nI_xor, nI_ndf, nI_shl, nI_shr, ne_eq, and_true, true_and, eq_self, true_or, or_true, false_or, or_false, Option.toList, List.cons_append, List.nil_append, List.length_nil, List.length_cons, Nat.not_lt_zero, bX3_tryWishes_84, kdx st, eC', eq_true c1, c2]
          refine wp_blk kX3_tryWishes_116 ?_
          simp (disch := first | decide | omega) only [mxa, vxa, vxb, vxc, vnd, vne, Nat.reduceAdd, Nat.reduceSub, Nat.reduceLeDiff, Nat.reduceLT, Int32.reduceLT, Int32.reduceLE, Int32.reduceAdd, Int32.reduceSub, Int32.reduceMul, Int32.reduceToNatClampNeg, not_false_eq_true, not_true_eq_false, false_implies, true_implies, Nat.zero_add, reduceIte, Nat.reduceMul, Nat.reduceEqDiff, nxa, nxc, lgn, nL_of, swx, Int.reduceAdd, gI_a, gI_k, gL_a, gL_k, gI_r, gL_r, nI_and, nI_or, nI_xor, nI_ndf, nI_shl, nI_shr, ne_eq, and_true, true_and, eq_self, true_or, or_true, false_or, or_false, Option.toList, List.cons_append, List.nil_append, List.length_nil, List.length_cons, Nat.not_lt_zero, bX3_tryWishes_116]
          exact can 0 (by omega) ⟨fun z => absurd z (by omega), fun z => absurd z.2.1 c2⟩
      · refine wp_blk kX3_tryWishes_84 ?_
        simp (disch := first | decide | omega) only [mxa, vxa, vxb, vxc, vnd, vne, Nat.reduceAdd, Nat.reduceSub, Nat.reduceLeDiff, Nat.reduceLT, Int32.reduceLT, Int32.reduceLE, Int32.reduceAdd, Int32.reduceSub, Int32.reduceMul, Int32.reduceToNatClampNeg, not_false_eq_true, not_true_eq_false, false_implies, true_implies, Nat.zero_add, reduceIte, Nat.reduceMul, Nat.reduceEqDiff, nxa, nxc, lgn, nL_of, swx, Int.reduceAdd, gI_a, gI_k, gL_a, gL_k, gI_r, gL_r, nI_and, nI_or, nI_xor, nI_ndf, nI_shl, nI_shr, ne_eq, and_true, true_and, eq_self, true_or, or_true, false_or, or_false, Option.toList, List.cons_append, List.nil_append, List.length_nil, List.length_cons, Nat.not_lt_zero, bX3_tryWishes_84, kdx st, eC', c1]
        refine wp_blk kX3_tryWishes_116 ?_
        simp (disch := first | decide | omega) only [mxa, vxa, vxb, vxc, vnd, vne, Nat.reduceAdd, Nat.reduceSub, Nat.reduceLeDiff, Nat.reduceLT, Int32.reduceLT, Int32.reduceLE, Int32.reduceAdd, Int32.reduceSub, Int32.reduceMul, Int32.reduceToNatClampNeg, not_false_eq_true, not_true_eq_false, false_implies, true_implies, Nat.zero_add, reduceIte, Nat.reduceMul, Nat.reduceEqDiff, nxa, nxc, lgn, nL_of, swx, Int.reduceAdd, gI_a, gI_k, gL_a, gL_k, gI_r, gL_r, nI_and, nI_or, nI_xor, nI_ndf, nI_shl, nI_shr, ne_eq, and_true, true_and, eq_self, true_or, or_true, false_or, or_false, Option.toList, List.cons_append, List.nil_append, List.length_nil, List.length_cons, Nat.not_lt_zero, bX3_tryWishes_116]
        exact can 0 (by omega) ⟨fun z => absurd z (by omega), fun z => absurd z.1 c1⟩
    · have neg : nI (zN V o) - nI (sW V N S) < nI 1 := by
        obtain ⟨k, hk⟩ : ∃ k, zN V o + k = sW V N S := ⟨sW V N S - zN V o, by omega⟩
        have : nI (zN V o) - nI (sW V N S) = -(nI k) := by
          rw [← hk, ← nI_add]
          generalize nI (zN V o) = a
          generalize nI k = b
          grind
        rw [this, Int32.lt_iff_toInt_lt, Int32.toInt_neg, nI_toInt (by omega), nI_toInt (by omega)]
        rw [Int.bmod_eq_of_le (by omega) (by omega)]
        omega
      have fin : ∀ a b : Int32, Wp X mX3_tryWishes (rmo (d + 1) 0 0) (d + 1) Q 0 0 117 [some (.ref 151), some (.ref 1), some (.int (nI f)), some (.int (nI S)), some (.int (nI cnt)), some (.int (nI o)), some (.int a), some (.int (nI 0)), none] [.int b] τ := fun a b => by
        refine wp_blk kX3_tryWishes_117 ?_
        simp (disch := first | decide | omega) only [mxa, vxa, vxb, vxc, vnd, vne, Nat.reduceAdd, Nat.reduceSub, Nat.reduceLeDiff, Nat.reduceLT, Int32.reduceLT, Int32.reduceLE, Int32.reduceAdd, Int32.reduceSub, Int32.reduceMul, Int32.reduceToNatClampNeg, not_false_eq_true, not_true_eq_false, false_implies, true_implies, Nat.zero_add, reduceIte, Nat.reduceMul, Nat.reduceEqDiff, nxa, nxc, lgn, nL_of, swx, Int.reduceAdd, gI_a, gI_k, gL_a, gL_k, gI_r, gL_r, nI_and, nI_or, nI_xor, nI_ndf, nI_shl, nI_shr, ne_eq, and_true, true_and, eq_self, true_or, or_true, false_or, or_false, Option.toList, List.cons_append, List.nil_append, List.length_nil, List.length_cons, Nat.not_lt_zero, bX3_tryWishes_117]
        refine done τ C' _ _ _ rf2 hC' eC' (BST_keep hB' sub1 (fun f' w' c' z => ?_))
        rcases z with z | ⟨y1, o', y2, y3⟩
        · exact Or.inl (Or.inl z)
        · by_cases e : o' = o
          · subst e
            have := (ks o' w' c').mp y3
            omega
          · exact Or.inl (Or.inr ⟨y1, o', by omega, y3⟩)
      refine wp_blk kX3_tryWishes_41 ?_
      simp (disch := first | decide | omega) only [mxa, vxa, vxb, vxc, vnd, vne, Nat.reduceAdd, Nat.reduceSub, Nat.reduceLeDiff, Nat.reduceLT, Int32.reduceLT, Int32.reduceLE, Int32.reduceAdd, Int32.reduceSub, Int32.reduceMul, Int32.reduceToNatClampNeg, not_false_eq_true, not_true_eq_false, false_implies, true_implies, Nat.zero_add, reduceIte, Nat.reduceMul, Nat.reduceEqDiff, nxa, nxc, lgn, nL_of, swx, Int.reduceAdd, gI_a, gI_k, gL_a, gL_k, gI_r, gL_r, nI_and, nI_or, nI_xor, nI_ndf, nI_shl, nI_shr, ne_eq, and_true, true_and, eq_self, true_or, or_true, false_or, or_false, Option.toList, List.cons_append, List.nil_append, List.length_nil, List.length_cons, Nat.not_lt_zero, bX3_tryWishes_41, kdx st, grx rt, e1', e4', eS', neg, show ¬ O ≤ o by omega]
      refine wp_blk kX3_tryWishes_83 ?_
      simp (disch := first | decide | omega) only [mxa, vxa, vxb, vxc, vnd, vne, Nat.reduceAdd, Nat.reduceSub, Nat.reduceLeDiff, Nat.reduceLT, Int32.reduceLT, Int32.reduceLE, Int32.reduceAdd, Int32.reduceSub, Int32.reduceMul, Int32.reduceToNatClampNeg, not_false_eq_true, not_true_eq_false, false_implies, true_implies, Nat.zero_add, reduceIte, Nat.reduceMul, Nat.reduceEqDiff, nxa, nxc, lgn, nL_of, swx, Int.reduceAdd, gI_a, gI_k, gL_a, gL_k, gI_r, gL_r, nI_and, nI_or, nI_xor, nI_ndf, nI_shl, nI_shr, ne_eq, and_true, true_and, eq_self, true_or, or_true, false_or, or_false, Option.toList, List.cons_append, List.nil_append, List.length_nil, List.length_cons, Nat.not_lt_zero, bX3_tryWishes_83]
      generalize nI (zN V o) - nI (sW V N S) = wish at *
      by_cases c1 : cnt = C'
      · by_cases c2 : nI f = gI τ 151 2
        · by_cases c3 : gI τ 151 3 ≤ wish
          · refine wp_blk kX3_tryWishes_84 ?_
            simp (disch := first | decide | omega) only [mxa, vxa, vxb, vxc, vnd, vne, Nat.reduceAdd, Nat.reduceSub, Nat.reduceLeDiff, Nat.reduceLT, Int32.reduceLT, Int32.reduceLE, Int32.reduceAdd, Int32.reduceSub, Int32.reduceMul, Int32.reduceToNatClampNeg, not_false_eq_true, not_true_eq_false, false_implies, true_implies, Nat.zero_add, reduceIte, Nat.reduceMul, Nat.reduceEqDiff, nxa, nxc, lgn, nL_of, swx, Int.reduceAdd, gI_a, gI_k, gL_a, gL_k, gI_r, gL_r, nI_and, nI_or, nI_xor, nI_ndf, nI_shl, nI_shr, ne_eq, and_true, true_and, eq_self, true_or, or_true, false_or, or_false, Option.toList, List.cons_append, List.nil_append, List.length_nil, List.length_cons, Nat.not_lt_zero, bX3_tryWishes_84, kdx st, eC', eq_true c1, eq_true c2, c3]
            refine wp_blk kX3_tryWishes_116 ?_
            simp (disch := first | decide | omega) only [mxa, vxa, vxb, vxc, vnd, vne, Nat.reduceAdd, Nat.reduceSub, Nat.reduceLeDiff, Nat.reduceLT, Int32.reduceLT, Int32.reduceLE, Int32.reduceAdd, Int32.reduceSub, Int32.reduceMul, Int32.reduceToNatClampNeg, not_false_eq_true, not_true_eq_false, false_implies, true_implies, Nat.zero_add, reduceIte, Nat.reduceMul, Nat.reduceEqDiff, nxa, nxc, lgn, nL_of, swx, Int.reduceAdd, gI_a, gI_k, gL_a, gL_k, gI_r, gL_r, nI_and, nI_or, nI_xor, nI_ndf, nI_shl, nI_shr, ne_eq, and_true, true_and, eq_self, true_or, or_true, false_or, or_false, Option.toList, List.cons_append, List.nil_append, List.length_nil, List.length_cons, Nat.not_lt_zero, bX3_tryWishes_116]
            exact fin _ _
          · refine wp_blk kX3_tryWishes_84 ?_
            simp (disch := first | decide | omega) only [mxa, vxa, vxb, vxc, vnd, vne, Nat.reduceAdd, Nat.reduceSub, Nat.reduceLeDiff, Nat.reduceLT, Int32.reduceLT, Int32.reduceLE, Int32.reduceAdd, Int32.reduceSub, Int32.reduceMul, Int32.reduceToNatClampNeg, not_false_eq_true, not_true_eq_false, false_implies, true_implies, Nat.zero_add, reduceIte, Nat.reduceMul, Nat.reduceEqDiff, nxa, nxc, lgn, nL_of, swx, Int.reduceAdd, gI_a, gI_k, gL_a, gL_k, gI_r, gL_r, nI_and, nI_or, nI_xor, nI_ndf, nI_shl, nI_shr, ne_eq, and_true, true_and, eq_self, true_or, or_true, false_or, or_false, Option.toList, List.cons_append, List.nil_append, List.length_nil, List.length_cons, Nat.not_lt_zero, bX3_tryWishes_84, kdx st, eC', eq_true c1, eq_true c2, c3]
            exact fin _ _
        · refine wp_blk kX3_tryWishes_84 ?_
          simp (disch := first | decide | omega) only [mxa, vxa, vxb, vxc, vnd, vne, Nat.reduceAdd, Nat.reduceSub, Nat.reduceLeDiff, Nat.reduceLT, Int32.reduceLT, Int32.reduceLE, Int32.reduceAdd, Int32.reduceSub, Int32.reduceMul, Int32.reduceToNatClampNeg, not_false_eq_true, not_true_eq_false, false_implies, true_implies, Nat.zero_add, reduceIte, Nat.reduceMul, Nat.reduceEqDiff, nxa, nxc, lgn, nL_of, swx, Int.reduceAdd, gI_a, gI_k, gL_a, gL_k, gI_r, gL_r, nI_and, nI_or, nI_xor, nI_ndf, nI_shl, nI_shr, ne_eq, and_true, true_and, eq_self, true_or, or_true, false_or, or_false, Option.toList, List.cons_append, List.nil_append, List.length_nil, List.length_cons, Nat.not_lt_zero, bX3_tryWishes_84, kdx st, eC', eq_true c1, c2]
          refine wp_blk kX3_tryWishes_116 ?_
          simp (disch := first | decide | omega) only [mxa, vxa, vxb, vxc, vnd, vne, Nat.reduceAdd, Nat.reduceSub, Nat.reduceLeDiff, Nat.reduceLT, Int32.reduceLT, Int32.reduceLE, Int32.reduceAdd, Int32.reduceSub, Int32.reduceMul, Int32.reduceToNatClampNeg, not_false_eq_true, not_true_eq_false, false_implies, true_implies, Nat.zero_add, reduceIte, Nat.reduceMul, Nat.reduceEqDiff, nxa, nxc, lgn, nL_of, swx, Int.reduceAdd, gI_a, gI_k, gL_a, gL_k, gI_r, gL_r, nI_and, nI_or, nI_xor, nI_ndf, nI_shl, nI_shr, ne_eq, and_true, true_and, eq_self, true_or, or_true, false_or, or_false, Option.toList, List.cons_append, List.nil_append, List.length_nil, List.length_cons, Nat.not_lt_zero, bX3_tryWishes_116]
          exact fin _ _
      · refine wp_blk kX3_tryWishes_84 ?_
        simp (disch := first | decide | omega) only [mxa, vxa, vxb, vxc, vnd, vne, Nat.reduceAdd, Nat.reduceSub, Nat.reduceLeDiff, Nat.reduceLT, Int32.reduceLT, Int32.reduceLE, Int32.reduceAdd, Int32.reduceSub, Int32.reduceMul, Int32.reduceToNatClampNeg, not_false_eq_true, not_true_eq_false, false_implies, true_implies, Nat.zero_add, reduceIte, Nat.reduceMul, Nat.reduceEqDiff, nxa, nxc, lgn, nL_of, swx, Int.reduceAdd, gI_a, gI_k, gL_a, gL_k, gI_r, gL_r, nI_and, nI_or, nI_xor, nI_ndf, nI_shl, nI_shr, ne_eq, and_true, true_and, eq_self, true_or, or_true, false_or, or_false, Option.toList, List.cons_append, List.nil_append, List.length_nil, List.length_cons, Nat.not_lt_zero, bX3_tryWishes_84, kdx st, eC', c1]
        refine wp_blk kX3_tryWishes_116 ?_
        simp (disch := first | decide | omega) only [mxa, vxa, vxb, vxc, vnd, vne, Nat.reduceAdd, Nat.reduceSub, Nat.reduceLeDiff, Nat.reduceLT, Int32.reduceLT, Int32.reduceLE, Int32.reduceAdd, Int32.reduceSub, Int32.reduceMul, Int32.reduceToNatClampNeg, not_false_eq_true, not_true_eq_false, false_implies, true_implies, Nat.zero_add, reduceIte, Nat.reduceMul, Nat.reduceEqDiff, nxa, nxc, lgn, nL_of, swx, Int.reduceAdd, gI_a, gI_k, gL_a, gL_k, gI_r, gL_r, nI_and, nI_or, nI_xor, nI_ndf, nI_shl, nI_shr, ne_eq, and_true, true_and, eq_self, true_or, or_true, false_or, or_false, Option.toList, List.cons_append, List.nil_append, List.length_nil, List.length_cons, Nat.not_lt_zero, bX3_tryWishes_116]
        exact fin _ _) (fun τ C' F hC' eC' hB' => by
    have st := F.1.Sh hs
    have e1' : gI τ 1 1 = nI O := (F.1.2.2.1 1 (by omega) 1).trans e1
    have q := hQ τ C' F hC' eC' hB'
    refine wp_blk kX3_tryWishes_41 ?_
    simp (disch := first | decide | omega) only [mxa, vxa, vxb, vxc, vnd, vne, Nat.reduceAdd, Nat.reduceSub, Nat.reduceLeDiff, Nat.reduceLT, Int32.reduceLT, Int32.reduceLE, Int32.reduceAdd, Int32.reduceSub, Int32.reduceMul, Int32.reduceToNatClampNeg, not_false_eq_true, not_true_eq_false, false_implies, true_implies, Nat.zero_add, reduceIte, Nat.reduceMul, Nat.reduceEqDiff, nxa, nxc, lgn, nL_of, swx, Int.reduceAdd, gI_a, gI_k, gL_a, gL_k, gI_r, gL_r, nI_and, nI_or, nI_xor, nI_ndf, nI_shl, nI_shr, ne_eq, and_true, true_and, eq_self, true_or, or_true, false_or, or_false, Option.toList, List.cons_append, List.nil_append, List.length_nil, List.length_cons, Nat.not_lt_zero, bX3_tryWishes_41, kdx st, e1', Nat.le_refl]
    refine wp_blk kX3_tryWishes_161 ?_
    simp (disch := first | decide | omega) only [mxa, vxa, vxb, vxc, vnd, vne, Nat.reduceAdd, Nat.reduceSub, Nat.reduceLeDiff, Nat.reduceLT, Int32.reduceLT, Int32.reduceLE, Int32.reduceAdd, Int32.reduceSub, Int32.reduceMul, Int32.reduceToNatClampNeg, not_false_eq_true, not_true_eq_false, false_implies, true_implies, Nat.zero_add, reduceIte, Nat.reduceMul, Nat.reduceEqDiff, nxa, nxc, lgn, nL_of, swx, Int.reduceAdd, gI_a, gI_k, gL_a, gL_k, gI_r, gL_r, nI_and, nI_or, nI_xor, nI_ndf, nI_shl, nI_shr, ne_eq, and_true, true_and, eq_self, true_or, or_true, false_or, or_false, Option.toList, List.cons_append, List.nil_append, List.length_nil, List.length_cons, Nat.not_lt_zero, bX3_tryWishes_161]
    exact q)
  refine call_of eX3_tryWishes rfl ?_
  refine wp_blk kX3_tryWishes_0 ?_
  simp (disch := first | decide | omega) only [mxa, vxa, vxb, vxc, vnd, vne, Nat.reduceAdd, Nat.reduceSub, Nat.reduceLeDiff, Nat.reduceLT, Int32.reduceLT, Int32.reduceLE, Int32.reduceAdd, Int32.reduceSub, Int32.reduceMul, Int32.reduceToNatClampNeg, not_false_eq_true, not_true_eq_false, false_implies, true_implies, Nat.zero_add, reduceIte, Nat.reduceMul, Nat.reduceEqDiff, nxa, nxc, lgn, nL_of, swx, Int.reduceAdd, gI_a, gI_k, gL_a, gL_k, gI_r, gL_r, nI_and, nI_or, nI_xor, nI_ndf, nI_shl, nI_shr, ne_eq, and_true, true_and, eq_self, true_or, or_true, false_or, or_false, Option.toList, List.cons_append, List.nil_append, List.length_nil, List.length_cons, Nat.not_lt_zero, bX3_tryWishes_0]
  refine c_bitCount X _ σ S (by omega) _ ?_
  by_cases lt : cnt < C
  · have q := hQ σ C ⟨Fr.rf, fun _ _ _ _ => rfl⟩ hC eC (BST_keep hB (fun f' w' c' z => Or.inl z) (fun f' w' c' z => by
      rcases z with z | ⟨z1, o', z2, z3⟩
      · exact Or.inl z
      · have := (ks o' w' c').mp z3
        exact Or.inr (Or.inl (by omega))))
    simp (disch := first | decide | omega) only [mxa, vxa, vxb, vxc, vnd, vne, Nat.reduceAdd, Nat.reduceSub, Nat.reduceLeDiff, Nat.reduceLT, Int32.reduceLT, Int32.reduceLE, Int32.reduceAdd, Int32.reduceSub, Int32.reduceMul, Int32.reduceToNatClampNeg, not_false_eq_true, not_true_eq_false, false_implies, true_implies, Nat.zero_add, reduceIte, Nat.reduceMul, Nat.reduceEqDiff, nxa, nxc, lgn, nL_of, swx, Int.reduceAdd, gI_a, gI_k, gL_a, gL_k, gI_r, gL_r, nI_and, nI_or, nI_xor, nI_ndf, nI_shl, nI_shr, ne_eq, and_true, true_and, eq_self, true_or, or_true, false_or, or_false, Option.toList, List.cons_append, List.nil_append, List.length_nil, List.length_cons, Nat.not_lt_zero, kdx hs, grx hr, ew, tt, t1, Nat.one_mul, hcnt, eC, show ¬ C ≤ cnt by omega]
    exact q
  · have q := loop σ C ⟨Fr.rf, fun _ _ _ _ => rfl⟩ hC eC (BST_congr hB (fun f' w' c' => ⟨fun z => Or.inl z, fun z => by
      rcases z with z | ⟨z1, o', z2, z3⟩
      · exact z
      · exact absurd z2 (by omega)⟩))
    simp (disch := first | decide | omega) only [mxa, vxa, vxb, vxc, vnd, vne, Nat.reduceAdd, Nat.reduceSub, Nat.reduceLeDiff, Nat.reduceLT, Int32.reduceLT, Int32.reduceLE, Int32.reduceAdd, Int32.reduceSub, Int32.reduceMul, Int32.reduceToNatClampNeg, not_false_eq_true, not_true_eq_false, false_implies, true_implies, Nat.zero_add, reduceIte, Nat.reduceMul, Nat.reduceEqDiff, nxa, nxc, lgn, nL_of, swx, Int.reduceAdd, gI_a, gI_k, gL_a, gL_k, gI_r, gL_r, nI_and, nI_or, nI_xor, nI_ndf, nI_shl, nI_shr, ne_eq, and_true, true_and, eq_self, true_or, or_true, false_or, or_false, Option.toList, List.cons_append, List.nil_append, List.length_nil, List.length_cons, Nat.not_lt_zero, kdx hs, grx hr, ew, tt, t1, Nat.one_mul, hcnt, eC, show C ≤ cnt by omega]
    refine wp_blk kX3_tryWishes_38 ?_
    simp (disch := first | decide | omega) only [mxa, vxa, vxb, vxc, vnd, vne, Nat.reduceAdd, Nat.reduceSub, Nat.reduceLeDiff, Nat.reduceLT, Int32.reduceLT, Int32.reduceLE, Int32.reduceAdd, Int32.reduceSub, Int32.reduceMul, Int32.reduceToNatClampNeg, not_false_eq_true, not_true_eq_false, false_implies, true_implies, Nat.zero_add, reduceIte, Nat.reduceMul, Nat.reduceEqDiff, nxa, nxc, lgn, nL_of, swx, Int.reduceAdd, gI_a, gI_k, gL_a, gL_k, gI_r, gL_r, nI_and, nI_or, nI_xor, nI_ndf, nI_shl, nI_shr, ne_eq, and_true, true_and, eq_self, true_or, or_true, false_or, or_false, Option.toList, List.cons_append, List.nil_append, List.length_nil, List.length_cons, Nat.not_lt_zero, bX3_tryWishes_38]
    exact q
