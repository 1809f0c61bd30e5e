/-! the class's tokens -/
set_option maxRecDepth 20000
theorem nI_sub {a b : Nat} (h : b ≤ a) : nI a - nI b = nI (a - b) := by
  obtain ⟨k, hk⟩ : ∃ k, a = b + k := ⟨a - b, by omega⟩
  rw [show a - b = k by omega, hk, ← nI_add]
  generalize nI b = x
  generalize nI k = y
  grind
theorem c_takeWord (X : Cx) (d : Nat) (σ : Mm) (n p : Nat) (B : Nat → Nat) (hs : Sh σ) (hr : Rf σ) (hT : TX σ n B) (hp : p ≤ n) (h6 : gI σ 145 6 = nI p) (h7 : gI σ 145 7 = nI p) (Q : Po) (hQ : ∀ τ : Mm, FrT σ τ → gI τ 145 6 = nI p → gI τ 145 7 = nI (scan (leP n B) n p) → gI τ 145 4 = nI (cc (keyF cN wl' B p (scan (leP n B) n p) 8 0)) → Q none τ) : Call X (d + 6) 0 0 mX5_takeWord [.ref 145] σ Q := by
  have n9 := hT.2.1
  refine call_of eX5_takeWord rfl ?_
  have loop : ∀ k q, n - q = k → p ≤ q → q ≤ n → scan (leP n B) n q = scan (leP n B) n p → ∀ τ : Mm, FrT σ τ → gI τ 145 6 = nI p → gI τ 145 7 = nI q → Wp X mX5_takeWord (rmo (d + 6) 0 0) (d + 6) Q 0 0 0 [some (.ref 145)] [] τ := by
    intro k
    induction k with
    | zero =>
      intro q hk hpq hqn hsc τ F t6 t7
      have st := F.1.Sh hs
      have rt := F.1.Rf hr
      have tT := hT.keep F
      have e : q = n := by omega
      rw [scan_n (fun z => by have := z.1; omega)] at hsc
      refine wp_blk kX5_takeWord_0 ?_
      simp (disch := first | decide | omega) only [mxa, vxa, vxb, vxc, vnd, vne, Nat.reduceAdd, Nat.reduceSub, Nat.reduceLeDiff, Nat.reduceLT, Int32.reduceLT, Int32.reduceLE, Int32.reduceAdd, Int32.reduceSub, Int32.reduceMul, Int32.reduceToNatClampNeg, not_false_eq_true, not_true_eq_false, false_implies, true_implies, Nat.zero_add, reduceIte, Nat.reduceMul, Nat.reduceEqDiff, nxa, nxc, lgn, nL_of, swx, Int.reduceAdd, gI_a, gI_k, gL_a, gL_k, gI_r, gL_r, nI_and, nI_or, nI_xor, nI_ndf, nI_shl, nI_shr, ne_eq, and_true, true_and, eq_self, true_or, or_true, false_or, or_false, Option.toList, List.cons_append, List.nil_append, List.length_nil, List.length_cons, Nat.not_lt_zero, bX5_takeWord_0, kdx st, tT.1, t7, show n ≤ q by omega]
      refine wp_blk kX5_takeWord_39 ?_
      simp (disch := first | decide | omega) only [mxa, vxa, vxb, vxc, vnd, vne, Nat.reduceAdd, Nat.reduceSub, Nat.reduceLeDiff, Nat.reduceLT, Int32.reduceLT, Int32.reduceLE, Int32.reduceAdd, Int32.reduceSub, Int32.reduceMul, Int32.reduceToNatClampNeg, not_false_eq_true, not_true_eq_false, false_implies, true_implies, Nat.zero_add, reduceIte, Nat.reduceMul, Nat.reduceEqDiff, nxa, nxc, lgn, nL_of, swx, Int.reduceAdd, gI_a, gI_k, gL_a, gL_k, gI_r, gL_r, nI_and, nI_or, nI_xor, nI_ndf, nI_shl, nI_shr, ne_eq, and_true, true_and, eq_self, true_or, or_true, false_or, or_false, Option.toList, List.cons_append, List.nil_append, List.length_nil, List.length_cons, Nat.not_lt_zero, bX5_takeWord_39, kdx st]
      refine c_wordHere X _ τ n p q B st rt tT hpq hqn t6 t7 _ ?_
      simp (disch := first | decide | omega) only [mxa, vxa, vxb, vxc, vnd, vne, Nat.reduceAdd, Nat.reduceSub, Nat.reduceLeDiff, Nat.reduceLT, Int32.reduceLT, Int32.reduceLE, Int32.reduceAdd, Int32.reduceSub, Int32.reduceMul, Int32.reduceToNatClampNeg, not_false_eq_true, not_true_eq_false, false_implies, true_implies, Nat.zero_add, reduceIte, Nat.reduceMul, Nat.reduceEqDiff, nxa, nxc, lgn, nL_of, swx, Int.reduceAdd, gI_a, gI_k, gL_a, gL_k, gI_r, gL_r, nI_and, nI_or, nI_xor, nI_ndf, nI_shl, nI_shr, ne_eq, and_true, true_and, eq_self, true_or, or_true, false_or, or_false, Option.toList, List.cons_append, List.nil_append, List.length_nil, List.length_cons, Nat.not_lt_zero, kdx st]
      exact hQ _ (F.tr (FrT.sI (by omega))) ((gI_k (by decide)).trans t6) ((gI_k (by decide)).trans (by rw [← hsc]; exact t7)) (by rw [← hsc]; exact gI_same _ _ _ _)
    | succ k ih =>
      intro q hk hpq hqn hsc τ F t6 t7
      have st := F.1.Sh hs
      have rt := F.1.Rf hr
      have tT := hT.keep F
      have tx := tT.2.2.2 q (by omega)
      have bl := tT.2.2.1 q
      refine wp_blk kX5_takeWord_0 ?_
      simp (disch := first | decide | omega) only [mxa, vxa, vxb, vxc, vnd, vne, Nat.reduceAdd, Nat.reduceSub, Nat.reduceLeDiff, Nat.reduceLT, Int32.reduceLT, Int32.reduceLE, Int32.reduceAdd, Int32.reduceSub, Int32.reduceMul, Int32.reduceToNatClampNeg, not_false_eq_true, not_true_eq_false, false_implies, true_implies, Nat.zero_add, reduceIte, Nat.reduceMul, Nat.reduceEqDiff, nxa, nxc, lgn, nL_of, swx, Int.reduceAdd, gI_a, gI_k, gL_a, gL_k, gI_r, gL_r, nI_and, nI_or, nI_xor, nI_ndf, nI_shl, nI_shr, ne_eq, and_true, true_and, eq_self, true_or, or_true, false_or, or_false, Option.toList, List.cons_append, List.nil_append, List.length_nil, List.length_cons, Nat.not_lt_zero, bX5_takeWord_0, kdx st, grx rt, tT.1, t7, tx, show ¬ n ≤ q by omega]
      refine c_isLetter X _ _ (B q) bl _ ?_
      by_cases l : 97 ≤ B q ∧ B q ≤ 122
      · rw [if_pos l]
        have le : leP n B q := ⟨by omega, l⟩
        simp (disch := first | decide | omega) only [mxa, vxa, vxb, vxc, vnd, vne, Nat.reduceAdd, Nat.reduceSub, Nat.reduceLeDiff, Nat.reduceLT, Int32.reduceLT, Int32.reduceLE, Int32.reduceAdd, Int32.reduceSub, Int32.reduceMul, Int32.reduceToNatClampNeg, not_false_eq_true, not_true_eq_false, false_implies, true_implies, Nat.zero_add, reduceIte, Nat.reduceMul, Nat.reduceEqDiff, nxa, nxc, lgn, nL_of, swx, Int.reduceAdd, gI_a, gI_k, gL_a, gL_k, gI_r, gL_r, nI_and, nI_or, nI_xor, nI_ndf, nI_shl, nI_shr, ne_eq, and_true, true_and, eq_self, true_or, or_true, false_or, or_false, Option.toList, List.cons_append, List.nil_append, List.length_nil, List.length_cons, Nat.not_lt_zero, kdx st, t7]
        exact ih (q + 1) (by omega) (by omega) (by omega) (by rw [← scan_y le (by omega)]; exact hsc) _ (F.tr (FrT.sI (by omega))) ((gI_k (by decide)).trans t6) (gI_same _ _ _ _)
      · rw [if_neg l]
        rw [scan_n (fun z => l z.2)] at hsc
        simp (disch := first | decide | omega) only [mxa, vxa, vxb, vxc, vnd, vne, Nat.reduceAdd, Nat.reduceSub, Nat.reduceLeDiff, Nat.reduceLT, Int32.reduceLT, Int32.reduceLE, Int32.reduceAdd, Int32.reduceSub, Int32.reduceMul, Int32.reduceToNatClampNeg, not_false_eq_true, not_true_eq_false, false_implies, true_implies, Nat.zero_add, reduceIte, Nat.reduceMul, Nat.reduceEqDiff, nxa, nxc, lgn, nL_of, swx, Int.reduceAdd, gI_a, gI_k, gL_a, gL_k, gI_r, gL_r, nI_and, nI_or, nI_xor, nI_ndf, nI_shl, nI_shr, ne_eq, and_true, true_and, eq_self, true_or, or_true, false_or, or_false, Option.toList, List.cons_append, List.nil_append, List.length_nil, List.length_cons, Nat.not_lt_zero]
        refine wp_blk kX5_takeWord_39 ?_
        simp (disch := first | decide | omega) only [mxa, vxa, vxb, vxc, vnd, vne, Nat.reduceAdd, Nat.reduceSub, Nat.reduceLeDiff, Nat.reduceLT, Int32.reduceLT, Int32.reduceLE, Int32.reduceAdd, Int32.reduceSub, Int32.reduceMul, Int32.reduceToNatClampNeg, not_false_eq_true, not_true_eq_false, false_implies, true_implies, Nat.zero_add, reduceIte, Nat.reduceMul, Nat.reduceEqDiff, nxa, nxc, lgn, nL_of, swx, Int.reduceAdd, gI_a, gI_k, gL_a, gL_k, gI_r, gL_r, nI_and, nI_or, nI_xor, nI_ndf, nI_shl, nI_shr, ne_eq, and_true, true_and, eq_self, true_or, or_true, false_or, or_false, Option.toList, List.cons_append, List.nil_append, List.length_nil, List.length_cons, Nat.not_lt_zero, bX5_takeWord_39, kdx st]
        refine c_wordHere X _ τ n p q B st rt tT hpq hqn t6 t7 _ ?_
        simp (disch := first | decide | omega) only [mxa, vxa, vxb, vxc, vnd, vne, Nat.reduceAdd, Nat.reduceSub, Nat.reduceLeDiff, Nat.reduceLT, Int32.reduceLT, Int32.reduceLE, Int32.reduceAdd, Int32.reduceSub, Int32.reduceMul, Int32.reduceToNatClampNeg, not_false_eq_true, not_true_eq_false, false_implies, true_implies, Nat.zero_add, reduceIte, Nat.reduceMul, Nat.reduceEqDiff, nxa, nxc, lgn, nL_of, swx, Int.reduceAdd, gI_a, gI_k, gL_a, gL_k, gI_r, gL_r, nI_and, nI_or, nI_xor, nI_ndf, nI_shl, nI_shr, ne_eq, and_true, true_and, eq_self, true_or, or_true, false_or, or_false, Option.toList, List.cons_append, List.nil_append, List.length_nil, List.length_cons, Nat.not_lt_zero, kdx st]
        exact hQ _ (F.tr (FrT.sI (by omega))) ((gI_k (by decide)).trans t6) ((gI_k (by decide)).trans (by rw [← hsc]; exact t7)) (by rw [← hsc]; exact gI_same _ _ _ _)
  exact loop _ p rfl (Nat.le_refl _) hp rfl σ FrT.rf h6 h7
theorem c_takeNumber (X : Cx) (d : Nat) (σ : Mm) (n p : Nat) (B : Nat → Nat) (hs : Sh σ) (hr : Rf σ) (hT : TX σ n B) (hp : p ≤ n) (h6 : gI σ 145 6 = nI p) (h7 : gI σ 145 7 = nI p) (Q : Po) (hQ : ∀ τ : Mm, FrT σ τ → gI τ 145 6 = nI p → gI τ 145 7 = nI (scan (dgP n B) n p) → gI τ 145 4 = nI (if 3 < scan (dgP n B) n p - p then 1 else 3) → gI τ 145 5 = nI (nm B p (scan (dgP n B) n p - p)) → Q none τ) : Call X (d + 1) 0 0 mX5_takeNumber [.ref 145] σ Q := by
  have n9 := hT.2.1
  have fin : ∀ q, p ≤ q → q ≤ n → q = scan (dgP n B) n p → ∀ τ : Mm, FrT σ τ → gI τ 145 6 = nI p → gI τ 145 7 = nI q → gI τ 145 5 = nI (nm B p (q - p)) → Wp X mX5_takeNumber (rmo (d + 1) 0 0) (d + 1) Q 0 0 81 [some (.ref 145)] [] τ := by
    intro q hpq hqn hsc τ F t6 t7 t5
    have st := F.1.Sh hs
    rw [← hsc] at hQ
    by_cases c : 3 < q - p
    · rw [if_pos c] at hQ
      refine wp_blk kX5_takeNumber_81 ?_
      simp (disch := first | decide | omega) only [mxa, vxa, vxb, vxc, vnd, vne, Nat.reduceAdd, Nat.reduceSub, Nat.reduceLeDiff, Nat.reduceLT, Int32.reduceLT, Int32.reduceLE, Int32.reduceAdd, Int32.reduceSub, Int32.reduceMul, Int32.reduceToNatClampNeg, not_false_eq_true, not_true_eq_false, false_implies, true_implies, Nat.zero_add, reduceIte, Nat.reduceMul, Nat.reduceEqDiff, nxa, nxc, lgn, nL_of, swx, Int.reduceAdd, gI_a, gI_k, gL_a, gL_k, gI_r, gL_r, nI_and, nI_or, nI_xor, nI_ndf, nI_shl, nI_shr, ne_eq, and_true, true_and, eq_self, true_or, or_true, false_or, or_false, Option.toList, List.cons_append, List.nil_append, List.length_nil, List.length_cons, Nat.not_lt_zero, bX5_takeNumber_81, kdx st, t6, t7, nI_sub hpq, show ¬ q - p ≤ 3 by omega]
      refine wp_blk kX5_takeNumber_100 ?_
      simp (disch := first | decide | omega) only [mxa, vxa, vxb, vxc, vnd, vne, Nat.reduceAdd, Nat.reduceSub, Nat.reduceLeDiff, Nat.reduceLT, Int32.reduceLT, Int32.reduceLE, Int32.reduceAdd, Int32.reduceSub, Int32.reduceMul, Int32.reduceToNatClampNeg, not_false_eq_true, not_true_eq_false, false_implies, true_implies, Nat.zero_add, reduceIte, Nat.reduceMul, Nat.reduceEqDiff, nxa, nxc, lgn, nL_of, swx, Int.reduceAdd, gI_a, gI_k, gL_a, gL_k, gI_r, gL_r, nI_and, nI_or, nI_xor, nI_ndf, nI_shl, nI_shr, ne_eq, and_true, true_and, eq_self, true_or, or_true, false_or, or_false, Option.toList, List.cons_append, List.nil_append, List.length_nil, List.length_cons, Nat.not_lt_zero, bX5_takeNumber_100, kdx st]
      exact hQ _ (F.tr (FrT.sI (by omega))) ((gI_k (by decide)).trans t6) ((gI_k (by decide)).trans t7) (gI_same _ _ _ _) ((gI_k (by decide)).trans t5)
    · rw [if_neg c] at hQ
      refine wp_blk kX5_takeNumber_81 ?_
      simp (disch := first | decide | omega) only [mxa, vxa, vxb, vxc, vnd, vne, Nat.reduceAdd, Nat.reduceSub, Nat.reduceLeDiff, Nat.reduceLT, Int32.reduceLT, Int32.reduceLE, Int32.reduceAdd, Int32.reduceSub, Int32.reduceMul, Int32.reduceToNatClampNeg, not_false_eq_true, not_true_eq_false, false_implies, true_implies, Nat.zero_add, reduceIte, Nat.reduceMul, Nat.reduceEqDiff, nxa, nxc, lgn, nL_of, swx, Int.reduceAdd, gI_a, gI_k, gL_a, gL_k, gI_r, gL_r, nI_and, nI_or, nI_xor, nI_ndf, nI_shl, nI_shr, ne_eq, and_true, true_and, eq_self, true_or, or_true, false_or, or_false, Option.toList, List.cons_append, List.nil_append, List.length_nil, List.length_cons, Nat.not_lt_zero, bX5_takeNumber_81, kdx st, t6, t7, nI_sub hpq, show q - p ≤ 3 by omega]
      refine wp_blk kX5_takeNumber_99 ?_
      simp (disch := first | decide | omega) only [mxa, vxa, vxb, vxc, vnd, vne, Nat.reduceAdd, Nat.reduceSub, Nat.reduceLeDiff, Nat.reduceLT, Int32.reduceLT, Int32.reduceLE, Int32.reduceAdd, Int32.reduceSub, Int32.reduceMul, Int32.reduceToNatClampNeg, not_false_eq_true, not_true_eq_false, false_implies, true_implies, Nat.zero_add, reduceIte, Nat.reduceMul, Nat.reduceEqDiff, nxa, nxc, lgn, nL_of, swx, Int.reduceAdd, gI_a, gI_k, gL_a, gL_k, gI_r, gL_r, nI_and, nI_or, nI_xor, nI_ndf, nI_shl, nI_shr, ne_eq, and_true, true_and, eq_self, true_or, or_true, false_or, or_false, Option.toList, List.cons_append, List.nil_append, List.length_nil, List.length_cons, Nat.not_lt_zero, bX5_takeNumber_99]
      refine wp_blk kX5_takeNumber_100 ?_
      simp (disch := first | decide | omega) only [mxa, vxa, vxb, vxc, vnd, vne, Nat.reduceAdd, Nat.reduceSub, Nat.reduceLeDiff, Nat.reduceLT, Int32.reduceLT, Int32.reduceLE, Int32.reduceAdd, Int32.reduceSub, Int32.reduceMul, Int32.reduceToNatClampNeg, not_false_eq_true, not_true_eq_false, false_implies, true_implies, Nat.zero_add, reduceIte, Nat.reduceMul, Nat.reduceEqDiff, nxa, nxc, lgn, nL_of, swx, Int.reduceAdd, gI_a, gI_k, gL_a, gL_k, gI_r, gL_r, nI_and, nI_or, nI_xor, nI_ndf, nI_shl, nI_shr, ne_eq, and_true, true_and, eq_self, true_or, or_true, false_or, or_false, Option.toList, List.cons_append, List.nil_append, List.length_nil, List.length_cons, Nat.not_lt_zero, bX5_takeNumber_100, kdx st]
      exact hQ _ (F.tr (FrT.sI (by omega))) ((gI_k (by decide)).trans t6) ((gI_k (by decide)).trans t7) (gI_same _ _ _ _) ((gI_k (by decide)).trans t5)
  have loop : ∀ k q, n - q = k → p ≤ q → q ≤ n → scan (dgP n B) n q = scan (dgP n B) n p → (∀ i, i < q - p → dgP n B (p + i)) → ∀ τ : Mm, FrT σ τ → gI τ 145 6 = nI p → gI τ 145 7 = nI q → gI τ 145 5 = nI (nm B p (q - p)) → Wp X mX5_takeNumber (rmo (d + 1) 0 0) (d + 1) Q 0 0 5 [some (.ref 145)] [] τ := by
    intro k
    induction k with
    | zero =>
      intro q hk hpq hqn hsc hdg τ F t6 t7 t5
      have st := F.1.Sh hs
      have tT := hT.keep F
      rw [scan_n (fun z => by have := z.1; omega)] at hsc
      refine wp_blk kX5_takeNumber_5 ?_
      simp (disch := first | decide | omega) only [mxa, vxa, vxb, vxc, vnd, vne, Nat.reduceAdd, Nat.reduceSub, Nat.reduceLeDiff, Nat.reduceLT, Int32.reduceLT, Int32.reduceLE, Int32.reduceAdd, Int32.reduceSub, Int32.reduceMul, Int32.reduceToNatClampNeg, not_false_eq_true, not_true_eq_false, false_implies, true_implies, Nat.zero_add, reduceIte, Nat.reduceMul, Nat.reduceEqDiff, nxa, nxc, lgn, nL_of, swx, Int.reduceAdd, gI_a, gI_k, gL_a, gL_k, gI_r, gL_r, nI_and, nI_or, nI_xor, nI_ndf, nI_shl, nI_shr, ne_eq, and_true, true_and, eq_self, true_or, or_true, false_or, or_false, Option.toList, List.cons_append, List.nil_append, List.length_nil, List.length_cons, Nat.not_lt_zero, bX5_takeNumber_5, kdx st, tT.1, t7, show n ≤ q by omega]
      exact fin q hpq hqn hsc τ F t6 t7 t5
    | succ k ih =>
      intro q hk hpq hqn hsc hdg τ F t6 t7 t5
      have st := F.1.Sh hs
      have rt := F.1.Rf hr
      have tT := hT.keep F
      have tx := tT.2.2.2 q (by omega)
      have bl := tT.2.2.1 q
      have nb := (nm_le _ hdg).2.2.2
      refine wp_blk kX5_takeNumber_5 ?_
      simp (disch := first | decide | omega) only [mxa, vxa, vxb, vxc, vnd, vne, Nat.reduceAdd, Nat.reduceSub, Nat.reduceLeDiff, Nat.reduceLT, Int32.reduceLT, Int32.reduceLE, Int32.reduceAdd, Int32.reduceSub, Int32.reduceMul, Int32.reduceToNatClampNeg, not_false_eq_true, not_true_eq_false, false_implies, true_implies, Nat.zero_add, reduceIte, Nat.reduceMul, Nat.reduceEqDiff, nxa, nxc, lgn, nL_of, swx, Int.reduceAdd, gI_a, gI_k, gL_a, gL_k, gI_r, gL_r, nI_and, nI_or, nI_xor, nI_ndf, nI_shl, nI_shr, ne_eq, and_true, true_and, eq_self, true_or, or_true, false_or, or_false, Option.toList, List.cons_append, List.nil_append, List.length_nil, List.length_cons, Nat.not_lt_zero, bX5_takeNumber_5, kdx st, grx rt, tT.1, t7, tx, show ¬ n ≤ q by omega]
      refine c_isDigitC X _ _ (B q) bl _ ?_
      by_cases l : 48 ≤ B q ∧ B q ≤ 57
      · rw [if_pos l]
        have le : dgP n B q := ⟨by omega, l⟩
        have hdg' : ∀ i, i < q + 1 - p → dgP n B (p + i) := fun i hi => by
          by_cases z : i < q - p
          · exact hdg i z
          · rw [show p + i = q by omega]; exact le
        have nmE : nm B p (q + 1 - p) = if q - p < 3 then nm B p (q - p) * 10 + (B q - 48) else nm B p (q - p) := by
          rw [show q + 1 - p = (q - p) + 1 by omega]
          show (if q - p < 3 then nm B p (q - p) * 10 + (B (p + (q - p)) - 48) else nm B p (q - p)) = _
          rw [show p + (q - p) = q by omega]
        have next : ∀ τ : Mm, FrT σ τ → gI τ 145 6 = nI p → gI τ 145 7 = nI q → gI τ 145 5 = nI (nm B p (q + 1 - p)) → Wp X mX5_takeNumber (rmo (d + 1) 0 0) (d + 1) Q 0 0 68 [some (.ref 145)] [] τ := fun τ F t6 t7 t5 => by
          have st := F.1.Sh hs
          refine wp_blk kX5_takeNumber_68 ?_
          simp (disch := first | decide | omega) only [mxa, vxa, vxb, vxc, vnd, vne, Nat.reduceAdd, Nat.reduceSub, Nat.reduceLeDiff, Nat.reduceLT, Int32.reduceLT, Int32.reduceLE, Int32.reduceAdd, Int32.reduceSub, Int32.reduceMul, Int32.reduceToNatClampNeg, not_false_eq_true, not_true_eq_false, false_implies, true_implies, Nat.zero_add, reduceIte, Nat.reduceMul, Nat.reduceEqDiff, nxa, nxc, lgn, nL_of, swx, Int.reduceAdd, gI_a, gI_k, gL_a, gL_k, gI_r, gL_r, nI_and, nI_or, nI_xor, nI_ndf, nI_shl, nI_shr, ne_eq, and_true, true_and, eq_self, true_or, or_true, false_or, or_false, Option.toList, List.cons_append, List.nil_append, List.length_nil, List.length_cons, Nat.not_lt_zero, bX5_takeNumber_68, kdx st, t7]
          exact ih (q + 1) (by omega) (by omega) (by omega) (by rw [← scan_y le (by omega)]; exact hsc) hdg' _ (F.tr (FrT.sI (by omega))) ((gI_k (by decide)).trans t6) (gI_same _ _ _ _) ((gI_k (by decide)).trans t5)
        by_cases c : q - p < 3
        · rw [if_pos c] at nmE
          simp (disch := first | decide | omega) only [mxa, vxa, vxb, vxc, vnd, vne, Nat.reduceAdd, Nat.reduceSub, Nat.reduceLeDiff, Nat.reduceLT, Int32.reduceLT, Int32.reduceLE, Int32.reduceAdd, Int32.reduceSub, Int32.reduceMul, Int32.reduceToNatClampNeg, not_false_eq_true, not_true_eq_false, false_implies, true_implies, Nat.zero_add, reduceIte, Nat.reduceMul, Nat.reduceEqDiff, nxa, nxc, lgn, nL_of, swx, Int.reduceAdd, gI_a, gI_k, gL_a, gL_k, gI_r, gL_r, nI_and, nI_or, nI_xor, nI_ndf, nI_shl, nI_shr, ne_eq, and_true, true_and, eq_self, true_or, or_true, false_or, or_false, Option.toList, List.cons_append, List.nil_append, List.length_nil, List.length_cons, Nat.not_lt_zero, kdx st, grx rt, t5, t6, t7, tx, sb_lo (show B q < 128 by omega), nI_sub hpq, nI_sub (show 48 ≤ nm B p (q - p) * 10 + B q by omega), show ¬ 3 ≤ q - p by omega]
          refine next _ (F.tr (FrT.sI (by omega))) ((gI_k (by decide)).trans t6) ((gI_k (by decide)).trans t7) ?_
          rw [gI_same, nmE]
          congr 1; omega
        · rw [if_neg c] at nmE
          simp (disch := first | decide | omega) only [mxa, vxa, vxb, vxc, vnd, vne, Nat.reduceAdd, Nat.reduceSub, Nat.reduceLeDiff, Nat.reduceLT, Int32.reduceLT, Int32.reduceLE, Int32.reduceAdd, Int32.reduceSub, Int32.reduceMul, Int32.reduceToNatClampNeg, not_false_eq_true, not_true_eq_false, false_implies, true_implies, Nat.zero_add, reduceIte, Nat.reduceMul, Nat.reduceEqDiff, nxa, nxc, lgn, nL_of, swx, Int.reduceAdd, gI_a, gI_k, gL_a, gL_k, gI_r, gL_r, nI_and, nI_or, nI_xor, nI_ndf, nI_shl, nI_shr, ne_eq, and_true, true_and, eq_self, true_or, or_true, false_or, or_false, Option.toList, List.cons_append, List.nil_append, List.length_nil, List.length_cons, Nat.not_lt_zero, kdx st, t6, t7, nI_sub hpq, show 3 ≤ q - p by omega]
          exact next _ F t6 t7 (by rw [nmE]; exact t5)
      · rw [if_neg l]
        rw [scan_n (fun z => l z.2)] at hsc
        simp (disch := first | decide | omega) only [mxa, vxa, vxb, vxc, vnd, vne, Nat.reduceAdd, Nat.reduceSub, Nat.reduceLeDiff, Nat.reduceLT, Int32.reduceLT, Int32.reduceLE, Int32.reduceAdd, Int32.reduceSub, Int32.reduceMul, Int32.reduceToNatClampNeg, not_false_eq_true, not_true_eq_false, false_implies, true_implies, Nat.zero_add, reduceIte, Nat.reduceMul, Nat.reduceEqDiff, nxa, nxc, lgn, nL_of, swx, Int.reduceAdd, gI_a, gI_k, gL_a, gL_k, gI_r, gL_r, nI_and, nI_or, nI_xor, nI_ndf, nI_shl, nI_shr, ne_eq, and_true, true_and, eq_self, true_or, or_true, false_or, or_false, Option.toList, List.cons_append, List.nil_append, List.length_nil, List.length_cons, Nat.not_lt_zero]
        exact fin q hpq hqn hsc τ F t6 t7 t5
  refine call_of eX5_takeNumber rfl ?_
  refine wp_blk kX5_takeNumber_0 ?_
  simp (disch := first | decide | omega) only [mxa, vxa, vxb, vxc, vnd, vne, Nat.reduceAdd, Nat.reduceSub, Nat.reduceLeDiff, Nat.reduceLT, Int32.reduceLT, Int32.reduceLE, Int32.reduceAdd, Int32.reduceSub, Int32.reduceMul, Int32.reduceToNatClampNeg, not_false_eq_true, not_true_eq_false, false_implies, true_implies, Nat.zero_add, reduceIte, Nat.reduceMul, Nat.reduceEqDiff, nxa, nxc, lgn, nL_of, swx, Int.reduceAdd, gI_a, gI_k, gL_a, gL_k, gI_r, gL_r, nI_and, nI_or, nI_xor, nI_ndf, nI_shl, nI_shr, ne_eq, and_true, true_and, eq_self, true_or, or_true, false_or, or_false, Option.toList, List.cons_append, List.nil_append, List.length_nil, List.length_cons, Nat.not_lt_zero, bX5_takeNumber_0, kdx hs, grx hr]
  refine loop _ p rfl (Nat.le_refl _) hp rfl (fun i hi => absurd hi (by omega)) _ (FrT.sI (by omega)) ((gI_k (by decide)).trans h6) ((gI_k (by decide)).trans h7) ?_
  rw [gI_same, Nat.sub_self]; rfl
/-- the token that the class has read from b on -/
def CT (τ : Mm) (n : Nat) (B : Nat → Nat) (b : Nat) : Prop := gI τ 145 6 = nI (tP n B b) ∧ gI τ 145 7 = nI (tD n B b) ∧ gI τ 145 4 = nI (cc (tK n B b)) ∧ (tK n B b = 9 → gI τ 145 5 = nI (vN n B b))
theorem c_advance (X : Cx) (d : Nat) (σ : Mm) (n b : Nat) (B : Nat → Nat) (hs : Sh σ) (hr : Rf σ) (hT : TX σ n B) (hb : b ≤ n) (h7 : gI σ 145 7 = nI b) (Q : Po) (hQ : ∀ τ : Mm, FrT σ τ → CT τ n B b → Q none τ) : Call X (d + 7) 0 0 mX5_advance [.ref 145] σ Q := by
  have n9 := hT.2.1
  obtain ⟨a1, a2, a3⟩ := tP_le (B := B) hb
  obtain ⟨c1, c2, c3⟩ := tE_le (B := B) hb
  have at47 : ∀ τ : Mm, FrT σ τ → gI τ 145 6 = nI (tP n B b) → Wp X mX5_advance (rmo (d + 7) 0 0) (d + 7) Q 0 0 47 [some (.ref 145)] [] τ := by
    intro τ F t6
    have st := F.1.Sh hs
    have rt := F.1.Rf hr
    have tT := hT.keep F
    have done : ∀ τ2 : Mm, FrT σ τ2 → CT τ2 n B b → Wp X mX5_advance (rmo (d + 7) 0 0) (d + 7) Q 0 0 151 [some (.ref 145)] [] τ2 := fun τ2 F2 h => by
      have q := hQ τ2 F2 h
      refine wp_blk kX5_advance_151 ?_
      simp (disch := first | decide | omega) only [mxa, vxa, vxb, vxc, vnd, vne, Nat.reduceAdd, Nat.reduceSub, Nat.reduceLeDiff, Nat.reduceLT, Int32.reduceLT, Int32.reduceLE, Int32.reduceAdd, Int32.reduceSub, Int32.reduceMul, Int32.reduceToNatClampNeg, not_false_eq_true, not_true_eq_false, false_implies, true_implies, Nat.zero_add, reduceIte, Nat.reduceMul, Nat.reduceEqDiff, nxa, nxc, lgn, nL_of, swx, Int.reduceAdd, gI_a, gI_k, gL_a, gL_k, gI_r, gL_r, nI_and, nI_or, nI_xor, nI_ndf, nI_shl, nI_shr, ne_eq, and_true, true_and, eq_self, true_or, or_true, false_or, or_false, Option.toList, List.cons_append, List.nil_append, List.length_nil, List.length_cons, Nat.not_lt_zero, bX5_advance_151]
      exact q
    unfold CT at done
    by_cases o : tP n B b < n
    · have tx := tT.2.2.2 (tP n B b) o
      have bl := tT.2.2.1 (tP n B b)
      refine wp_blk kX5_advance_47 ?_
      simp (disch := first | decide | omega) only [mxa, vxa, vxb, vxc, vnd, vne, Nat.reduceAdd, Nat.reduceSub, Nat.reduceLeDiff, Nat.reduceLT, Int32.reduceLT, Int32.reduceLE, Int32.reduceAdd, Int32.reduceSub, Int32.reduceMul, Int32.reduceToNatClampNeg, not_false_eq_true, not_true_eq_false, false_implies, true_implies, Nat.zero_add, reduceIte, Nat.reduceMul, Nat.reduceEqDiff, nxa, nxc, lgn, nL_of, swx, Int.reduceAdd, gI_a, gI_k, gL_a, gL_k, gI_r, gL_r, nI_and, nI_or, nI_xor, nI_ndf, nI_shl, nI_shr, ne_eq, and_true, true_and, eq_self, true_or, or_true, false_or, or_false, Option.toList, List.cons_append, List.nil_append, List.length_nil, List.length_cons, Nat.not_lt_zero, bX5_advance_47, kdx st, tT.1, t6, o]
      have F2 : FrT σ (sI τ 145 7 (nI (tP n B b))) := F.tr (FrT.sI (by omega))
      have u6 : gI (sI τ 145 7 (nI (tP n B b))) 145 6 = nI (tP n B b) := (gI_k (by decide)).trans t6
      have u7 : gI (sI τ 145 7 (nI (tP n B b))) 145 7 = nI (tP n B b) := gI_same _ _ _ _
      have ux : gI (sI τ 145 7 (nI (tP n B b))) 146 (tP n B b) = sb (B (tP n B b)) := (gI_a (by decide)).trans tx
      generalize sI τ 145 7 (nI (tP n B b)) = μ at *
      have sm := F2.1.Sh hs
      have rm := F2.1.Rf hr
      have mT := hT.keep F2
      refine wp_blk kX5_advance_74 ?_
      simp (disch := first | decide | omega) only [mxa, vxa, vxb, vxc, vnd, vne, Nat.reduceAdd, Nat.reduceSub, Nat.reduceLeDiff, Nat.reduceLT, Int32.reduceLT, Int32.reduceLE, Int32.reduceAdd, Int32.reduceSub, Int32.reduceMul, Int32.reduceToNatClampNeg, not_false_eq_true, not_true_eq_false, false_implies, true_implies, Nat.zero_add, reduceIte, Nat.reduceMul, Nat.reduceEqDiff, nxa, nxc, lgn, nL_of, swx, Int.reduceAdd, gI_a, gI_k, gL_a, gL_k, gI_r, gL_r, nI_and, nI_or, nI_xor, nI_ndf, nI_shl, nI_shr, ne_eq, and_true, true_and, eq_self, true_or, or_true, false_or, or_false, Option.toList, List.cons_append, List.nil_append, List.length_nil, List.length_cons, Nat.not_lt_zero, bX5_advance_74, kdx sm, grx rm, u6, ux]
      refine c_isLetter X _ _ (B (tP n B b)) bl _ ?_
      by_cases l : 97 ≤ B (tP n B b) ∧ B (tP n B b) ≤ 122
      · have lp : leP n B (tP n B b) := ⟨o, l⟩
        have e1 := tE_l lp
        have e2 := tK_l lp
        rw [if_pos l]
        simp (disch := first | decide | omega) only [mxa, vxa, vxb, vxc, vnd, vne, Nat.reduceAdd, Nat.reduceSub, Nat.reduceLeDiff, Nat.reduceLT, Int32.reduceLT, Int32.reduceLE, Int32.reduceAdd, Int32.reduceSub, Int32.reduceMul, Int32.reduceToNatClampNeg, not_false_eq_true, not_true_eq_false, false_implies, true_implies, Nat.zero_add, reduceIte, Nat.reduceMul, Nat.reduceEqDiff, nxa, nxc, lgn, nL_of, swx, Int.reduceAdd, gI_a, gI_k, gL_a, gL_k, gI_r, gL_r, nI_and, nI_or, nI_xor, nI_ndf, nI_shl, nI_shr, ne_eq, and_true, true_and, eq_self, true_or, or_true, false_or, or_false, Option.toList, List.cons_append, List.nil_append, List.length_nil, List.length_cons, Nat.not_lt_zero, kdx sm]
        refine c_takeWord X _ μ n (tP n B b) B sm rm mT a2 u6 u7 _ (fun τ2 F3 v6 v7 v4 => ?_)
        simp (disch := first | decide | omega) only [mxa, vxa, vxb, vxc, vnd, vne, Nat.reduceAdd, Nat.reduceSub, Nat.reduceLeDiff, Nat.reduceLT, Int32.reduceLT, Int32.reduceLE, Int32.reduceAdd, Int32.reduceSub, Int32.reduceMul, Int32.reduceToNatClampNeg, not_false_eq_true, not_true_eq_false, false_implies, true_implies, Nat.zero_add, reduceIte, Nat.reduceMul, Nat.reduceEqDiff, nxa, nxc, lgn, nL_of, swx, Int.reduceAdd, gI_a, gI_k, gL_a, gL_k, gI_r, gL_r, nI_and, nI_or, nI_xor, nI_ndf, nI_shl, nI_shr, ne_eq, and_true, true_and, eq_self, true_or, or_true, false_or, or_false, Option.toList, List.cons_append, List.nil_append, List.length_nil, List.length_cons, Nat.not_lt_zero]
        rw [← e1] at v7 v4
        rw [← e2] at v4
        exact done τ2 (F2.tr F3) ⟨v6, v7, v4, fun z => absurd ((tK_le (n := n) (B := B) (b := b)).2.2.1 z).1 (le_dg lp)⟩
      · rw [if_neg l]
        simp (disch := first | decide | omega) only [mxa, vxa, vxb, vxc, vnd, vne, Nat.reduceAdd, Nat.reduceSub, Nat.reduceLeDiff, Nat.reduceLT, Int32.reduceLT, Int32.reduceLE, Int32.reduceAdd, Int32.reduceSub, Int32.reduceMul, Int32.reduceToNatClampNeg, not_false_eq_true, not_true_eq_false, false_implies, true_implies, Nat.zero_add, reduceIte, Nat.reduceMul, Nat.reduceEqDiff, nxa, nxc, lgn, nL_of, swx, Int.reduceAdd, gI_a, gI_k, gL_a, gL_k, gI_r, gL_r, nI_and, nI_or, nI_xor, nI_ndf, nI_shl, nI_shr, ne_eq, and_true, true_and, eq_self, true_or, or_true, false_or, or_false, Option.toList, List.cons_append, List.nil_append, List.length_nil, List.length_cons, Nat.not_lt_zero]
        refine wp_blk kX5_advance_96 ?_
        simp (disch := first | decide | omega) only [mxa, vxa, vxb, vxc, vnd, vne, Nat.reduceAdd, Nat.reduceSub, Nat.reduceLeDiff, Nat.reduceLT, Int32.reduceLT, Int32.reduceLE, Int32.reduceAdd, Int32.reduceSub, Int32.reduceMul, Int32.reduceToNatClampNeg, not_false_eq_true, not_true_eq_false, false_implies, true_implies, Nat.zero_add, reduceIte, Nat.reduceMul, Nat.reduceEqDiff, nxa, nxc, lgn, nL_of, swx, Int.reduceAdd, gI_a, gI_k, gL_a, gL_k, gI_r, gL_r, nI_and, nI_or, nI_xor, nI_ndf, nI_shl, nI_shr, ne_eq, and_true, true_and, eq_self, true_or, or_true, false_or, or_false, Option.toList, List.cons_append, List.nil_append, List.length_nil, List.length_cons, Nat.not_lt_zero, bX5_advance_96, kdx sm, grx rm, u6, ux]
        refine c_isDigitC X _ _ (B (tP n B b)) bl _ ?_
        by_cases g : 48 ≤ B (tP n B b) ∧ B (tP n B b) ≤ 57
        · have gp : dgP n B (tP n B b) := ⟨o, g⟩
          have e1 := tE_d gp
          have e2 := tK_d gp
          rw [if_pos g]
          simp (disch := first | decide | omega) only [mxa, vxa, vxb, vxc, vnd, vne, Nat.reduceAdd, Nat.reduceSub, Nat.reduceLeDiff, Nat.reduceLT, Int32.reduceLT, Int32.reduceLE, Int32.reduceAdd, Int32.reduceSub, Int32.reduceMul, Int32.reduceToNatClampNeg, not_false_eq_true, not_true_eq_false, false_implies, true_implies, Nat.zero_add, reduceIte, Nat.reduceMul, Nat.reduceEqDiff, nxa, nxc, lgn, nL_of, swx, Int.reduceAdd, gI_a, gI_k, gL_a, gL_k, gI_r, gL_r, nI_and, nI_or, nI_xor, nI_ndf, nI_shl, nI_shr, ne_eq, and_true, true_and, eq_self, true_or, or_true, false_or, or_false, Option.toList, List.cons_append, List.nil_append, List.length_nil, List.length_cons, Nat.not_lt_zero, kdx sm]
          refine c_takeNumber X _ μ n (tP n B b) B sm rm mT a2 u6 u7 _ (fun τ2 F3 v6 v7 v4 v5 => ?_)
          simp (disch := first | decide | omega) only [mxa, vxa, vxb, vxc, vnd, vne, Nat.reduceAdd, Nat.reduceSub, Nat.reduceLeDiff, Nat.reduceLT, Int32.reduceLT, Int32.reduceLE, Int32.reduceAdd, Int32.reduceSub, Int32.reduceMul, Int32.reduceToNatClampNeg, not_false_eq_true, not_true_eq_false, false_implies, true_implies, Nat.zero_add, reduceIte, Nat.reduceMul, Nat.reduceEqDiff, nxa, nxc, lgn, nL_of, swx, Int.reduceAdd, gI_a, gI_k, gL_a, gL_k, gI_r, gL_r, nI_and, nI_or, nI_xor, nI_ndf, nI_shl, nI_shr, ne_eq, and_true, true_and, eq_self, true_or, or_true, false_or, or_false, Option.toList, List.cons_append, List.nil_append, List.length_nil, List.length_cons, Nat.not_lt_zero]
          rw [← e1] at v7 v4 v5
          refine done τ2 (F2.tr F3) ⟨v6, v7, ?_, fun _ => v5⟩
          rw [v4, e2]
          congr 1
          by_cases c : 3 < tD n B b - tP n B b
          · rw [if_pos c, if_pos c]; rfl
          · rw [if_neg c, if_neg c]; rfl
        · have nl : ¬ leP n B (tP n B b) := fun z => l z.2
          have ng : ¬ dgP n B (tP n B b) := fun z => g z.2
          have e1 := tE_o nl ng o
          have e2 := tK_o nl ng o
          have k9 : ¬ tK n B b = 9 := fun z => ng ((tK_le (n := n) (B := B) (b := b)).2.2.1 z).1
          have fin : ∀ z : Nat, z = cc (tK n B b) → z ≤ 2 → Wp X mX5_advance (rmo (d + 7) 0 0) (d + 7) Q 0 0 148 [some (.ref 145)] [.int (nI z), .ref 145] (sI μ 145 7 (nI (tP n B b + 1))) := fun z hz hz2 => by
            refine wp_blk kX5_advance_148 ?_
            simp (disch := first | decide | omega) only [mxa, vxa, vxb, vxc, vnd, vne, Nat.reduceAdd, Nat.reduceSub, Nat.reduceLeDiff, Nat.reduceLT, Int32.reduceLT, Int32.reduceLE, Int32.reduceAdd, Int32.reduceSub, Int32.reduceMul, Int32.reduceToNatClampNeg, not_false_eq_true, not_true_eq_false, false_implies, true_implies, Nat.zero_add, reduceIte, Nat.reduceMul, Nat.reduceEqDiff, nxa, nxc, lgn, nL_of, swx, Int.reduceAdd, gI_a, gI_k, gL_a, gL_k, gI_r, gL_r, nI_and, nI_or, nI_xor, nI_ndf, nI_shl, nI_shr, ne_eq, and_true, true_and, eq_self, true_or, or_true, false_or, or_false, Option.toList, List.cons_append, List.nil_append, List.length_nil, List.length_cons, Nat.not_lt_zero, bX5_advance_148, kdx sm]
            refine done _ ((F2.tr (FrT.sI (by omega))).tr (FrT.sI (by omega))) ⟨(gI_k (by decide)).trans ((gI_k (by decide)).trans u6), (gI_k (by decide)).trans ((gI_same _ _ _ _).trans (by rw [e1])), (gI_same _ _ _ _).trans (by rw [hz]), fun q => absurd q k9⟩
          rw [if_neg g]
          simp (disch := first | decide | omega) only [mxa, vxa, vxb, vxc, vnd, vne, Nat.reduceAdd, Nat.reduceSub, Nat.reduceLeDiff, Nat.reduceLT, Int32.reduceLT, Int32.reduceLE, Int32.reduceAdd, Int32.reduceSub, Int32.reduceMul, Int32.reduceToNatClampNeg, not_false_eq_true, not_true_eq_false, false_implies, true_implies, Nat.zero_add, reduceIte, Nat.reduceMul, Nat.reduceEqDiff, nxa, nxc, lgn, nL_of, swx, Int.reduceAdd, gI_a, gI_k, gL_a, gL_k, gI_r, gL_r, nI_and, nI_or, nI_xor, nI_ndf, nI_shl, nI_shr, ne_eq, and_true, true_and, eq_self, true_or, or_true, false_or, or_false, Option.toList, List.cons_append, List.nil_append, List.length_nil, List.length_cons, Nat.not_lt_zero]
          by_cases s : B (tP n B b) = 59
          · rw [if_pos s] at e2
            have sx : sb (B (tP n B b)) = nI 59 := by rw [s]; rfl
            refine wp_blk kX5_advance_118 ?_
            simp (disch := first | decide | omega) only [mxa, vxa, vxb, vxc, vnd, vne, Nat.reduceAdd, Nat.reduceSub, Nat.reduceLeDiff, Nat.reduceLT, Int32.reduceLT, Int32.reduceLE, Int32.reduceAdd, Int32.reduceSub, Int32.reduceMul, Int32.reduceToNatClampNeg, not_false_eq_true, not_true_eq_false, false_implies, true_implies, Nat.zero_add, reduceIte, Nat.reduceMul, Nat.reduceEqDiff, nxa, nxc, lgn, nL_of, swx, Int.reduceAdd, gI_a, gI_k, gL_a, gL_k, gI_r, gL_r, nI_and, nI_or, nI_xor, nI_ndf, nI_shl, nI_shr, ne_eq, and_true, true_and, eq_self, true_or, or_true, false_or, or_false, Option.toList, List.cons_append, List.nil_append, List.length_nil, List.length_cons, Nat.not_lt_zero, bX5_advance_118, kdx sm, grx rm, u6, u7, ux, sx]
            exact fin 2 (by rw [e2]; rfl) (by omega)
          · rw [if_neg s] at e2
            have sx : ¬ sb (B (tP n B b)) = nI 59 := by
              by_cases z : B (tP n B b) < 128
              · rw [sb_lo z]
                exact fun u => s (nI_inj (by omega) (by omega) u)
              · exact sb_ne bl z (by omega)
            refine wp_blk kX5_advance_118 ?_
            simp (disch := first | decide | omega) only [mxa, vxa, vxb, vxc, vnd, vne, Nat.reduceAdd, Nat.reduceSub, Nat.reduceLeDiff, Nat.reduceLT, Int32.reduceLT, Int32.reduceLE, Int32.reduceAdd, Int32.reduceSub, Int32.reduceMul, Int32.reduceToNatClampNeg, not_false_eq_true, not_true_eq_false, false_implies, true_implies, Nat.zero_add, reduceIte, Nat.reduceMul, Nat.reduceEqDiff, nxa, nxc, lgn, nL_of, swx, Int.reduceAdd, gI_a, gI_k, gL_a, gL_k, gI_r, gL_r, nI_and, nI_or, nI_xor, nI_ndf, nI_shl, nI_shr, ne_eq, and_true, true_and, eq_self, true_or, or_true, false_or, or_false, Option.toList, List.cons_append, List.nil_append, List.length_nil, List.length_cons, Nat.not_lt_zero, bX5_advance_118, kdx sm, grx rm, u6, u7, ux, sx]
            refine wp_blk kX5_advance_147 ?_
            simp (disch := first | decide | omega) only [mxa, vxa, vxb, vxc, vnd, vne, Nat.reduceAdd, Nat.reduceSub, Nat.reduceLeDiff, Nat.reduceLT, Int32.reduceLT, Int32.reduceLE, Int32.reduceAdd, Int32.reduceSub, Int32.reduceMul, Int32.reduceToNatClampNeg, not_false_eq_true, not_true_eq_false, false_implies, true_implies, Nat.zero_add, reduceIte, Nat.reduceMul, Nat.reduceEqDiff, nxa, nxc, lgn, nL_of, swx, Int.reduceAdd, gI_a, gI_k, gL_a, gL_k, gI_r, gL_r, nI_and, nI_or, nI_xor, nI_ndf, nI_shl, nI_shr, ne_eq, and_true, true_and, eq_self, true_or, or_true, false_or, or_false, Option.toList, List.cons_append, List.nil_append, List.length_nil, List.length_cons, Nat.not_lt_zero, bX5_advance_147]
            exact fin 1 (by rw [e2]; rfl) (by omega)
    · have e1 := tE_e o
      have e2 := tK_e o
      refine wp_blk kX5_advance_47 ?_
      simp (disch := first | decide | omega) only [mxa, vxa, vxb, vxc, vnd, vne, Nat.reduceAdd, Nat.reduceSub, Nat.reduceLeDiff, Nat.reduceLT, Int32.reduceLT, Int32.reduceLE, Int32.reduceAdd, Int32.reduceSub, Int32.reduceMul, Int32.reduceToNatClampNeg, not_false_eq_true, not_true_eq_false, false_implies, true_implies, Nat.zero_add, reduceIte, Nat.reduceMul, Nat.reduceEqDiff, nxa, nxc, lgn, nL_of, swx, Int.reduceAdd, gI_a, gI_k, gL_a, gL_k, gI_r, gL_r, nI_and, nI_or, nI_xor, nI_ndf, nI_shl, nI_shr, ne_eq, and_true, true_and, eq_self, true_or, or_true, false_or, or_false, Option.toList, List.cons_append, List.nil_append, List.length_nil, List.length_cons, Nat.not_lt_zero, bX5_advance_47, kdx st, tT.1, t6, o]
      refine done _ ((F.tr (FrT.sI (by omega))).tr (FrT.sI (by omega))) ⟨(gI_k (by decide)).trans ((gI_k (by decide)).trans t6), (gI_k (by decide)).trans ((gI_same _ _ _ _).trans (by rw [e1])), (gI_same _ _ _ _).trans (by rw [e2]; rfl), fun q => by omega⟩
  have loop : ∀ k q, n - q = k → b ≤ q → q ≤ n → scan (blP n B) n q = scan (blP n B) n b → ∀ τ : Mm, FrT σ τ → gI τ 145 6 = nI q → Wp X mX5_advance (rmo (d + 7) 0 0) (d + 7) Q 0 0 8 [some (.ref 145)] [] τ := by
    intro k
    induction k with
    | zero =>
      intro q hk hbq hqn hsc τ F t6
      have st := F.1.Sh hs
      have tT := hT.keep F
      rw [scan_n (fun z => by have := z.1; omega)] at hsc
      refine wp_blk kX5_advance_8 ?_
      simp (disch := first | decide | omega) only [mxa, vxa, vxb, vxc, vnd, vne, Nat.reduceAdd, Nat.reduceSub, Nat.reduceLeDiff, Nat.reduceLT, Int32.reduceLT, Int32.reduceLE, Int32.reduceAdd, Int32.reduceSub, Int32.reduceMul, Int32.reduceToNatClampNeg, not_false_eq_true, not_true_eq_false, false_implies, true_implies, Nat.zero_add, reduceIte, Nat.reduceMul, Nat.reduceEqDiff, nxa, nxc, lgn, nL_of, swx, Int.reduceAdd, gI_a, gI_k, gL_a, gL_k, gI_r, gL_r, nI_and, nI_or, nI_xor, nI_ndf, nI_shl, nI_shr, ne_eq, and_true, true_and, eq_self, true_or, or_true, false_or, or_false, Option.toList, List.cons_append, List.nil_append, List.length_nil, List.length_cons, Nat.not_lt_zero, bX5_advance_8, kdx st, tT.1, t6, show n ≤ q by omega]
      exact at47 τ F (by rw [t6, hsc]; rfl)
    | succ k ih =>
      intro q hk hbq hqn hsc τ F t6
      have st := F.1.Sh hs
      have rt := F.1.Rf hr
      have tT := hT.keep F
      have tx := tT.2.2.2 q (by omega)
      have bl := tT.2.2.1 q
      refine wp_blk kX5_advance_8 ?_
      simp (disch := first | decide | omega) only [mxa, vxa, vxb, vxc, vnd, vne, Nat.reduceAdd, Nat.reduceSub, Nat.reduceLeDiff, Nat.reduceLT, Int32.reduceLT, Int32.reduceLE, Int32.reduceAdd, Int32.reduceSub, Int32.reduceMul, Int32.reduceToNatClampNeg, not_false_eq_true, not_true_eq_false, false_implies, true_implies, Nat.zero_add, reduceIte, Nat.reduceMul, Nat.reduceEqDiff, nxa, nxc, lgn, nL_of, swx, Int.reduceAdd, gI_a, gI_k, gL_a, gL_k, gI_r, gL_r, nI_and, nI_or, nI_xor, nI_ndf, nI_shl, nI_shr, ne_eq, and_true, true_and, eq_self, true_or, or_true, false_or, or_false, Option.toList, List.cons_append, List.nil_append, List.length_nil, List.length_cons, Nat.not_lt_zero, bX5_advance_8, kdx st, grx rt, tT.1, t6, tx, show ¬ n ≤ q by omega]
      refine c_isBlank X _ _ (B q) bl _ ?_
      by_cases l : B q = 10 ∨ B q = 32
      · rw [if_pos l]
        have le : blP n B q := ⟨by omega, l⟩
        simp (disch := first | decide | omega) only [mxa, vxa, vxb, vxc, vnd, vne, Nat.reduceAdd, Nat.reduceSub, Nat.reduceLeDiff, Nat.reduceLT, Int32.reduceLT, Int32.reduceLE, Int32.reduceAdd, Int32.reduceSub, Int32.reduceMul, Int32.reduceToNatClampNeg, not_false_eq_true, not_true_eq_false, false_implies, true_implies, Nat.zero_add, reduceIte, Nat.reduceMul, Nat.reduceEqDiff, nxa, nxc, lgn, nL_of, swx, Int.reduceAdd, gI_a, gI_k, gL_a, gL_k, gI_r, gL_r, nI_and, nI_or, nI_xor, nI_ndf, nI_shl, nI_shr, ne_eq, and_true, true_and, eq_self, true_or, or_true, false_or, or_false, Option.toList, List.cons_append, List.nil_append, List.length_nil, List.length_cons, Nat.not_lt_zero, kdx st, t6]
        exact ih (q + 1) (by omega) (by omega) (by omega) (by rw [← scan_y le (by omega)]; exact hsc) _ (F.tr (FrT.sI (by omega))) (gI_same _ _ _ _)
      · rw [if_neg l]
        rw [scan_n (fun z => l z.2)] at hsc
        simp (disch := first | decide | omega) only [mxa, vxa, vxb, vxc, vnd, vne, Nat.reduceAdd, Nat.reduceSub, Nat.reduceLeDiff, Nat.reduceLT, Int32.reduceLT, Int32.reduceLE, Int32.reduceAdd, Int32.reduceSub, Int32.reduceMul, Int32.reduceToNatClampNeg, not_false_eq_true, not_true_eq_false, false_implies, true_implies, Nat.zero_add, reduceIte, Nat.reduceMul, Nat.reduceEqDiff, nxa, nxc, lgn, nL_of, swx, Int.reduceAdd, gI_a, gI_k, gL_a, gL_k, gI_r, gL_r, nI_and, nI_or, nI_xor, nI_ndf, nI_shl, nI_shr, ne_eq, and_true, true_and, eq_self, true_or, or_true, false_or, or_false, Option.toList, List.cons_append, List.nil_append, List.length_nil, List.length_cons, Nat.not_lt_zero]
        exact at47 τ F (by rw [t6, hsc]; rfl)
  refine call_of eX5_advance rfl ?_
  refine wp_blk kX5_advance_0 ?_
  simp (disch := first | decide | omega) only [mxa, vxa, vxb, vxc, vnd, vne, Nat.reduceAdd, Nat.reduceSub, Nat.reduceLeDiff, Nat.reduceLT, Int32.reduceLT, Int32.reduceLE, Int32.reduceAdd, Int32.reduceSub, Int32.reduceMul, Int32.reduceToNatClampNeg, not_false_eq_true, not_true_eq_false, false_implies, true_implies, Nat.zero_add, reduceIte, Nat.reduceMul, Nat.reduceEqDiff, nxa, nxc, lgn, nL_of, swx, Int.reduceAdd, gI_a, gI_k, gL_a, gL_k, gI_r, gL_r, nI_and, nI_or, nI_xor, nI_ndf, nI_shl, nI_shr, ne_eq, and_true, true_and, eq_self, true_or, or_true, false_or, or_false, Option.toList, List.cons_append, List.nil_append, List.length_nil, List.length_cons, Nat.not_lt_zero, bX5_advance_0, kdx hs, grx hr, h7]
  exact loop _ b rfl (Nat.le_refl _) hb rfl _ (FrT.sI (by omega)) (gI_same _ _ _ _)
