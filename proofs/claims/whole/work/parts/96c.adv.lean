/-! the class's tokens -/
set_option maxRecDepth 20000
theorem nI_sub {a b : Nat} (h : b ≤ a) : nI a - nI b = nI (a - b) := by
  obtain ⟨k, hk⟩ : ∃ k, a = b + k := ⟨a - b, by omega⟩
  rw [show a - b = k by omega, hk, ← nI_add]
  generalize nI b = x
  generalize nI k = y
  grind
theorem c_takeValue (X : Cx) (d : Nat) (σ : Mm) (n p e : Nat) (B : Nat → Nat) (hs : Sh σ) (hr : Rf σ) (hT : TX σ n B) (hpe : p ≤ e) (he : e ≤ n) (hdg : ∀ i, p ≤ i → i < e → dgP n B i) (h6 : gI σ 144 7 = nI p) (h7 : gI σ 144 8 = nI e) (h4 : gI σ 144 5 = nI 3) (Q : Po) (hQ : ∀ τ : Mm, FrT σ τ → gI τ 144 7 = nI p → gI τ 144 8 = nI e → gI τ 144 5 = nI (if 3 < e - p then 5 else 3) → (¬ 3 < e - p → gI τ 144 6 = nI (nm B p (e - p))) → Q none τ) : Call X d 0 0 mX5_takeValue [.ref 144] σ Q := by
  have n9 := hT.2.1
  by_cases c : 3 < e - p
  · rw [if_pos c] at hQ
    refine call_of eX5_takeValue rfl ?_
    refine wp_blk kX5_takeValue_0 ?_
    simp (disch := first | decide | omega) only [mxa, vxa, vxb, vxc, vnd, vne, Nat.reduceAdd, Nat.reduceSub, Nat.reduceLeDiff, Nat.reduceLT, Int32.reduceLT, Int32.reduceLE, Int32.reduceAdd, Int32.reduceSub, Int32.reduceMul, Int32.reduceToNatClampNeg, not_false_eq_true, not_true_eq_false, false_implies, true_implies, Nat.zero_add, reduceIte, Nat.reduceMul, Nat.reduceEqDiff, nxa, nxc, lgn, nL_of, swx, Int.reduceAdd, gI_a, gI_k, gL_a, gL_k, gI_r, gL_r, nI_and, nI_or, nI_xor, nI_ndf, nI_shl, nI_shr, ne_eq, and_true, true_and, eq_self, true_or, or_true, false_or, or_false, Option.toList, List.cons_append, List.nil_append, List.length_nil, List.length_cons, Nat.not_lt_zero, bX5_takeValue_0, kdx hs, grx hr, h6, h7, nI_sub hpe, show ¬ e - p ≤ 3 by omega]
    exact hQ _ (FrT.sI (by omega)) ((gI_k (by decide)).trans h6) ((gI_k (by decide)).trans h7) (gI_same _ _ _ _) (fun z => absurd c z)
  · rw [if_neg c] at hQ
    have loop : ∀ k q, e - q = k → p ≤ q → q ≤ e → ∀ τ : Mm, FrT σ τ → gI τ 144 7 = nI p → gI τ 144 8 = nI e → gI τ 144 5 = nI 3 → gI τ 144 6 = nI (nm B p (q - p)) → Wp X mX5_takeValue (rmo d 0 0) d Q 0 0 29 [some (.ref 144), some (.int (nI q))] [] τ := by
      intro k
      induction k with
      | zero =>
        intro q hk hpq hqe τ F t6 t7 t4 t5
        have st := F.1.Sh hs
        have eq : q = e := by omega
        subst eq
        have q2 := hQ τ F t6 t7 t4 (fun _ => t5)
        refine wp_blk kX5_takeValue_29 ?_
        simp (disch := first | decide | omega) only [mxa, vxa, vxb, vxc, vnd, vne, Nat.reduceAdd, Nat.reduceSub, Nat.reduceLeDiff, Nat.reduceLT, Int32.reduceLT, Int32.reduceLE, Int32.reduceAdd, Int32.reduceSub, Int32.reduceMul, Int32.reduceToNatClampNeg, not_false_eq_true, not_true_eq_false, false_implies, true_implies, Nat.zero_add, reduceIte, Nat.reduceMul, Nat.reduceEqDiff, nxa, nxc, lgn, nL_of, swx, Int.reduceAdd, gI_a, gI_k, gL_a, gL_k, gI_r, gL_r, nI_and, nI_or, nI_xor, nI_ndf, nI_shl, nI_shr, ne_eq, and_true, true_and, eq_self, true_or, or_true, false_or, or_false, Option.toList, List.cons_append, List.nil_append, List.length_nil, List.length_cons, Nat.not_lt_zero, bX5_takeValue_29, kdx st, t7, Nat.le_refl]
        refine wp_blk kX5_takeValue_64 ?_
        simp (disch := first | decide | omega) only [mxa, vxa, vxb, vxc, vnd, vne, Nat.reduceAdd, Nat.reduceSub, Nat.reduceLeDiff, Nat.reduceLT, Int32.reduceLT, Int32.reduceLE, Int32.reduceAdd, Int32.reduceSub, Int32.reduceMul, Int32.reduceToNatClampNeg, not_false_eq_true, not_true_eq_false, false_implies, true_implies, Nat.zero_add, reduceIte, Nat.reduceMul, Nat.reduceEqDiff, nxa, nxc, lgn, nL_of, swx, Int.reduceAdd, gI_a, gI_k, gL_a, gL_k, gI_r, gL_r, nI_and, nI_or, nI_xor, nI_ndf, nI_shl, nI_shr, ne_eq, and_true, true_and, eq_self, true_or, or_true, false_or, or_false, Option.toList, List.cons_append, List.nil_append, List.length_nil, List.length_cons, Nat.not_lt_zero, bX5_takeValue_64]
        exact q2
      | succ k ih =>
        intro q hk hpq hqe τ F t6 t7 t4 t5
        have st := F.1.Sh hs
        have rt := F.1.Rf hr
        have tT := hT.keep F
        have tx := tT.2.2.2 q (by omega)
        obtain ⟨-, g1, g2⟩ := hdg q hpq (by omega)
        have nb := (nm_le (n := n) (B := B) (p := p) (q - p) (fun i hi => hdg _ (by omega) (by omega))).2.2.2
        have nmE : nm B p (q + 1 - p) = nm B p (q - p) * 10 + (B q - 48) := by
          rw [show q + 1 - p = (q - p) + 1 by omega]
          show (if q - p < 3 then nm B p (q - p) * 10 + (B (p + (q - p)) - 48) else nm B p (q - p)) = _
          rw [show p + (q - p) = q by omega, if_pos (by omega)]
        refine wp_blk kX5_takeValue_29 ?_
        simp (disch := first | decide | omega) only [mxa, vxa, vxb, vxc, vnd, vne, Nat.reduceAdd, Nat.reduceSub, Nat.reduceLeDiff, Nat.reduceLT, Int32.reduceLT, Int32.reduceLE, Int32.reduceAdd, Int32.reduceSub, Int32.reduceMul, Int32.reduceToNatClampNeg, not_false_eq_true, not_true_eq_false, false_implies, true_implies, Nat.zero_add, reduceIte, Nat.reduceMul, Nat.reduceEqDiff, nxa, nxc, lgn, nL_of, swx, Int.reduceAdd, gI_a, gI_k, gL_a, gL_k, gI_r, gL_r, nI_and, nI_or, nI_xor, nI_ndf, nI_shl, nI_shr, ne_eq, and_true, true_and, eq_self, true_or, or_true, false_or, or_false, Option.toList, List.cons_append, List.nil_append, List.length_nil, List.length_cons, Nat.not_lt_zero, bX5_takeValue_29, kdx st, grx rt, t5, t7, tx, sb_lo (show B q < 128 by omega), nI_sub (show 48 ≤ nm B p (q - p) * 10 + B q by omega), show ¬ e ≤ q by omega]
        refine ih (q + 1) (by omega) (by omega) (by omega) _ (F.tr (FrT.sI (by omega))) ((gI_k (by decide)).trans t6) ((gI_k (by decide)).trans t7) ((gI_k (by decide)).trans t4) ?_
        rw [gI_same, nmE]
        congr 1; omega
    refine call_of eX5_takeValue rfl ?_
    refine wp_blk kX5_takeValue_0 ?_
    simp (disch := first | decide | omega) only [mxa, vxa, vxb, vxc, vnd, vne, Nat.reduceAdd, Nat.reduceSub, Nat.reduceLeDiff, Nat.reduceLT, Int32.reduceLT, Int32.reduceLE, Int32.reduceAdd, Int32.reduceSub, Int32.reduceMul, Int32.reduceToNatClampNeg, not_false_eq_true, not_true_eq_false, false_implies, true_implies, Nat.zero_add, reduceIte, Nat.reduceMul, Nat.reduceEqDiff, nxa, nxc, lgn, nL_of, swx, Int.reduceAdd, gI_a, gI_k, gL_a, gL_k, gI_r, gL_r, nI_and, nI_or, nI_xor, nI_ndf, nI_shl, nI_shr, ne_eq, and_true, true_and, eq_self, true_or, or_true, false_or, or_false, Option.toList, List.cons_append, List.nil_append, List.length_nil, List.length_cons, Nat.not_lt_zero, bX5_takeValue_0, kdx hs, grx hr, h6, h7, nI_sub hpe, show e - p ≤ 3 by omega]
    refine wp_blk kX5_takeValue_19 ?_
    simp (disch := first | decide | omega) only [mxa, vxa, vxb, vxc, vnd, vne, Nat.reduceAdd, Nat.reduceSub, Nat.reduceLeDiff, Nat.reduceLT, Int32.reduceLT, Int32.reduceLE, Int32.reduceAdd, Int32.reduceSub, Int32.reduceMul, Int32.reduceToNatClampNeg, not_false_eq_true, not_true_eq_false, false_implies, true_implies, Nat.zero_add, reduceIte, Nat.reduceMul, Nat.reduceEqDiff, nxa, nxc, lgn, nL_of, swx, Int.reduceAdd, gI_a, gI_k, gL_a, gL_k, gI_r, gL_r, nI_and, nI_or, nI_xor, nI_ndf, nI_shl, nI_shr, ne_eq, and_true, true_and, eq_self, true_or, or_true, false_or, or_false, Option.toList, List.cons_append, List.nil_append, List.length_nil, List.length_cons, Nat.not_lt_zero, bX5_takeValue_19, kdx hs, grx hr, h6]
    refine loop _ p rfl (Nat.le_refl _) hpe _ (FrT.sI (by omega)) ((gI_k (by decide)).trans h6) ((gI_k (by decide)).trans h7) ((gI_k (by decide)).trans h4) ?_
    rw [gI_same, Nat.sub_self]; rfl
theorem c_advance (X : Cx) (d : Nat) (σ : Mm) (n b : Nat) (B : Nat → Nat) (hs : Sh σ) (hr : Rf σ) (hT : TX σ n B) (hb : b ≤ n) (h7 : gI σ 144 8 = nI b) (Q : Po) (hQ : ∀ τ : Mm, FrT σ τ → CT τ n B b → Q none τ) : Call X (d + 7) 0 0 mX5_advance [.ref 144] σ Q := by
  have n9 := hT.2.1
  obtain ⟨a1, a2, a3⟩ := tP_le (B := B) hb
  obtain ⟨c1, c2, c3⟩ := tE_le (B := B) hb
  have done : ∀ τ2 : Mm, FrT σ τ2 → CT τ2 n B b → Wp X mX5_advance (rmo (d + 7) 0 0) (d + 7) Q 0 0 170 [some (.ref 144)] [] τ2 := fun τ2 F2 h => by
    have q := hQ τ2 F2 h
    refine wp_blk kX5_advance_170 ?_
    simp (disch := first | decide | omega) only [mxa, vxa, vxb, vxc, vnd, vne, Nat.reduceAdd, Nat.reduceSub, Nat.reduceLeDiff, Nat.reduceLT, Int32.reduceLT, Int32.reduceLE, Int32.reduceAdd, Int32.reduceSub, Int32.reduceMul, Int32.reduceToNatClampNeg, not_false_eq_true, not_true_eq_false, false_implies, true_implies, Nat.zero_add, reduceIte, Nat.reduceMul, Nat.reduceEqDiff, nxa, nxc, lgn, nL_of, swx, Int.reduceAdd, gI_a, gI_k, gL_a, gL_k, gI_r, gL_r, nI_and, nI_or, nI_xor, nI_ndf, nI_shl, nI_shr, ne_eq, and_true, true_and, eq_self, true_or, or_true, false_or, or_false, Option.toList, List.cons_append, List.nil_append, List.length_nil, List.length_cons, Nat.not_lt_zero, bX5_advance_170]
    exact q
  -- the rest of a word or of a number
  have rest : ∀ (t : Nat) (P : Nat → Prop), t ≤ 5 → (∀ i, P i ↔ i < n ∧ kO (B i) = t) → (∀ τ : Mm, FrT σ τ → gI τ 144 7 = nI (tP n B b) → gI τ 144 8 = nI (scan P n (tP n B b)) → gI τ 144 5 = nI t → Wp X mX5_advance (rmo (d + 7) 0 0) (d + 7) Q 0 0 158 [some (.ref 144)] [] τ) → ∀ k q, n - q = k → tP n B b ≤ q → q ≤ n → scan P n q = scan P n (tP n B b) → ∀ τ : Mm, FrT σ τ → gI τ 144 7 = nI (tP n B b) → gI τ 144 8 = nI q → gI τ 144 5 = nI t → Wp X mX5_advance (rmo (d + 7) 0 0) (d + 7) Q 0 0 115 [some (.ref 144)] [] τ := by
    intro t P ht hP K k
    induction k with
    | zero =>
      intro q hk hpq hqn hsc τ F t6 t7 t4
      have st := F.1.Sh hs
      have tT := hT.keep F
      rw [scan_n (fun z => by have := ((hP q).mp z).1; omega)] at hsc
      refine wp_blk kX5_advance_115 ?_
      simp (disch := first | decide | omega) only [mxa, vxa, vxb, vxc, vnd, vne, Nat.reduceAdd, Nat.reduceSub, Nat.reduceLeDiff, Nat.reduceLT, Int32.reduceLT, Int32.reduceLE, Int32.reduceAdd, Int32.reduceSub, Int32.reduceMul, Int32.reduceToNatClampNeg, not_false_eq_true, not_true_eq_false, false_implies, true_implies, Nat.zero_add, reduceIte, Nat.reduceMul, Nat.reduceEqDiff, nxa, nxc, lgn, nL_of, swx, Int.reduceAdd, gI_a, gI_k, gL_a, gL_k, gI_r, gL_r, nI_and, nI_or, nI_xor, nI_ndf, nI_shl, nI_shr, ne_eq, and_true, true_and, eq_self, true_or, or_true, false_or, or_false, Option.toList, List.cons_append, List.nil_append, List.length_nil, List.length_cons, Nat.not_lt_zero, bX5_advance_115, kdx st, tT.1, t7, show n ≤ q by omega]
      exact K τ F t6 (by rw [← hsc]; exact t7) t4
    | succ k ih =>
      intro q hk hpq hqn hsc τ F t6 t7 t4
      have st := F.1.Sh hs
      have rt := F.1.Rf hr
      have tT := hT.keep F
      have tx := tT.2.2.2 q (by omega)
      have bl := tT.2.2.1 q
      obtain ⟨-, -, -, -, k1, k5⟩ := kO_is (B q)
      refine wp_blk kX5_advance_115 ?_
      simp (disch := first | decide | omega) only [mxa, vxa, vxb, vxc, vnd, vne, Nat.reduceAdd, Nat.reduceSub, Nat.reduceLeDiff, Nat.reduceLT, Int32.reduceLT, Int32.reduceLE, Int32.reduceAdd, Int32.reduceSub, Int32.reduceMul, Int32.reduceToNatClampNeg, not_false_eq_true, not_true_eq_false, false_implies, true_implies, Nat.zero_add, reduceIte, Nat.reduceMul, Nat.reduceEqDiff, nxa, nxc, lgn, nL_of, swx, Int.reduceAdd, gI_a, gI_k, gL_a, gL_k, gI_r, gL_r, nI_and, nI_or, nI_xor, nI_ndf, nI_shl, nI_shr, ne_eq, and_true, true_and, eq_self, true_or, or_true, false_or, or_false, Option.toList, List.cons_append, List.nil_append, List.length_nil, List.length_cons, Nat.not_lt_zero, bX5_advance_115, kdx st, grx rt, tT.1, t7, tx, show ¬ n ≤ q by omega]
      refine c_kindOf X _ _ (B q) bl _ ?_
      by_cases l : kO (B q) = t
      · have le : P q := (hP q).mpr ⟨by omega, l⟩
        simp (disch := first | decide | omega) only [mxa, vxa, vxb, vxc, vnd, vne, Nat.reduceAdd, Nat.reduceSub, Nat.reduceLeDiff, Nat.reduceLT, Int32.reduceLT, Int32.reduceLE, Int32.reduceAdd, Int32.reduceSub, Int32.reduceMul, Int32.reduceToNatClampNeg, not_false_eq_true, not_true_eq_false, false_implies, true_implies, Nat.zero_add, reduceIte, Nat.reduceMul, Nat.reduceEqDiff, nxa, nxc, lgn, nL_of, swx, Int.reduceAdd, gI_a, gI_k, gL_a, gL_k, gI_r, gL_r, nI_and, nI_or, nI_xor, nI_ndf, nI_shl, nI_shr, ne_eq, and_true, true_and, eq_self, true_or, or_true, false_or, or_false, Option.toList, List.cons_append, List.nil_append, List.length_nil, List.length_cons, Nat.not_lt_zero, kdx st, t4, t7, l]
        exact ih (q + 1) (by omega) (by omega) (by omega) (by rw [← scan_y le (by omega)]; exact hsc) _ (F.tr (FrT.sI (by omega))) ((gI_k (by decide)).trans t6) (gI_same _ _ _ _) ((gI_k (by decide)).trans t4)
      · rw [scan_n (fun z => l ((hP q).mp z).2)] at hsc
        simp (disch := first | decide | omega) only [mxa, vxa, vxb, vxc, vnd, vne, Nat.reduceAdd, Nat.reduceSub, Nat.reduceLeDiff, Nat.reduceLT, Int32.reduceLT, Int32.reduceLE, Int32.reduceAdd, Int32.reduceSub, Int32.reduceMul, Int32.reduceToNatClampNeg, not_false_eq_true, not_true_eq_false, false_implies, true_implies, Nat.zero_add, reduceIte, Nat.reduceMul, Nat.reduceEqDiff, nxa, nxc, lgn, nL_of, swx, Int.reduceAdd, gI_a, gI_k, gL_a, gL_k, gI_r, gL_r, nI_and, nI_or, nI_xor, nI_ndf, nI_shl, nI_shr, ne_eq, and_true, true_and, eq_self, true_or, or_true, false_or, or_false, Option.toList, List.cons_append, List.nil_append, List.length_nil, List.length_cons, Nat.not_lt_zero, kdx st, t4, l]
        exact K τ F t6 (by rw [← hsc]; exact t7) t4
  have at48 : ∀ τ : Mm, FrT σ τ → gI τ 144 7 = nI (tP n B b) → Wp X mX5_advance (rmo (d + 7) 0 0) (d + 7) Q 0 0 48 [some (.ref 144)] [] τ := by
    intro τ F t6
    have st := F.1.Sh hs
    have rt := F.1.Rf hr
    have tT := hT.keep F
    by_cases o : tP n B b < n
    · have tx := tT.2.2.2 (tP n B b) o
      have bl := tT.2.2.1 (tP n B b)
      refine wp_blk kX5_advance_48 ?_
      simp (disch := first | decide | omega) only [mxa, vxa, vxb, vxc, vnd, vne, Nat.reduceAdd, Nat.reduceSub, Nat.reduceLeDiff, Nat.reduceLT, Int32.reduceLT, Int32.reduceLE, Int32.reduceAdd, Int32.reduceSub, Int32.reduceMul, Int32.reduceToNatClampNeg, not_false_eq_true, not_true_eq_false, false_implies, true_implies, Nat.zero_add, reduceIte, Nat.reduceMul, Nat.reduceEqDiff, nxa, nxc, lgn, nL_of, swx, Int.reduceAdd, gI_a, gI_k, gL_a, gL_k, gI_r, gL_r, nI_and, nI_or, nI_xor, nI_ndf, nI_shl, nI_shr, ne_eq, and_true, true_and, eq_self, true_or, or_true, false_or, or_false, Option.toList, List.cons_append, List.nil_append, List.length_nil, List.length_cons, Nat.not_lt_zero, bX5_advance_48, kdx st, tT.1, t6, o]
      have F2 : FrT σ (sI τ 144 8 (nI (tP n B b))) := F.tr (FrT.sI (by omega))
      have u6 : gI (sI τ 144 8 (nI (tP n B b))) 144 7 = nI (tP n B b) := (gI_k (by decide)).trans t6
      have u7 : gI (sI τ 144 8 (nI (tP n B b))) 144 8 = nI (tP n B b) := gI_same _ _ _ _
      have ux : gI (sI τ 144 8 (nI (tP n B b))) 145 (tP n B b) = sb (B (tP n B b)) := (gI_a (by decide)).trans tx
      generalize sI τ 144 8 (nI (tP n B b)) = μ at *
      have sm := F2.1.Sh hs
      have rm := F2.1.Rf hr
      have mT := hT.keep F2
      obtain ⟨k1, k2, k3, k4, k0, k5⟩ := kO_is (B (tP n B b))
      have start : ∀ t : Nat, FrT σ (sI (sI μ 144 5 (nI t)) 144 8 (nI (tP n B b + 1))) ∧ gI (sI (sI μ 144 5 (nI t)) 144 8 (nI (tP n B b + 1))) 144 7 = nI (tP n B b) ∧ gI (sI (sI μ 144 5 (nI t)) 144 8 (nI (tP n B b + 1))) 144 8 = nI (tP n B b + 1) ∧ gI (sI (sI μ 144 5 (nI t)) 144 8 (nI (tP n B b + 1))) 144 5 = nI t := fun t => ⟨(F2.tr (FrT.sI (by omega))).tr (FrT.sI (by omega)), (gI_k (by decide)).trans ((gI_k (by decide)).trans u6), gI_same _ _ _ _, (gI_k (by decide)).trans (gI_same _ _ _ _)⟩
      refine wp_blk kX5_advance_73 ?_
      simp (disch := first | decide | omega) only [mxa, vxa, vxb, vxc, vnd, vne, Nat.reduceAdd, Nat.reduceSub, Nat.reduceLeDiff, Nat.reduceLT, Int32.reduceLT, Int32.reduceLE, Int32.reduceAdd, Int32.reduceSub, Int32.reduceMul, Int32.reduceToNatClampNeg, not_false_eq_true, not_true_eq_false, false_implies, true_implies, Nat.zero_add, reduceIte, Nat.reduceMul, Nat.reduceEqDiff, nxa, nxc, lgn, nL_of, swx, Int.reduceAdd, gI_a, gI_k, gL_a, gL_k, gI_r, gL_r, nI_and, nI_or, nI_xor, nI_ndf, nI_shl, nI_shr, ne_eq, and_true, true_and, eq_self, true_or, or_true, false_or, or_false, Option.toList, List.cons_append, List.nil_append, List.length_nil, List.length_cons, Nat.not_lt_zero, bX5_advance_73, kdx sm, grx rm, u6, ux]
      refine c_kindOf X _ _ (B (tP n B b)) bl _ ?_
      by_cases l : 97 ≤ B (tP n B b) ∧ B (tP n B b) ≤ 122
      · have lp : leP n B (tP n B b) := ⟨o, l⟩
        have e1 := tE_l lp
        have kc := k2.mpr l
        have kl := (tK_le (n := n) (B := B) (b := b)).1
        have w8 : cc (tK n B b) = 2 := by
          rw [cc_w _ kl, tK_l lp]
          exact (keyF_le (cN := cN) (len := wl') (B := B) (p := tP n B b) (e := tD n B b) 8 0).2.1
        obtain ⟨s1, s2, s3, s4⟩ := start 2
        simp (disch := first | decide | omega) only [mxa, vxa, vxb, vxc, vnd, vne, Nat.reduceAdd, Nat.reduceSub, Nat.reduceLeDiff, Nat.reduceLT, Int32.reduceLT, Int32.reduceLE, Int32.reduceAdd, Int32.reduceSub, Int32.reduceMul, Int32.reduceToNatClampNeg, not_false_eq_true, not_true_eq_false, false_implies, true_implies, Nat.zero_add, reduceIte, Nat.reduceMul, Nat.reduceEqDiff, nxa, nxc, lgn, nL_of, swx, Int.reduceAdd, gI_a, gI_k, gL_a, gL_k, gI_r, gL_r, nI_and, nI_or, nI_xor, nI_ndf, nI_shl, nI_shr, ne_eq, and_true, true_and, eq_self, true_or, or_true, false_or, or_false, Option.toList, List.cons_append, List.nil_append, List.length_nil, List.length_cons, Nat.not_lt_zero, kdx sm, kc, u7]
        refine rest 2 (leP n B) (by omega) (fun i => ?_) (fun τ2 G v6 v7 v4 => ?_) _ (tP n B b + 1) rfl (by omega) (by omega) (scan_y lp o).symm _ s1 s2 s3 s4
        · unfold leP
          rw [(kO_is (B i)).2.1]
        · rw [← e1] at v7
          have q := done τ2 G ⟨v6, v7, by rw [w8]; exact v4, fun z => absurd ((tK_le (n := n) (B := B) (b := b)).2.2.1 z).1 (le_dg lp)⟩
          refine wp_blk kX5_advance_158 ?_
          simp (disch := first | decide | omega) only [mxa, vxa, vxb, vxc, vnd, vne, Nat.reduceAdd, Nat.reduceSub, Nat.reduceLeDiff, Nat.reduceLT, Int32.reduceLT, Int32.reduceLE, Int32.reduceAdd, Int32.reduceSub, Int32.reduceMul, Int32.reduceToNatClampNeg, not_false_eq_true, not_true_eq_false, false_implies, true_implies, Nat.zero_add, reduceIte, Nat.reduceMul, Nat.reduceEqDiff, nxa, nxc, lgn, nL_of, swx, Int.reduceAdd, gI_a, gI_k, gL_a, gL_k, gI_r, gL_r, nI_and, nI_or, nI_xor, nI_ndf, nI_shl, nI_shr, ne_eq, and_true, true_and, eq_self, true_or, or_true, false_or, or_false, Option.toList, List.cons_append, List.nil_append, List.length_nil, List.length_cons, Nat.not_lt_zero, bX5_advance_158, kdx (G.1.Sh hs), v4]
          exact q
      · by_cases g : 48 ≤ B (tP n B b) ∧ B (tP n B b) ≤ 57
        · have gp : dgP n B (tP n B b) := ⟨o, g⟩
          have e1 := tE_d gp
          have e2 := tK_d gp
          have kc := k3.mpr g
          obtain ⟨s1, s2, s3, s4⟩ := start 3
          simp (disch := first | decide | omega) only [mxa, vxa, vxb, vxc, vnd, vne, Nat.reduceAdd, Nat.reduceSub, Nat.reduceLeDiff, Nat.reduceLT, Int32.reduceLT, Int32.reduceLE, Int32.reduceAdd, Int32.reduceSub, Int32.reduceMul, Int32.reduceToNatClampNeg, not_false_eq_true, not_true_eq_false, false_implies, true_implies, Nat.zero_add, reduceIte, Nat.reduceMul, Nat.reduceEqDiff, nxa, nxc, lgn, nL_of, swx, Int.reduceAdd, gI_a, gI_k, gL_a, gL_k, gI_r, gL_r, nI_and, nI_or, nI_xor, nI_ndf, nI_shl, nI_shr, ne_eq, and_true, true_and, eq_self, true_or, or_true, false_or, or_false, Option.toList, List.cons_append, List.nil_append, List.length_nil, List.length_cons, Nat.not_lt_zero, kdx sm, kc, u7]
          refine rest 3 (dgP n B) (by omega) (fun i => ?_) (fun τ2 G v6 v7 v4 => ?_) _ (tP n B b + 1) rfl (by omega) (by omega) (scan_y gp o).symm _ s1 s2 s3 s4
          · unfold dgP
            rw [(kO_is (B i)).2.2.1]
          · have sc := (scan_le (P := dgP n B) (fun i q => q.1) _ (tP n B b) rfl a2).2.2.2
            rw [← e1] at v7 sc
            refine wp_blk kX5_advance_158 ?_
            simp (disch := first | decide | omega) only [mxa, vxa, vxb, vxc, vnd, vne, Nat.reduceAdd, Nat.reduceSub, Nat.reduceLeDiff, Nat.reduceLT, Int32.reduceLT, Int32.reduceLE, Int32.reduceAdd, Int32.reduceSub, Int32.reduceMul, Int32.reduceToNatClampNeg, not_false_eq_true, not_true_eq_false, false_implies, true_implies, Nat.zero_add, reduceIte, Nat.reduceMul, Nat.reduceEqDiff, nxa, nxc, lgn, nL_of, swx, Int.reduceAdd, gI_a, gI_k, gL_a, gL_k, gI_r, gL_r, nI_and, nI_or, nI_xor, nI_ndf, nI_shl, nI_shr, ne_eq, and_true, true_and, eq_self, true_or, or_true, false_or, or_false, Option.toList, List.cons_append, List.nil_append, List.length_nil, List.length_cons, Nat.not_lt_zero, bX5_advance_158, kdx (G.1.Sh hs), v4]
            refine c_takeValue X _ τ2 n (tP n B b) (tD n B b) B (G.1.Sh hs) (G.1.Rf hr) (hT.keep G) c1 c2 sc v6 v7 v4 _ (fun τ3 F3 w6 w7 w4 w5 => ?_)
            simp (disch := first | decide | omega) only [mxa, vxa, vxb, vxc, vnd, vne, Nat.reduceAdd, Nat.reduceSub, Nat.reduceLeDiff, Nat.reduceLT, Int32.reduceLT, Int32.reduceLE, Int32.reduceAdd, Int32.reduceSub, Int32.reduceMul, Int32.reduceToNatClampNeg, not_false_eq_true, not_true_eq_false, false_implies, true_implies, Nat.zero_add, reduceIte, Nat.reduceMul, Nat.reduceEqDiff, nxa, nxc, lgn, nL_of, swx, Int.reduceAdd, gI_a, gI_k, gL_a, gL_k, gI_r, gL_r, nI_and, nI_or, nI_xor, nI_ndf, nI_shl, nI_shr, ne_eq, and_true, true_and, eq_self, true_or, or_true, false_or, or_false, Option.toList, List.cons_append, List.nil_append, List.length_nil, List.length_cons, Nat.not_lt_zero]
            refine done τ3 (G.tr F3) ⟨w6, w7, ?_, fun z => w5 ?_⟩
            · rw [w4, e2]
              congr 1
              by_cases c : 3 < tD n B b - tP n B b
              · rw [if_pos c, if_pos c]; rfl
              · rw [if_neg c, if_neg c]; rfl
            · have := ((tK_le (n := n) (B := B) (b := b)).2.2.1 z).2
              omega
        · have nl : ¬ leP n B (tP n B b) := fun z => l z.2
          have ng : ¬ dgP n B (tP n B b) := fun z => g z.2
          have nb : ¬ (B (tP n B b) = 10 ∨ B (tP n B b) = 32) := fun z => a3 ⟨o, z⟩
          have e1 := tE_o nl ng o
          have e2 := tK_o nl ng o
          have k9 : ¬ tK n B b = 9 := fun z => ng ((tK_le (n := n) (B := B) (b := b)).2.2.1 z).1
          have fin : ∀ z : Nat, z = cc (tK n B b) → 4 ≤ z → z ≤ 5 → Wp X mX5_advance (rmo (d + 7) 0 0) (d + 7) Q 0 0 158 [some (.ref 144)] [] (sI (sI μ 144 5 (nI z)) 144 8 (nI (tP n B b + 1))) := fun z hz hz2 hz3 => by
            obtain ⟨s1, s2, s3, s4⟩ := start z
            have q := done _ s1 ⟨s2, by rw [e1]; exact s3, by rw [← hz]; exact s4, fun y => absurd y k9⟩
            refine wp_blk kX5_advance_158 ?_
            simp (disch := first | decide | omega) only [mxa, vxa, vxb, vxc, vnd, vne, Nat.reduceAdd, Nat.reduceSub, Nat.reduceLeDiff, Nat.reduceLT, Int32.reduceLT, Int32.reduceLE, Int32.reduceAdd, Int32.reduceSub, Int32.reduceMul, Int32.reduceToNatClampNeg, not_false_eq_true, not_true_eq_false, false_implies, true_implies, Nat.zero_add, reduceIte, Nat.reduceMul, Nat.reduceEqDiff, nxa, nxc, lgn, nL_of, swx, Int.reduceAdd, gI_a, gI_k, gL_a, gL_k, gI_r, gL_r, nI_and, nI_or, nI_xor, nI_ndf, nI_shl, nI_shr, ne_eq, and_true, true_and, eq_self, true_or, or_true, false_or, or_false, Option.toList, List.cons_append, List.nil_append, List.length_nil, List.length_cons, Nat.not_lt_zero, bX5_advance_158, kdx sm, show ¬ z = 3 by omega]
            exact q
          by_cases s : B (tP n B b) = 59
          · rw [if_pos s] at e2
            have kc := k4.mpr s
            simp (disch := first | decide | omega) only [mxa, vxa, vxb, vxc, vnd, vne, Nat.reduceAdd, Nat.reduceSub, Nat.reduceLeDiff, Nat.reduceLT, Int32.reduceLT, Int32.reduceLE, Int32.reduceAdd, Int32.reduceSub, Int32.reduceMul, Int32.reduceToNatClampNeg, not_false_eq_true, not_true_eq_false, false_implies, true_implies, Nat.zero_add, reduceIte, Nat.reduceMul, Nat.reduceEqDiff, nxa, nxc, lgn, nL_of, swx, Int.reduceAdd, gI_a, gI_k, gL_a, gL_k, gI_r, gL_r, nI_and, nI_or, nI_xor, nI_ndf, nI_shl, nI_shr, ne_eq, and_true, true_and, eq_self, true_or, or_true, false_or, or_false, Option.toList, List.cons_append, List.nil_append, List.length_nil, List.length_cons, Nat.not_lt_zero, kdx sm, kc, u7]
            exact fin 4 (by rw [e2]; rfl) (by omega) (by omega)
          · rw [if_neg s] at e2
            have kc : kO (B (tP n B b)) = 5 := by omega
            simp (disch := first | decide | omega) only [mxa, vxa, vxb, vxc, vnd, vne, Nat.reduceAdd, Nat.reduceSub, Nat.reduceLeDiff, Nat.reduceLT, Int32.reduceLT, Int32.reduceLE, Int32.reduceAdd, Int32.reduceSub, Int32.reduceMul, Int32.reduceToNatClampNeg, not_false_eq_true, not_true_eq_false, false_implies, true_implies, Nat.zero_add, reduceIte, Nat.reduceMul, Nat.reduceEqDiff, nxa, nxc, lgn, nL_of, swx, Int.reduceAdd, gI_a, gI_k, gL_a, gL_k, gI_r, gL_r, nI_and, nI_or, nI_xor, nI_ndf, nI_shl, nI_shr, ne_eq, and_true, true_and, eq_self, true_or, or_true, false_or, or_false, Option.toList, List.cons_append, List.nil_append, List.length_nil, List.length_cons, Nat.not_lt_zero, kdx sm, kc, u7]
            exact fin 5 (by rw [e2]; rfl) (by omega) (by omega)
    · have e1 := tE_e o
      have e2 := tK_e o
      refine wp_blk kX5_advance_48 ?_
      simp (disch := first | decide | omega) only [mxa, vxa, vxb, vxc, vnd, vne, Nat.reduceAdd, Nat.reduceSub, Nat.reduceLeDiff, Nat.reduceLT, Int32.reduceLT, Int32.reduceLE, Int32.reduceAdd, Int32.reduceSub, Int32.reduceMul, Int32.reduceToNatClampNeg, not_false_eq_true, not_true_eq_false, false_implies, true_implies, Nat.zero_add, reduceIte, Nat.reduceMul, Nat.reduceEqDiff, nxa, nxc, lgn, nL_of, swx, Int.reduceAdd, gI_a, gI_k, gL_a, gL_k, gI_r, gL_r, nI_and, nI_or, nI_xor, nI_ndf, nI_shl, nI_shr, ne_eq, and_true, true_and, eq_self, true_or, or_true, false_or, or_false, Option.toList, List.cons_append, List.nil_append, List.length_nil, List.length_cons, Nat.not_lt_zero, bX5_advance_48, kdx st, tT.1, t6, o]
      exact hQ _ ((F.tr (FrT.sI (by omega))).tr (FrT.sI (by omega))) ⟨(gI_k (by decide)).trans ((gI_k (by decide)).trans t6), (gI_k (by decide)).trans ((gI_same _ _ _ _).trans (by rw [e1])), (gI_same _ _ _ _).trans (by rw [e2]; rfl), fun q => by omega⟩
  have loop : ∀ k q, n - q = k → b ≤ q → q ≤ n → scan (blP n B) n q = scan (blP n B) n b → ∀ τ : Mm, FrT σ τ → gI τ 144 7 = nI q → Wp X mX5_advance (rmo (d + 7) 0 0) (d + 7) Q 0 0 8 [some (.ref 144)] [] τ := by
    intro k
    induction k with
    | zero =>
      intro q hk hbq hqn hsc τ F t6
      have st := F.1.Sh hs
      have tT := hT.keep F
      rw [scan_n (fun z => by have := z.1; omega)] at hsc
      refine wp_blk kX5_advance_8 ?_
      simp (disch := first | decide | omega) only [mxa, vxa, vxb, vxc, vnd, vne, Nat.reduceAdd, Nat.reduceSub, Nat.reduceLeDiff, Nat.reduceLT, Int32.reduceLT, Int32.reduceLE, Int32.reduceAdd, Int32.reduceSub, Int32.reduceMul, Int32.reduceToNatClampNeg, not_false_eq_true, not_true_eq_false, false_implies, true_implies, Nat.zero_add, reduceIte, Nat.reduceMul, Nat.reduceEqDiff, nxa, nxc, lgn, nL_of, swx, Int.reduceAdd, gI_a, gI_k, gL_a, gL_k, gI_r, gL_r, nI_and, nI_or, nI_xor, nI_ndf, nI_shl, nI_shr, ne_eq, and_true, true_and, eq_self, true_or, or_true, false_or, or_false, Option.toList, List.cons_append, List.nil_append, List.length_nil, List.length_cons, Nat.not_lt_zero, bX5_advance_8, kdx st, tT.1, t6, show n ≤ q by omega]
      exact at48 τ F (by rw [t6, hsc]; rfl)
    | succ k ih =>
      intro q hk hbq hqn hsc τ F t6
      have st := F.1.Sh hs
      have rt := F.1.Rf hr
      have tT := hT.keep F
      have tx := tT.2.2.2 q (by omega)
      have bl := tT.2.2.1 q
      obtain ⟨k1, -, -, -, k0, k5⟩ := kO_is (B q)
      refine wp_blk kX5_advance_8 ?_
      simp (disch := first | decide | omega) only [mxa, vxa, vxb, vxc, vnd, vne, Nat.reduceAdd, Nat.reduceSub, Nat.reduceLeDiff, Nat.reduceLT, Int32.reduceLT, Int32.reduceLE, Int32.reduceAdd, Int32.reduceSub, Int32.reduceMul, Int32.reduceToNatClampNeg, not_false_eq_true, not_true_eq_false, false_implies, true_implies, Nat.zero_add, reduceIte, Nat.reduceMul, Nat.reduceEqDiff, nxa, nxc, lgn, nL_of, swx, Int.reduceAdd, gI_a, gI_k, gL_a, gL_k, gI_r, gL_r, nI_and, nI_or, nI_xor, nI_ndf, nI_shl, nI_shr, ne_eq, and_true, true_and, eq_self, true_or, or_true, false_or, or_false, Option.toList, List.cons_append, List.nil_append, List.length_nil, List.length_cons, Nat.not_lt_zero, bX5_advance_8, kdx st, grx rt, tT.1, t6, tx, show ¬ n ≤ q by omega]
      refine c_kindOf X _ _ (B q) bl _ ?_
      by_cases l : kO (B q) = 1
      · have le : blP n B q := ⟨by omega, k1.mp l⟩
        simp (disch := first | decide | omega) only [mxa, vxa, vxb, vxc, vnd, vne, Nat.reduceAdd, Nat.reduceSub, Nat.reduceLeDiff, Nat.reduceLT, Int32.reduceLT, Int32.reduceLE, Int32.reduceAdd, Int32.reduceSub, Int32.reduceMul, Int32.reduceToNatClampNeg, not_false_eq_true, not_true_eq_false, false_implies, true_implies, Nat.zero_add, reduceIte, Nat.reduceMul, Nat.reduceEqDiff, nxa, nxc, lgn, nL_of, swx, Int.reduceAdd, gI_a, gI_k, gL_a, gL_k, gI_r, gL_r, nI_and, nI_or, nI_xor, nI_ndf, nI_shl, nI_shr, ne_eq, and_true, true_and, eq_self, true_or, or_true, false_or, or_false, Option.toList, List.cons_append, List.nil_append, List.length_nil, List.length_cons, Nat.not_lt_zero, kdx st, t6, l]
        exact ih (q + 1) (by omega) (by omega) (by omega) (by rw [← scan_y le (by omega)]; exact hsc) _ (F.tr (FrT.sI (by omega))) (gI_same _ _ _ _)
      · rw [scan_n (fun z => l (k1.mpr z.2))] at hsc
        simp (disch := first | decide | omega) only [mxa, vxa, vxb, vxc, vnd, vne, Nat.reduceAdd, Nat.reduceSub, Nat.reduceLeDiff, Nat.reduceLT, Int32.reduceLT, Int32.reduceLE, Int32.reduceAdd, Int32.reduceSub, Int32.reduceMul, Int32.reduceToNatClampNeg, not_false_eq_true, not_true_eq_false, false_implies, true_implies, Nat.zero_add, reduceIte, Nat.reduceMul, Nat.reduceEqDiff, nxa, nxc, lgn, nL_of, swx, Int.reduceAdd, gI_a, gI_k, gL_a, gL_k, gI_r, gL_r, nI_and, nI_or, nI_xor, nI_ndf, nI_shl, nI_shr, ne_eq, and_true, true_and, eq_self, true_or, or_true, false_or, or_false, Option.toList, List.cons_append, List.nil_append, List.length_nil, List.length_cons, Nat.not_lt_zero, l]
        exact at48 τ F (by rw [t6, hsc]; rfl)
  refine call_of eX5_advance rfl ?_
  refine wp_blk kX5_advance_0 ?_
  simp (disch := first | decide | omega) only [mxa, vxa, vxb, vxc, vnd, vne, Nat.reduceAdd, Nat.reduceSub, Nat.reduceLeDiff, Nat.reduceLT, Int32.reduceLT, Int32.reduceLE, Int32.reduceAdd, Int32.reduceSub, Int32.reduceMul, Int32.reduceToNatClampNeg, not_false_eq_true, not_true_eq_false, false_implies, true_implies, Nat.zero_add, reduceIte, Nat.reduceMul, Nat.reduceEqDiff, nxa, nxc, lgn, nL_of, swx, Int.reduceAdd, gI_a, gI_k, gL_a, gL_k, gI_r, gL_r, nI_and, nI_or, nI_xor, nI_ndf, nI_shl, nI_shr, ne_eq, and_true, true_and, eq_self, true_or, or_true, false_or, or_false, Option.toList, List.cons_append, List.nil_append, List.length_nil, List.length_cons, Nat.not_lt_zero, bX5_advance_0, kdx hs, grx hr, h7]
  exact loop _ b rfl (Nat.le_refl _) hb rfl _ (FrT.sI (by omega)) (gI_same _ _ _ _)
