/-! marry: the new row is good -/
set_option maxRecDepth 20000
theorem jv_bd {x y : Int32} {a L : Nat} (hx : bd x a) (hy : bd y a) (ha : a ≤ 10000000) (hL : L ≤ 10000) : bd (jv (nI L) (x + y)) L := by
  obtain ⟨m, hm, rfl⟩ := hx
  obtain ⟨n, hn, rfl⟩ := hy
  rw [jv_n (by omega), nI_add, imn_nn (by omega) (by omega)]
  refine ⟨_, ?_, rfl⟩
  split <;> omega
theorem dQ_sym {V : Nat → Int32} {t N O K f g i j : Nat} (hG : Gd V t N O K) (hi : i < 10) (hj : j < 10) : dQ f g N V i j = dQ f g N V j i := by
  have sym := (hG.2.2.2.2.2.2.2.2.1.1 i j hi hj).2
  by_cases a : (i = f ∧ j < N ∧ j ≠ f ∧ j ≠ g ∧ V (119 + 10 * g + j) = nI 1) ∨ (j = f ∧ i < N ∧ i ≠ f ∧ i ≠ g ∧ V (119 + 10 * g + i) = nI 1)
  · rw [dQ_y a, dQ_y a.symm]
  · rw [dQ_n a, dQ_n (fun z => a z.symm), sym]
theorem wed_Gd {V : Nat → Int32} {t N O K f g : Nat} (hG : Gd V t N O K) (ht : t < 512) (hf : f < g) (hg : g < N) : Gd (wedV V N f g) (t + 1) (N - 1) O K := by
  obtain ⟨⟨g0, hN⟩, ⟨g1, hO⟩, ⟨g3, k1, k5⟩, g4, g2, gz, gf, gb, ⟨gq1, gq2, gq3⟩, gd⟩ := id hG
  have lo : ∀ i, i ≠ 0 → i < 9 → wedV V N f g i = V i := fun i h1 h2 => wed_lo hN hf hg h1 (Or.inl h2)
  have skl : ∀ k, k < 9 → sk g k < 10 := fun k hk => by unfold sk; split <;> omega
  have hi : ∀ k, N - 1 ≤ k → sk g k = k + 1 := fun k hk => if_neg (by omega)
  refine ⟨⟨wed_0, by omega⟩, ⟨(lo 1 (by omega) (by omega)).trans g1, hO⟩, ⟨(lo 3 (by omega) (by omega)).trans g3, k1, k5⟩, by rw [lo 4 (by omega) (by omega)]; exact g4, by rw [lo 2 (by omega) (by omega)]; exact g2, fun o ho => ?_, fun k hk => ?_, fun k hk a ha => ?_, ⟨fun k l hk hl => ?_, fun k hk => ?_, fun k l hk hl h => ?_⟩, fun k l hk hl => ?_⟩
  · obtain ⟨z, z1, z2, z3⟩ := gz o ho
    exact ⟨z, z1, z2, (lo (6 + o) (by omega) (by omega)).trans z3⟩
  · obtain ⟨s1, s2⟩ := sk_lt hg hk
    obtain ⟨f1, f2, f3⟩ := gf _ s1
    obtain ⟨p1, p2, p3⟩ := gf f (by omega)
    obtain ⟨q1, q2, q3⟩ := gf g hg
    have w0 := wed_f (V := V) hN hf hg (j := 0) (by omega) hk
    have w1 := wed_f (V := V) hN hf hg (j := 1) (by omega) hk
    have w2 := wed_f (V := V) hN hf hg (j := 2) (by omega) hk
    simp only [Nat.reduceMul, Nat.reduceAdd] at w0 w1 w2
    rw [w0, w1, w2]
    by_cases e : sk g k = f
    · rw [if_pos e, if_pos e, if_pos e]
      exact ⟨jv_bd p1 q1 (by omega) (by omega), jv_bd p2 q2 (by omega) (by omega), jv_bd p3 q3 (by omega) (by omega)⟩
    · rw [if_neg e, if_neg e, if_neg e]
      exact ⟨f1, f2, f3⟩
  · obtain ⟨s1, s2⟩ := sk_lt hg hk
    obtain ⟨⟨m, m1, m2⟩, f2⟩ := gb _ s1 a ha
    obtain ⟨p1, p2⟩ := gb f (by omega) a ha
    obtain ⟨q1, q2⟩ := gb g hg a ha
    rw [wed_b hN hf hg hk ha]
    by_cases e : sk g k = f
    · rw [if_pos e]
      obtain ⟨z, z1, z2⟩ := jv_bd p1 q1 (by omega) (show 99 ≤ 10000 by omega)
      refine ⟨⟨z, by omega, z2⟩, fun hk => ?_⟩
      rw [p2 hk, q2 hk]
      decide
    · rw [if_neg e]
      exact ⟨⟨m, by omega, m2⟩, f2⟩
  · rw [wed_q hN hf hg hk hl, wed_q hN hf hg hl hk]
    by_cases e : k = 9 ∨ l = 9
    · rw [if_pos e, if_pos e.symm]
      exact ⟨Or.inl rfl, rfl⟩
    · rw [if_neg e, if_neg (fun z => e z.symm)]
      have a1 := skl k (by omega)
      have a2 := skl l (by omega)
      refine ⟨?_, dQ_sym hG a1 a2⟩
      unfold dQ
      split
      · exact Or.inr rfl
      · exact (gq1 _ _ a1 a2).1
  · rw [wed_q hN hf hg hk hk]
    by_cases e : k = 9 ∨ k = 9
    · rw [if_pos e]
    · rw [if_neg e]
      rw [dQ_n (fun z => z.elim (fun z => z.2.2.1 z.1) (fun z => z.2.2.1 z.1))]
      exact gq2 _ (skl k (by omega))
  · rw [wed_q hN hf hg hk hl]
    by_cases e : k = 9 ∨ l = 9
    · rw [if_pos e]
    · rw [if_neg e, hi l h]
      rw [dQ_n (fun z => z.elim (fun z => absurd z.2.1 (by omega)) (fun z => absurd z.1 (by omega)))]
      exact gq3 _ _ (skl k (by omega)) (by omega) (by omega)
  · rw [wed_d hN hf hg hk hl]
    by_cases e : k = 9 ∨ l = 9
    · rw [if_pos e]
      exact ⟨⟨0, Nat.zero_le _, rfl⟩, fun _ => rfl⟩
    · rw [if_neg e]
      have a1 := skl k (by omega)
      have a2 := skl l (by omega)
      have e2 : 2 ^ (10 - (N - 1)) = 2 * 2 ^ (10 - N) := by
        rw [show 10 - (N - 1) = (10 - N) + 1 by omega, Nat.pow_succ, Nat.mul_comm]
      have mono : 2 * (999 * t * 2 ^ (10 - N)) ≤ 999 * (t + 1) * 2 ^ (10 - (N - 1)) := by
        rw [e2]
        generalize 2 ^ (10 - N) = p
        have h : 999 * t * p ≤ 999 * (t + 1) * p := Nat.mul_le_mul_right _ (by omega)
        calc 2 * (999 * t * p) ≤ 2 * (999 * (t + 1) * p) := Nat.mul_le_mul_left 2 h
          _ = 999 * (t + 1) * (2 * p) := by rw [Nat.mul_left_comm]
      have two : ∀ x y, bd x (999 * t * 2 ^ (10 - N)) → bd y (999 * t * 2 ^ (10 - N)) → bd (x + y) (999 * (t + 1) * 2 ^ (10 - (N - 1))) := fun x y ⟨m, hm, ex⟩ ⟨n, hn, ey⟩ => ⟨m + n, by omega, by rw [ex, ey, nI_add]⟩
      have one : ∀ x, bd x (999 * t * 2 ^ (10 - N)) → bd x (999 * (t + 1) * 2 ^ (10 - (N - 1))) := fun x ⟨m, hm, ex⟩ => ⟨m, by omega, ex⟩
      constructor
      · unfold dD
        split
        · exact two _ _ (gd _ _ (by omega) (by omega)).1 (gd _ _ (by omega) (by omega)).1
        · split
          · exact two _ _ (gd _ _ (by omega) (by omega)).1 (gd _ _ (by omega) (by omega)).1
          · exact one _ (gd _ _ a1 a2).1
      · intro h
        have h' : N ≤ sk g k ∨ N ≤ sk g l ∨ sk g k = sk g l := by
          rcases h with h | h | h
          · rw [hi k h]; omega
          · rw [hi l h]; omega
          · rw [h]; omega
        rw [dD_c (by omega) (by omega)]
        exact (gd _ _ a1 a2).2 h'
/-! marry: the class's families -/
theorem c_absorb (X : Cx) (d : Nat) (σ : Mm) (A B : Nat) (hA : Fm σ A) (hB : Fm σ B) (hAB : A + 2 < B ∨ B + 2 < A) (Q : Po) (hQ : ∀ τ : Mm, Fr (fun c => c = A ∨ c = A + 1 ∨ c = A + 2) σ τ → gI τ A 0 = imn (nI 30) (gI σ A 0 + gI σ B 0) → gI τ A 1 = imn (nI 999) (gI σ A 1 + gI σ B 1) → gI τ A 2 = imn (nI 99) (gI σ A 2 + gI σ B 2) → gI τ A 3 = gI σ A 3 + gI σ B 3 → gI τ A 4 = gI σ A 4 + gI σ B 4 → gI τ A 5 = gI σ A 5 + gI σ B 5 → gI τ A 6 = gI σ A 6 ||| gI σ B 6 → (∀ k, k < 5 → gI τ (A + 1) k = imn (nI 99) (gI σ (A + 1) k + gI σ (B + 1) k)) → (∀ k, k < 10 → gI τ (A + 2) k = gI σ (A + 2) k + gI σ (B + 2) k) → Q none τ) : Call X (d + 1) 0 0 mX2_absorb [.ref A, .ref B] σ Q := by
  obtain ⟨a1, a2, a3, a4, a5⟩ := hA
  obtain ⟨b1, b2, b3, b4, b5⟩ := hB
  have fin : ∀ τ : Mm, Fr (fun c => c = A) σ τ → gI τ A 0 = imn (nI 30) (gI σ A 0 + gI σ B 0) → gI τ A 1 = imn (nI 999) (gI σ A 1 + gI σ B 1) → gI τ A 2 = imn (nI 99) (gI σ A 2 + gI σ B 2) → gI τ A 3 = gI σ A 3 + gI σ B 3 → gI τ A 4 = gI σ A 4 + gI σ B 4 → gI τ A 5 = gI σ A 5 + gI σ B 5 → gI τ A 6 = gI σ A 6 ||| gI σ B 6 → Wp X mX2_absorb (rmo (d + 1) 0 0) (d + 1) Q 0 0 109 [some (.ref A), some (.ref B), some (.int (nI 0))] [] τ := by
    intro τ F h0 h1 h2 h3 h4 h5 h6
    refine wfor (fun m => ∀ τ1 : Mm, Fr (fun c => c = A + 1) τ τ1 → (∀ k, k < 5 → gI τ1 (A + 1) k = if k < m then imn (nI 99) (gI σ (A + 1) k + gI σ (B + 1) k) else gI σ (A + 1) k) → Wp X mX2_absorb (rmo (d + 1) 0 0) (d + 1) Q 0 0 109 [some (.ref A), some (.ref B), some (.int (nI m))] [] τ1) 5 (fun m hm hP τ1 F1 g => ?_) (fun τ1 F1 g => ?_) τ Fr.rf (fun k hk => by rw [if_neg (by omega)]; exact F.2.2.1 (A + 1) (by omega) k)
    · have k1 : kd τ1 A = some (0, 2) := (F1.kd A).trans ((F.kd A).trans a1)
      have k2 : kd τ1 (A + 1) = some (1, 5) := (F1.kd _).trans ((F.kd _).trans a2)
      have k4 : gR τ1 A 7 = some (A + 1) := (F1.gR _ _).trans ((F.gR _ _).trans a4)
      have l1 : kd τ1 B = some (0, 2) := (F1.kd B).trans ((F.kd B).trans b1)
      have l2 : kd τ1 (B + 1) = some (1, 5) := (F1.kd _).trans ((F.kd _).trans b2)
      have l4 : gR τ1 B 7 = some (B + 1) := (F1.gR _ _).trans ((F.gR _ _).trans b4)
      have ga := g m hm
      rw [if_neg (by omega)] at ga
      have gb : gI τ1 (B + 1) m = gI σ (B + 1) m := (F1.2.2.1 _ (by omega) m).trans (F.2.2.1 _ (by omega) m)
      refine wp_blk kX2_absorb_109 ?_
      simp (disch := first | decide | omega) only [mxa, vxa, vxb, vxc, vnd, vne, Nat.reduceAdd, Nat.reduceSub, Nat.reduceLeDiff, Nat.reduceLT, Int32.reduceLT, Int32.reduceLE, Int32.reduceAdd, Int32.reduceSub, Int32.reduceMul, Int32.reduceToNatClampNeg, not_false_eq_true, not_true_eq_false, false_implies, true_implies, Nat.zero_add, reduceIte, Nat.reduceMul, Nat.reduceEqDiff, nxa, nxc, lgn, nL_of, swx, Int.reduceAdd, gI_a, gI_k, gL_a, gL_k, gI_r, gL_r, nI_and, nI_or, nI_xor, nI_ndf, nI_shl, nI_shr, ne_eq, and_true, true_and, eq_self, true_or, or_true, false_or, or_false, Option.toList, List.cons_append, List.nil_append, List.length_nil, List.length_cons, Nat.not_lt_zero, bX2_absorb_109, k1, k2, k4, l1, l2, l4, ga, gb, Nat.succ_pos, show ¬ 5 ≤ m by omega]
      refine hP _ (F1.tr (Fr.sI rfl)) (fun k hk => ?_)
      by_cases e : k = m
      · rw [e, gI_same, if_pos (by omega)]
      · rw [gI_k e, g k hk]
        by_cases z : k < m
        · rw [if_pos z, if_pos (by omega)]
        · rw [if_neg z, if_neg (by omega)]
    · refine wp_blk kX2_absorb_109 ?_
      simp (disch := first | decide | omega) only [mxa, vxa, vxb, vxc, vnd, vne, Nat.reduceAdd, Nat.reduceSub, Nat.reduceLeDiff, Nat.reduceLT, Int32.reduceLT, Int32.reduceLE, Int32.reduceAdd, Int32.reduceSub, Int32.reduceMul, Int32.reduceToNatClampNeg, not_false_eq_true, not_true_eq_false, false_implies, true_implies, Nat.zero_add, reduceIte, Nat.reduceMul, Nat.reduceEqDiff, nxa, nxc, lgn, nL_of, swx, Int.reduceAdd, gI_a, gI_k, gL_a, gL_k, gI_r, gL_r, nI_and, nI_or, nI_xor, nI_ndf, nI_shl, nI_shr, ne_eq, and_true, true_and, eq_self, true_or, or_true, false_or, or_false, Option.toList, List.cons_append, List.nil_append, List.length_nil, List.length_cons, Nat.not_lt_zero, bX2_absorb_109]
      refine wp_blk kX2_absorb_144 ?_
      simp (disch := first | decide | omega) only [mxa, vxa, vxb, vxc, vnd, vne, Nat.reduceAdd, Nat.reduceSub, Nat.reduceLeDiff, Nat.reduceLT, Int32.reduceLT, Int32.reduceLE, Int32.reduceAdd, Int32.reduceSub, Int32.reduceMul, Int32.reduceToNatClampNeg, not_false_eq_true, not_true_eq_false, false_implies, true_implies, Nat.zero_add, reduceIte, Nat.reduceMul, Nat.reduceEqDiff, nxa, nxc, lgn, nL_of, swx, Int.reduceAdd, gI_a, gI_k, gL_a, gL_k, gI_r, gL_r, nI_and, nI_or, nI_xor, nI_ndf, nI_shl, nI_shr, ne_eq, and_true, true_and, eq_self, true_or, or_true, false_or, or_false, Option.toList, List.cons_append, List.nil_append, List.length_nil, List.length_cons, Nat.not_lt_zero, bX2_absorb_144]
      have FF : Fr (fun c => c = A ∨ c = A + 1) σ τ1 := (F.mono (fun c q => Or.inl q)).tr (F1.mono (fun c q => Or.inr q))
      refine wfor (fun m => ∀ τ2 : Mm, Fr (fun c => c = A + 2) τ1 τ2 → (∀ k, k < 10 → gI τ2 (A + 2) k = if k < m then gI σ (A + 2) k + gI σ (B + 2) k else gI σ (A + 2) k) → Wp X mX2_absorb (rmo (d + 1) 0 0) (d + 1) Q 0 0 146 [some (.ref A), some (.ref B), some (.int (nI m))] [] τ2) 10 (fun m hm hP τ2 F2 g' => ?_) (fun τ2 F2 g' => ?_) τ1 Fr.rf (fun k hk => by rw [if_neg (by omega)]; exact FF.2.2.1 (A + 2) (by omega) k)
      · have k1 : kd τ2 A = some (0, 2) := (F2.kd A).trans ((FF.kd A).trans a1)
        have k2 : kd τ2 (A + 2) = some (1, 10) := (F2.kd _).trans ((FF.kd _).trans a3)
        have k4 : gR τ2 A 8 = some (A + 2) := (F2.gR _ _).trans ((FF.gR _ _).trans a5)
        have l1 : kd τ2 B = some (0, 2) := (F2.kd B).trans ((FF.kd B).trans b1)
        have l2 : kd τ2 (B + 2) = some (1, 10) := (F2.kd _).trans ((FF.kd _).trans b3)
        have l4 : gR τ2 B 8 = some (B + 2) := (F2.gR _ _).trans ((FF.gR _ _).trans b5)
        have ga := g' m hm
        rw [if_neg (by omega)] at ga
        have gb : gI τ2 (B + 2) m = gI σ (B + 2) m := (F2.2.2.1 _ (by omega) m).trans (FF.2.2.1 _ (by omega) m)
        refine wp_blk kX2_absorb_146 ?_
        simp (disch := first | decide | omega) only [mxa, vxa, vxb, vxc, vnd, vne, Nat.reduceAdd, Nat.reduceSub, Nat.reduceLeDiff, Nat.reduceLT, Int32.reduceLT, Int32.reduceLE, Int32.reduceAdd, Int32.reduceSub, Int32.reduceMul, Int32.reduceToNatClampNeg, not_false_eq_true, not_true_eq_false, false_implies, true_implies, Nat.zero_add, reduceIte, Nat.reduceMul, Nat.reduceEqDiff, nxa, nxc, lgn, nL_of, swx, Int.reduceAdd, gI_a, gI_k, gL_a, gL_k, gI_r, gL_r, nI_and, nI_or, nI_xor, nI_ndf, nI_shl, nI_shr, ne_eq, and_true, true_and, eq_self, true_or, or_true, false_or, or_false, Option.toList, List.cons_append, List.nil_append, List.length_nil, List.length_cons, Nat.not_lt_zero, bX2_absorb_146, k1, k2, k4, l1, l2, l4, ga, gb, show ¬ 10 ≤ m by omega]
        refine hP _ (F2.tr (Fr.sI rfl)) (fun k hk => ?_)
        by_cases e : k = m
        · rw [e, gI_same, if_pos (by omega)]
        · rw [gI_k e, g' k hk]
          by_cases z : k < m
          · rw [if_pos z, if_pos (by omega)]
          · rw [if_neg z, if_neg (by omega)]
      · have keep : ∀ j, gI τ2 A j = gI τ A j := fun j => (F2.2.2.1 A (by omega) j).trans (F1.2.2.1 A (by omega) j)
        have q := hQ τ2 ((FF.mono (fun c q => by omega)).tr (F2.mono (fun c q => by omega))) ((keep 0).trans h0) ((keep 1).trans h1) ((keep 2).trans h2) ((keep 3).trans h3) ((keep 4).trans h4) ((keep 5).trans h5) ((keep 6).trans h6) (fun k hk => by rw [F2.2.2.1 _ (by omega), g k hk, if_pos hk]) (fun k hk => by rw [g' k hk, if_pos hk])
        refine wp_blk kX2_absorb_146 ?_
        simp (disch := first | decide | omega) only [mxa, vxa, vxb, vxc, vnd, vne, Nat.reduceAdd, Nat.reduceSub, Nat.reduceLeDiff, Nat.reduceLT, Int32.reduceLT, Int32.reduceLE, Int32.reduceAdd, Int32.reduceSub, Int32.reduceMul, Int32.reduceToNatClampNeg, not_false_eq_true, not_true_eq_false, false_implies, true_implies, Nat.zero_add, reduceIte, Nat.reduceMul, Nat.reduceEqDiff, nxa, nxc, lgn, nL_of, swx, Int.reduceAdd, gI_a, gI_k, gL_a, gL_k, gI_r, gL_r, nI_and, nI_or, nI_xor, nI_ndf, nI_shl, nI_shr, ne_eq, and_true, true_and, eq_self, true_or, or_true, false_or, or_false, Option.toList, List.cons_append, List.nil_append, List.length_nil, List.length_cons, Nat.not_lt_zero, bX2_absorb_146]
        refine wp_blk kX2_absorb_173 ?_
        simp (disch := first | decide | omega) only [mxa, vxa, vxb, vxc, vnd, vne, Nat.reduceAdd, Nat.reduceSub, Nat.reduceLeDiff, Nat.reduceLT, Int32.reduceLT, Int32.reduceLE, Int32.reduceAdd, Int32.reduceSub, Int32.reduceMul, Int32.reduceToNatClampNeg, not_false_eq_true, not_true_eq_false, false_implies, true_implies, Nat.zero_add, reduceIte, Nat.reduceMul, Nat.reduceEqDiff, nxa, nxc, lgn, nL_of, swx, Int.reduceAdd, gI_a, gI_k, gL_a, gL_k, gI_r, gL_r, nI_and, nI_or, nI_xor, nI_ndf, nI_shl, nI_shr, ne_eq, and_true, true_and, eq_self, true_or, or_true, false_or, or_false, Option.toList, List.cons_append, List.nil_append, List.length_nil, List.length_cons, Nat.not_lt_zero, bX2_absorb_173]
        exact q
  refine call_of eX2_absorb rfl ?_
  refine wp_blk kX2_absorb_0 ?_
  simp (disch := first | decide | omega) only [mxa, vxa, vxb, vxc, vnd, vne, Nat.reduceAdd, Nat.reduceSub, Nat.reduceLeDiff, Nat.reduceLT, Int32.reduceLT, Int32.reduceLE, Int32.reduceAdd, Int32.reduceSub, Int32.reduceMul, Int32.reduceToNatClampNeg, not_false_eq_true, not_true_eq_false, false_implies, true_implies, Nat.zero_add, reduceIte, Nat.reduceMul, Nat.reduceEqDiff, nxa, nxc, lgn, nL_of, swx, Int.reduceAdd, gI_a, gI_k, gL_a, gL_k, gI_r, gL_r, nI_and, nI_or, nI_xor, nI_ndf, nI_shl, nI_shr, ne_eq, and_true, true_and, eq_self, true_or, or_true, false_or, or_false, Option.toList, List.cons_append, List.nil_append, List.length_nil, List.length_cons, Nat.not_lt_zero, bX2_absorb_0, a1, b1, Nat.succ_pos]
  refine fin _ (((((((Fr.sI (S := fun c => c = A) rfl).tr (Fr.sI rfl)).tr (Fr.sI rfl)).tr (Fr.sI rfl)).tr (Fr.sI rfl)).tr (Fr.sI rfl)).tr (Fr.sI rfl)) ?_ ?_ ?_ ?_ ?_ ?_ ?_ <;> simp (disch := first | decide | omega) only [mxa, vxa, vxb, vxc, vnd, vne, Nat.reduceAdd, Nat.reduceSub, Nat.reduceLeDiff, Nat.reduceLT, Int32.reduceLT, Int32.reduceLE, Int32.reduceAdd, Int32.reduceSub, Int32.reduceMul, Int32.reduceToNatClampNeg, not_false_eq_true, not_true_eq_false, false_implies, true_implies, Nat.zero_add, reduceIte, Nat.reduceMul, Nat.reduceEqDiff, nxa, nxc, lgn, nL_of, swx, Int.reduceAdd, gI_a, gI_k, gL_a, gL_k, gI_r, gL_r, nI_and, nI_or, nI_xor, nI_ndf, nI_shl, nI_shr, ne_eq, and_true, true_and, eq_self, true_or, or_true, false_or, or_false, Option.toList, List.cons_append, List.nil_append, List.length_nil, List.length_cons, Nat.not_lt_zero]
/-- foes after a marriage -/
def tq (q f g : Nat) : Nat := ((q ||| (q / 2 ^ g &&& 1) * 2 ^ f) &&& (1 * 2 ^ g - 1)) ||| (q ||| (q / 2 ^ g &&& 1) * 2 ^ f) / 2 ^ (g + 1) * 2 ^ g
theorem tq_bit {q f g l : Nat} (hf : f < g) : (tq q f g).testBit l = (q.testBit (sk g l) || (decide (l = f) && q.testBit g)) := by
  have mb : ∀ i, (q ||| (q / 2 ^ g &&& 1) * 2 ^ f).testBit i = (q.testBit i || (decide (i = f) && q.testBit g)) := fun i => by
    rw [Nat.testBit_or, and_one_bit]
    congr 1
    cases hb : q.testBit g
    · simp
    · simp only [if_true, Nat.one_mul, Nat.testBit_two_pow, Bool.and_true]
      by_cases e : f = i
      · subst e; simp
      · simp [e, Ne.symm e]
  unfold tq
  generalize q ||| (q / 2 ^ g &&& 1) * 2 ^ f = m at mb
  rw [Nat.testBit_or, Nat.testBit_and, Nat.one_mul, Nat.testBit_two_pow_sub_one, Nat.testBit_mul_two_pow, Nat.testBit_div_two_pow]
  unfold sk
  by_cases h : l < g
  · rw [if_pos h, mb]
    simp [h, show ¬ g ≤ l by omega]
  · rw [if_neg h, show l - g + (g + 1) = l + 1 by omega, mb]
    simp [h, show g ≤ l by omega, show ¬ l + 1 = f by omega, show ¬ l = f by omega]
    rw [mb]
    simp [show ¬ l + 1 = f by omega]
theorem tq_lt {q f g : Nat} (hq : q < 1024) (hf : f < g) (hg : g < 10) : tq q f g < 1024 := by
  refine Nat.lt_pow_two_of_testBit (n := 10) _ (fun i hi => ?_)
  rw [tq_bit hf]
  have : q.testBit (sk g i) = false := Nat.testBit_lt_two_pow (Nat.lt_of_lt_of_le hq (Nat.pow_le_pow_right (n := 2) (by omega) (show 10 ≤ sk g i by unfold sk; split <;> omega)))
  rw [this]
  simp; omega
def tE (f g : Nat) (E : Nat → Int32) (l : Nat) : Int32 := if l = 9 then 0 else if sk g l = f then E f + E g else E (sk g l)
theorem c_turnTo (X : Cx) (d : Nat) (σ : Mm) (A f g q : Nat) (hA : Fm σ A) (hf : f < g) (hg : g < 10) (hq : gI σ A 6 = nI q) (q10 : q < 1024) (Q : Po) (hQ : ∀ τ : Mm, Fr (fun c => c = A ∨ c = A + 2) σ τ → (∀ j, j ≠ 6 → gI τ A j = gI σ A j) → gI τ A 6 = nI (tq q f g) → (∀ l, l < 10 → gI τ (A + 2) l = tE f g (gI σ (A + 2)) l) → Q none τ) : Call X d 0 0 mX2_turnTo [.ref A, .int (nI f), .int (nI g)] σ Q := by
  obtain ⟨a1, a2, a3, a4, a5⟩ := hA
  have pf : 2 ^ f ≤ 2 ^ 9 := Nat.pow_le_pow_right (by omega) (by omega)
  have pg : 2 ^ g ≤ 2 ^ 9 := Nat.pow_le_pow_right (by omega) (by omega)
  have pg1 : 1 ≤ 2 ^ g := Nat.one_le_two_pow
  have ml : q ||| (q / 2 ^ g &&& 1) * 2 ^ f < 1024 := by
    refine Nat.or_lt_two_pow (n := 10) q10 ?_
    have : q / 2 ^ g &&& 1 ≤ 1 := Nat.and_le_right
    have := Nat.mul_le_mul_right (2 ^ f) this
    omega
  refine call_of eX2_turnTo rfl ?_
  refine wp_blk kX2_turnTo_0 ?_
  simp (disch := first | decide | omega) only [mxa, vxa, vxb, vxc, vnd, vne, Nat.reduceAdd, Nat.reduceSub, Nat.reduceLeDiff, Nat.reduceLT, Int32.reduceLT, Int32.reduceLE, Int32.reduceAdd, Int32.reduceSub, Int32.reduceMul, Int32.reduceToNatClampNeg, not_false_eq_true, not_true_eq_false, false_implies, true_implies, Nat.zero_add, reduceIte, Nat.reduceMul, Nat.reduceEqDiff, nxa, nxc, lgn, nL_of, swx, Int.reduceAdd, gI_a, gI_k, gL_a, gL_k, gI_r, gL_r, nI_and, nI_or, nI_xor, nI_ndf, nI_shl, nI_shr, ne_eq, and_true, true_and, eq_self, true_or, or_true, false_or, or_false, Option.toList, List.cons_append, List.nil_append, List.length_nil, List.length_cons, Nat.not_lt_zero, bX2_turnTo_0, a1, a3, a5]
  refine wfor (fun m => ∀ τ : Mm, Fr (fun c => c = A + 2) σ τ → (∀ l, l < 10 → gI τ (A + 2) l = if g ≤ l ∧ l < g + m then gI σ (A + 2) (l + 1) else if l = f then gI σ (A + 2) f + gI σ (A + 2) g else gI σ (A + 2) l) → Wp X mX2_turnTo (rmo d 0 0) d Q 0 0 17 [some (.ref A), some (.int (nI f)), some (.int (nI g)), some (.int (nI (g + m))), none] [] τ) (9 - g) (fun m hm hP τ F h => ?_) (fun τ F h => ?_) _ (Fr.sI rfl) (fun l hl => ?_)
  · have k1 : kd τ A = some (0, 2) := (F.kd A).trans a1
    have k2 : kd τ (A + 2) = some (1, 10) := (F.kd _).trans a3
    have k4 : gR τ A 8 = some (A + 2) := (F.gR _ _).trans a5
    have v := h (g + m + 1) (by omega)
    rw [if_neg (by omega), if_neg (by omega)] at v
    refine wp_blk kX2_turnTo_17 ?_
    simp (disch := first | decide | omega) only [mxa, vxa, vxb, vxc, vnd, vne, Nat.reduceAdd, Nat.reduceSub, Nat.reduceLeDiff, Nat.reduceLT, Int32.reduceLT, Int32.reduceLE, Int32.reduceAdd, Int32.reduceSub, Int32.reduceMul, Int32.reduceToNatClampNeg, not_false_eq_true, not_true_eq_false, false_implies, true_implies, Nat.zero_add, reduceIte, Nat.reduceMul, Nat.reduceEqDiff, nxa, nxc, lgn, nL_of, swx, Int.reduceAdd, gI_a, gI_k, gL_a, gL_k, gI_r, gL_r, nI_and, nI_or, nI_xor, nI_ndf, nI_shl, nI_shr, ne_eq, and_true, true_and, eq_self, true_or, or_true, false_or, or_false, Option.toList, List.cons_append, List.nil_append, List.length_nil, List.length_cons, Nat.not_lt_zero, bX2_turnTo_17, k1, k2, k4, v, show ¬ 9 ≤ g + m by omega]
    refine hP _ (F.tr (Fr.sI rfl)) (fun l hl => ?_)
    by_cases e : l = g + m
    · rw [e, gI_same, if_pos (by omega)]
    · rw [gI_k e, h l hl]
      by_cases z : g ≤ l ∧ l < g + m
      · rw [if_pos z, if_pos (show g ≤ l ∧ l < g + (m + 1) by omega)]
      · rw [if_neg z, if_neg (show ¬ (g ≤ l ∧ l < g + (m + 1)) by omega)]
  · have k1 : kd τ A = some (0, 2) := (F.kd A).trans a1
    have k2 : kd τ (A + 2) = some (1, 10) := (F.kd _).trans a3
    have k4 : gR τ A 8 = some (A + 2) := (F.gR _ _).trans a5
    have q6 : gI τ A 6 = nI q := (F.2.2.1 A (by omega) 6).trans hq
    refine wp_blk kX2_turnTo_17 ?_
    simp (disch := first | decide | omega) only [mxa, vxa, vxb, vxc, vnd, vne, Nat.reduceAdd, Nat.reduceSub, Nat.reduceLeDiff, Nat.reduceLT, Int32.reduceLT, Int32.reduceLE, Int32.reduceAdd, Int32.reduceSub, Int32.reduceMul, Int32.reduceToNatClampNeg, not_false_eq_true, not_true_eq_false, false_implies, true_implies, Nat.zero_add, reduceIte, Nat.reduceMul, Nat.reduceEqDiff, nxa, nxc, lgn, nL_of, swx, Int.reduceAdd, gI_a, gI_k, gL_a, gL_k, gI_r, gL_r, nI_and, nI_or, nI_xor, nI_ndf, nI_shl, nI_shr, ne_eq, and_true, true_and, eq_self, true_or, or_true, false_or, or_false, Option.toList, List.cons_append, List.nil_append, List.length_nil, List.length_cons, Nat.not_lt_zero, bX2_turnTo_17, show 9 ≤ g + (9 - g) by omega]
    refine wp_blk kX2_turnTo_43 ?_
    simp (disch := first | decide | omega) only [mxa, vxa, vxb, vxc, vnd, vne, Nat.reduceAdd, Nat.reduceSub, Nat.reduceLeDiff, Nat.reduceLT, Int32.reduceLT, Int32.reduceLE, Int32.reduceAdd, Int32.reduceSub, Int32.reduceMul, Int32.reduceToNatClampNeg, not_false_eq_true, not_true_eq_false, false_implies, true_implies, Nat.zero_add, reduceIte, Nat.reduceMul, Nat.reduceEqDiff, nxa, nxc, lgn, nL_of, swx, Int.reduceAdd, gI_a, gI_k, gL_a, gL_k, gI_r, gL_r, nI_and, nI_or, nI_xor, nI_ndf, nI_shl, nI_shr, ne_eq, and_true, true_and, eq_self, true_or, or_true, false_or, or_false, Option.toList, List.cons_append, List.nil_append, List.length_nil, List.length_cons, Nat.not_lt_zero, bX2_turnTo_43, k1, k2, k4, q6, nI_dec1 (show 0 < 1 * 2 ^ g by omega)]
    refine hQ _ (((F.mono (fun c q => Or.inr q)).tr (Fr.sI (Or.inr rfl))).tr (Fr.sI (Or.inl rfl))) (fun j hj => ?_) (gI_same _ _ _ _) (fun l hl => ?_)
    · rw [gI_k hj, gI_a (by omega)]
      exact F.2.2.1 A (by omega) j
    · rw [gI_a (by omega)]
      unfold tE
      by_cases e : l = 9
      · rw [if_pos e, e, gI_same]; rfl
      · rw [gI_k e, if_neg e, h l hl]
        unfold sk
        by_cases z : l < g
        · rw [if_neg (by omega), if_pos z]
        · rw [if_pos (by omega), if_neg z, if_neg (by omega)]
  · rw [if_neg (by omega)]
    by_cases e : l = f
    · rw [e, gI_same, if_pos rfl]
    · rw [gI_k e, if_neg e]
