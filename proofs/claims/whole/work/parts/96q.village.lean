/-! village: what a line leaves -/
set_option maxRecDepth 20000
theorem optN_b {n b k lo H v x b' : Nat} {B : Nat → Nat} (h : optN n B b k lo H v = .inr (x, b')) : x < H ∨ x = v := by
  classical
  by_cases c : tK n B b = k
  · by_cases o : okNum n B (tD n B b) lo H
    · rw [optN_y c o] at h
      cases h
      exact Or.inl o.2.2
    · rw [optN_f c o] at h; cases h
  · rw [optN_n c] at h
    cases h
    exact Or.inr rfl
theorem brS_ok {n K b0 : Nat} {B : Nat → Nat} : ∀ f a b m b', brS n B K f a b = .inr (m, b') → b = itE n B a b0 → a ≤ K → (∀ i, i < a → vN n B (itE n B i b0) ≤ 99) → m ≤ K ∧ ∀ i, i < m → vN n B (itE n B i b0) ≤ 99
  | 0, a, b, m, b', h, _, _, _ => by cases h
  | f + 1, a, b, m, b', h, hb, ha, hv => by
    classical
    by_cases z : a ≠ 0 ∧ tK n B b ≠ 9
    · rw [brS_e z] at h; cases h; exact ⟨ha, hv⟩
    · by_cases o : okNum n B b 0 100
      · by_cases e : a = K
        · rw [brS_k z o e] at h; cases h
        · rw [brS_y z o e] at h
          refine brS_ok f (a + 1) _ m b' h (by rw [itE_s, hb]) (by omega) (fun i hi => ?_)
          by_cases y : i = a
          · rw [y, ← hb]; have := o.2.2; omega
          · exact hv i (by omega)
      · rw [brS_n z o] at h; cases h
theorem st_FV {n N O K b b' : Nat} {B : Nat → Nat} {W W' : Nat → Int32} (hF : FV W N O K) (h : stS n B W N O K b = .inr (W', b')) : ∃ N' O' K', FV W' N' O' K' := by
  classical
  obtain ⟨⟨⟨g0, gN⟩, ⟨g1, gO⟩, g3, g4, g2, gz, -⟩, -⟩ := id hF
  unfold stS at h
  by_cases k0 : tK n B b = 0
  · rw [if_pos k0] at h
    unfold famS at h
    by_cases c : N = 10
    · rw [if_pos c] at h; cases h
    · rw [if_neg c] at h
      by_cases o : okNum n B (tD n B b) 0 31
      · rw [if_pos o] at h
        cases h1 : optN n B (tD n B (tD n B b)) 1 0 1000 50 with
        | inl e => rw [h1] at h; cases h
        | inr x =>
          obtain ⟨fl, b4⟩ := x
          rw [h1] at h
          have m1 := optN_b h1
          cases h2 : optB n B K b4 with
          | inl e => simp only [h2] at h; cases h
          | inr x =>
            obtain ⟨m, b6⟩ := x
            simp only [h2] at h
            have m2 : m ≤ K ∧ ∀ i, i < m → vN n B (itE n B i (tD n B b4)) ≤ 99 := by
              unfold optB at h2
              by_cases c2 : tK n B b4 = 2
              · rw [if_pos c2] at h2
                exact brS_ok 7 0 _ m b6 h2 rfl (by omega) (fun i hi => absurd hi (by omega))
              · rw [if_neg c2] at h2
                cases h2
                exact ⟨by omega, fun i hi => absurd hi (by omega)⟩
            cases h3 : optN n B b6 3 0 100 0 with
            | inl e => simp only [h3] at h; cases h
            | inr x =>
              obtain ⟨w, b8⟩ := x
              simp only [h3] at h
              have m3 := optN_b h3
              cases h
              exact ⟨N + 1, O, K, fam_FV hF (by omega) (by have := o.2.2; omega) (by omega) (by omega) m2.1 m2.2⟩
      · rw [if_neg o] at h; cases h
  · rw [if_neg k0] at h
    by_cases k4 : tK n B b = 4
    · rw [if_pos k4] at h
      unfold ovS at h
      by_cases c : O = 3
      · rw [if_pos c] at h; cases h
      · rw [if_neg c] at h
        by_cases o : okNum n B (tD n B b) 1 61
        · rw [if_pos o] at h
          cases h
          refine ⟨N, O + 1, K, hF.mid (fun i hi => by rw [upd_n (by omega), upd_n (by omega)]) (by rw [upd_n (by omega), upd_n (by omega)]) ⟨upd_s _ _ _, by omega⟩ (by rw [upd_n (by omega), upd_n (by omega)]; exact g3) (by rw [upd_n (by omega), upd_n (by omega)]; exact g4) (by rw [upd_n (by omega), upd_n (by omega)]; exact g2) (fun z hz => ?_) (Or.inl (Nat.le_refl _))⟩
          rw [upd_n (by omega)]
          by_cases y : z = O
          · rw [y, upd_s]; exact ⟨_, o.2.1, by have := o.2.2; omega, rfl⟩
          · rw [upd_n (by omega)]; exact gz z (by omega)
        · rw [if_neg o] at h; cases h
    · rw [if_neg k4] at h
      by_cases k5 : tK n B b = 5
      · rw [if_pos k5] at h
        unfold quS at h
        by_cases o : okNum n B (tD n B b) 0 N
        · rw [if_pos o] at h
          by_cases s : tK n B (tD n B (tD n B b)) = 9 ∧ vN n B (tD n B (tD n B b)) = vN n B (tD n B b)
          · rw [if_pos s] at h; cases h
          · rw [if_neg s] at h
            by_cases o2 : okNum n B (tD n B (tD n B b)) 0 N
            · rw [if_pos o2] at h
              cases h
              exact ⟨N, O, K, hF.foe o.2.2 o2.2.2 (fun z => s ⟨o2.1, z.symm⟩)⟩
            · rw [if_neg o2] at h; cases h
        · rw [if_neg o] at h; cases h
      · rw [if_neg k5] at h
        by_cases k6 : tK n B b = 6
        · rw [if_pos k6] at h
          unfold keS at h
          by_cases c : N = 0
          · rw [if_pos c] at h
            by_cases o : okNum n B (tD n B b) 1 6
            · rw [if_pos o] at h
              cases h
              refine ⟨N, O, _, hF.mid (fun i hi => by rw [upd_n (by omega)]) (by rw [upd_n (by omega)]) (by rw [upd_n (by omega)]; exact ⟨g1, gO⟩) ⟨upd_s _ _ _, o.2.1, by have := o.2.2; omega⟩ (by rw [upd_n (by omega)]; exact g4) (by rw [upd_n (by omega)]; exact g2) (fun z hz => ?_) (Or.inr c)⟩
              rw [upd_n (by omega)]; exact gz z hz
            · rw [if_neg o] at h; cases h
          · rw [if_neg c] at h; cases h
        · rw [if_neg k6] at h
          by_cases k7 : tK n B b = 7
          · rw [if_pos k7] at h
            unfold fuS at h
            by_cases o : okNum n B (tD n B b) 0 1000
            · rw [if_pos o] at h
              cases h
              refine ⟨N, O, K, hF.mid (fun i hi => by rw [upd_n (by omega)]) (by rw [upd_n (by omega)]) (by rw [upd_n (by omega)]; exact ⟨g1, gO⟩) (by rw [upd_n (by omega)]; exact g3) (by rw [upd_s]; exact ⟨_, by have := o.2.2; omega, rfl⟩) (by rw [upd_n (by omega)]; exact g2) (fun z hz => ?_) (Or.inl (Nat.le_refl _))⟩
              rw [upd_n (by omega)]; exact gz z hz
            · rw [if_neg o] at h; cases h
          · rw [if_neg k7] at h; cases h
theorem c_plainV (X : Cx) (d : Nat) (σ : Mm) (hs : Sh σ) (Q : Po) (hQ : ∀ R : Nat → Int32, (∀ i, i < 319 → R i = plV i) → Q none (rI σ 194 R)) : Call X d 0 0 mX10_plain [.ref 194] σ Q := by
  have go := wfor (fun m => ∀ R : Nat → Int32, (∀ i, i < m → R i = nI 0) → Wp X mX10_plain (rmo d 0 0) d Q 0 0 2 [some (.ref 194), some (.int (nI m))] [] (rI σ 194 R)) 319 (fun m hm hP R h => by
    refine wp_blk kX10_plain_2 ?_
    simp (disch := first | decide | omega) only [mxa, vxa, vxb, vxc, vnd, vne, Nat.reduceAdd, Nat.reduceSub, Nat.reduceLeDiff, Nat.reduceLT, Int32.reduceLT, Int32.reduceLE, Int32.reduceAdd, Int32.reduceSub, Int32.reduceMul, Int32.reduceToNatClampNeg, not_false_eq_true, not_true_eq_false, false_implies, true_implies, Nat.zero_add, reduceIte, Nat.reduceMul, Nat.reduceEqDiff, nxa, nxc, lgn, nL_of, swx, Int.reduceAdd, gI_a, gI_k, gL_a, gL_k, gI_r, gL_r, nI_and, nI_or, nI_xor, nI_ndf, nI_shl, nI_shr, ne_eq, and_true, true_and, eq_self, true_or, or_true, false_or, or_false, Option.toList, List.cons_append, List.nil_append, List.length_nil, List.length_cons, Nat.not_lt_zero, bX10_plain_2, kdx hs, sI_rI, show ¬ 319 ≤ m by omega]
    refine hP _ (fun i hi => ?_)
    by_cases e : i = m
    · rw [e, upd_s]
    · rw [upd_n e]; exact h i (by omega)) (fun R h => by
    refine wp_blk kX10_plain_2 ?_
    simp (disch := first | decide | omega) only [mxa, vxa, vxb, vxc, vnd, vne, Nat.reduceAdd, Nat.reduceSub, Nat.reduceLeDiff, Nat.reduceLT, Int32.reduceLT, Int32.reduceLE, Int32.reduceAdd, Int32.reduceSub, Int32.reduceMul, Int32.reduceToNatClampNeg, not_false_eq_true, not_true_eq_false, false_implies, true_implies, Nat.zero_add, reduceIte, Nat.reduceMul, Nat.reduceEqDiff, nxa, nxc, lgn, nL_of, swx, Int.reduceAdd, gI_a, gI_k, gL_a, gL_k, gI_r, gL_r, nI_and, nI_or, nI_xor, nI_ndf, nI_shl, nI_shr, ne_eq, and_true, true_and, eq_self, true_or, or_true, false_or, or_false, Option.toList, List.cons_append, List.nil_append, List.length_nil, List.length_cons, Nat.not_lt_zero, bX10_plain_2]
    refine wp_blk kX10_plain_19 ?_
    simp (disch := first | decide | omega) only [mxa, vxa, vxb, vxc, vnd, vne, Nat.reduceAdd, Nat.reduceSub, Nat.reduceLeDiff, Nat.reduceLT, Int32.reduceLT, Int32.reduceLE, Int32.reduceAdd, Int32.reduceSub, Int32.reduceMul, Int32.reduceToNatClampNeg, not_false_eq_true, not_true_eq_false, false_implies, true_implies, Nat.zero_add, reduceIte, Nat.reduceMul, Nat.reduceEqDiff, nxa, nxc, lgn, nL_of, swx, Int.reduceAdd, gI_a, gI_k, gL_a, gL_k, gI_r, gL_r, nI_and, nI_or, nI_xor, nI_ndf, nI_shl, nI_shr, ne_eq, and_true, true_and, eq_self, true_or, or_true, false_or, or_false, Option.toList, List.cons_append, List.nil_append, List.length_nil, List.length_cons, Nat.not_lt_zero, bX10_plain_19, kdx hs, sI_rI]
    refine hQ _ (fun i hi => ?_)
    unfold plV
    by_cases e4 : i = 4
    · rw [e4, upd_s]; rfl
    · rw [upd_n e4]
      by_cases e3 : i = 3
      · rw [e3, upd_s]; rfl
      · rw [upd_n e3, if_neg e3, if_neg e4]; exact h i hi)
  have := go (gI σ 194) (fun i hi => absurd hi (by omega))
  rw [rI_self] at this
  refine call_of eX10_plain rfl ?_
  refine wp_blk kX10_plain_0 ?_
  simp (disch := first | decide | omega) only [mxa, vxa, vxb, vxc, vnd, vne, Nat.reduceAdd, Nat.reduceSub, Nat.reduceLeDiff, Nat.reduceLT, Int32.reduceLT, Int32.reduceLE, Int32.reduceAdd, Int32.reduceSub, Int32.reduceMul, Int32.reduceToNatClampNeg, not_false_eq_true, not_true_eq_false, false_implies, true_implies, Nat.zero_add, reduceIte, Nat.reduceMul, Nat.reduceEqDiff, nxa, nxc, lgn, nL_of, swx, Int.reduceAdd, gI_a, gI_k, gL_a, gL_k, gI_r, gL_r, nI_and, nI_or, nI_xor, nI_ndf, nI_shl, nI_shr, ne_eq, and_true, true_and, eq_self, true_or, or_true, false_or, or_false, Option.toList, List.cons_append, List.nil_append, List.length_nil, List.length_cons, Nat.not_lt_zero, bX10_plain_0]
  exact this
