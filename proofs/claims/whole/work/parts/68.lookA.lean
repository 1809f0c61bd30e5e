/-! days ahead: the class -/
set_option maxRecDepth 20000
theorem mor {σ : Mm} (hs : Sh σ) (hr : Rf σ) {j : Nat} (h : j < 8) : gR σ 165 j = some (166 + 3 * j) ∧ Fm σ (166 + 3 * j) := by
  refine ⟨?_, Fm_of hs hr ?_⟩
  · rcases (by omega : j = 0 ∨ j = 1 ∨ j = 2 ∨ j = 3 ∨ j = 4 ∨ j = 5 ∨ j = 6 ∨ j = 7) with rfl | rfl | rfl | rfl | rfl | rfl | rfl | rfl <;> simp only [grx hr, Nat.reduceAdd, Nat.reduceMul]
  · simp only [isFam, Bool.or_eq_true, Bool.and_eq_true, decide_eq_true_eq]
    omega
/-- the family at c has these loaves and eats e -/
def mB (σ : Mm) (e : Nat) (B : Nat → Nat) (c : Nat) : Prop := gI σ c 0 = nI e ∧ ∀ a, a < 5 → gI σ (c + 1) a = nI (B a)
theorem c_score (X : Cx) (d : Nat) (σ : Mm) (k f b K e z M : Nat) (B : Nat → Nat) (hs : Sh σ) (hr : Rf σ) (hk : k < 7) (hf : f < 3) (hK1 : 1 ≤ K) (hK5 : K ≤ 5) (hz : z ≤ 60) (he : e ≤ 300) (hM : M ≤ 100000000) (hb : b ≤ 1) (f4 : gI σ 162 4 = nI K) (f5 : gI σ 162 5 = nI z) (f6 : gI σ 162 6 = nI b) (hB : mB σ e B (166 + 3 * k)) (hBM : ∀ a, a < 5 → B a ≤ M) (hB0 : ∀ a, K ≤ a → a < 5 → B a = 0) (Q : Po) (hQ : ∀ σ' : Mm, Fr (fun c => 169 + 3 * k ≤ c ∧ c ≤ 171 + 3 * k) σ σ' → mB σ' e (ageF K (dyL K e z B f).1) (169 + 3 * k) → Q (some (.long (nL ((dyL K e z B f).2 * 2 ^ 40 + b * ((dyL K e z B f).1 (K - 1) * 2 ^ 4) + f)))) σ') : Call X (d + 2) 0 0 mX4_scoreOfDay [.ref 162, .int (nI k), .int (nI f)] σ Q := by
  obtain ⟨m1, a1, a2, a3, a4, a5⟩ := mor hs hr (show k < 8 by omega)
  obtain ⟨n1, n2⟩ := mor hs hr (show k + 1 < 8 by omega)
  rw [show 166 + 3 * (k + 1) = 169 + 3 * k by omega] at n1 n2
  obtain ⟨b1, b2, b3, b4, b5⟩ := id n2
  have hm : f * z ≤ 2 * 60 := Nat.mul_le_mul (by omega) hz
  obtain ⟨q1, q2, q3⟩ := dy_bd (e := e) hK1 hK5 hz hBM f hf
  have e5 : eatF 5 (updN B 0 (B 0 + f * z)) e = dyL K e z B f := eatF_ext _ _ _ 5 hK5 (fun a h1 h2 => by
    unfold updN
    rw [if_neg (by omega)]
    exact hB0 a h1 h2)
  have h0 := hB.2 0 (by omega)
  refine call_of eX4_scoreOfDay rfl ?_
  refine wp_blk kX4_scoreOfDay_0 ?_
  simp (disch := first | decide | omega) only [mxa, vxa, vxb, vxc, vnd, vne, Nat.reduceAdd, Nat.reduceSub, Nat.reduceLeDiff, Nat.reduceLT, Int32.reduceLT, Int32.reduceLE, Int32.reduceAdd, Int32.reduceSub, Int32.reduceMul, Int32.reduceToNatClampNeg, not_false_eq_true, not_true_eq_false, false_implies, true_implies, Nat.zero_add, reduceIte, Nat.reduceMul, Nat.reduceEqDiff, nxa, nxc, lgn, nL_of, swx, Int.reduceAdd, gI_a, gI_k, gL_a, gL_k, gI_r, gL_r, nI_and, nI_or, nI_xor, nI_ndf, nI_shl, nI_shr, ne_eq, and_true, true_and, eq_self, true_or, or_true, false_or, or_false, Option.toList, List.cons_append, List.nil_append, List.length_nil, List.length_cons, Nat.not_lt_zero, bX4_scoreOfDay_0, kdx hs, grx hr, m1, n1, a1, a2, a4, b1, b2, b4, hB.1, h0, f5, cpy0, gI_aF]
  refine ⟨5, 5, rfl, rfl, ⟨by omega, by omega⟩, ?_⟩
  have F1 : Fr (fun c => 169 + 3 * k ≤ c ∧ c ≤ 171 + 3 * k) σ (sI (rI (sI σ (169 + 3 * k) 0 (nI e)) (169 + 3 * k + 1) (va_cpy (gI σ (166 + 3 * k + 1)) (gI σ (169 + 3 * k + 1)) 0 0 5)) (169 + 3 * k + 1) 0 (nI (B 0 + f * z))) := ((Fr.sI (by omega)).tr (Fr.rI (by omega))).tr (Fr.sI (by omega))
  have g0 : gI (sI (rI (sI σ (169 + 3 * k) 0 (nI e)) (169 + 3 * k + 1) (va_cpy (gI σ (166 + 3 * k + 1)) (gI σ (169 + 3 * k + 1)) 0 0 5)) (169 + 3 * k + 1) 0 (nI (B 0 + f * z))) (169 + 3 * k) 0 = nI e := by
    simp (disch := first | decide | omega) only [mxa, vxa, vxb, vxc, vnd, vne, Nat.reduceAdd, Nat.reduceSub, Nat.reduceLeDiff, Nat.reduceLT, Int32.reduceLT, Int32.reduceLE, Int32.reduceAdd, Int32.reduceSub, Int32.reduceMul, Int32.reduceToNatClampNeg, not_false_eq_true, not_true_eq_false, false_implies, true_implies, Nat.zero_add, reduceIte, Nat.reduceMul, Nat.reduceEqDiff, nxa, nxc, lgn, nL_of, swx, Int.reduceAdd, gI_a, gI_k, gL_a, gL_k, gI_r, gL_r, nI_and, nI_or, nI_xor, nI_ndf, nI_shl, nI_shr, ne_eq, and_true, true_and, eq_self, true_or, or_true, false_or, or_false, Option.toList, List.cons_append, List.nil_append, List.length_nil, List.length_cons, Nat.not_lt_zero]
  have g1 : ∀ a, a < 5 → gI (sI (rI (sI σ (169 + 3 * k) 0 (nI e)) (169 + 3 * k + 1) (va_cpy (gI σ (166 + 3 * k + 1)) (gI σ (169 + 3 * k + 1)) 0 0 5)) (169 + 3 * k + 1) 0 (nI (B 0 + f * z))) (169 + 3 * k + 1) a = nI (updN B 0 (B 0 + f * z) a) := fun a ha => by
    unfold updN
    by_cases a0 : a = 0
    · subst a0
      simp (disch := first | decide | omega) only [mxa, vxa, vxb, vxc, vnd, vne, Nat.reduceAdd, Nat.reduceSub, Nat.reduceLeDiff, Nat.reduceLT, Int32.reduceLT, Int32.reduceLE, Int32.reduceAdd, Int32.reduceSub, Int32.reduceMul, Int32.reduceToNatClampNeg, not_false_eq_true, not_true_eq_false, false_implies, true_implies, Nat.zero_add, reduceIte, Nat.reduceMul, Nat.reduceEqDiff, nxa, nxc, lgn, nL_of, swx, Int.reduceAdd, gI_a, gI_k, gL_a, gL_k, gI_r, gL_r, nI_and, nI_or, nI_xor, nI_ndf, nI_shl, nI_shr, ne_eq, and_true, true_and, eq_self, true_or, or_true, false_or, or_false, Option.toList, List.cons_append, List.nil_append, List.length_nil, List.length_cons, Nat.not_lt_zero]
    · rw [if_neg a0, gI_k a0]
      simp (disch := first | decide | omega) only [mxa, vxa, vxb, vxc, vnd, vne, Nat.reduceAdd, Nat.reduceSub, Nat.reduceLeDiff, Nat.reduceLT, Int32.reduceLT, Int32.reduceLE, Int32.reduceAdd, Int32.reduceSub, Int32.reduceMul, Int32.reduceToNatClampNeg, not_false_eq_true, not_true_eq_false, false_implies, true_implies, Nat.zero_add, reduceIte, Nat.reduceMul, Nat.reduceEqDiff, nxa, nxc, lgn, nL_of, swx, Int.reduceAdd, gI_a, gI_k, gL_a, gL_k, gI_r, gL_r, nI_and, nI_or, nI_xor, nI_ndf, nI_shl, nI_shr, ne_eq, and_true, true_and, eq_self, true_or, or_true, false_or, or_false, Option.toList, List.cons_append, List.nil_append, List.length_nil, List.length_cons, Nat.not_lt_zero, cpy0, ha]
      exact hB.2 a ha
  generalize sI (rI (sI σ (169 + 3 * k) 0 (nI e)) (169 + 3 * k + 1) (va_cpy (gI σ (166 + 3 * k + 1)) (gI σ (169 + 3 * k + 1)) 0 0 5)) (169 + 3 * k + 1) 0 (nI (B 0 + f * z)) = τ at F1 g0 g1
  have hst : Sh τ := F1.1.trans hs
  have hrt : Rf τ := fun a k q1 q2 q3 q4 => (F1.gR a k).trans (hr a k q1 q2 q3 q4)
  have fm : Fm τ (169 + 3 * k) := by
    have := (mor hst hrt (show k + 1 < 8 by omega)).2
    rwa [show 166 + 3 * (k + 1) = 169 + 3 * k by omega] at this
  refine c_eat X _ τ (169 + 3 * k) (updN B 0 (B 0 + f * z)) e fm g1 g0 (fun j hj => by have := q1 j hj; omega) (by omega) _ ?_
  rw [e5]
  have F2 : Fr (fun c => 169 + 3 * k ≤ c ∧ c ≤ 171 + 3 * k) σ (rI τ (169 + 3 * k + 1) (rowB (gI τ (169 + 3 * k + 1)) 0 (dyL K e z B f).1)) := F1.tr (Fr.rI (by omega))
  have t4 : gI τ 162 4 = nI K := (F1.2.2.1 162 (by omega) 4).trans f4
  simp (disch := first | decide | omega) only [mxa, vxa, vxb, vxc, vnd, vne, Nat.reduceAdd, Nat.reduceSub, Nat.reduceLeDiff, Nat.reduceLT, Int32.reduceLT, Int32.reduceLE, Int32.reduceAdd, Int32.reduceSub, Int32.reduceMul, Int32.reduceToNatClampNeg, not_false_eq_true, not_true_eq_false, false_implies, true_implies, Nat.zero_add, reduceIte, Nat.reduceMul, Nat.reduceEqDiff, nxa, nxc, lgn, nL_of, swx, Int.reduceAdd, gI_a, gI_k, gL_a, gL_k, gI_r, gL_r, nI_and, nI_or, nI_xor, nI_ndf, nI_shl, nI_shr, ne_eq, and_true, true_and, eq_self, true_or, or_true, false_or, or_false, Option.toList, List.cons_append, List.nil_append, List.length_nil, List.length_cons, Nat.not_lt_zero, kdx hst, fm.1, t4]
  refine c_ageBread X _ _ (169 + 3 * k) K (dyL K e z B f).1 hK1 hK5 (by exact fm) (fun j hj => by rw [gI_rS, rowB_0 hj]) _ ?_
  rw [gI_rS, rI_rI, rowB_rowB]
  have F3 : Fr (fun c => 169 + 3 * k ≤ c ∧ c ≤ 171 + 3 * k) σ (rI τ (169 + 3 * k + 1) (rowB (gI τ (169 + 3 * k + 1)) 0 (ageF K (dyL K e z B f).1))) := F1.tr (Fr.rI (by omega))
  have mN : mB (rI τ (169 + 3 * k + 1) (rowB (gI τ (169 + 3 * k + 1)) 0 (ageF K (dyL K e z B f).1))) e (ageF K (dyL K e z B f).1) (169 + 3 * k) := ⟨by rw [gI_r (by omega)]; exact g0, fun a ha => by rw [gI_rS, rowB_0 ha]⟩
  have t6 : gI τ 162 6 = nI b := (F1.2.2.1 162 (by omega) 6).trans f6
  have q3' := q3 (K - 1) (by omega)
  have fin := hQ _ F3 mN
  rcases (by omega : b = 0 ∨ b = 1) with rfl | rfl
  · simp (disch := first | decide | omega) only [mxa, vxa, vxb, vxc, vnd, vne, Nat.reduceAdd, Nat.reduceSub, Nat.reduceLeDiff, Nat.reduceLT, Int32.reduceLT, Int32.reduceLE, Int32.reduceAdd, Int32.reduceSub, Int32.reduceMul, Int32.reduceToNatClampNeg, not_false_eq_true, not_true_eq_false, false_implies, true_implies, Nat.zero_add, reduceIte, Nat.reduceMul, Nat.reduceEqDiff, nxa, nxc, lgn, nL_of, swx, Int.reduceAdd, gI_a, gI_k, gL_a, gL_k, gI_r, gL_r, nI_and, nI_or, nI_xor, nI_ndf, nI_shl, nI_shr, ne_eq, and_true, true_and, eq_self, true_or, or_true, false_or, or_false, Option.toList, List.cons_append, List.nil_append, List.length_nil, List.length_cons, Nat.not_lt_zero, kdx hst, t6, nL_shl]
    refine wp_blk kX4_scoreOfDay_93 ?_
    simp (disch := first | decide | omega) only [mxa, vxa, vxb, vxc, vnd, vne, Nat.reduceAdd, Nat.reduceSub, Nat.reduceLeDiff, Nat.reduceLT, Int32.reduceLT, Int32.reduceLE, Int32.reduceAdd, Int32.reduceSub, Int32.reduceMul, Int32.reduceToNatClampNeg, not_false_eq_true, not_true_eq_false, false_implies, true_implies, Nat.zero_add, reduceIte, Nat.reduceMul, Nat.reduceEqDiff, nxa, nxc, lgn, nL_of, swx, Int.reduceAdd, gI_a, gI_k, gL_a, gL_k, gI_r, gL_r, nI_and, nI_or, nI_xor, nI_ndf, nI_shl, nI_shr, ne_eq, and_true, true_and, eq_self, true_or, or_true, false_or, or_false, Option.toList, List.cons_append, List.nil_append, List.length_nil, List.length_cons, Nat.not_lt_zero, bX4_scoreOfDay_93]
    refine wp_blk kX4_scoreOfDay_94 ?_
    simp (disch := first | decide | omega) only [mxa, vxa, vxb, vxc, vnd, vne, Nat.reduceAdd, Nat.reduceSub, Nat.reduceLeDiff, Nat.reduceLT, Int32.reduceLT, Int32.reduceLE, Int32.reduceAdd, Int32.reduceSub, Int32.reduceMul, Int32.reduceToNatClampNeg, not_false_eq_true, not_true_eq_false, false_implies, true_implies, Nat.zero_add, reduceIte, Nat.reduceMul, Nat.reduceEqDiff, nxa, nxc, lgn, nL_of, swx, Int.reduceAdd, gI_a, gI_k, gL_a, gL_k, gI_r, gL_r, nI_and, nI_or, nI_xor, nI_ndf, nI_shl, nI_shr, ne_eq, and_true, true_and, eq_self, true_or, or_true, false_or, or_false, Option.toList, List.cons_append, List.nil_append, List.length_nil, List.length_cons, Nat.not_lt_zero, bX4_scoreOfDay_94]
    rw [Nat.zero_mul] at fin
    exact fin
  · simp (disch := first | decide | omega) only [mxa, vxa, vxb, vxc, vnd, vne, Nat.reduceAdd, Nat.reduceSub, Nat.reduceLeDiff, Nat.reduceLT, Int32.reduceLT, Int32.reduceLE, Int32.reduceAdd, Int32.reduceSub, Int32.reduceMul, Int32.reduceToNatClampNeg, not_false_eq_true, not_true_eq_false, false_implies, true_implies, Nat.zero_add, reduceIte, Nat.reduceMul, Nat.reduceEqDiff, nxa, nxc, lgn, nL_of, swx, Int.reduceAdd, gI_a, gI_k, gL_a, gL_k, gI_r, gL_r, nI_and, nI_or, nI_xor, nI_ndf, nI_shl, nI_shr, ne_eq, and_true, true_and, eq_self, true_or, or_true, false_or, or_false, Option.toList, List.cons_append, List.nil_append, List.length_nil, List.length_cons, Nat.not_lt_zero, kdx hst, t6, nL_shl]
    refine wp_blk kX4_scoreOfDay_94 ?_
    simp (disch := first | decide | omega) only [mxa, vxa, vxb, vxc, vnd, vne, Nat.reduceAdd, Nat.reduceSub, Nat.reduceLeDiff, Nat.reduceLT, Int32.reduceLT, Int32.reduceLE, Int32.reduceAdd, Int32.reduceSub, Int32.reduceMul, Int32.reduceToNatClampNeg, not_false_eq_true, not_true_eq_false, false_implies, true_implies, Nat.zero_add, reduceIte, Nat.reduceMul, Nat.reduceEqDiff, nxa, nxc, lgn, nL_of, swx, Int.reduceAdd, gI_a, gI_k, gL_a, gL_k, gI_r, gL_r, nI_and, nI_or, nI_xor, nI_ndf, nI_shl, nI_shr, ne_eq, and_true, true_and, eq_self, true_or, or_true, false_or, or_false, Option.toList, List.cons_append, List.nil_append, List.length_nil, List.length_cons, Nat.not_lt_zero, bX4_scoreOfDay_94]
    rw [Nat.one_mul] at fin
    exact fin
/-- what the search knows: days n; the least of the codes below c; the row of fires up to k, whose code is P; the mornings -/
def SF (n b K e z : Nat) (B : Nat → Nat) (k P c : Nat) (τ : Mm) : Prop :=
  (gI τ 162 3 = nI n ∧ gI τ 162 4 = nI K ∧ gI τ 162 5 = nI z ∧ gI τ 162 6 = nI b) ∧ gL τ 162 7 = nL (mnC (scR b K e z B n) c) ∧ (0 < c → ∀ j, j < n → gI τ 163 j = nI (dg n (amC (scR b K e z B n) c) j)) ∧ (∀ j, j < k → gI τ 164 j = nI (dg k P j)) ∧ ∀ j, j ≤ k → mB τ e (stR K e z B j (P / 3 ^ (k - j))) (166 + 3 * j)
theorem c_search (X : Cx) (σ0 : Mm) (n b K e z M : Nat) (B : Nat → Nat) (hs0 : Sh σ0) (hr0 : Rf σ0) (hn : n ≤ 7) (hK1 : 1 ≤ K) (hK5 : K ≤ 5) (hz : z ≤ 60) (he : e ≤ 300) (hM : M ≤ 20000000) (hb : b ≤ 1) (hBM : ∀ a, a < 5 → B a ≤ M) (hB0 : ∀ a, K ≤ a → a < 5 → B a = 0) : ∀ r k P d, k + r = n → P < 3 ^ k → ∀ (τ : Mm), Fr (fun c => 162 ≤ c ∧ c ≤ 189) σ0 τ → SF n b K e z B k P (P * 3 ^ r) τ → ∀ Q : Po, (∀ τ' : Mm, Fr (fun c => 162 ≤ c ∧ c ≤ 189) σ0 τ' → SF n b K e z B k P ((P + 1) * 3 ^ r) τ' → Q none τ') → Call X (d + r + 3) 0 0 mX4_search [.ref 162, .int (nI k), .long (nL (scR b K e z B k P))] τ Q := by
  intro r
  induction r with
  | zero =>
    intro k P d hkr hP τ hF hSF Q hQ
    have hst : Sh τ := hF.1.trans hs0
    have hrt : Rf τ := fun a k q1 q2 q3 q4 => (hF.gR a k).trans (hr0 a k q1 q2 q3 q4)
    obtain ⟨⟨h3, h4, h5, h6⟩, h7, h8, h9, h10⟩ := id hSF
    have ml := mnC_le (sc := scR b K e z B n) (P * 3 ^ 0)
    obtain ⟨x1, x2, x3⟩ := scR_bd (e := e) hK1 hK5 hz hBM hB0 k P
    have ek : k = n := by omega
    subst ek
    have sb : scR b K e z B k P < 4611686018427387904 := by
      have y1 : e * k ≤ 300 * 7 := Nat.mul_le_mul he hn
      have y2 : (M + 120 * k) * k ≤ (20000000 + 840) * 7 := Nat.mul_le_mul (by omega) hn
      unfold scR
      rcases (by omega : b = 0 ∨ b = 1) with rfl | rfl <;> omega
    rw [Nat.pow_zero, Nat.mul_one] at *
    by_cases hlt : scR b K e z B k P < mnC (scR b K e z B k) P
    · refine call_of eX4_search rfl ?_
      refine wp_blk kX4_search_0 ?_
      simp (disch := first | decide | omega) only [mxa, vxa, vxb, vxc, vnd, vne, Nat.reduceAdd, Nat.reduceSub, Nat.reduceLeDiff, Nat.reduceLT, Int32.reduceLT, Int32.reduceLE, Int32.reduceAdd, Int32.reduceSub, Int32.reduceMul, Int32.reduceToNatClampNeg, not_false_eq_true, not_true_eq_false, false_implies, true_implies, Nat.zero_add, reduceIte, Nat.reduceMul, Nat.reduceEqDiff, nxa, nxc, lgn, nL_of, swx, Int.reduceAdd, gI_a, gI_k, gL_a, gL_k, gI_r, gL_r, nI_and, nI_or, nI_xor, nI_ndf, nI_shl, nI_shr, ne_eq, and_true, true_and, eq_self, true_or, or_true, false_or, or_false, Option.toList, List.cons_append, List.nil_append, List.length_nil, List.length_cons, Nat.not_lt_zero, bX4_search_0, kdx hst, h7, hlt]
      refine wp_blk kX4_search_10 ?_
      simp (disch := first | decide | omega) only [mxa, vxa, vxb, vxc, vnd, vne, Nat.reduceAdd, Nat.reduceSub, Nat.reduceLeDiff, Nat.reduceLT, Int32.reduceLT, Int32.reduceLE, Int32.reduceAdd, Int32.reduceSub, Int32.reduceMul, Int32.reduceToNatClampNeg, not_false_eq_true, not_true_eq_false, false_implies, true_implies, Nat.zero_add, reduceIte, Nat.reduceMul, Nat.reduceEqDiff, nxa, nxc, lgn, nL_of, swx, Int.reduceAdd, gI_a, gI_k, gL_a, gL_k, gI_r, gL_r, nI_and, nI_or, nI_xor, nI_ndf, nI_shl, nI_shr, ne_eq, and_true, true_and, eq_self, true_or, or_true, false_or, or_false, Option.toList, List.cons_append, List.nil_append, List.length_nil, List.length_cons, Nat.not_lt_zero, bX4_search_10, kdx hst, h3, Nat.le_refl]
      refine wp_blk kX4_search_24 ?_
      simp (disch := first | decide | omega) only [mxa, vxa, vxb, vxc, vnd, vne, Nat.reduceAdd, Nat.reduceSub, Nat.reduceLeDiff, Nat.reduceLT, Int32.reduceLT, Int32.reduceLE, Int32.reduceAdd, Int32.reduceSub, Int32.reduceMul, Int32.reduceToNatClampNeg, not_false_eq_true, not_true_eq_false, false_implies, true_implies, Nat.zero_add, reduceIte, Nat.reduceMul, Nat.reduceEqDiff, nxa, nxc, lgn, nL_of, swx, Int.reduceAdd, gI_a, gI_k, gL_a, gL_k, gI_r, gL_r, nI_and, nI_or, nI_xor, nI_ndf, nI_shl, nI_shr, ne_eq, and_true, true_and, eq_self, true_or, or_true, false_or, or_false, Option.toList, List.cons_append, List.nil_append, List.length_nil, List.length_cons, Nat.not_lt_zero, bX4_search_24, kdx hst, grx hrt]
      refine ⟨7, 7, rfl, rfl, ⟨by omega, by omega⟩, ?_⟩
      refine hQ _ (hF.tr ((Fr.sL (by omega)).tr (Fr.rI (by omega)))) ⟨⟨?_, ?_, ?_, ?_⟩, ?_, fun _ j hj => ?_, fun j hj => ?_, fun j hj => ?_⟩
      · simp (disch := first | decide | omega) only [mxa, vxa, vxb, vxc, vnd, vne, Nat.reduceAdd, Nat.reduceSub, Nat.reduceLeDiff, Nat.reduceLT, Int32.reduceLT, Int32.reduceLE, Int32.reduceAdd, Int32.reduceSub, Int32.reduceMul, Int32.reduceToNatClampNeg, not_false_eq_true, not_true_eq_false, false_implies, true_implies, Nat.zero_add, reduceIte, Nat.reduceMul, Nat.reduceEqDiff, nxa, nxc, lgn, nL_of, swx, Int.reduceAdd, gI_a, gI_k, gL_a, gL_k, gI_r, gL_r, nI_and, nI_or, nI_xor, nI_ndf, nI_shl, nI_shr, ne_eq, and_true, true_and, eq_self, true_or, or_true, false_or, or_false, Option.toList, List.cons_append, List.nil_append, List.length_nil, List.length_cons, Nat.not_lt_zero]; exact h3
      · simp (disch := first | decide | omega) only [mxa, vxa, vxb, vxc, vnd, vne, Nat.reduceAdd, Nat.reduceSub, Nat.reduceLeDiff, Nat.reduceLT, Int32.reduceLT, Int32.reduceLE, Int32.reduceAdd, Int32.reduceSub, Int32.reduceMul, Int32.reduceToNatClampNeg, not_false_eq_true, not_true_eq_false, false_implies, true_implies, Nat.zero_add, reduceIte, Nat.reduceMul, Nat.reduceEqDiff, nxa, nxc, lgn, nL_of, swx, Int.reduceAdd, gI_a, gI_k, gL_a, gL_k, gI_r, gL_r, nI_and, nI_or, nI_xor, nI_ndf, nI_shl, nI_shr, ne_eq, and_true, true_and, eq_self, true_or, or_true, false_or, or_false, Option.toList, List.cons_append, List.nil_append, List.length_nil, List.length_cons, Nat.not_lt_zero]; exact h4
      · simp (disch := first | decide | omega) only [mxa, vxa, vxb, vxc, vnd, vne, Nat.reduceAdd, Nat.reduceSub, Nat.reduceLeDiff, Nat.reduceLT, Int32.reduceLT, Int32.reduceLE, Int32.reduceAdd, Int32.reduceSub, Int32.reduceMul, Int32.reduceToNatClampNeg, not_false_eq_true, not_true_eq_false, false_implies, true_implies, Nat.zero_add, reduceIte, Nat.reduceMul, Nat.reduceEqDiff, nxa, nxc, lgn, nL_of, swx, Int.reduceAdd, gI_a, gI_k, gL_a, gL_k, gI_r, gL_r, nI_and, nI_or, nI_xor, nI_ndf, nI_shl, nI_shr, ne_eq, and_true, true_and, eq_self, true_or, or_true, false_or, or_false, Option.toList, List.cons_append, List.nil_append, List.length_nil, List.length_cons, Nat.not_lt_zero]; exact h5
      · simp (disch := first | decide | omega) only [mxa, vxa, vxb, vxc, vnd, vne, Nat.reduceAdd, Nat.reduceSub, Nat.reduceLeDiff, Nat.reduceLT, Int32.reduceLT, Int32.reduceLE, Int32.reduceAdd, Int32.reduceSub, Int32.reduceMul, Int32.reduceToNatClampNeg, not_false_eq_true, not_true_eq_false, false_implies, true_implies, Nat.zero_add, reduceIte, Nat.reduceMul, Nat.reduceEqDiff, nxa, nxc, lgn, nL_of, swx, Int.reduceAdd, gI_a, gI_k, gL_a, gL_k, gI_r, gL_r, nI_and, nI_or, nI_xor, nI_ndf, nI_shl, nI_shr, ne_eq, and_true, true_and, eq_self, true_or, or_true, false_or, or_false, Option.toList, List.cons_append, List.nil_append, List.length_nil, List.length_cons, Nat.not_lt_zero]; exact h6
      · simp (disch := first | decide | omega) only [mxa, vxa, vxb, vxc, vnd, vne, Nat.reduceAdd, Nat.reduceSub, Nat.reduceLeDiff, Nat.reduceLT, Int32.reduceLT, Int32.reduceLE, Int32.reduceAdd, Int32.reduceSub, Int32.reduceMul, Int32.reduceToNatClampNeg, not_false_eq_true, not_true_eq_false, false_implies, true_implies, Nat.zero_add, reduceIte, Nat.reduceMul, Nat.reduceEqDiff, nxa, nxc, lgn, nL_of, swx, Int.reduceAdd, gI_a, gI_k, gL_a, gL_k, gI_r, gL_r, nI_and, nI_or, nI_xor, nI_ndf, nI_shl, nI_shr, ne_eq, and_true, true_and, eq_self, true_or, or_true, false_or, or_false, Option.toList, List.cons_append, List.nil_append, List.length_nil, List.length_cons, Nat.not_lt_zero]
        show _ = nL (min (mnC (scR b K e z B k) P) (scR b K e z B k P))
        rw [Nat.min_eq_right (by omega)]
      · show _ = nI (dg k (if scR b K e z B k P < mnC (scR b K e z B k) P then P else _) j)
        rw [if_pos hlt]
        simp (disch := first | decide | omega) only [mxa, vxa, vxb, vxc, vnd, vne, Nat.reduceAdd, Nat.reduceSub, Nat.reduceLeDiff, Nat.reduceLT, Int32.reduceLT, Int32.reduceLE, Int32.reduceAdd, Int32.reduceSub, Int32.reduceMul, Int32.reduceToNatClampNeg, not_false_eq_true, not_true_eq_false, false_implies, true_implies, Nat.zero_add, reduceIte, Nat.reduceMul, Nat.reduceEqDiff, nxa, nxc, lgn, nL_of, swx, Int.reduceAdd, gI_a, gI_k, gL_a, gL_k, gI_r, gL_r, nI_and, nI_or, nI_xor, nI_ndf, nI_shl, nI_shr, ne_eq, and_true, true_and, eq_self, true_or, or_true, false_or, or_false, Option.toList, List.cons_append, List.nil_append, List.length_nil, List.length_cons, Nat.not_lt_zero, cpy0, show j < 7 by omega]
        exact h9 j hj
      · simp (disch := first | decide | omega) only [mxa, vxa, vxb, vxc, vnd, vne, Nat.reduceAdd, Nat.reduceSub, Nat.reduceLeDiff, Nat.reduceLT, Int32.reduceLT, Int32.reduceLE, Int32.reduceAdd, Int32.reduceSub, Int32.reduceMul, Int32.reduceToNatClampNeg, not_false_eq_true, not_true_eq_false, false_implies, true_implies, Nat.zero_add, reduceIte, Nat.reduceMul, Nat.reduceEqDiff, nxa, nxc, lgn, nL_of, swx, Int.reduceAdd, gI_a, gI_k, gL_a, gL_k, gI_r, gL_r, nI_and, nI_or, nI_xor, nI_ndf, nI_shl, nI_shr, ne_eq, and_true, true_and, eq_self, true_or, or_true, false_or, or_false, Option.toList, List.cons_append, List.nil_append, List.length_nil, List.length_cons, Nat.not_lt_zero]; exact h9 j hj
      · obtain ⟨y1, y2⟩ := h10 j hj
        refine ⟨?_, fun a ha => ?_⟩
        · rw [gI_r (by omega)]; exact y1
        · rw [gI_r (by omega)]; exact y2 a ha
    · refine call_of eX4_search rfl ?_
      refine wp_blk kX4_search_0 ?_
      simp (disch := first | decide | omega) only [mxa, vxa, vxb, vxc, vnd, vne, Nat.reduceAdd, Nat.reduceSub, Nat.reduceLeDiff, Nat.reduceLT, Int32.reduceLT, Int32.reduceLE, Int32.reduceAdd, Int32.reduceSub, Int32.reduceMul, Int32.reduceToNatClampNeg, not_false_eq_true, not_true_eq_false, false_implies, true_implies, Nat.zero_add, reduceIte, Nat.reduceMul, Nat.reduceEqDiff, nxa, nxc, lgn, nL_of, swx, Int.reduceAdd, gI_a, gI_k, gL_a, gL_k, gI_r, gL_r, nI_and, nI_or, nI_xor, nI_ndf, nI_shl, nI_shr, ne_eq, and_true, true_and, eq_self, true_or, or_true, false_or, or_false, Option.toList, List.cons_append, List.nil_append, List.length_nil, List.length_cons, Nat.not_lt_zero, bX4_search_0, kdx hst, h7, hlt]
      obtain ⟨k1, k2⟩ := mnC_blk (sc := scR b K e z B k) (a := P) 1 (fun c c1 c2 => by rw [show c = P by omega]; omega)
      refine hQ τ hF ⟨⟨h3, h4, h5, h6⟩, by rw [k1]; exact h7, fun _ j hj => ?_, h9, h10⟩
      rw [k2]
      by_cases p0 : P = 0
      · subst p0
        exact absurd sb hlt
      · exact h8 (by omega) j hj
  | succ r ih =>
    intro k P d hkr hP τ hF hSF Q hQ
    have hst : Sh τ := hF.1.trans hs0
    have hrt : Rf τ := fun a k q1 q2 q3 q4 => (hF.gR a k).trans (hr0 a k q1 q2 q3 q4)
    obtain ⟨⟨h3, h4, h5, h6⟩, h7, h8, h9, h10⟩ := id hSF
    have ml := mnC_le (sc := scR b K e z B n) (P * 3 ^ (r + 1))
    obtain ⟨x1, x2, x3⟩ := scR_bd (e := e) hK1 hK5 hz hBM hB0 k P
    have sb : scR b K e z B k P < 4611686018427387904 := by
      have y1 : e * k ≤ 300 * 7 := Nat.mul_le_mul he (by omega)
      have y2 : (M + 120 * k) * k ≤ (20000000 + 840) * 7 := Nat.mul_le_mul (by omega) (by omega)
      unfold scR
      rcases (by omega : b = 0 ∨ b = 1) with rfl | rfl <;> omega
    have e3 : 3 ^ (r + 1) = 3 * 3 ^ r := by rw [Nat.pow_succ, Nat.mul_comm]
    by_cases hlt : scR b K e z B k P < mnC (scR b K e z B n) (P * 3 ^ (r + 1))
    · refine call_of eX4_search rfl ?_
      refine wp_blk kX4_search_0 ?_
      simp (disch := first | decide | omega) only [mxa, vxa, vxb, vxc, vnd, vne, Nat.reduceAdd, Nat.reduceSub, Nat.reduceLeDiff, Nat.reduceLT, Int32.reduceLT, Int32.reduceLE, Int32.reduceAdd, Int32.reduceSub, Int32.reduceMul, Int32.reduceToNatClampNeg, not_false_eq_true, not_true_eq_false, false_implies, true_implies, Nat.zero_add, reduceIte, Nat.reduceMul, Nat.reduceEqDiff, nxa, nxc, lgn, nL_of, swx, Int.reduceAdd, gI_a, gI_k, gL_a, gL_k, gI_r, gL_r, nI_and, nI_or, nI_xor, nI_ndf, nI_shl, nI_shr, ne_eq, and_true, true_and, eq_self, true_or, or_true, false_or, or_false, Option.toList, List.cons_append, List.nil_append, List.length_nil, List.length_cons, Nat.not_lt_zero, bX4_search_0, kdx hst, h7, hlt]
      refine wp_blk kX4_search_10 ?_
      simp (disch := first | decide | omega) only [mxa, vxa, vxb, vxc, vnd, vne, Nat.reduceAdd, Nat.reduceSub, Nat.reduceLeDiff, Nat.reduceLT, Int32.reduceLT, Int32.reduceLE, Int32.reduceAdd, Int32.reduceSub, Int32.reduceMul, Int32.reduceToNatClampNeg, not_false_eq_true, not_true_eq_false, false_implies, true_implies, Nat.zero_add, reduceIte, Nat.reduceMul, Nat.reduceEqDiff, nxa, nxc, lgn, nL_of, swx, Int.reduceAdd, gI_a, gI_k, gL_a, gL_k, gI_r, gL_r, nI_and, nI_or, nI_xor, nI_ndf, nI_shl, nI_shr, ne_eq, and_true, true_and, eq_self, true_or, or_true, false_or, or_false, Option.toList, List.cons_append, List.nil_append, List.length_nil, List.length_cons, Nat.not_lt_zero, bX4_search_10, kdx hst, h3, show ¬ n ≤ k by omega, show k < 7 by omega]
      refine wp_blk kX4_search_45 ?_
      simp (disch := first | decide | omega) only [mxa, vxa, vxb, vxc, vnd, vne, Nat.reduceAdd, Nat.reduceSub, Nat.reduceLeDiff, Nat.reduceLT, Int32.reduceLT, Int32.reduceLE, Int32.reduceAdd, Int32.reduceSub, Int32.reduceMul, Int32.reduceToNatClampNeg, not_false_eq_true, not_true_eq_false, false_implies, true_implies, Nat.zero_add, reduceIte, Nat.reduceMul, Nat.reduceEqDiff, nxa, nxc, lgn, nL_of, swx, Int.reduceAdd, gI_a, gI_k, gL_a, gL_k, gI_r, gL_r, nI_and, nI_or, nI_xor, nI_ndf, nI_shl, nI_shr, ne_eq, and_true, true_and, eq_self, true_or, or_true, false_or, or_false, Option.toList, List.cons_append, List.nil_append, List.length_nil, List.length_cons, Nat.not_lt_zero, bX4_search_45]
      refine wfor (fun f => ∀ τ : Mm, Fr (fun c => 162 ≤ c ∧ c ≤ 189) σ0 τ → SF n b K e z B k P ((3 * P + f) * 3 ^ r) τ → Wp X mX4_search (rmo (d + (r + 1) + 3) 0 0) (d + (r + 1) + 3) Q 0 0 48 [some (.ref 162), some (.int (nI k)), some (.long (nL (scR b K e z B k P))), none, some (.int (nI f))] [] τ) 3 (fun f hf hPf τ hF hSF => ?_) (fun τ hF hSF => ?_) τ hF ?_
      · have hst : Sh τ := hF.1.trans hs0
        have hrt : Rf τ := fun a k q1 q2 q3 q4 => (hF.gR a k).trans (hr0 a k q1 q2 q3 q4)
        obtain ⟨⟨h3, h4, h5, h6⟩, h7, h8, h9, h10⟩ := id hSF
        have mk := h10 k (Nat.le_refl _)
        rw [Nat.sub_self, Nat.pow_zero, Nat.div_one] at mk
        obtain ⟨s1, s2⟩ := stR_ok (e := e) hK1 hK5 hz hBM hB0 k P
        refine wp_blk kX4_search_48 ?_
        simp (disch := first | decide | omega) only [mxa, vxa, vxb, vxc, vnd, vne, Nat.reduceAdd, Nat.reduceSub, Nat.reduceLeDiff, Nat.reduceLT, Int32.reduceLT, Int32.reduceLE, Int32.reduceAdd, Int32.reduceSub, Int32.reduceMul, Int32.reduceToNatClampNeg, not_false_eq_true, not_true_eq_false, false_implies, true_implies, Nat.zero_add, reduceIte, Nat.reduceMul, Nat.reduceEqDiff, nxa, nxc, lgn, nL_of, swx, Int.reduceAdd, gI_a, gI_k, gL_a, gL_k, gI_r, gL_r, nI_and, nI_or, nI_xor, nI_ndf, nI_shl, nI_shr, ne_eq, and_true, true_and, eq_self, true_or, or_true, false_or, or_false, Option.toList, List.cons_append, List.nil_append, List.length_nil, List.length_cons, Nat.not_lt_zero, bX4_search_48, kdx hst, grx hrt, show ¬ 2 < f by omega]
        refine c_score X (d + (r + 1)) (sI τ 164 k (nI f)) k f b K e z (M + 120 * k) (stR K e z B k P) (by exact hst) (by exact hrt) (by omega) hf hK1 hK5 hz he (by omega) hb ((gI_a (by decide)).trans h4) ((gI_a (by decide)).trans h5) ((gI_a (by decide)).trans h6) ⟨(gI_a (by omega)).trans mk.1, fun a ha => (gI_a (by omega)).trans (mk.2 a ha)⟩ s1 s2 _ (fun σ' F' mB' => ?_)
        have hF' : Fr (fun c => 162 ≤ c ∧ c ≤ 189) σ0 σ' := (hF.tr (Fr.sI (by omega))).tr (F'.mono (fun c q => by omega))
        have hst' : Sh σ' := hF'.1.trans hs0
        simp (disch := first | decide | omega) only [mxa, vxa, vxb, vxc, vnd, vne, Nat.reduceAdd, Nat.reduceSub, Nat.reduceLeDiff, Nat.reduceLT, Int32.reduceLT, Int32.reduceLE, Int32.reduceAdd, Int32.reduceSub, Int32.reduceMul, Int32.reduceToNatClampNeg, not_false_eq_true, not_true_eq_false, false_implies, true_implies, Nat.zero_add, reduceIte, Nat.reduceMul, Nat.reduceEqDiff, nxa, nxc, lgn, nL_of, swx, Int.reduceAdd, gI_a, gI_k, gL_a, gL_k, gI_r, gL_r, nI_and, nI_or, nI_xor, nI_ndf, nI_shl, nI_shr, ne_eq, and_true, true_and, eq_self, true_or, or_true, false_or, or_false, Option.toList, List.cons_append, List.nil_append, List.length_nil, List.length_cons, Nat.not_lt_zero, kdx hst']
        rw [← scR_step b K e z B k P f hf]
        have c' : ∀ c j, (c < 164 ∨ (164 < c ∧ c < 169 + 3 * k)) → gI σ' c j = gI τ c j := fun c j q => by
          rw [F'.2.2.1 c (by omega) j, gI_a (by omega)]
        have cL : ∀ c j, c < 169 → gL σ' c j = gL τ c j := fun c j q => by
          rw [F'.2.2.2 c (by omega) j]
          rfl
        have p5 : ∀ j, gI σ' 164 j = if j = k then nI f else gI τ 164 j := fun j => by
          rw [F'.2.2.1 164 (by omega) j]
          by_cases q : j = k
          · subst q; rw [if_pos rfl, gI_same]
          · rw [if_neg q, gI_k q]
        have cP : (3 * P + f) < 3 ^ (k + 1) := by
          rw [Nat.pow_succ]; omega
        refine ih (k + 1) (3 * P + f) d (by omega) cP σ' hF' ⟨⟨(c' 162 3 (by omega)).trans h3, (c' 162 4 (by omega)).trans h4, (c' 162 5 (by omega)).trans h5, (c' 162 6 (by omega)).trans h6⟩, (cL 162 7 (by omega)).trans h7, fun q j hj => (c' 163 j (by omega)).trans (h8 q j hj), fun j hj => ?_, fun j hj => ?_⟩ _ (fun τ' F2 SF' => ?_)
        · rw [p5]
          by_cases q : j = k
          · rw [if_pos q, q, dg_last k P f hf]
          · rw [if_neg q, dg_child k P f j hf (by omega)]; exact h9 j (by omega)
        · by_cases q : j = k + 1
          · subst q
            rw [Nat.sub_self, Nat.pow_zero, Nat.div_one, show 166 + 3 * (k + 1) = 169 + 3 * k by omega]
            show mB σ' e (ageF K (dyL K e z (stR K e z B k ((3 * P + f) / 3)) ((3 * P + f) % 3)).1) (169 + 3 * k)
            rw [show (3 * P + f) / 3 = P by omega, show (3 * P + f) % 3 = f by omega]
            exact mB'
          · rw [pf_child k j P f hf (by omega)]
            obtain ⟨y1, y2⟩ := h10 j (by omega)
            exact ⟨(c' _ _ (by omega)).trans y1, fun a ha => (c' _ _ (by omega)).trans (y2 a ha)⟩
        · obtain ⟨⟨g3, g4, g5, g6⟩, g7, g8, g9, g10⟩ := SF'
          simp (disch := first | decide | omega) only [mxa, vxa, vxb, vxc, vnd, vne, Nat.reduceAdd, Nat.reduceSub, Nat.reduceLeDiff, Nat.reduceLT, Int32.reduceLT, Int32.reduceLE, Int32.reduceAdd, Int32.reduceSub, Int32.reduceMul, Int32.reduceToNatClampNeg, not_false_eq_true, not_true_eq_false, false_implies, true_implies, Nat.zero_add, reduceIte, Nat.reduceMul, Nat.reduceEqDiff, nxa, nxc, lgn, nL_of, swx, Int.reduceAdd, gI_a, gI_k, gL_a, gL_k, gI_r, gL_r, nI_and, nI_or, nI_xor, nI_ndf, nI_shl, nI_shr, ne_eq, and_true, true_and, eq_self, true_or, or_true, false_or, or_false, Option.toList, List.cons_append, List.nil_append, List.length_nil, List.length_cons, Nat.not_lt_zero]
          refine hPf τ' F2 ⟨⟨g3, g4, g5, g6⟩, ?_, ?_, fun j hj => ?_, fun j hj => ?_⟩
          · rw [← Nat.add_assoc]; exact g7
          · rw [← Nat.add_assoc]; exact g8
          · rw [g9 j (by omega), dg_child k P f j hf hj]
          · have := g10 j (by omega)
            rw [pf_child k j P f hf hj] at this
            exact this
      · refine wp_blk kX4_search_48 ?_
        simp (disch := first | decide | omega) only [mxa, vxa, vxb, vxc, vnd, vne, Nat.reduceAdd, Nat.reduceSub, Nat.reduceLeDiff, Nat.reduceLT, Int32.reduceLT, Int32.reduceLE, Int32.reduceAdd, Int32.reduceSub, Int32.reduceMul, Int32.reduceToNatClampNeg, not_false_eq_true, not_true_eq_false, false_implies, true_implies, Nat.zero_add, reduceIte, Nat.reduceMul, Nat.reduceEqDiff, nxa, nxc, lgn, nL_of, swx, Int.reduceAdd, gI_a, gI_k, gL_a, gL_k, gI_r, gL_r, nI_and, nI_or, nI_xor, nI_ndf, nI_shl, nI_shr, ne_eq, and_true, true_and, eq_self, true_or, or_true, false_or, or_false, Option.toList, List.cons_append, List.nil_append, List.length_nil, List.length_cons, Nat.not_lt_zero, bX4_search_48]
        refine wp_blk kX4_search_84 ?_
        simp (disch := first | decide | omega) only [mxa, vxa, vxb, vxc, vnd, vne, Nat.reduceAdd, Nat.reduceSub, Nat.reduceLeDiff, Nat.reduceLT, Int32.reduceLT, Int32.reduceLE, Int32.reduceAdd, Int32.reduceSub, Int32.reduceMul, Int32.reduceToNatClampNeg, not_false_eq_true, not_true_eq_false, false_implies, true_implies, Nat.zero_add, reduceIte, Nat.reduceMul, Nat.reduceEqDiff, nxa, nxc, lgn, nL_of, swx, Int.reduceAdd, gI_a, gI_k, gL_a, gL_k, gI_r, gL_r, nI_and, nI_or, nI_xor, nI_ndf, nI_shl, nI_shr, ne_eq, and_true, true_and, eq_self, true_or, or_true, false_or, or_false, Option.toList, List.cons_append, List.nil_append, List.length_nil, List.length_cons, Nat.not_lt_zero, bX4_search_84]
        refine hQ τ hF ?_
        rw [show (P + 1) * 3 ^ (r + 1) = (3 * P + 3) * 3 ^ r by rw [e3, ← Nat.mul_assoc]; congr 1; omega]
        exact hSF
      · rw [show (3 * P + 0) * 3 ^ r = P * 3 ^ (r + 1) by rw [e3, ← Nat.mul_assoc]; congr 1; omega]
        exact hSF
    · refine call_of eX4_search rfl ?_
      refine wp_blk kX4_search_0 ?_
      simp (disch := first | decide | omega) only [mxa, vxa, vxb, vxc, vnd, vne, Nat.reduceAdd, Nat.reduceSub, Nat.reduceLeDiff, Nat.reduceLT, Int32.reduceLT, Int32.reduceLE, Int32.reduceAdd, Int32.reduceSub, Int32.reduceMul, Int32.reduceToNatClampNeg, not_false_eq_true, not_true_eq_false, false_implies, true_implies, Nat.zero_add, reduceIte, Nat.reduceMul, Nat.reduceEqDiff, nxa, nxc, lgn, nL_of, swx, Int.reduceAdd, gI_a, gI_k, gL_a, gL_k, gI_r, gL_r, nI_and, nI_or, nI_xor, nI_ndf, nI_shl, nI_shr, ne_eq, and_true, true_and, eq_self, true_or, or_true, false_or, or_false, Option.toList, List.cons_append, List.nil_append, List.length_nil, List.length_cons, Nat.not_lt_zero, bX4_search_0, kdx hst, h7, hlt]
      have blk : ∀ c, P * 3 ^ (r + 1) ≤ c → c < P * 3 ^ (r + 1) + 3 ^ (r + 1) → mnC (scR b K e z B n) (P * 3 ^ (r + 1)) ≤ scR b K e z B n c := fun c c1 c2 => by
        have := scR_up b K e z B k (r + 1) P c c1 (by rw [Nat.succ_mul]; exact c2)
        rw [hkr] at this
        omega
      obtain ⟨k1, k2⟩ := mnC_blk (3 ^ (r + 1)) blk
      rw [Nat.succ_mul] at hQ
      refine hQ τ hF ⟨⟨h3, h4, h5, h6⟩, by rw [k1]; exact h7, fun _ j hj => ?_, h9, h10⟩
      rw [k2]
      by_cases p0 : P * 3 ^ (r + 1) = 0
      · rw [p0] at hlt
        exact absurd sb hlt
      · exact h8 (by omega) j hj
