/-! days ahead: the class -/
set_option maxRecDepth 20000
theorem mor {σ : Mm} (hs : Sh σ) (hr : Rf σ) {j : Nat} (h : j < 8) : gR σ 166 j = some (167 + 3 * j) ∧ Fm σ (167 + 3 * j) := by
  refine ⟨?_, Fm_of hs hr ?_⟩
  · rcases (by omega : j = 0 ∨ j = 1 ∨ j = 2 ∨ j = 3 ∨ j = 4 ∨ j = 5 ∨ j = 6 ∨ j = 7) with rfl | rfl | rfl | rfl | rfl | rfl | rfl | rfl <;> simp only [grx hr, Nat.reduceAdd, Nat.reduceMul]
  · simp only [isFam, Bool.or_eq_true, Bool.and_eq_true, decide_eq_true_eq]
    omega
/-- the morning of day j is a family of these loaves -/
def mB (σ : Mm) (e : Nat) (B : Nat → Nat) (j : Nat) : Prop := gI σ (167 + 3 * j) 0 = nI e ∧ ∀ a, a < 5 → gI σ (168 + 3 * j) a = nI (B a)
theorem c_score (X : Cx) (d : Nat) (σ : Mm) (k f b K e z M : Nat) (B : Nat → Nat) (hs : Sh σ) (hr : Rf σ) (hk : k < 7) (hf : f < 3) (hK1 : 1 ≤ K) (hK5 : K ≤ 5) (hz : z ≤ 60) (he : e ≤ 300) (hM : M ≤ 100000000) (hb : b ≤ 1) (f4 : gI σ 163 4 = nI K) (f5 : gI σ 163 5 = nI z) (f6 : gI σ 163 6 = nI b) (hB : mB σ e B k) (hBM : ∀ a, a < 5 → B a ≤ M) (hB0 : ∀ a, K ≤ a → a < 5 → B a = 0) (Q : Po) (hQ : ∀ σ' : Mm, Fr (fun c => 170 + 3 * k ≤ c ∧ c ≤ 172 + 3 * k) σ σ' → mB σ' e (ageF K (dyL K e z B f).1) (k + 1) → Q (some (.long (nL ((dyL K e z B f).2 * 2 ^ 40 + b * ((dyL K e z B f).1 (K - 1) * 2 ^ 4) + f)))) σ') : Call X (d + 2) 0 0 mX4_scoreOfDay [.ref 163, .int (nI k), .int (nI f)] σ Q := by
  obtain ⟨m1, a1, a2, a3, a4, a5⟩ := mor hs hr (show k < 8 by omega)
  obtain ⟨n1, n2⟩ := mor hs hr (show k + 1 < 8 by omega)
  obtain ⟨b1, b2, b3, b4, b5⟩ := id n2
  have en : 167 + 3 * (k + 1) = 170 + 3 * k := by omega
  rw [en] at n1 n2 b1 b2 b3 b4 b5
  have hm : f * z ≤ 2 * 60 := Nat.mul_le_mul (by omega) hz
  obtain ⟨q1, q2, q3⟩ := dy_bd (e := e) hK1 hK5 hz hBM f hf
  have e5 : eatF 5 (updN B 0 (B 0 + f * z)) e = dyL K e z B f := eatF_ext _ _ _ 5 hK5 (fun a h1 h2 => by
    unfold updN
    rw [if_neg (by omega)]
    exact hB0 a h1 h2)
  have h0 := hB.2 0 (by omega)
  have e167 : 167 + 3 * k + 1 = 168 + 3 * k := by omega
  rw [e167] at a2 a4
  have e170 : 170 + 3 * k + 1 = 171 + 3 * k := by omega
  refine call_of eX4_scoreOfDay rfl ?_
  refine wp_blk kX4_scoreOfDay_0 ?_
  simp (disch := first | decide | omega) only [mxa, vxa, vxb, vxc, vnd, vne, Nat.reduceAdd, Nat.reduceSub, Nat.reduceLeDiff, Nat.reduceLT, Int32.reduceLT, Int32.reduceLE, Int32.reduceAdd, Int32.reduceSub, Int32.reduceMul, Int32.reduceToNatClampNeg, not_false_eq_true, not_true_eq_false, false_implies, true_implies, Nat.zero_add, reduceIte, Nat.reduceMul, Nat.reduceEqDiff, nxa, nxc, lgn, nL_of, swx, Int.reduceAdd, gI_a, gI_k, gL_a, gL_k, gI_r, gL_r, nI_and, nI_or, nI_xor, nI_ndf, nI_shl, nI_shr, ne_eq, and_true, true_and, eq_self, true_or, or_true, false_or, or_false, Option.toList, List.cons_append, List.nil_append, List.length_nil, List.length_cons, Nat.not_lt_zero, bX4_scoreOfDay_0, kdx hs, grx hr, m1, n1, a1, a4, b1, b4, hB.1, gI_aF, e170]
  refine ⟨5, 5, by rw [← a2], by rw [← e170]; exact b2, ⟨by omega, by omega⟩, ?_⟩
  sorry
