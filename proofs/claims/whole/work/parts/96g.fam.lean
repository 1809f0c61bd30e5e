/-! a family's line: the class -/
set_option maxRecDepth 20000
theorem c_reset (X : Cx) (d : Nat) (σ : Mm) (A : Nat) (hA : Fm σ A) (Q : Po) (hQ : ∀ τ : Mm, Fr (fun c => c = A ∨ c = A + 1 ∨ c = A + 2) σ τ → gI τ A 0 = nI 0 → gI τ A 1 = nI 50 → (∀ j, 2 ≤ j → j ≤ 6 → gI τ A j = nI 0) → (∀ k, k < 5 → gI τ (A + 1) k = nI 0) → (∀ k, k < 10 → gI τ (A + 2) k = nI 0) → Q none τ) : Call X (d + 1) 0 0 mX2_reset [.ref A] σ Q := by
  obtain ⟨a1, a2, a3, a4, a5⟩ := hA
  refine call_of eX2_reset rfl ?_
  refine wp_blk kX2_reset_0 ?_
  simp (disch := first | decide | omega) only [mxa, vxa, vxb, vxc, vnd, vne, Nat.reduceAdd, Nat.reduceSub, Nat.reduceLeDiff, Nat.reduceLT, Int32.reduceLT, Int32.reduceLE, Int32.reduceAdd, Int32.reduceSub, Int32.reduceMul, Int32.reduceToNatClampNeg, not_false_eq_true, not_true_eq_false, false_implies, true_implies, Nat.zero_add, reduceIte, Nat.reduceMul, Nat.reduceEqDiff, nxa, nxc, lgn, nL_of, swx, Int.reduceAdd, gI_a, gI_k, gL_a, gL_k, gI_r, gL_r, nI_and, nI_or, nI_xor, nI_ndf, nI_shl, nI_shr, ne_eq, and_true, true_and, eq_self, true_or, or_true, false_or, or_false, Option.toList, List.cons_append, List.nil_append, List.length_nil, List.length_cons, Nat.not_lt_zero, bX2_reset_0, a1, a4]
  refine c_fillI X _ _ (A + 1) 5 (nI 0) (by simp only [mxa]; exact a2) (by omega) _ ?_
  simp (disch := first | decide | omega) only [mxa, vxa, vxb, vxc, vnd, vne, Nat.reduceAdd, Nat.reduceSub, Nat.reduceLeDiff, Nat.reduceLT, Int32.reduceLT, Int32.reduceLE, Int32.reduceAdd, Int32.reduceSub, Int32.reduceMul, Int32.reduceToNatClampNeg, not_false_eq_true, not_true_eq_false, false_implies, true_implies, Nat.zero_add, reduceIte, Nat.reduceMul, Nat.reduceEqDiff, nxa, nxc, lgn, nL_of, swx, Int.reduceAdd, gI_a, gI_k, gL_a, gL_k, gI_r, gL_r, nI_and, nI_or, nI_xor, nI_ndf, nI_shl, nI_shr, ne_eq, and_true, true_and, eq_self, true_or, or_true, false_or, or_false, Option.toList, List.cons_append, List.nil_append, List.length_nil, List.length_cons, Nat.not_lt_zero, a1, a5]
  refine c_fillI X _ _ (A + 2) 10 (nI 0) (by simp only [mxa]; exact a3) (by omega) _ ?_
  simp (disch := first | decide | omega) only [mxa, vxa, vxb, vxc, vnd, vne, Nat.reduceAdd, Nat.reduceSub, Nat.reduceLeDiff, Nat.reduceLT, Int32.reduceLT, Int32.reduceLE, Int32.reduceAdd, Int32.reduceSub, Int32.reduceMul, Int32.reduceToNatClampNeg, not_false_eq_true, not_true_eq_false, false_implies, true_implies, Nat.zero_add, reduceIte, Nat.reduceMul, Nat.reduceEqDiff, nxa, nxc, lgn, nL_of, swx, Int.reduceAdd, gI_a, gI_k, gL_a, gL_k, gI_r, gL_r, nI_and, nI_or, nI_xor, nI_ndf, nI_shl, nI_shr, ne_eq, and_true, true_and, eq_self, true_or, or_true, false_or, or_false, Option.toList, List.cons_append, List.nil_append, List.length_nil, List.length_cons, Nat.not_lt_zero]
  refine hQ _ (((((((((Fr.sI (S := fun c => c = A ∨ c = A + 1 ∨ c = A + 2) (Or.inl rfl)).tr (Fr.sI (Or.inl rfl))).tr (Fr.sI (Or.inl rfl))).tr (Fr.sI (Or.inl rfl))).tr (Fr.sI (Or.inl rfl))).tr (Fr.sI (Or.inl rfl))).tr (Fr.sI (Or.inl rfl))).tr (Fr.rI (Or.inr (Or.inl rfl)))).tr (Fr.rI (Or.inr (Or.inr rfl)))) ?_ ?_ (fun j h1 h2 => ?_) (fun k hk => ?_) (fun k hk => ?_)
  · simp (disch := first | decide | omega) only [mxa, vxa, vxb, vxc, vnd, vne, Nat.reduceAdd, Nat.reduceSub, Nat.reduceLeDiff, Nat.reduceLT, Int32.reduceLT, Int32.reduceLE, Int32.reduceAdd, Int32.reduceSub, Int32.reduceMul, Int32.reduceToNatClampNeg, not_false_eq_true, not_true_eq_false, false_implies, true_implies, Nat.zero_add, reduceIte, Nat.reduceMul, Nat.reduceEqDiff, nxa, nxc, lgn, nL_of, swx, Int.reduceAdd, gI_a, gI_k, gL_a, gL_k, gI_r, gL_r, nI_and, nI_or, nI_xor, nI_ndf, nI_shl, nI_shr, ne_eq, and_true, true_and, eq_self, true_or, or_true, false_or, or_false, Option.toList, List.cons_append, List.nil_append, List.length_nil, List.length_cons, Nat.not_lt_zero]
  · simp (disch := first | decide | omega) only [mxa, vxa, vxb, vxc, vnd, vne, Nat.reduceAdd, Nat.reduceSub, Nat.reduceLeDiff, Nat.reduceLT, Int32.reduceLT, Int32.reduceLE, Int32.reduceAdd, Int32.reduceSub, Int32.reduceMul, Int32.reduceToNatClampNeg, not_false_eq_true, not_true_eq_false, false_implies, true_implies, Nat.zero_add, reduceIte, Nat.reduceMul, Nat.reduceEqDiff, nxa, nxc, lgn, nL_of, swx, Int.reduceAdd, gI_a, gI_k, gL_a, gL_k, gI_r, gL_r, nI_and, nI_or, nI_xor, nI_ndf, nI_shl, nI_shr, ne_eq, and_true, true_and, eq_self, true_or, or_true, false_or, or_false, Option.toList, List.cons_append, List.nil_append, List.length_nil, List.length_cons, Nat.not_lt_zero]
  · rcases (by omega : j = 2 ∨ j = 3 ∨ j = 4 ∨ j = 5 ∨ j = 6) with rfl | rfl | rfl | rfl | rfl <;> simp (disch := first | decide | omega) only [mxa, vxa, vxb, vxc, vnd, vne, Nat.reduceAdd, Nat.reduceSub, Nat.reduceLeDiff, Nat.reduceLT, Int32.reduceLT, Int32.reduceLE, Int32.reduceAdd, Int32.reduceSub, Int32.reduceMul, Int32.reduceToNatClampNeg, not_false_eq_true, not_true_eq_false, false_implies, true_implies, Nat.zero_add, reduceIte, Nat.reduceMul, Nat.reduceEqDiff, nxa, nxc, lgn, nL_of, swx, Int.reduceAdd, gI_a, gI_k, gL_a, gL_k, gI_r, gL_r, nI_and, nI_or, nI_xor, nI_ndf, nI_shl, nI_shr, ne_eq, and_true, true_and, eq_self, true_or, or_true, false_or, or_false, Option.toList, List.cons_append, List.nil_append, List.length_nil, List.length_cons, Nat.not_lt_zero]
  · rw [gI_r (by omega), gI_rS, if_pos hk]
  · rw [gI_rS, if_pos hk]
def FrR (σ τ : Mm) : Prop := Fr (fun c => (34 ≤ c ∧ c ≤ 66) ∨ c = 144) σ τ ∧ (gI τ 144 4 = gI σ 144 4 ∧ gI τ 144 0 = gI σ 144 0) ∧ (gI τ 144 1 = nI 0 → gI σ 144 1 = nI 0 ∧ gI τ 144 2 = gI σ 144 2)
theorem FrR.rf {σ : Mm} : FrR σ σ := ⟨Fr.rf, ⟨rfl, rfl⟩, fun q => ⟨q, rfl⟩⟩
theorem FrR.tr {a b c : Mm} (h : FrR a b) (g : FrR b c) : FrR a c := ⟨h.1.tr g.1, ⟨g.2.1.1.trans h.2.1.1, g.2.1.2.trans h.2.1.2⟩, fun q => by
  obtain ⟨x, y⟩ := g.2.2 q
  obtain ⟨z, w⟩ := h.2.2 x
  exact ⟨z, y.trans w⟩⟩
theorem FrT.R {σ τ : Mm} (h : FrT σ τ) : FrR σ τ := ⟨h.1.mono (fun c q => Or.inr q), ⟨h.2 4 (by omega), h.2 0 (by omega)⟩, fun q => ⟨(h.2 1 (by omega)).symm.trans q, h.2 2 (by omega)⟩⟩
theorem FrL.R {σ τ : Mm} {A : Nat} (h : FrL A σ τ) (h1 : 34 ≤ A) (h2 : A ≤ 66) : FrR σ τ := ⟨h.1.mono (fun c q => by omega), h.2.1, h.2.2⟩
theorem FrR.sI {σ : Mm} {a k : Nat} {v : Int32} (h1 : 34 ≤ a) (h2 : a ≤ 66) : FrR σ (Jvm.Pilot.@@N@@.sI σ a k v) := ⟨Fr.sI (Or.inl ⟨h1, h2⟩), ⟨gI_a (by omega), gI_a (by omega)⟩, fun q => ⟨(gI_a (by omega)).symm.trans q, gI_a (by omega)⟩⟩
theorem FrR.b2 {k : Nat} {σ : Mm} {v : Int32} (h : 1 ≤ k ∧ k ≤ 4) : FrR σ (Jvm.Pilot.@@N@@.sI (Jvm.Pilot.@@N@@.sI σ 144 1 (nI k)) 144 2 v) := ⟨(Fr.sI (Or.inr rfl)).tr (Fr.sI (Or.inr rfl)), ⟨(gI_k (by decide)).trans (gI_k (by decide)), (gI_k (by decide)).trans (gI_k (by decide))⟩, fun q => absurd (((gI_k (by decide)).trans (gI_same _ _ _ _)).symm.trans q) (k_ne h.1 h.2)⟩
theorem TX.keepR {σ τ : Mm} {n : Nat} {B : Nat → Nat} (h : TX σ n B) (F : FrR σ τ) : TX τ n B := ⟨F.2.1.1.trans h.1, h.2.1, h.2.2.1, fun i hi => (F.1.2.2.1 145 (by omega) i).trans (h.2.2.2 i hi)⟩
def FCs (σ τ : Mm) (n : Nat) (B : Nat → Nat) (k p : Nat) : Prop := FrR σ τ ∧ (∃ b, b ≤ n ∧ CT τ n B b) ∧ gI τ 144 1 = nI k ∧ gI τ 144 2 = nI p ∧ (1 ≤ k ∧ k ≤ 4)
def UCs (σ τ : Mm) (n : Nat) (B : Nat → Nat) (b : Nat) (W : Nat → Int32) (N O K : Nat) : Prop := FrR σ τ ∧ b ≤ n ∧ CT τ n B b ∧ gI τ 144 1 = nI 0 ∧ VR τ 34 W N O ∧ FV W N O K
theorem key_len {n b w : Nat} {B : Nat → Nat} (h : tK n B b = w) (hw : w < 8) : tD n B b - tP n B b = wl' w := by
  have l := (tK_le (n := n) (B := B) (b := b)).2.1 (by omega)
  have e := tK_l l
  have := (keyF_le (cN := cN) (len := wl') (B := B) (p := tP n B b) (e := tD n B b) 8 0).2.2
  rw [← e, h] at this
  exact (this (by omega)).1
theorem famV_o {n N e fl w m b i : Nat} {B : Nat → Nat} {W : Nat → Int32} (h0 : i ≠ 0) (h1 : i ≠ 9 + N) (h2 : i ≠ 19 + N) (h3 : i ≠ 29 + N) (h4 : i < 69 + 5 * N ∨ 69 + 5 * N + m ≤ i) : famV n B W N e fl w m b i = W i := by
  unfold famV
  rw [if_neg h0, if_neg h1, if_neg h2, if_neg h3, if_neg (by omega)]
theorem famV_0 {n N e fl w m b : Nat} {B : Nat → Nat} {W : Nat → Int32} : famV n B W N e fl w m b 0 = nI (N + 1) := if_pos rfl
theorem famV_1 {n N e fl w m b : Nat} {B : Nat → Nat} {W : Nat → Int32} : famV n B W N e fl w m b (9 + N) = nI e := (if_neg (by omega)).trans (if_pos rfl)
theorem famV_2 {n N e fl w m b : Nat} {B : Nat → Nat} {W : Nat → Int32} : famV n B W N e fl w m b (19 + N) = nI fl := (if_neg (by omega)).trans ((if_neg (by omega)).trans (if_pos rfl))
theorem famV_3 {n N e fl w m b : Nat} {B : Nat → Nat} {W : Nat → Int32} : famV n B W N e fl w m b (29 + N) = nI w := (if_neg (by omega)).trans ((if_neg (by omega)).trans ((if_neg (by omega)).trans (if_pos rfl)))
theorem famV_b {n N e fl w m b a : Nat} {B : Nat → Nat} {W : Nat → Int32} (hN : N < 10) (h : a < m) : famV n B W N e fl w m b (69 + 5 * N + a) = nI (vN n B (itE n B a b)) := by
  unfold famV
  rw [if_neg (by omega), if_neg (by omega), if_neg (by omega), if_neg (by omega), if_pos (by omega), Nat.add_sub_cancel_left]
theorem fam_FV {n N O K e fl w m b : Nat} {B : Nat → Nat} {W : Nat → Int32} (h : FV W N O K) (hN : N < 10) (he : e ≤ 30) (hfl : fl ≤ 999) (hw : w ≤ 99) (hm : m ≤ K) (hv : ∀ a, a < m → vN n B (itE n B a b) ≤ 99) : FV (famV n B W N e fl w m b) (N + 1) O K := by
  obtain ⟨⟨⟨g0, -⟩, ⟨g1, hO⟩, ⟨g3, k1, k5⟩, g4, g2, gz, gf, gb, ⟨gq1, gq2, gq3⟩, gd⟩, z1, z2⟩ := h
  have o : ∀ i, i ≠ 0 → i ≠ 9 + N → i ≠ 19 + N → i ≠ 29 + N → (i < 69 + 5 * N ∨ 69 + 5 * N + m ≤ i) → famV n B W N e fl w m b i = W i := fun i a1 a2 a3 a4 a5 => famV_o a1 a2 a3 a4 a5
  refine ⟨⟨⟨famV_0, by omega⟩, ⟨(o 1 (by omega) (by omega) (by omega) (by omega) (by omega)).trans g1, hO⟩, ⟨(o 3 (by omega) (by omega) (by omega) (by omega) (by omega)).trans g3, k1, k5⟩, by rw [o 4 (by omega) (by omega) (by omega) (by omega) (by omega)]; exact g4, by rw [o 2 (by omega) (by omega) (by omega) (by omega) (by omega)]; exact g2, fun q hq => ?_, fun f hf => ?_, fun f hf k hk => ?_, ⟨fun f g hf hg => ?_, fun f hf => ?_, fun f g hf hg hN' => ?_⟩, fun f g hf hg => ?_⟩, fun j f hj hf h10 => ?_, fun f a hf h10 ha => ?_⟩
  · rw [o (6 + q) (by omega) (by omega) (by omega) (by omega) (by omega)]; exact gz q hq
  · by_cases z : f = N
    · rw [z, famV_1, famV_2, famV_3]
      exact ⟨⟨e, he, rfl⟩, ⟨fl, hfl, rfl⟩, ⟨w, hw, rfl⟩⟩
    · rw [o (9 + f) (by omega) (by omega) (by omega) (by omega) (by omega), o (19 + f) (by omega) (by omega) (by omega) (by omega) (by omega), o (29 + f) (by omega) (by omega) (by omega) (by omega) (by omega)]
      exact gf f (by omega)
  · by_cases z : f = N
    · subst z
      by_cases y : k < m
      · rw [famV_b hN y]
        exact ⟨⟨_, by have := hv k y; omega, rfl⟩, fun q => by omega⟩
      · rw [o _ (by omega) (by omega) (by omega) (by omega) (by omega), z2 f k (by omega) hN hk]
        exact ⟨⟨0, by omega, rfl⟩, fun _ => rfl⟩
    · rw [o _ (by omega) (by omega) (by omega) (by omega) (by omega)]
      exact gb f (by omega) k hk
  · rw [o _ (by omega) (by omega) (by omega) (by omega) (by omega), o _ (by omega) (by omega) (by omega) (by omega) (by omega)]
    exact gq1 f g hf hg
  · rw [o _ (by omega) (by omega) (by omega) (by omega) (by omega)]
    exact gq2 f hf
  · rw [o _ (by omega) (by omega) (by omega) (by omega) (by omega)]
    exact gq3 f g hf hg (by omega)
  · rw [o _ (by omega) (by omega) (by omega) (by omega) (by omega)]
    obtain ⟨⟨x, x1, x2⟩, x3⟩ := gd f g hf hg
    rw [Nat.mul_zero, Nat.zero_mul] at x1 ⊢
    exact ⟨⟨x, x1, x2⟩, fun q => by
      rw [x2, show x = 0 by omega]; rfl⟩
  · rw [o _ (by omega) (by omega) (by omega) (by omega) (by omega)]
    exact z1 j f hj (by omega) h10
  · rw [o _ (by omega) (by omega) (by omega) (by omega) (by omega)]
    exact z2 f a (by omega) h10 ha
theorem qm_0 {V : Nat → Int32} {f : Nat} (h : ∀ g, g < 10 → V (119 + 10 * f + g) = 0) : qm V f = 0 := bit_eq (fun i => by
  rw [qm_bit, Nat.zero_testBit]
  cases q : (decide (i < 10) && qq V f i)
  · rfl
  · simp only [qq, Bool.and_eq_true, decide_eq_true_eq] at q
    have := h i q.1
    rw [this] at q
    exact absurd q.2 (by decide))
theorem qm_same {V V' : Nat → Int32} {f : Nat} (h : ∀ g, g < 10 → V' (119 + 10 * f + g) = V (119 + 10 * f + g)) : qm V' f = qm V f := bit_eq (fun i => by
  rw [qm_bit, qm_bit]
  by_cases q : i < 10
  · unfold qq
    rw [h i q]
  · simp [q])
/-- the village with its new family -/
theorem fam_VR {σ τ : Mm} {n N O K e fl w m b A : Nat} {B : Nat → Nat} {W : Nat → Int32} (hst : St σ) (h : FV W N O K) (hN : N < 10) (hm : m ≤ K) (hV : VR σ 34 W N O) (hA : A = fa σ 34 N) (F : FrR σ τ) (t0 : gI τ 34 0 = nI (N + 1)) (t1 : ∀ j, j ≠ 0 → gI τ 34 j = gI σ 34 j) (oth : ∀ a, a ≠ 34 → a ≠ A → a ≠ A + 1 → a ≠ A + 2 → a ≠ 144 → ∀ k, gI τ a k = gI σ a k) (f0 : gI τ A 0 = nI e) (f1 : gI τ A 1 = nI fl) (f2 : gI τ A 2 = nI w) (f3 : ∀ j, 3 ≤ j → j ≤ 6 → gI τ A j = nI 0) (br : ∀ a, a < m → gI τ (A + 1) a = nI (vN n B (itE n B a b))) (br0 : ∀ a, m ≤ a → a < 5 → gI τ (A + 1) a = nI 0) (ow : ∀ g, g < 10 → gI τ (A + 2) g = nI 0) : VR τ 34 (famV n B W N e fl w m b) (N + 1) O := by
  obtain ⟨⟨⟨g0, -⟩, ⟨g1, hO⟩, ⟨g3, k1, k5⟩, g4, g2, gz, gf, gb, ⟨gq1, gq2, gq3⟩, gd⟩, z1, z2⟩ := h
  have o : ∀ i, i ≠ 0 → i ≠ 9 + N → i ≠ 19 + N → i ≠ 29 + N → (i < 69 + 5 * N ∨ 69 + 5 * N + m ≤ i) → famV n B W N e fl w m b i = W i := fun i a1 a2 a3 a4 a5 => famV_o a1 a2 a3 a4 a5
  have o' : ∀ i, i ≠ 0 → i < 9 → famV n B W N e fl w m b i = W i := fun i a1 a2 => o i a1 (by omega) (by omega) (by omega) (by omega)
  have hVm := hst.2.2 34 (Or.inr (Or.inl rfl))
  obtain ⟨⟨a1, a2, a3, a4, a5, a6⟩, a7, a8⟩ := hV
  have hfa : ∀ f, fa τ 34 f = fa σ 34 f := F.1.fa 34
  have pos : ∀ f, f < 10 → ∃ p, p < 10 ∧ fa σ 34 f = 34 + 3 + 3 * p := fun f hf => (fa_ok hst.1 hst.2.1 (Or.inr (Or.inl rfl)) hVm hf).2.2
  obtain ⟨pA, pA1, pA2⟩ := pos N hN
  refine ⟨⟨by rw [t0, famV_0], by rw [t1 1 (by omega), o' 1 (by omega) (by omega)]; exact a2, by rw [t1 4 (by omega), o' 2 (by omega) (by omega)]; exact a3, by rw [t1 2 (by omega), o' 3 (by omega) (by omega)]; exact a4, by rw [t1 3 (by omega), o' 4 (by omega) (by omega)]; exact a5, by rw [t1 5 (by omega), o' 5 (by omega) (by omega)]; exact a6⟩, fun q hq => ?_, fun f hf => ?_⟩
  · rw [oth 36 (by omega) (by omega) (by omega) (by omega) (by omega), o' (6 + q) (by omega) (by omega)]
    exact a7 q hq
  · rw [hfa]
    by_cases z : f = N
    · subst z
      rw [← hA]
      refine ⟨fun j hj => ?_, ?_, fun k hk => ?_, fun g hg => ?_⟩
      · rcases (by omega : j = 0 ∨ j = 1 ∨ j = 2 ∨ 3 ≤ j) with rfl | rfl | rfl | q
        · rw [f0]; exact famV_1.symm
        · rw [f1]; exact famV_2.symm
        · rw [f2]; exact famV_3.symm
        · rw [f3 j q (by omega), o _ (by omega) (by omega) (by omega) (by omega) (by omega), z1 j f hj (Nat.le_refl _) hN]
      · rw [f3 6 (by omega) (by omega), qm_0 (fun g hg => ?_)]
        rw [o _ (by omega) (by omega) (by omega) (by omega) (by omega), (gq1 f g hN hg).2]
        exact gq3 g f hg hN (Nat.le_refl _)
      · by_cases y : k < m
        · rw [br k y, famV_b hN y]
        · rw [br0 k (by omega) hk, o _ (by omega) (by omega) (by omega) (by omega) (by omega), z2 f k (Nat.le_refl _) hN hk]
      · rw [ow g hg, o _ (by omega) (by omega) (by omega) (by omega) (by omega), (gd f g hN hg).2 (Or.inl (Nat.le_refl _))]
        rfl
    · obtain ⟨b1, b2, b3, b4⟩ := a8 f (by omega)
      obtain ⟨pF, pF1, pF2⟩ := pos f (by omega)
      have ne : pF ≠ pA := fun q => z (fa_inj hVm (by omega) hN (by rw [pF2, pA2, q]))
      refine ⟨fun j hj => ?_, ?_, fun k hk => ?_, fun g hg => ?_⟩
      · rw [oth _ (by omega) (by omega) (by omega) (by omega) (by omega), o _ (by omega) (by omega) (by omega) (by omega) (by omega)]
        exact b1 j hj
      · rw [oth _ (by omega) (by omega) (by omega) (by omega) (by omega), qm_same (fun g hg => o _ (by omega) (by omega) (by omega) (by omega) (by omega))]
        exact b2
      · rw [oth _ (by omega) (by omega) (by omega) (by omega) (by omega), o _ (by omega) (by omega) (by omega) (by omega) (by omega)]
        exact b3 k hk
      · rw [oth _ (by omega) (by omega) (by omega) (by omega) (by omega), o _ (by omega) (by omega) (by omega) (by omega) (by omega)]
        exact b4 g hg
