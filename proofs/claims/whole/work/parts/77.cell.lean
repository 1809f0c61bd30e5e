/-! the class's tables over sets -/
set_option maxRecDepth 20000
theorem low_e {s : Nat} (hs : s < 1024) (h0 : 0 < s) : ∃ j, j < 10 ∧ lowN s = 2 ^ j ∧ s.testBit j = true ∧ s - lowN s = s ^^^ 2 ^ j := by
  obtain ⟨l1, l2, l3, l4, -, -, -⟩ := low_p s hs h0
  exact ⟨_, l2, l1, l3, by rw [← l1]; exact l4.symm⟩
theorem sub_bit {x s : Nat} : x &&& s = x ↔ ∀ i, x.testBit i = true → s.testBit i = true := by
  constructor
  · intro h i hi
    rw [← h, Nat.testBit_and, Bool.and_eq_true] at hi
    exact hi.2
  · intro h
    refine bit_eq (fun i => ?_)
    rw [Nat.testBit_and]
    cases hx : x.testBit i
    · rfl
    · rw [h i hx]; rfl
theorem pA_make {s w : Nat} (hs : s < 1024) (h0 : 0 < s) (h : w &&& (s - lowN s) = w) : lowN s ||| w = lowN s + w ∧ pA s (lowN s + w) ∧ ndf (s - lowN s) w = ndf s (lowN s + w) ∧ lowN s + w ≤ s := by
  obtain ⟨j, hj, e, b, r⟩ := low_e hs h0
  have wl := sub_le h
  have hb := sub_bit.mp h
  rw [r] at hb
  have wj : w.testBit j = false := by
    cases q : w.testBit j
    · rfl
    · have := hb j q
      rw [Nat.testBit_xor, b, Nat.testBit_two_pow_self] at this
      cases this
  have l5 := (low_p s hs h0).2.2.2.2.1
  have dis : lowN s &&& w = 0 := bit_eq (fun i => by
    rw [Nat.testBit_and, e, Nat.testBit_two_pow, Nat.zero_testBit]
    by_cases q : j = i
    · subst q; rw [wj]; simp
    · simp [q])
  have oa := or_add 10 (lowN s) w (by omega) (by omega) dis
  have ob : ∀ i, (lowN s + w).testBit i = (decide (j = i) || w.testBit i) := fun i => by
    rw [← oa, Nat.testBit_or, e, Nat.testBit_two_pow]
  have sb : (lowN s + w) &&& s = lowN s + w := sub_bit.mpr (fun i hi => by
    rw [ob] at hi
    by_cases q : j = i
    · subst q; exact b
    · have hw : w.testBit i = true := by simpa [q] using hi
      have := hb i hw
      rw [Nat.testBit_xor, Nat.testBit_two_pow] at this
      simpa [q] using this)
  refine ⟨oa, ⟨sb, and_ne.mpr ⟨j, by rw [ob]; simp, by rw [e, Nat.testBit_two_pow_self]⟩⟩, bit_eq (fun i => ?_), sub_le sb⟩
  rw [ndf_bit, ndf_bit, ob, r, Nat.testBit_xor, Nat.testBit_two_pow]
  by_cases q : j = i
  · subst q; rw [b]; simp
  · simp [q]
theorem pA_split {s z : Nat} (hs : s < 1024) (h0 : 0 < s) (h : pA s z) : ∃ w, w &&& (s - lowN s) = w ∧ z = lowN s + w := by
  obtain ⟨j, hj, e, b, r⟩ := low_e hs h0
  have zb := sub_bit.mp h.1
  have zj : z.testBit j = true := by
    obtain ⟨i, i1, i2⟩ := and_ne.mp h.2
    rw [e, Nat.testBit_two_pow] at i2
    rw [show j = i by simpa using i2]; exact i1
  have hw : ndf z (lowN s) &&& (s - lowN s) = ndf z (lowN s) := sub_bit.mpr (fun i hi => by
    rw [ndf_bit, e, Nat.testBit_two_pow, Bool.and_eq_true] at hi
    rw [r, Nat.testBit_xor, Nat.testBit_two_pow, zb i hi.1]
    have := hi.2
    by_cases q : j = i
    · simp [q] at this
    · simp [q])
  refine ⟨_, hw, ?_⟩
  rw [← (pA_make hs h0 hw).1]
  refine bit_eq (fun i => ?_)
  rw [Nat.testBit_or, ndf_bit, e, Nat.testBit_two_pow]
  by_cases q : j = i
  · subst q; rw [zj]; simp
  · simp [q]
theorem c_bitCount (X : Cx) (d : Nat) (σ : Mm) (s : Nat) (hs : s < 1024) (Q : Po) (hQ : Q (some (.int (nI (pcN s 10)))) σ) : Call X d 0 0 mJ6_bitCount_0f7a4 [.int (nI s)] σ Q := by
  have h : ∀ x, x = nI (pcN s 10) → Q (some (.int x)) σ := fun x hx => by rw [hx]; exact hQ
  refine call_of eJ6_bitCount_0f7a4 rfl ?_
  refine wp_blk kJ6_bitCount_0f7a4_0 ?_
  simp only [mxa, vxa, vxb, vxc, vxd, vxe, Nat.reduceAdd, Nat.reduceSub, Nat.reduceLeDiff, Nat.reduceLT, Int32.reduceLT, Int32.reduceLE, Int32.reduceAdd, Int32.reduceSub, Int32.reduceMul, Int32.reduceToNatClampNeg, not_false_eq_true, not_true_eq_false, false_implies, true_implies, Nat.zero_add, reduceIte, Nat.reduceMul, Nat.reduceEqDiff, iqx, bJ6_bitCount_0f7a4_0]
  refine h _ ?_
  clear h hQ
  revert s
  decide +kernel
def jn (k : Nat) (v : Int32) (x : Nat) (l : Int32) : Int32 := if k = 0 then imn v (l + nI 1) else if k = 1 then v + l else imx v (l + nI (pcN x 10))
def st0 (k : Nat) (l : Int32) : Int32 := if k = 0 then nI 1048576 else if k = 1 then nI 0 else l
theorem c_joined (X : Cx) (d : Nat) (σ : Mm) (k x : Nat) (v l : Int32) (hk : k < 3) (hx : x < 1024) (Q : Po) (hQ : Q (some (.int (jn k v x l))) σ) : Call X (d + 1) 0 0 mX3_joined [.int (nI k), .int v, .int (nI x), .int l] σ Q := by
  rcases (by omega : k = 0 ∨ k = 1 ∨ k = 2) with rfl | rfl | rfl
  · refine call_of eX3_joined rfl ?_
    refine wp_blk kX3_joined_0 ?_
    simp (disch := first | decide | omega) only [mxa, vxa, vxb, vxc, vnd, vne, Nat.reduceAdd, Nat.reduceSub, Nat.reduceLeDiff, Nat.reduceLT, Int32.reduceLT, Int32.reduceLE, Int32.reduceAdd, Int32.reduceSub, Int32.reduceMul, Int32.reduceToNatClampNeg, not_false_eq_true, not_true_eq_false, false_implies, true_implies, Nat.zero_add, reduceIte, Nat.reduceMul, Nat.reduceEqDiff, nxa, nxc, lgn, nL_of, swx, Int.reduceAdd, gI_a, gI_k, gL_a, gL_k, gI_r, gL_r, nI_and, nI_or, nI_xor, nI_ndf, nI_shl, nI_shr, ne_eq, and_true, true_and, eq_self, true_or, or_true, false_or, or_false, Option.toList, List.cons_append, List.nil_append, List.length_nil, List.length_cons, Nat.not_lt_zero, bX3_joined_0]
    refine wp_blk kX3_joined_28 ?_
    simp (disch := first | decide | omega) only [mxa, vxa, vxb, vxc, vnd, vne, Nat.reduceAdd, Nat.reduceSub, Nat.reduceLeDiff, Nat.reduceLT, Int32.reduceLT, Int32.reduceLE, Int32.reduceAdd, Int32.reduceSub, Int32.reduceMul, Int32.reduceToNatClampNeg, not_false_eq_true, not_true_eq_false, false_implies, true_implies, Nat.zero_add, reduceIte, Nat.reduceMul, Nat.reduceEqDiff, nxa, nxc, lgn, nL_of, swx, Int.reduceAdd, gI_a, gI_k, gL_a, gL_k, gI_r, gL_r, nI_and, nI_or, nI_xor, nI_ndf, nI_shl, nI_shr, ne_eq, and_true, true_and, eq_self, true_or, or_true, false_or, or_false, Option.toList, List.cons_append, List.nil_append, List.length_nil, List.length_cons, Nat.not_lt_zero, bX3_joined_28, Nat.succ_pos]
    exact hQ
  · refine call_of eX3_joined rfl ?_
    refine wp_blk kX3_joined_0 ?_
    simp (disch := first | decide | omega) only [mxa, vxa, vxb, vxc, vnd, vne, Nat.reduceAdd, Nat.reduceSub, Nat.reduceLeDiff, Nat.reduceLT, Int32.reduceLT, Int32.reduceLE, Int32.reduceAdd, Int32.reduceSub, Int32.reduceMul, Int32.reduceToNatClampNeg, not_false_eq_true, not_true_eq_false, false_implies, true_implies, Nat.zero_add, reduceIte, Nat.reduceMul, Nat.reduceEqDiff, nxa, nxc, lgn, nL_of, swx, Int.reduceAdd, gI_a, gI_k, gL_a, gL_k, gI_r, gL_r, nI_and, nI_or, nI_xor, nI_ndf, nI_shl, nI_shr, ne_eq, and_true, true_and, eq_self, true_or, or_true, false_or, or_false, Option.toList, List.cons_append, List.nil_append, List.length_nil, List.length_cons, Nat.not_lt_zero, bX3_joined_0]
    refine wp_blk kX3_joined_36 ?_
    simp (disch := first | decide | omega) only [mxa, vxa, vxb, vxc, vnd, vne, Nat.reduceAdd, Nat.reduceSub, Nat.reduceLeDiff, Nat.reduceLT, Int32.reduceLT, Int32.reduceLE, Int32.reduceAdd, Int32.reduceSub, Int32.reduceMul, Int32.reduceToNatClampNeg, not_false_eq_true, not_true_eq_false, false_implies, true_implies, Nat.zero_add, reduceIte, Nat.reduceMul, Nat.reduceEqDiff, nxa, nxc, lgn, nL_of, swx, Int.reduceAdd, gI_a, gI_k, gL_a, gL_k, gI_r, gL_r, nI_and, nI_or, nI_xor, nI_ndf, nI_shl, nI_shr, ne_eq, and_true, true_and, eq_self, true_or, or_true, false_or, or_false, Option.toList, List.cons_append, List.nil_append, List.length_nil, List.length_cons, Nat.not_lt_zero, bX3_joined_36]
    exact hQ
  · refine call_of eX3_joined rfl ?_
    refine wp_blk kX3_joined_0 ?_
    simp (disch := first | decide | omega) only [mxa, vxa, vxb, vxc, vnd, vne, Nat.reduceAdd, Nat.reduceSub, Nat.reduceLeDiff, Nat.reduceLT, Int32.reduceLT, Int32.reduceLE, Int32.reduceAdd, Int32.reduceSub, Int32.reduceMul, Int32.reduceToNatClampNeg, not_false_eq_true, not_true_eq_false, false_implies, true_implies, Nat.zero_add, reduceIte, Nat.reduceMul, Nat.reduceEqDiff, nxa, nxc, lgn, nL_of, swx, Int.reduceAdd, gI_a, gI_k, gL_a, gL_k, gI_r, gL_r, nI_and, nI_or, nI_xor, nI_ndf, nI_shl, nI_shr, ne_eq, and_true, true_and, eq_self, true_or, or_true, false_or, or_false, Option.toList, List.cons_append, List.nil_append, List.length_nil, List.length_cons, Nat.not_lt_zero, bX3_joined_0]
    refine wp_blk kX3_joined_40 ?_
    simp (disch := first | decide | omega) only [mxa, vxa, vxb, vxc, vnd, vne, Nat.reduceAdd, Nat.reduceSub, Nat.reduceLeDiff, Nat.reduceLT, Int32.reduceLT, Int32.reduceLE, Int32.reduceAdd, Int32.reduceSub, Int32.reduceMul, Int32.reduceToNatClampNeg, not_false_eq_true, not_true_eq_false, false_implies, true_implies, Nat.zero_add, reduceIte, Nat.reduceMul, Nat.reduceEqDiff, nxa, nxc, lgn, nL_of, swx, Int.reduceAdd, gI_a, gI_k, gL_a, gL_k, gI_r, gL_r, nI_and, nI_or, nI_xor, nI_ndf, nI_shl, nI_shr, ne_eq, and_true, true_and, eq_self, true_or, or_true, false_or, or_false, Option.toList, List.cons_append, List.nil_append, List.length_nil, List.length_cons, Nat.not_lt_zero, bX3_joined_40]
    refine c_bitCount X _ σ x hx _ ?_
    simp (disch := first | decide | omega) only [mxa, vxa, vxb, vxc, vnd, vne, Nat.reduceAdd, Nat.reduceSub, Nat.reduceLeDiff, Nat.reduceLT, Int32.reduceLT, Int32.reduceLE, Int32.reduceAdd, Int32.reduceSub, Int32.reduceMul, Int32.reduceToNatClampNeg, not_false_eq_true, not_true_eq_false, false_implies, true_implies, Nat.zero_add, reduceIte, Nat.reduceMul, Nat.reduceEqDiff, nxa, nxc, lgn, nL_of, swx, Int.reduceAdd, gI_a, gI_k, gL_a, gL_k, gI_r, gL_r, nI_and, nI_or, nI_xor, nI_ndf, nI_shl, nI_shr, ne_eq, and_true, true_and, eq_self, true_or, or_true, false_or, or_false, Option.toList, List.cons_append, List.nil_append, List.length_nil, List.length_cons, Nat.not_lt_zero, Nat.succ_pos]
    exact hQ
theorem c_startOf (X : Cx) (d : Nat) (σ : Mm) (k r : Nat) (hs : Sh σ) (hr : Rf σ) (hk : k < 3) (hx : r < 1024) (Q : Po) (hQ : Q (some (.int (st0 k (gI σ 153 r)))) σ) : Call X d 0 0 mX3_startOf [.ref 151, .int (nI k), .int (nI r)] σ Q := by
  rcases (by omega : k = 0 ∨ k = 1 ∨ k = 2) with rfl | rfl | rfl
  · refine call_of eX3_startOf rfl ?_
    refine wp_blk kX3_startOf_0 ?_
    simp (disch := first | decide | omega) only [mxa, vxa, vxb, vxc, vnd, vne, Nat.reduceAdd, Nat.reduceSub, Nat.reduceLeDiff, Nat.reduceLT, Int32.reduceLT, Int32.reduceLE, Int32.reduceAdd, Int32.reduceSub, Int32.reduceMul, Int32.reduceToNatClampNeg, not_false_eq_true, not_true_eq_false, false_implies, true_implies, Nat.zero_add, reduceIte, Nat.reduceMul, Nat.reduceEqDiff, nxa, nxc, lgn, nL_of, swx, Int.reduceAdd, gI_a, gI_k, gL_a, gL_k, gI_r, gL_r, nI_and, nI_or, nI_xor, nI_ndf, nI_shl, nI_shr, ne_eq, and_true, true_and, eq_self, true_or, or_true, false_or, or_false, Option.toList, List.cons_append, List.nil_append, List.length_nil, List.length_cons, Nat.not_lt_zero, bX3_startOf_0]
    refine wp_blk kX3_startOf_28 ?_
    simp (disch := first | decide | omega) only [mxa, vxa, vxb, vxc, vnd, vne, Nat.reduceAdd, Nat.reduceSub, Nat.reduceLeDiff, Nat.reduceLT, Int32.reduceLT, Int32.reduceLE, Int32.reduceAdd, Int32.reduceSub, Int32.reduceMul, Int32.reduceToNatClampNeg, not_false_eq_true, not_true_eq_false, false_implies, true_implies, Nat.zero_add, reduceIte, Nat.reduceMul, Nat.reduceEqDiff, nxa, nxc, lgn, nL_of, swx, Int.reduceAdd, gI_a, gI_k, gL_a, gL_k, gI_r, gL_r, nI_and, nI_or, nI_xor, nI_ndf, nI_shl, nI_shr, ne_eq, and_true, true_and, eq_self, true_or, or_true, false_or, or_false, Option.toList, List.cons_append, List.nil_append, List.length_nil, List.length_cons, Nat.not_lt_zero, bX3_startOf_28]
    exact hQ
  · refine call_of eX3_startOf rfl ?_
    refine wp_blk kX3_startOf_0 ?_
    simp (disch := first | decide | omega) only [mxa, vxa, vxb, vxc, vnd, vne, Nat.reduceAdd, Nat.reduceSub, Nat.reduceLeDiff, Nat.reduceLT, Int32.reduceLT, Int32.reduceLE, Int32.reduceAdd, Int32.reduceSub, Int32.reduceMul, Int32.reduceToNatClampNeg, not_false_eq_true, not_true_eq_false, false_implies, true_implies, Nat.zero_add, reduceIte, Nat.reduceMul, Nat.reduceEqDiff, nxa, nxc, lgn, nL_of, swx, Int.reduceAdd, gI_a, gI_k, gL_a, gL_k, gI_r, gL_r, nI_and, nI_or, nI_xor, nI_ndf, nI_shl, nI_shr, ne_eq, and_true, true_and, eq_self, true_or, or_true, false_or, or_false, Option.toList, List.cons_append, List.nil_append, List.length_nil, List.length_cons, Nat.not_lt_zero, bX3_startOf_0]
    refine wp_blk kX3_startOf_31 ?_
    simp (disch := first | decide | omega) only [mxa, vxa, vxb, vxc, vnd, vne, Nat.reduceAdd, Nat.reduceSub, Nat.reduceLeDiff, Nat.reduceLT, Int32.reduceLT, Int32.reduceLE, Int32.reduceAdd, Int32.reduceSub, Int32.reduceMul, Int32.reduceToNatClampNeg, not_false_eq_true, not_true_eq_false, false_implies, true_implies, Nat.zero_add, reduceIte, Nat.reduceMul, Nat.reduceEqDiff, nxa, nxc, lgn, nL_of, swx, Int.reduceAdd, gI_a, gI_k, gL_a, gL_k, gI_r, gL_r, nI_and, nI_or, nI_xor, nI_ndf, nI_shl, nI_shr, ne_eq, and_true, true_and, eq_self, true_or, or_true, false_or, or_false, Option.toList, List.cons_append, List.nil_append, List.length_nil, List.length_cons, Nat.not_lt_zero, bX3_startOf_31]
    exact hQ
  · refine call_of eX3_startOf rfl ?_
    refine wp_blk kX3_startOf_0 ?_
    simp (disch := first | decide | omega) only [mxa, vxa, vxb, vxc, vnd, vne, Nat.reduceAdd, Nat.reduceSub, Nat.reduceLeDiff, Nat.reduceLT, Int32.reduceLT, Int32.reduceLE, Int32.reduceAdd, Int32.reduceSub, Int32.reduceMul, Int32.reduceToNatClampNeg, not_false_eq_true, not_true_eq_false, false_implies, true_implies, Nat.zero_add, reduceIte, Nat.reduceMul, Nat.reduceEqDiff, nxa, nxc, lgn, nL_of, swx, Int.reduceAdd, gI_a, gI_k, gL_a, gL_k, gI_r, gL_r, nI_and, nI_or, nI_xor, nI_ndf, nI_shl, nI_shr, ne_eq, and_true, true_and, eq_self, true_or, or_true, false_or, or_false, Option.toList, List.cons_append, List.nil_append, List.length_nil, List.length_cons, Nat.not_lt_zero, bX3_startOf_0]
    refine wp_blk kX3_startOf_33 ?_
    simp (disch := first | decide | omega) only [mxa, vxa, vxb, vxc, vnd, vne, Nat.reduceAdd, Nat.reduceSub, Nat.reduceLeDiff, Nat.reduceLT, Int32.reduceLT, Int32.reduceLE, Int32.reduceAdd, Int32.reduceSub, Int32.reduceMul, Int32.reduceToNatClampNeg, not_false_eq_true, not_true_eq_false, false_implies, true_implies, Nat.zero_add, reduceIte, Nat.reduceMul, Nat.reduceEqDiff, nxa, nxc, lgn, nL_of, swx, Int.reduceAdd, gI_a, gI_k, gL_a, gL_k, gI_r, gL_r, nI_and, nI_or, nI_xor, nI_ndf, nI_shl, nI_shr, ne_eq, and_true, true_and, eq_self, true_or, or_true, false_or, or_false, Option.toList, List.cons_append, List.nil_append, List.length_nil, List.length_cons, Nat.not_lt_zero, bX3_startOf_33, kdx hs, grx hr]
    exact hQ
