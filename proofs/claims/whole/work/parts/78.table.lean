/-! the class's tables over sets: a cell, the table -/
set_option maxRecDepth 20000
theorem nI_dec1 {y : Nat} (h : 0 < y) : nI y - nI 1 = nI (y - 1) := by
  have e : nI y = nI (y - 1) + nI 1 := by rw [nI_add]; congr 1; omega
  rw [e]
  generalize nI (y - 1) = a
  generalize nI 1 = b
  grind
/-- what a cell of a table is made of -/
noncomputable def cl (k : Nat) (F : Nat → Prop) (T : Nat → Int32) (s : Nat) : Int32 := fE (fun x => pA s x ∧ F x) (fun x v => jn k v x (T (ndf s x))) (st0 k (T (s - lowN s))) s 0
theorem c_cell (X : Cx) (d : Nat) (σ : Mm) (k s : Nat) (hs : Sh σ) (hr : Rf σ) (hk : k < 3) (s1 : 0 < s) (s2 : s < 1024) (F : Nat → Prop) (hF : ∀ x, x ≤ s → ∃ b, b ≤ 1 ∧ gI σ 155 x = nI b ∧ (b = 1 ↔ F x)) (Q : Po) (hQ : Q (some (.int (cl k F (gI σ 153) s))) σ) : Call X (d + 2) 0 0 mX3_cell [.ref 151, .int (nI k), .int (nI s)] σ Q := by
  obtain ⟨l1, l2, l3, l4, l5, l6, l7⟩ := low_p s s2 s1
  have lI := low_I s s2
  have lp : 0 < lowN s := by rw [l1]; exact Nat.two_pow_pos _
  unfold cl at hQ
  generalize hE : fE (fun x => pA s x ∧ F x) (fun x v => jn k v x (gI σ 153 (ndf s x))) (st0 k (gI σ 153 (s - lowN s))) s = E at hQ
  have Ey : ∀ x, x ≤ s → pA s x → F x → E x = jn k (E (x + 1)) x (gI σ 153 (ndf s x)) := fun x h1 h2 h3 => by rw [← hE]; exact fE_y (p := fun x => pA s x ∧ F x) h1 ⟨h2, h3⟩
  have En' : ∀ x, x ≤ s → ¬ F x → E x = E (x + 1) := fun x h1 h2 => by rw [← hE]; exact fE_n (p := fun x => pA s x ∧ F x) h1 (fun q => h2 q.2)
  have E0 : E 0 = E (lowN s) := by
    have := fE_skip (p := fun x => pA s x ∧ F x) (g := fun x v => jn k v x (gI σ 153 (ndf s x))) (v := st0 k (gI σ 153 (s - lowN s))) (s := s) (lowN s) 0 (by omega) (fun y q1 q2 q => by
      have := pA_low s2 s1 q.1
      omega)
    rw [hE, Nat.zero_add] at this
    exact this
  have Es : ∀ y z, z < y → lowN s + y ≤ s → (∀ w, w &&& (s - lowN s) = w → w < y → w ≤ z) → E (lowN s + y) = E (lowN s + z + 1) := fun y z h1 h2 h3 => by
    have := fE_skip (p := fun x => pA s x ∧ F x) (g := fun x v => jn k v x (gI σ 153 (ndf s x))) (v := st0 k (gI σ 153 (s - lowN s))) (s := s) (y - (z + 1)) (lowN s + z + 1) (by omega) (fun u q1 q2 q => by
      obtain ⟨w, w1, w2⟩ := pA_split s2 s1 q.1
      have := h3 w w1 (by omega)
      omega)
    rw [hE, show lowN s + z + 1 + (y - (z + 1)) = lowN s + y by omega] at this
    exact this.symm
  have Et : E (s + 1) = st0 k (gI σ 153 (s - lowN s)) := by rw [← hE]; exact fE_top
  clear hE
  rw [E0] at hQ
  have loop : ∀ n y i, y ≤ n → y &&& (s - lowN s) = y → i + y ≤ s - lowN s → Wp X mX3_cell (rmo (d + 2) 0 0) (d + 2) Q 0 0 26 [some (.ref 151), some (.int (nI k)), some (.int (nI s)), some (.int (nI (lowN s))), some (.int (nI (s - lowN s))), some (.int (E (lowN s + y + 1))), some (.int (nI y)), some (.int (nI i))] [] σ := by
    intro n
    induction n with
    | zero =>
      intro y i hy hy2 hi
      have y0 : y = 0 := by omega
      subst y0
      obtain ⟨p1, p2, p3, p4⟩ := pA_make s2 s1 hy2
      rw [Nat.add_zero] at p1 p2 p3 p4 ⊢
      have nl : ndf s (lowN s) ≤ s := by rw [← p3]; exact Nat.le_trans (sub_le (sub_bit.mpr (fun i hi => by rw [ndf_bit, Bool.and_eq_true] at hi; exact hi.1))) (by omega)
      obtain ⟨b, b1, b2, b3⟩ := hF (lowN s) p4
      have fin : Wp X mX3_cell (rmo (d + 2) 0 0) (d + 2) Q 0 0 70 [some (.ref 151), some (.int (nI k)), some (.int (nI s)), some (.int (nI (lowN s))), some (.int (nI (s - lowN s))), some (.int (E (lowN s))), some (.int (nI 0)), some (.int (nI i))] [] σ := by
        refine wp_blk kX3_cell_70 ?_
        simp (disch := first | decide | omega) only [mxa, vxa, vxb, vxc, vnd, vne, Nat.reduceAdd, Nat.reduceSub, Nat.reduceLeDiff, Nat.reduceLT, Int32.reduceLT, Int32.reduceLE, Int32.reduceAdd, Int32.reduceSub, Int32.reduceMul, Int32.reduceToNatClampNeg, not_false_eq_true, not_true_eq_false, false_implies, true_implies, Nat.zero_add, reduceIte, Nat.reduceMul, Nat.reduceEqDiff, nxa, nxc, lgn, nL_of, swx, Int.reduceAdd, gI_a, gI_k, gL_a, gL_k, gI_r, gL_r, nI_and, nI_or, nI_xor, nI_ndf, nI_shl, nI_shr, ne_eq, and_true, true_and, eq_self, true_or, or_true, false_or, or_false, Option.toList, List.cons_append, List.nil_append, List.length_nil, List.length_cons, Nat.not_lt_zero, bX3_cell_70]
        refine wp_blk kX3_cell_93 ?_
        simp (disch := first | decide | omega) only [mxa, vxa, vxb, vxc, vnd, vne, Nat.reduceAdd, Nat.reduceSub, Nat.reduceLeDiff, Nat.reduceLT, Int32.reduceLT, Int32.reduceLE, Int32.reduceAdd, Int32.reduceSub, Int32.reduceMul, Int32.reduceToNatClampNeg, not_false_eq_true, not_true_eq_false, false_implies, true_implies, Nat.zero_add, reduceIte, Nat.reduceMul, Nat.reduceEqDiff, nxa, nxc, lgn, nL_of, swx, Int.reduceAdd, gI_a, gI_k, gL_a, gL_k, gI_r, gL_r, nI_and, nI_or, nI_xor, nI_ndf, nI_shl, nI_shr, ne_eq, and_true, true_and, eq_self, true_or, or_true, false_or, or_false, Option.toList, List.cons_append, List.nil_append, List.length_nil, List.length_cons, Nat.not_lt_zero, bX3_cell_93]
        exact hQ
      by_cases hf : b = 1
      · rw [Ey _ p4 p2 (b3.mp hf)] at fin
        refine wp_blk kX3_cell_26 ?_
        simp (disch := first | decide | omega) only [mxa, vxa, vxb, vxc, vnd, vne, Nat.reduceAdd, Nat.reduceSub, Nat.reduceLeDiff, Nat.reduceLT, Int32.reduceLT, Int32.reduceLE, Int32.reduceAdd, Int32.reduceSub, Int32.reduceMul, Int32.reduceToNatClampNeg, not_false_eq_true, not_true_eq_false, false_implies, true_implies, Nat.zero_add, reduceIte, Nat.reduceMul, Nat.reduceEqDiff, nxa, nxc, lgn, nL_of, swx, Int.reduceAdd, gI_a, gI_k, gL_a, gL_k, gI_r, gL_r, nI_and, nI_or, nI_xor, nI_ndf, nI_shl, nI_shr, ne_eq, and_true, true_and, eq_self, true_or, or_true, false_or, or_false, Option.toList, List.cons_append, List.nil_append, List.length_nil, List.length_cons, Nat.not_lt_zero, bX3_cell_26, kdx hs, grx hr, p1, b2, hf, p3, show ¬ 1024 ≤ i by omega]
        refine c_joined X _ σ k (lowN s) _ _ hk (by omega) _ ?_
        simp (disch := first | decide | omega) only [mxa, vxa, vxb, vxc, vnd, vne, Nat.reduceAdd, Nat.reduceSub, Nat.reduceLeDiff, Nat.reduceLT, Int32.reduceLT, Int32.reduceLE, Int32.reduceAdd, Int32.reduceSub, Int32.reduceMul, Int32.reduceToNatClampNeg, not_false_eq_true, not_true_eq_false, false_implies, true_implies, Nat.zero_add, reduceIte, Nat.reduceMul, Nat.reduceEqDiff, nxa, nxc, lgn, nL_of, swx, Int.reduceAdd, gI_a, gI_k, gL_a, gL_k, gI_r, gL_r, nI_and, nI_or, nI_xor, nI_ndf, nI_shl, nI_shr, ne_eq, and_true, true_and, eq_self, true_or, or_true, false_or, or_false, Option.toList, List.cons_append, List.nil_append, List.length_nil, List.length_cons, Nat.not_lt_zero]
        exact fin
      · rw [En' _ p4 (fun q => hf (b3.mpr q))] at fin
        have b0 : b = 0 := by omega
        refine wp_blk kX3_cell_26 ?_
        simp (disch := first | decide | omega) only [mxa, vxa, vxb, vxc, vnd, vne, Nat.reduceAdd, Nat.reduceSub, Nat.reduceLeDiff, Nat.reduceLT, Int32.reduceLT, Int32.reduceLE, Int32.reduceAdd, Int32.reduceSub, Int32.reduceMul, Int32.reduceToNatClampNeg, not_false_eq_true, not_true_eq_false, false_implies, true_implies, Nat.zero_add, reduceIte, Nat.reduceMul, Nat.reduceEqDiff, nxa, nxc, lgn, nL_of, swx, Int.reduceAdd, gI_a, gI_k, gL_a, gL_k, gI_r, gL_r, nI_and, nI_or, nI_xor, nI_ndf, nI_shl, nI_shr, ne_eq, and_true, true_and, eq_self, true_or, or_true, false_or, or_false, Option.toList, List.cons_append, List.nil_append, List.length_nil, List.length_cons, Nat.not_lt_zero, bX3_cell_26, kdx hs, grx hr, p1, b2, b0, show ¬ 1024 ≤ i by omega]
        exact fin
    | succ n ih =>
      intro y i hy hy2 hi
      by_cases y0 : y = 0
      · exact ih y i (by omega) hy2 hi
      obtain ⟨p1, p2, p3, p4⟩ := pA_make s2 s1 hy2
      have nl : ndf s (lowN s + y) ≤ s := by rw [← p3]; exact Nat.le_trans (sub_le (sub_bit.mpr (fun i hi => by rw [ndf_bit, Bool.and_eq_true] at hi; exact hi.1))) (by omega)
      obtain ⟨b, b1, b2, b3⟩ := hF (lowN s + y) p4
      have fin : Wp X mX3_cell (rmo (d + 2) 0 0) (d + 2) Q 0 0 70 [some (.ref 151), some (.int (nI k)), some (.int (nI s)), some (.int (nI (lowN s))), some (.int (nI (s - lowN s))), some (.int (E (lowN s + y))), some (.int (nI y)), some (.int (nI i))] [] σ := by
        have al : (y - 1 &&& (s - lowN s)) ≤ y - 1 := Nat.and_le_left
        have nx := ih (y - 1 &&& (s - lowN s)) (i + 1) (by omega) (by rw [Nat.and_assoc, Nat.and_self]) (by omega)
        rw [← Es y (y - 1 &&& (s - lowN s)) (by omega) p4 (fun w w1 w2 => dec_sub 10 (s - lowN s) y w (by omega) hy2 w1 w2)] at nx
        refine wp_blk kX3_cell_70 ?_
        simp (disch := first | decide | omega) only [mxa, vxa, vxb, vxc, vnd, vne, Nat.reduceAdd, Nat.reduceSub, Nat.reduceLeDiff, Nat.reduceLT, Int32.reduceLT, Int32.reduceLE, Int32.reduceAdd, Int32.reduceSub, Int32.reduceMul, Int32.reduceToNatClampNeg, not_false_eq_true, not_true_eq_false, false_implies, true_implies, Nat.zero_add, reduceIte, Nat.reduceMul, Nat.reduceEqDiff, nxa, nxc, lgn, nL_of, swx, Int.reduceAdd, gI_a, gI_k, gL_a, gL_k, gI_r, gL_r, nI_and, nI_or, nI_xor, nI_ndf, nI_shl, nI_shr, ne_eq, and_true, true_and, eq_self, true_or, or_true, false_or, or_false, Option.toList, List.cons_append, List.nil_append, List.length_nil, List.length_cons, Nat.not_lt_zero, bX3_cell_70, y0]
        refine wp_blk kX3_cell_78 ?_
        simp (disch := first | decide | omega) only [mxa, vxa, vxb, vxc, vnd, vne, Nat.reduceAdd, Nat.reduceSub, Nat.reduceLeDiff, Nat.reduceLT, Int32.reduceLT, Int32.reduceLE, Int32.reduceAdd, Int32.reduceSub, Int32.reduceMul, Int32.reduceToNatClampNeg, not_false_eq_true, not_true_eq_false, false_implies, true_implies, Nat.zero_add, reduceIte, Nat.reduceMul, Nat.reduceEqDiff, nxa, nxc, lgn, nL_of, swx, Int.reduceAdd, gI_a, gI_k, gL_a, gL_k, gI_r, gL_r, nI_and, nI_or, nI_xor, nI_ndf, nI_shl, nI_shr, ne_eq, and_true, true_and, eq_self, true_or, or_true, false_or, or_false, Option.toList, List.cons_append, List.nil_append, List.length_nil, List.length_cons, Nat.not_lt_zero, bX3_cell_78, nI_dec1 (show 0 < y by omega)]
        exact nx
      by_cases hf : b = 1
      · rw [Ey _ p4 p2 (b3.mp hf)] at fin
        refine wp_blk kX3_cell_26 ?_
        simp (disch := first | decide | omega) only [mxa, vxa, vxb, vxc, vnd, vne, Nat.reduceAdd, Nat.reduceSub, Nat.reduceLeDiff, Nat.reduceLT, Int32.reduceLT, Int32.reduceLE, Int32.reduceAdd, Int32.reduceSub, Int32.reduceMul, Int32.reduceToNatClampNeg, not_false_eq_true, not_true_eq_false, false_implies, true_implies, Nat.zero_add, reduceIte, Nat.reduceMul, Nat.reduceEqDiff, nxa, nxc, lgn, nL_of, swx, Int.reduceAdd, gI_a, gI_k, gL_a, gL_k, gI_r, gL_r, nI_and, nI_or, nI_xor, nI_ndf, nI_shl, nI_shr, ne_eq, and_true, true_and, eq_self, true_or, or_true, false_or, or_false, Option.toList, List.cons_append, List.nil_append, List.length_nil, List.length_cons, Nat.not_lt_zero, bX3_cell_26, kdx hs, grx hr, p1, b2, hf, p3, show ¬ 1024 ≤ i by omega]
        refine c_joined X _ σ k (lowN s + y) _ _ hk (by omega) _ ?_
        simp (disch := first | decide | omega) only [mxa, vxa, vxb, vxc, vnd, vne, Nat.reduceAdd, Nat.reduceSub, Nat.reduceLeDiff, Nat.reduceLT, Int32.reduceLT, Int32.reduceLE, Int32.reduceAdd, Int32.reduceSub, Int32.reduceMul, Int32.reduceToNatClampNeg, not_false_eq_true, not_true_eq_false, false_implies, true_implies, Nat.zero_add, reduceIte, Nat.reduceMul, Nat.reduceEqDiff, nxa, nxc, lgn, nL_of, swx, Int.reduceAdd, gI_a, gI_k, gL_a, gL_k, gI_r, gL_r, nI_and, nI_or, nI_xor, nI_ndf, nI_shl, nI_shr, ne_eq, and_true, true_and, eq_self, true_or, or_true, false_or, or_false, Option.toList, List.cons_append, List.nil_append, List.length_nil, List.length_cons, Nat.not_lt_zero]
        exact fin
      · rw [En' _ p4 (fun q => hf (b3.mpr q))] at fin
        have b0 : b = 0 := by omega
        refine wp_blk kX3_cell_26 ?_
        simp (disch := first | decide | omega) only [mxa, vxa, vxb, vxc, vnd, vne, Nat.reduceAdd, Nat.reduceSub, Nat.reduceLeDiff, Nat.reduceLT, Int32.reduceLT, Int32.reduceLE, Int32.reduceAdd, Int32.reduceSub, Int32.reduceMul, Int32.reduceToNatClampNeg, not_false_eq_true, not_true_eq_false, false_implies, true_implies, Nat.zero_add, reduceIte, Nat.reduceMul, Nat.reduceEqDiff, nxa, nxc, lgn, nL_of, swx, Int.reduceAdd, gI_a, gI_k, gL_a, gL_k, gI_r, gL_r, nI_and, nI_or, nI_xor, nI_ndf, nI_shl, nI_shr, ne_eq, and_true, true_and, eq_self, true_or, or_true, false_or, or_false, Option.toList, List.cons_append, List.nil_append, List.length_nil, List.length_cons, Nat.not_lt_zero, bX3_cell_26, kdx hs, grx hr, p1, b2, b0, show ¬ 1024 ≤ i by omega]
        exact fin
  refine call_of eX3_cell rfl ?_
  refine wp_blk kX3_cell_0 ?_
  simp (disch := first | decide | omega) only [mxa, vxa, vxb, vxc, vnd, vne, Nat.reduceAdd, Nat.reduceSub, Nat.reduceLeDiff, Nat.reduceLT, Int32.reduceLT, Int32.reduceLE, Int32.reduceAdd, Int32.reduceSub, Int32.reduceMul, Int32.reduceToNatClampNeg, not_false_eq_true, not_true_eq_false, false_implies, true_implies, Nat.zero_add, reduceIte, Nat.reduceMul, Nat.reduceEqDiff, nxa, nxc, lgn, nL_of, swx, Int.reduceAdd, gI_a, gI_k, gL_a, gL_k, gI_r, gL_r, nI_and, nI_or, nI_xor, nI_ndf, nI_shl, nI_shr, ne_eq, and_true, true_and, eq_self, true_or, or_true, false_or, or_false, Option.toList, List.cons_append, List.nil_append, List.length_nil, List.length_cons, Nat.not_lt_zero, bX3_cell_0, kdx hs, lI, l4]
  refine c_startOf X _ σ k (s - lowN s) hs hr hk (by omega) _ ?_
  simp (disch := first | decide | omega) only [mxa, vxa, vxb, vxc, vnd, vne, Nat.reduceAdd, Nat.reduceSub, Nat.reduceLeDiff, Nat.reduceLT, Int32.reduceLT, Int32.reduceLE, Int32.reduceAdd, Int32.reduceSub, Int32.reduceMul, Int32.reduceToNatClampNeg, not_false_eq_true, not_true_eq_false, false_implies, true_implies, Nat.zero_add, reduceIte, Nat.reduceMul, Nat.reduceEqDiff, nxa, nxc, lgn, nL_of, swx, Int.reduceAdd, gI_a, gI_k, gL_a, gL_k, gI_r, gL_r, nI_and, nI_or, nI_xor, nI_ndf, nI_shl, nI_shr, ne_eq, and_true, true_and, eq_self, true_or, or_true, false_or, or_false, Option.toList, List.cons_append, List.nil_append, List.length_nil, List.length_cons, Nat.not_lt_zero]
  have := loop (s - lowN s) (s - lowN s) 0 (Nat.le_refl _) (Nat.and_self _) (by omega)
  rw [show lowN s + (s - lowN s) + 1 = s + 1 by omega, Et] at this
  exact this
theorem ndf_lt {s x : Nat} (hs : s < 1024) (h0 : 0 < s) (h : pA s x) : ndf s x < s ∧ ndf s x &&& s = ndf s x := by
  have a : ndf s x &&& s = ndf s x := sub_bit.mpr (fun i hi => by rw [ndf_bit, Bool.and_eq_true] at hi; exact hi.1)
  refine ⟨Nat.lt_of_le_of_ne (sub_le a) (fun e => ?_), a⟩
  have b := pA_bit hs h0 h
  have c := (low_p s hs h0).2.2.1
  have := ndf_bit s x (lowN s).log2
  rw [e, b, c] at this
  cases this
theorem cl_congr {k s : Nat} {F : Nat → Prop} {T T' : Nat → Int32} (hs : s < 1024) (h0 : 0 < s) (h : ∀ r, r < s → r &&& s = r → T r = T' r) : cl k F T s = cl k F T' s := by
  unfold cl
  obtain ⟨l1, -, -, -, l5, -, l7⟩ := low_p s hs h0
  have lp : 0 < lowN s := by rw [l1]; exact Nat.two_pow_pos _
  rw [h (s - lowN s) (by omega) l7]
  refine fE_rel (R := fun a b => a = b) rfl (fun x a b _ hx e => ?_) (s + 1) 0 (by omega)
  obtain ⟨q1, q2⟩ := ndf_lt hs h0 hx.1
  show jn k a x (T (ndf s x)) = jn k b x (T' (ndf s x))
  rw [e, h _ q1 q2]
theorem ndf_0 {s w : Nat} : ndf s w = 0 ↔ s &&& w = s := by
  rw [sub_bit]
  constructor
  · intro h i hi
    have := ndf_bit s w i
    rw [h, Nat.zero_testBit, hi] at this
    simpa using this.symm
  · intro h
    refine bit_eq (fun i => ?_)
    rw [ndf_bit, Nat.zero_testBit]
    cases q : s.testBit i
    · rfl
    · rw [h i q]; rfl
theorem c_isOfWishers (X : Cx) (d : Nat) (σ : Mm) (s w : Nat) (hs : Sh σ) (hw : gI σ 151 0 = nI w) (s2 : s < 1024) (Q : Po) (hy : s &&& w = s → Q (some (.int (nI 1))) σ) (hn : ¬ s &&& w = s → Q (some (.int (nI 0))) σ) : Call X d 0 0 mX3_isOfWishers [.ref 151, .int (nI s)] σ Q := by
  have nl : ndf s w ≤ s := sub_le (sub_bit.mpr (fun i hi => by rw [ndf_bit, Bool.and_eq_true] at hi; exact hi.1))
  by_cases h : s &&& w = s
  · have q := hy h
    have z := ndf_0.mpr h
    refine call_of eX3_isOfWishers rfl ?_
    refine wp_blk kX3_isOfWishers_0 ?_
    simp (disch := first | decide | omega) only [mxa, vxa, vxb, vxc, vnd, vne, Nat.reduceAdd, Nat.reduceSub, Nat.reduceLeDiff, Nat.reduceLT, Int32.reduceLT, Int32.reduceLE, Int32.reduceAdd, Int32.reduceSub, Int32.reduceMul, Int32.reduceToNatClampNeg, not_false_eq_true, not_true_eq_false, false_implies, true_implies, Nat.zero_add, reduceIte, Nat.reduceMul, Nat.reduceEqDiff, nxa, nxc, lgn, nL_of, swx, Int.reduceAdd, gI_a, gI_k, gL_a, gL_k, gI_r, gL_r, nI_and, nI_or, nI_xor, nI_ndf, nI_shl, nI_shr, ne_eq, and_true, true_and, eq_self, true_or, or_true, false_or, or_false, Option.toList, List.cons_append, List.nil_append, List.length_nil, List.length_cons, Nat.not_lt_zero, bX3_isOfWishers_0, kdx hs, hw, z]
    repeat (first | ((with_reducible refine wp_blk kX3_isOfWishers_0 ?_); simp (disch := first | decide | omega) only [mxa, vxa, vxb, vxc, vnd, vne, Nat.reduceAdd, Nat.reduceSub, Nat.reduceLeDiff, Nat.reduceLT, Int32.reduceLT, Int32.reduceLE, Int32.reduceAdd, Int32.reduceSub, Int32.reduceMul, Int32.reduceToNatClampNeg, not_false_eq_true, not_true_eq_false, false_implies, true_implies, Nat.zero_add, reduceIte, Nat.reduceMul, Nat.reduceEqDiff, nxa, nxc, lgn, nL_of, swx, Int.reduceAdd, gI_a, gI_k, gL_a, gL_k, gI_r, gL_r, nI_and, nI_or, nI_xor, nI_ndf, nI_shl, nI_shr, ne_eq, and_true, true_and, eq_self, true_or, or_true, false_or, or_false, Option.toList, List.cons_append, List.nil_append, List.length_nil, List.length_cons, Nat.not_lt_zero, bX3_isOfWishers_0]) | ((with_reducible refine wp_blk kX3_isOfWishers_15 ?_); simp (disch := first | decide | omega) only [mxa, vxa, vxb, vxc, vnd, vne, Nat.reduceAdd, Nat.reduceSub, Nat.reduceLeDiff, Nat.reduceLT, Int32.reduceLT, Int32.reduceLE, Int32.reduceAdd, Int32.reduceSub, Int32.reduceMul, Int32.reduceToNatClampNeg, not_false_eq_true, not_true_eq_false, false_implies, true_implies, Nat.zero_add, reduceIte, Nat.reduceMul, Nat.reduceEqDiff, nxa, nxc, lgn, nL_of, swx, Int.reduceAdd, gI_a, gI_k, gL_a, gL_k, gI_r, gL_r, nI_and, nI_or, nI_xor, nI_ndf, nI_shl, nI_shr, ne_eq, and_true, true_and, eq_self, true_or, or_true, false_or, or_false, Option.toList, List.cons_append, List.nil_append, List.length_nil, List.length_cons, Nat.not_lt_zero, bX3_isOfWishers_15]) | ((with_reducible refine wp_blk kX3_isOfWishers_16 ?_); simp (disch := first | decide | omega) only [mxa, vxa, vxb, vxc, vnd, vne, Nat.reduceAdd, Nat.reduceSub, Nat.reduceLeDiff, Nat.reduceLT, Int32.reduceLT, Int32.reduceLE, Int32.reduceAdd, Int32.reduceSub, Int32.reduceMul, Int32.reduceToNatClampNeg, not_false_eq_true, not_true_eq_false, false_implies, true_implies, Nat.zero_add, reduceIte, Nat.reduceMul, Nat.reduceEqDiff, nxa, nxc, lgn, nL_of, swx, Int.reduceAdd, gI_a, gI_k, gL_a, gL_k, gI_r, gL_r, nI_and, nI_or, nI_xor, nI_ndf, nI_shl, nI_shr, ne_eq, and_true, true_and, eq_self, true_or, or_true, false_or, or_false, Option.toList, List.cons_append, List.nil_append, List.length_nil, List.length_cons, Nat.not_lt_zero, bX3_isOfWishers_16]))
    exact q
  · have q := hn h
    have z : ¬ ndf s w = 0 := fun e => h (ndf_0.mp e)
    refine call_of eX3_isOfWishers rfl ?_
    refine wp_blk kX3_isOfWishers_0 ?_
    simp (disch := first | decide | omega) only [mxa, vxa, vxb, vxc, vnd, vne, Nat.reduceAdd, Nat.reduceSub, Nat.reduceLeDiff, Nat.reduceLT, Int32.reduceLT, Int32.reduceLE, Int32.reduceAdd, Int32.reduceSub, Int32.reduceMul, Int32.reduceToNatClampNeg, not_false_eq_true, not_true_eq_false, false_implies, true_implies, Nat.zero_add, reduceIte, Nat.reduceMul, Nat.reduceEqDiff, nxa, nxc, lgn, nL_of, swx, Int.reduceAdd, gI_a, gI_k, gL_a, gL_k, gI_r, gL_r, nI_and, nI_or, nI_xor, nI_ndf, nI_shl, nI_shr, ne_eq, and_true, true_and, eq_self, true_or, or_true, false_or, or_false, Option.toList, List.cons_append, List.nil_append, List.length_nil, List.length_cons, Nat.not_lt_zero, bX3_isOfWishers_0, kdx hs, hw, z]
    repeat (first | ((with_reducible refine wp_blk kX3_isOfWishers_0 ?_); simp (disch := first | decide | omega) only [mxa, vxa, vxb, vxc, vnd, vne, Nat.reduceAdd, Nat.reduceSub, Nat.reduceLeDiff, Nat.reduceLT, Int32.reduceLT, Int32.reduceLE, Int32.reduceAdd, Int32.reduceSub, Int32.reduceMul, Int32.reduceToNatClampNeg, not_false_eq_true, not_true_eq_false, false_implies, true_implies, Nat.zero_add, reduceIte, Nat.reduceMul, Nat.reduceEqDiff, nxa, nxc, lgn, nL_of, swx, Int.reduceAdd, gI_a, gI_k, gL_a, gL_k, gI_r, gL_r, nI_and, nI_or, nI_xor, nI_ndf, nI_shl, nI_shr, ne_eq, and_true, true_and, eq_self, true_or, or_true, false_or, or_false, Option.toList, List.cons_append, List.nil_append, List.length_nil, List.length_cons, Nat.not_lt_zero, bX3_isOfWishers_0]) | ((with_reducible refine wp_blk kX3_isOfWishers_15 ?_); simp (disch := first | decide | omega) only [mxa, vxa, vxb, vxc, vnd, vne, Nat.reduceAdd, Nat.reduceSub, Nat.reduceLeDiff, Nat.reduceLT, Int32.reduceLT, Int32.reduceLE, Int32.reduceAdd, Int32.reduceSub, Int32.reduceMul, Int32.reduceToNatClampNeg, not_false_eq_true, not_true_eq_false, false_implies, true_implies, Nat.zero_add, reduceIte, Nat.reduceMul, Nat.reduceEqDiff, nxa, nxc, lgn, nL_of, swx, Int.reduceAdd, gI_a, gI_k, gL_a, gL_k, gI_r, gL_r, nI_and, nI_or, nI_xor, nI_ndf, nI_shl, nI_shr, ne_eq, and_true, true_and, eq_self, true_or, or_true, false_or, or_false, Option.toList, List.cons_append, List.nil_append, List.length_nil, List.length_cons, Nat.not_lt_zero, bX3_isOfWishers_15]) | ((with_reducible refine wp_blk kX3_isOfWishers_16 ?_); simp (disch := first | decide | omega) only [mxa, vxa, vxb, vxc, vnd, vne, Nat.reduceAdd, Nat.reduceSub, Nat.reduceLeDiff, Nat.reduceLT, Int32.reduceLT, Int32.reduceLE, Int32.reduceAdd, Int32.reduceSub, Int32.reduceMul, Int32.reduceToNatClampNeg, not_false_eq_true, not_true_eq_false, false_implies, true_implies, Nat.zero_add, reduceIte, Nat.reduceMul, Nat.reduceEqDiff, nxa, nxc, lgn, nL_of, swx, Int.reduceAdd, gI_a, gI_k, gL_a, gL_k, gI_r, gL_r, nI_and, nI_or, nI_xor, nI_ndf, nI_shl, nI_shr, ne_eq, and_true, true_and, eq_self, true_or, or_true, false_or, or_false, Option.toList, List.cons_append, List.nil_append, List.length_nil, List.length_cons, Nat.not_lt_zero, bX3_isOfWishers_16]))
    exact q
/-- a table that is filled for the parts of w -/
def TB (k w : Nat) (F : Nat → Prop) (T : Nat → Int32) : Prop := T 0 = nI (if k = 1 then 1 else 0) ∧ ∀ s, 0 < s → s ≤ w → s &&& w = s → T s = cl k F T s
theorem c_fillTable (X : Cx) (d : Nat) (σ : Mm) (k w : Nat) (hs : Sh σ) (hr : Rf σ) (hk : k < 3) (hw : gI σ 151 0 = nI w) (w2 : w < 1024) (F : Nat → Prop) (hF : ∀ x, x ≤ w → ∃ b, b ≤ 1 ∧ gI σ 155 x = nI b ∧ (b = 1 ↔ F x)) (Q : Po) (hQ : ∀ T, TB k w F T → Q none (rI σ 153 T)) : Call X (d + 3) 0 0 mX3_fillTable [.ref 151, .int (nI k)] σ Q := by
  have go := wfor (fun m => ∀ R : Nat → Int32, R 0 = nI (if k = 1 then 1 else 0) → (∀ s, 0 < s → s ≤ m → s &&& w = s → R s = cl k F R s) → Wp X mX3_fillTable (rmo (d + 3) 0 0) (d + 3) Q 0 0 18 [some (.ref 151), some (.int (nI k)), some (.int (nI (m + 1)))] [] (rI σ 153 R)) w (fun m hm hP R h0 h => by
    have w' : gI (rI σ 153 R) 151 0 = nI w := (gI_r (by decide)).trans hw
    refine wp_blk kX3_fillTable_18 ?_
    simp (disch := first | decide | omega) only [mxa, vxa, vxb, vxc, vnd, vne, Nat.reduceAdd, Nat.reduceSub, Nat.reduceLeDiff, Nat.reduceLT, Int32.reduceLT, Int32.reduceLE, Int32.reduceAdd, Int32.reduceSub, Int32.reduceMul, Int32.reduceToNatClampNeg, not_false_eq_true, not_true_eq_false, false_implies, true_implies, Nat.zero_add, reduceIte, Nat.reduceMul, Nat.reduceEqDiff, nxa, nxc, lgn, nL_of, swx, Int.reduceAdd, gI_a, gI_k, gL_a, gL_k, gI_r, gL_r, nI_and, nI_or, nI_xor, nI_ndf, nI_shl, nI_shr, ne_eq, and_true, true_and, eq_self, true_or, or_true, false_or, or_false, Option.toList, List.cons_append, List.nil_append, List.length_nil, List.length_cons, Nat.not_lt_zero, bX3_fillTable_18, kdx hs, grx hr, hw, show ¬ w < m + 1 by omega]
    refine c_isOfWishers X _ _ (m + 1) w (by exact hs) w' (by omega) _ (fun y => ?_) (fun y => ?_)
    · simp (disch := first | decide | omega) only [mxa, vxa, vxb, vxc, vnd, vne, Nat.reduceAdd, Nat.reduceSub, Nat.reduceLeDiff, Nat.reduceLT, Int32.reduceLT, Int32.reduceLE, Int32.reduceAdd, Int32.reduceSub, Int32.reduceMul, Int32.reduceToNatClampNeg, not_false_eq_true, not_true_eq_false, false_implies, true_implies, Nat.zero_add, reduceIte, Nat.reduceMul, Nat.reduceEqDiff, nxa, nxc, lgn, nL_of, swx, Int.reduceAdd, gI_a, gI_k, gL_a, gL_k, gI_r, gL_r, nI_and, nI_or, nI_xor, nI_ndf, nI_shl, nI_shr, ne_eq, and_true, true_and, eq_self, true_or, or_true, false_or, or_false, Option.toList, List.cons_append, List.nil_append, List.length_nil, List.length_cons, Nat.not_lt_zero, kdx hs, grx hr]
      refine c_cell X _ _ k (m + 1) (by exact hs) (by exact hr) hk (by omega) (by omega) F (fun x hx => ?_) _ ?_
      · obtain ⟨b, b1, b2, b3⟩ := hF x (by omega)
        exact ⟨b, b1, (gI_r (by decide)).trans b2, b3⟩
      · rw [gI_rS]
        simp (disch := first | decide | omega) only [mxa, vxa, vxb, vxc, vnd, vne, Nat.reduceAdd, Nat.reduceSub, Nat.reduceLeDiff, Nat.reduceLT, Int32.reduceLT, Int32.reduceLE, Int32.reduceAdd, Int32.reduceSub, Int32.reduceMul, Int32.reduceToNatClampNeg, not_false_eq_true, not_true_eq_false, false_implies, true_implies, Nat.zero_add, reduceIte, Nat.reduceMul, Nat.reduceEqDiff, nxa, nxc, lgn, nL_of, swx, Int.reduceAdd, gI_a, gI_k, gL_a, gL_k, gI_r, gL_r, nI_and, nI_or, nI_xor, nI_ndf, nI_shl, nI_shr, ne_eq, and_true, true_and, eq_self, true_or, or_true, false_or, or_false, Option.toList, List.cons_append, List.nil_append, List.length_nil, List.length_cons, Nat.not_lt_zero, kdx hs, grx hr, sI_rI]
        refine wp_blk kX3_fillTable_46 ?_
        simp (disch := first | decide | omega) only [mxa, vxa, vxb, vxc, vnd, vne, Nat.reduceAdd, Nat.reduceSub, Nat.reduceLeDiff, Nat.reduceLT, Int32.reduceLT, Int32.reduceLE, Int32.reduceAdd, Int32.reduceSub, Int32.reduceMul, Int32.reduceToNatClampNeg, not_false_eq_true, not_true_eq_false, false_implies, true_implies, Nat.zero_add, reduceIte, Nat.reduceMul, Nat.reduceEqDiff, nxa, nxc, lgn, nL_of, swx, Int.reduceAdd, gI_a, gI_k, gL_a, gL_k, gI_r, gL_r, nI_and, nI_or, nI_xor, nI_ndf, nI_shl, nI_shr, ne_eq, and_true, true_and, eq_self, true_or, or_true, false_or, or_false, Option.toList, List.cons_append, List.nil_append, List.length_nil, List.length_cons, Nat.not_lt_zero, bX3_fillTable_46]
        have cg : ∀ s, 0 < s → s ≤ m + 1 → cl k F R s = cl k F (upd R (m + 1) (cl k F R (m + 1))) s := fun s q1 q2 => cl_congr (by omega) q1 (fun r r1 _ => (upd_n (by omega)).symm)
        refine hP _ ((upd_n (by omega)).trans h0) (fun s q1 q2 q3 => ?_)
        rw [← cg s q1 q2]
        by_cases e : s = m + 1
        · rw [e, upd_s]
        · rw [upd_n e]; exact h s q1 (by omega) q3
    · simp (disch := first | decide | omega) only [mxa, vxa, vxb, vxc, vnd, vne, Nat.reduceAdd, Nat.reduceSub, Nat.reduceLeDiff, Nat.reduceLT, Int32.reduceLT, Int32.reduceLE, Int32.reduceAdd, Int32.reduceSub, Int32.reduceMul, Int32.reduceToNatClampNeg, not_false_eq_true, not_true_eq_false, false_implies, true_implies, Nat.zero_add, reduceIte, Nat.reduceMul, Nat.reduceEqDiff, nxa, nxc, lgn, nL_of, swx, Int.reduceAdd, gI_a, gI_k, gL_a, gL_k, gI_r, gL_r, nI_and, nI_or, nI_xor, nI_ndf, nI_shl, nI_shr, ne_eq, and_true, true_and, eq_self, true_or, or_true, false_or, or_false, Option.toList, List.cons_append, List.nil_append, List.length_nil, List.length_cons, Nat.not_lt_zero]
      refine wp_blk kX3_fillTable_46 ?_
      simp (disch := first | decide | omega) only [mxa, vxa, vxb, vxc, vnd, vne, Nat.reduceAdd, Nat.reduceSub, Nat.reduceLeDiff, Nat.reduceLT, Int32.reduceLT, Int32.reduceLE, Int32.reduceAdd, Int32.reduceSub, Int32.reduceMul, Int32.reduceToNatClampNeg, not_false_eq_true, not_true_eq_false, false_implies, true_implies, Nat.zero_add, reduceIte, Nat.reduceMul, Nat.reduceEqDiff, nxa, nxc, lgn, nL_of, swx, Int.reduceAdd, gI_a, gI_k, gL_a, gL_k, gI_r, gL_r, nI_and, nI_or, nI_xor, nI_ndf, nI_shl, nI_shr, ne_eq, and_true, true_and, eq_self, true_or, or_true, false_or, or_false, Option.toList, List.cons_append, List.nil_append, List.length_nil, List.length_cons, Nat.not_lt_zero, bX3_fillTable_46]
      refine hP R h0 (fun s q1 q2 q3 => ?_)
      by_cases e : s = m + 1
      · rw [e] at q3; exact absurd q3 y
      · exact h s q1 (by omega) q3) (fun R h0 h => by
    refine wp_blk kX3_fillTable_18 ?_
    simp (disch := first | decide | omega) only [mxa, vxa, vxb, vxc, vnd, vne, Nat.reduceAdd, Nat.reduceSub, Nat.reduceLeDiff, Nat.reduceLT, Int32.reduceLT, Int32.reduceLE, Int32.reduceAdd, Int32.reduceSub, Int32.reduceMul, Int32.reduceToNatClampNeg, not_false_eq_true, not_true_eq_false, false_implies, true_implies, Nat.zero_add, reduceIte, Nat.reduceMul, Nat.reduceEqDiff, nxa, nxc, lgn, nL_of, swx, Int.reduceAdd, gI_a, gI_k, gL_a, gL_k, gI_r, gL_r, nI_and, nI_or, nI_xor, nI_ndf, nI_shl, nI_shr, ne_eq, and_true, true_and, eq_self, true_or, or_true, false_or, or_false, Option.toList, List.cons_append, List.nil_append, List.length_nil, List.length_cons, Nat.not_lt_zero, bX3_fillTable_18, kdx hs, grx hr, hw, show w < w + 1 by omega]
    refine wp_blk kX3_fillTable_52 ?_
    simp (disch := first | decide | omega) only [mxa, vxa, vxb, vxc, vnd, vne, Nat.reduceAdd, Nat.reduceSub, Nat.reduceLeDiff, Nat.reduceLT, Int32.reduceLT, Int32.reduceLE, Int32.reduceAdd, Int32.reduceSub, Int32.reduceMul, Int32.reduceToNatClampNeg, not_false_eq_true, not_true_eq_false, false_implies, true_implies, Nat.zero_add, reduceIte, Nat.reduceMul, Nat.reduceEqDiff, nxa, nxc, lgn, nL_of, swx, Int.reduceAdd, gI_a, gI_k, gL_a, gL_k, gI_r, gL_r, nI_and, nI_or, nI_xor, nI_ndf, nI_shl, nI_shr, ne_eq, and_true, true_and, eq_self, true_or, or_true, false_or, or_false, Option.toList, List.cons_append, List.nil_append, List.length_nil, List.length_cons, Nat.not_lt_zero, bX3_fillTable_52]
    exact hQ R ⟨h0, h⟩)
  have g := fun (v : Int32) (hv : v = nI (if k = 1 then 1 else 0)) => go (upd (gI σ 153) 0 v) ((upd_s _ _ _).trans hv) (fun s q1 q2 => absurd q2 (by omega))
  have g' : ∀ v, v = nI (if k = 1 then 1 else 0) → Wp X mX3_fillTable (rmo (d + 3) 0 0) (d + 3) Q 0 0 18 [some (.ref 151), some (.int (nI k)), some (.int (nI (0 + 1)))] [] (sI σ 153 0 v) := fun v hv => by
    have := g v hv
    rw [← sI_rI, rI_self] at this
    exact this
  by_cases k1 : k = 1
  · subst k1
    have := g' (nI 1) rfl
    refine call_of eX3_fillTable rfl ?_
    refine wp_blk kX3_fillTable_0 ?_
    simp (disch := first | decide | omega) only [mxa, vxa, vxb, vxc, vnd, vne, Nat.reduceAdd, Nat.reduceSub, Nat.reduceLeDiff, Nat.reduceLT, Int32.reduceLT, Int32.reduceLE, Int32.reduceAdd, Int32.reduceSub, Int32.reduceMul, Int32.reduceToNatClampNeg, not_false_eq_true, not_true_eq_false, false_implies, true_implies, Nat.zero_add, reduceIte, Nat.reduceMul, Nat.reduceEqDiff, nxa, nxc, lgn, nL_of, swx, Int.reduceAdd, gI_a, gI_k, gL_a, gL_k, gI_r, gL_r, nI_and, nI_or, nI_xor, nI_ndf, nI_shl, nI_shr, ne_eq, and_true, true_and, eq_self, true_or, or_true, false_or, or_false, Option.toList, List.cons_append, List.nil_append, List.length_nil, List.length_cons, Nat.not_lt_zero, bX3_fillTable_0, kdx hs, grx hr]
    repeat (first | ((with_reducible refine wp_blk kX3_fillTable_0 ?_); simp (disch := first | decide | omega) only [mxa, vxa, vxb, vxc, vnd, vne, Nat.reduceAdd, Nat.reduceSub, Nat.reduceLeDiff, Nat.reduceLT, Int32.reduceLT, Int32.reduceLE, Int32.reduceAdd, Int32.reduceSub, Int32.reduceMul, Int32.reduceToNatClampNeg, not_false_eq_true, not_true_eq_false, false_implies, true_implies, Nat.zero_add, reduceIte, Nat.reduceMul, Nat.reduceEqDiff, nxa, nxc, lgn, nL_of, swx, Int.reduceAdd, gI_a, gI_k, gL_a, gL_k, gI_r, gL_r, nI_and, nI_or, nI_xor, nI_ndf, nI_shl, nI_shr, ne_eq, and_true, true_and, eq_self, true_or, or_true, false_or, or_false, Option.toList, List.cons_append, List.nil_append, List.length_nil, List.length_cons, Nat.not_lt_zero, bX3_fillTable_0, kdx hs, grx hr]) | ((with_reducible refine wp_blk kX3_fillTable_14 ?_); simp (disch := first | decide | omega) only [mxa, vxa, vxb, vxc, vnd, vne, Nat.reduceAdd, Nat.reduceSub, Nat.reduceLeDiff, Nat.reduceLT, Int32.reduceLT, Int32.reduceLE, Int32.reduceAdd, Int32.reduceSub, Int32.reduceMul, Int32.reduceToNatClampNeg, not_false_eq_true, not_true_eq_false, false_implies, true_implies, Nat.zero_add, reduceIte, Nat.reduceMul, Nat.reduceEqDiff, nxa, nxc, lgn, nL_of, swx, Int.reduceAdd, gI_a, gI_k, gL_a, gL_k, gI_r, gL_r, nI_and, nI_or, nI_xor, nI_ndf, nI_shl, nI_shr, ne_eq, and_true, true_and, eq_self, true_or, or_true, false_or, or_false, Option.toList, List.cons_append, List.nil_append, List.length_nil, List.length_cons, Nat.not_lt_zero, bX3_fillTable_14, kdx hs, grx hr]) | ((with_reducible refine wp_blk kX3_fillTable_15 ?_); simp (disch := first | decide | omega) only [mxa, vxa, vxb, vxc, vnd, vne, Nat.reduceAdd, Nat.reduceSub, Nat.reduceLeDiff, Nat.reduceLT, Int32.reduceLT, Int32.reduceLE, Int32.reduceAdd, Int32.reduceSub, Int32.reduceMul, Int32.reduceToNatClampNeg, not_false_eq_true, not_true_eq_false, false_implies, true_implies, Nat.zero_add, reduceIte, Nat.reduceMul, Nat.reduceEqDiff, nxa, nxc, lgn, nL_of, swx, Int.reduceAdd, gI_a, gI_k, gL_a, gL_k, gI_r, gL_r, nI_and, nI_or, nI_xor, nI_ndf, nI_shl, nI_shr, ne_eq, and_true, true_and, eq_self, true_or, or_true, false_or, or_false, Option.toList, List.cons_append, List.nil_append, List.length_nil, List.length_cons, Nat.not_lt_zero, bX3_fillTable_15, kdx hs, grx hr]) | ((with_reducible refine wp_blk kX3_fillTable_46 ?_); simp (disch := first | decide | omega) only [mxa, vxa, vxb, vxc, vnd, vne, Nat.reduceAdd, Nat.reduceSub, Nat.reduceLeDiff, Nat.reduceLT, Int32.reduceLT, Int32.reduceLE, Int32.reduceAdd, Int32.reduceSub, Int32.reduceMul, Int32.reduceToNatClampNeg, not_false_eq_true, not_true_eq_false, false_implies, true_implies, Nat.zero_add, reduceIte, Nat.reduceMul, Nat.reduceEqDiff, nxa, nxc, lgn, nL_of, swx, Int.reduceAdd, gI_a, gI_k, gL_a, gL_k, gI_r, gL_r, nI_and, nI_or, nI_xor, nI_ndf, nI_shl, nI_shr, ne_eq, and_true, true_and, eq_self, true_or, or_true, false_or, or_false, Option.toList, List.cons_append, List.nil_append, List.length_nil, List.length_cons, Nat.not_lt_zero, bX3_fillTable_46, kdx hs, grx hr]) | ((with_reducible refine wp_blk kX3_fillTable_52 ?_); simp (disch := first | decide | omega) only [mxa, vxa, vxb, vxc, vnd, vne, Nat.reduceAdd, Nat.reduceSub, Nat.reduceLeDiff, Nat.reduceLT, Int32.reduceLT, Int32.reduceLE, Int32.reduceAdd, Int32.reduceSub, Int32.reduceMul, Int32.reduceToNatClampNeg, not_false_eq_true, not_true_eq_false, false_implies, true_implies, Nat.zero_add, reduceIte, Nat.reduceMul, Nat.reduceEqDiff, nxa, nxc, lgn, nL_of, swx, Int.reduceAdd, gI_a, gI_k, gL_a, gL_k, gI_r, gL_r, nI_and, nI_or, nI_xor, nI_ndf, nI_shl, nI_shr, ne_eq, and_true, true_and, eq_self, true_or, or_true, false_or, or_false, Option.toList, List.cons_append, List.nil_append, List.length_nil, List.length_cons, Nat.not_lt_zero, bX3_fillTable_52, kdx hs, grx hr]))
    exact this
  · have := g' (nI 0) (by rw [if_neg k1])
    refine call_of eX3_fillTable rfl ?_
    refine wp_blk kX3_fillTable_0 ?_
    simp (disch := first | decide | omega) only [mxa, vxa, vxb, vxc, vnd, vne, Nat.reduceAdd, Nat.reduceSub, Nat.reduceLeDiff, Nat.reduceLT, Int32.reduceLT, Int32.reduceLE, Int32.reduceAdd, Int32.reduceSub, Int32.reduceMul, Int32.reduceToNatClampNeg, not_false_eq_true, not_true_eq_false, false_implies, true_implies, Nat.zero_add, reduceIte, Nat.reduceMul, Nat.reduceEqDiff, nxa, nxc, lgn, nL_of, swx, Int.reduceAdd, gI_a, gI_k, gL_a, gL_k, gI_r, gL_r, nI_and, nI_or, nI_xor, nI_ndf, nI_shl, nI_shr, ne_eq, and_true, true_and, eq_self, true_or, or_true, false_or, or_false, Option.toList, List.cons_append, List.nil_append, List.length_nil, List.length_cons, Nat.not_lt_zero, bX3_fillTable_0, kdx hs, grx hr, k1]
    repeat (first | ((with_reducible refine wp_blk kX3_fillTable_0 ?_); simp (disch := first | decide | omega) only [mxa, vxa, vxb, vxc, vnd, vne, Nat.reduceAdd, Nat.reduceSub, Nat.reduceLeDiff, Nat.reduceLT, Int32.reduceLT, Int32.reduceLE, Int32.reduceAdd, Int32.reduceSub, Int32.reduceMul, Int32.reduceToNatClampNeg, not_false_eq_true, not_true_eq_false, false_implies, true_implies, Nat.zero_add, reduceIte, Nat.reduceMul, Nat.reduceEqDiff, nxa, nxc, lgn, nL_of, swx, Int.reduceAdd, gI_a, gI_k, gL_a, gL_k, gI_r, gL_r, nI_and, nI_or, nI_xor, nI_ndf, nI_shl, nI_shr, ne_eq, and_true, true_and, eq_self, true_or, or_true, false_or, or_false, Option.toList, List.cons_append, List.nil_append, List.length_nil, List.length_cons, Nat.not_lt_zero, bX3_fillTable_0, kdx hs, grx hr]) | ((with_reducible refine wp_blk kX3_fillTable_14 ?_); simp (disch := first | decide | omega) only [mxa, vxa, vxb, vxc, vnd, vne, Nat.reduceAdd, Nat.reduceSub, Nat.reduceLeDiff, Nat.reduceLT, Int32.reduceLT, Int32.reduceLE, Int32.reduceAdd, Int32.reduceSub, Int32.reduceMul, Int32.reduceToNatClampNeg, not_false_eq_true, not_true_eq_false, false_implies, true_implies, Nat.zero_add, reduceIte, Nat.reduceMul, Nat.reduceEqDiff, nxa, nxc, lgn, nL_of, swx, Int.reduceAdd, gI_a, gI_k, gL_a, gL_k, gI_r, gL_r, nI_and, nI_or, nI_xor, nI_ndf, nI_shl, nI_shr, ne_eq, and_true, true_and, eq_self, true_or, or_true, false_or, or_false, Option.toList, List.cons_append, List.nil_append, List.length_nil, List.length_cons, Nat.not_lt_zero, bX3_fillTable_14, kdx hs, grx hr]) | ((with_reducible refine wp_blk kX3_fillTable_15 ?_); simp (disch := first | decide | omega) only [mxa, vxa, vxb, vxc, vnd, vne, Nat.reduceAdd, Nat.reduceSub, Nat.reduceLeDiff, Nat.reduceLT, Int32.reduceLT, Int32.reduceLE, Int32.reduceAdd, Int32.reduceSub, Int32.reduceMul, Int32.reduceToNatClampNeg, not_false_eq_true, not_true_eq_false, false_implies, true_implies, Nat.zero_add, reduceIte, Nat.reduceMul, Nat.reduceEqDiff, nxa, nxc, lgn, nL_of, swx, Int.reduceAdd, gI_a, gI_k, gL_a, gL_k, gI_r, gL_r, nI_and, nI_or, nI_xor, nI_ndf, nI_shl, nI_shr, ne_eq, and_true, true_and, eq_self, true_or, or_true, false_or, or_false, Option.toList, List.cons_append, List.nil_append, List.length_nil, List.length_cons, Nat.not_lt_zero, bX3_fillTable_15, kdx hs, grx hr]) | ((with_reducible refine wp_blk kX3_fillTable_46 ?_); simp (disch := first | decide | omega) only [mxa, vxa, vxb, vxc, vnd, vne, Nat.reduceAdd, Nat.reduceSub, Nat.reduceLeDiff, Nat.reduceLT, Int32.reduceLT, Int32.reduceLE, Int32.reduceAdd, Int32.reduceSub, Int32.reduceMul, Int32.reduceToNatClampNeg, not_false_eq_true, not_true_eq_false, false_implies, true_implies, Nat.zero_add, reduceIte, Nat.reduceMul, Nat.reduceEqDiff, nxa, nxc, lgn, nL_of, swx, Int.reduceAdd, gI_a, gI_k, gL_a, gL_k, gI_r, gL_r, nI_and, nI_or, nI_xor, nI_ndf, nI_shl, nI_shr, ne_eq, and_true, true_and, eq_self, true_or, or_true, false_or, or_false, Option.toList, List.cons_append, List.nil_append, List.length_nil, List.length_cons, Nat.not_lt_zero, bX3_fillTable_46, kdx hs, grx hr]) | ((with_reducible refine wp_blk kX3_fillTable_52 ?_); simp (disch := first | decide | omega) only [mxa, vxa, vxb, vxc, vnd, vne, Nat.reduceAdd, Nat.reduceSub, Nat.reduceLeDiff, Nat.reduceLT, Int32.reduceLT, Int32.reduceLE, Int32.reduceAdd, Int32.reduceSub, Int32.reduceMul, Int32.reduceToNatClampNeg, not_false_eq_true, not_true_eq_false, false_implies, true_implies, Nat.zero_add, reduceIte, Nat.reduceMul, Nat.reduceEqDiff, nxa, nxc, lgn, nL_of, swx, Int.reduceAdd, gI_a, gI_k, gL_a, gL_k, gI_r, gL_r, nI_and, nI_or, nI_xor, nI_ndf, nI_shl, nI_shr, ne_eq, and_true, true_and, eq_self, true_or, or_true, false_or, or_false, Option.toList, List.cons_append, List.nil_append, List.length_nil, List.length_cons, Nat.not_lt_zero, bX3_fillTable_52, kdx hs, grx hr]))
    exact this
