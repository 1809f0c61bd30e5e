/-! who would leave: the class -/
set_option maxRecDepth 20000
def sN (V : Nat → Int32) (f o : Nat) : Nat := fuN V * wsN V f / zN V o
def LU (V : Nat → Int32) (N s o x p : Nat) : Prop := ∀ f, f < N → x.testBit f = true → sN V f p < (if s.testBit f = true then sN V f o else fuN V)
def CB (V : Nat → Int32) (N s o x p : Nat) : Prop := grp V N p x ∧ LU V N s o x p
noncomputable def LVn (V : Nat → Int32) (N O o s : Nat) : Nat := bP (fun b => s.testBit b = true ∧ ∃ y p, y < 2 ^ N ∧ p < O ∧ CB V N s o y p ∧ y.testBit b = true) 10
theorem LVn_lt {V : Nat → Int32} {N O o s : Nat} : LVn V N O o s < 1024 := bP_lt _ 10
theorem LVn_eq {V : Nat → Int32} {N O o s l : Nat} (hs : s < 1024) (h : ∀ b, l.testBit b = true ↔ s.testBit b = true ∧ ∃ y p, y < 2 ^ N ∧ p < O ∧ CB V N s o y p ∧ y.testBit b = true) : l = LVn V N O o s := bit_eq (fun i => by
  rw [Bool.eq_iff_iff, h i]
  unfold LVn
  rw [bP_bit]
  exact ⟨fun q => ⟨bit_10 hs q.1, q⟩, fun q => q.2⟩)
theorem lu_iff {V : Nat → Int32} {N s o x p : Nat} (hx : x < 2 ^ N) : LU V N s o x p ↔ ndf (x &&& s) (bP (fun f => sN V f p < sN V f o) N) = 0 ∧ ndf (ndf x s) (bP (fun f => sN V f p < fuN V) N) = 0 := by
  have lt : ∀ i, x.testBit i = true → i < N := fun i hi => by
    rcases Nat.lt_or_ge i N with q | q
    · exact q
    · rw [Nat.testBit_lt_two_pow (Nat.lt_of_lt_of_le hx (Nat.pow_le_pow_right (by omega) q))] at hi
      cases hi
  rw [ndf_0, ndf_0, sub_bit, sub_bit]
  constructor
  · intro h
    refine ⟨fun i hi => ?_, fun i hi => ?_⟩
    · rw [Nat.testBit_and, Bool.and_eq_true] at hi
      have := h i (lt i hi.1) hi.1
      rw [if_pos hi.2] at this
      exact bP_in (fun f => sN V f p < sN V f o) (lt i hi.1) this
    · rw [ndf_bit, Bool.and_eq_true] at hi
      have := h i (lt i hi.1) hi.1
      rw [if_neg (by simpa using hi.2)] at this
      exact bP_in (fun f => sN V f p < fuN V) (lt i hi.1) this
  · rintro ⟨h1, h2⟩ f hf hx
    by_cases q : s.testBit f = true
    · rw [if_pos q]
      exact (bP_bit.mp (h1 f (by rw [Nat.testBit_and, hx, q]; rfl))).2
    · rw [if_neg q]
      exact (bP_bit.mp (h2 f (by rw [ndf_bit, hx]; simpa using q))).2
theorem sN_le {V : Nat → Int32} {t N O K f o : Nat} (hG : Gd V t N O K) (hf : f < N) (ho : o < O) : sN V f o ≤ 98901 := by
  have a := (fuN_ok hG).2
  have b := (wsN_ok hG hf).2
  have : fuN V * wsN V f ≤ 999 * 99 := Nat.mul_le_mul a b
  exact Nat.le_trans (Nat.div_le_self _ _) (by omega)
theorem CB_big {V : Nat → Int32} {t N O K s o x p b : Nat} (hG : Gd V t N O K) (hb : b < N) (hp : p < O) (hx : x.testBit b = true) (hs : s.testBit b = true) (h : CB V N s o x p) : zN V o < zN V p := by
  have q := h.2 b hb hx
  rw [if_pos hs] at q
  obtain ⟨-, z1, -⟩ := zN_ok hG hp
  rcases Nat.lt_or_ge (zN V o) (zN V p) with e | e
  · exact e
  · have := Nat.div_le_div_left (a := fuN V * wsN V b) e (show 0 < zN V p by omega)
    unfold sN at q
    omega
theorem CB_self {V : Nat → Int32} {t N O K s o p : Nat} (hG : Gd V t N O K) (hs : s < 2 ^ N) (ho : o < O) (hp : p < O) (h : grp V N o s) : ¬ CB V N s o s p := by
  intro q
  have e : zN V p = zN V o := by rw [← h.2, ← q.1.2]
  have s0 : s ≠ 0 := fun z => by
    have := h.2
    rw [z, s0W] at this
    have := (zN_ok hG ho).2.1
    omega
  obtain ⟨i, i1, i2⟩ := and_ne.mp (show s &&& s ≠ 0 by rw [Nat.and_self]; exact s0)
  have hi : i < N := by
    rcases Nat.lt_or_ge i N with q | q
    · exact q
    · rw [Nat.testBit_lt_two_pow (Nat.lt_of_lt_of_le hs (Nat.pow_le_pow_right (by omega) q))] at i1
      cases i1
  have := CB_big hG hi hp i1 i1 q
  omega
theorem c_fuelS (X : Cx) (d : Nat) (σ : Mm) (V : Nat → Int32) (t N O K f o : Nat) (hs : St σ) (hG : Gd V t N O K) (hV : VR σ 1 V N O) (hf : f < N) (ho : o < O) (Q : Po) (hQ : Q (some (.int (nI (sN V f o)))) σ) : Call X d 0 0 mX8_fuelFor [.ref 1, .int (nI (wsN V f)), .int (nI o)] σ Q := by
  have hO3 := hG.2.1.2
  obtain ⟨fu1, fu2⟩ := fuN_ok hG
  have e3 : gI σ 1 3 = nI (fuN V) := hV.1.2.2.2.2.1.trans fu1
  obtain ⟨v1, v2, v3, v4, v5⟩ := vk hs.1 hs.2.1 (Or.inl rfl)
  obtain ⟨o1, o2, o3⟩ := zN_ok hG ho
  have wl := (wsN_ok hG hf).2
  exact c_fuelFor X _ _ 1 (fuN V) (wsN V f) (zN V o) o v1 v3 v5 (by omega) ((hV.2.1 o ho).trans o1) e3 o2 o3 fu2 (by omega) _ hQ
theorem c_cheaperThanIn (X : Cx) (d : Nat) (σ : Mm) (V : Nat → Int32) (t N O K p o : Nat) (hs : St σ) (hG : Gd V t N O K) (hV : VR σ 1 V N O) (hp : p < O) (ho : o < O) (Q : Po) (hQ : Q (some (.int (nI (bP (fun f => sN V f p < sN V f o) N)))) σ) : Call X (d + 1) 0 0 mX3_cheaperThanIn [.ref 1, .int (nI p), .int (nI o)] σ Q := by
  have hN10 := hG.1.2
  have hO3 := hG.2.1.2
  have hst := hs.1
  have hrt := hs.2.1
  have e0 : gI σ 1 0 = nI N := hV.1.1.trans hG.1.1
  refine call_of eX3_cheaperThanIn rfl ?_
  refine wp_blk kX3_cheaperThanIn_0 ?_
  simp (disch := first | decide | omega) only [mxa, vxa, vxb, vxc, vnd, vne, Nat.reduceAdd, Nat.reduceSub, Nat.reduceLeDiff, Nat.reduceLT, Int32.reduceLT, Int32.reduceLE, Int32.reduceAdd, Int32.reduceSub, Int32.reduceMul, Int32.reduceToNatClampNeg, not_false_eq_true, not_true_eq_false, false_implies, true_implies, Nat.zero_add, reduceIte, Nat.reduceMul, Nat.reduceEqDiff, nxa, nxc, lgn, nL_of, swx, Int.reduceAdd, gI_a, gI_k, gL_a, gL_k, gI_r, gL_r, nI_and, nI_or, nI_xor, nI_ndf, nI_shl, nI_shr, ne_eq, and_true, true_and, eq_self, true_or, or_true, false_or, or_false, Option.toList, List.cons_append, List.nil_append, List.length_nil, List.length_cons, Nat.not_lt_zero, bX3_cheaperThanIn_0]
  refine wfor (fun f => Wp X mX3_cheaperThanIn (rmo (d + 1) 0 0) (d + 1) Q 0 0 5 [some (.ref 1), some (.int (nI p)), some (.int (nI o)), some (.int (nI (bP (fun f => sN V f p < sN V f o) f))), some (.int (nI f)), none] [] σ) N (fun f hf hP => ?_) ?_
  · obtain ⟨a1, a2, q, hq, eq⟩ := fa_ok hst hrt (Or.inl rfl) (hs.2.2 1 (Or.inl rfl)) (show f < 10 by omega)
    have a1' : gR σ 2 f = some (fa σ 1 f) := a1
    have wl := (wsN_ok hG hf).2
    have f2 : gI σ (fa σ 1 f) 2 = nI (wsN V f) := ((hV.2.2 f hf).1 2 (by omega)).trans (wsN_ok hG hf).1
    have sp := sN_le hG hf hp
    have so := sN_le hG hf ho
    refine wp_blk kX3_cheaperThanIn_5 ?_
    simp (disch := first | decide | omega) only [mxa, vxa, vxb, vxc, vnd, vne, Nat.reduceAdd, Nat.reduceSub, Nat.reduceLeDiff, Nat.reduceLT, Int32.reduceLT, Int32.reduceLE, Int32.reduceAdd, Int32.reduceSub, Int32.reduceMul, Int32.reduceToNatClampNeg, not_false_eq_true, not_true_eq_false, false_implies, true_implies, Nat.zero_add, reduceIte, Nat.reduceMul, Nat.reduceEqDiff, nxa, nxc, lgn, nL_of, swx, Int.reduceAdd, gI_a, gI_k, gL_a, gL_k, gI_r, gL_r, nI_and, nI_or, nI_xor, nI_ndf, nI_shl, nI_shr, ne_eq, and_true, true_and, eq_self, true_or, or_true, false_or, or_false, Option.toList, List.cons_append, List.nil_append, List.length_nil, List.length_cons, Nat.not_lt_zero, bX3_cheaperThanIn_5, kdx hst, grx hrt, e0, a1', a2.1, f2, show ¬ N ≤ f by omega]
    refine c_fuelS X _ _ V t N O K f p hs hG hV hf hp _ ?_
    simp (disch := first | decide | omega) only [mxa, vxa, vxb, vxc, vnd, vne, Nat.reduceAdd, Nat.reduceSub, Nat.reduceLeDiff, Nat.reduceLT, Int32.reduceLT, Int32.reduceLE, Int32.reduceAdd, Int32.reduceSub, Int32.reduceMul, Int32.reduceToNatClampNeg, not_false_eq_true, not_true_eq_false, false_implies, true_implies, Nat.zero_add, reduceIte, Nat.reduceMul, Nat.reduceEqDiff, nxa, nxc, lgn, nL_of, swx, Int.reduceAdd, gI_a, gI_k, gL_a, gL_k, gI_r, gL_r, nI_and, nI_or, nI_xor, nI_ndf, nI_shl, nI_shr, ne_eq, and_true, true_and, eq_self, true_or, or_true, false_or, or_false, Option.toList, List.cons_append, List.nil_append, List.length_nil, List.length_cons, Nat.not_lt_zero, kdx hst]
    refine c_fuelS X _ _ V t N O K f o hs hG hV hf ho _ ?_
    by_cases h : sN V f p < sN V f o
    · rw [← bP_y (fun f => sN V f p < sN V f o) h] at hP
      simp (disch := first | decide | omega) only [mxa, vxa, vxb, vxc, vnd, vne, Nat.reduceAdd, Nat.reduceSub, Nat.reduceLeDiff, Nat.reduceLT, Int32.reduceLT, Int32.reduceLE, Int32.reduceAdd, Int32.reduceSub, Int32.reduceMul, Int32.reduceToNatClampNeg, not_false_eq_true, not_true_eq_false, false_implies, true_implies, Nat.zero_add, reduceIte, Nat.reduceMul, Nat.reduceEqDiff, nxa, nxc, lgn, nL_of, swx, Int.reduceAdd, gI_a, gI_k, gL_a, gL_k, gI_r, gL_r, nI_and, nI_or, nI_xor, nI_ndf, nI_shl, nI_shr, ne_eq, and_true, true_and, eq_self, true_or, or_true, false_or, or_false, Option.toList, List.cons_append, List.nil_append, List.length_nil, List.length_cons, Nat.not_lt_zero, show ¬ sN V f o ≤ sN V f p by omega]
      refine wp_blk kX3_cheaperThanIn_50 ?_
      simp (disch := first | decide | omega) only [mxa, vxa, vxb, vxc, vnd, vne, Nat.reduceAdd, Nat.reduceSub, Nat.reduceLeDiff, Nat.reduceLT, Int32.reduceLT, Int32.reduceLE, Int32.reduceAdd, Int32.reduceSub, Int32.reduceMul, Int32.reduceToNatClampNeg, not_false_eq_true, not_true_eq_false, false_implies, true_implies, Nat.zero_add, reduceIte, Nat.reduceMul, Nat.reduceEqDiff, nxa, nxc, lgn, nL_of, swx, Int.reduceAdd, gI_a, gI_k, gL_a, gL_k, gI_r, gL_r, nI_and, nI_or, nI_xor, nI_ndf, nI_shl, nI_shr, ne_eq, and_true, true_and, eq_self, true_or, or_true, false_or, or_false, Option.toList, List.cons_append, List.nil_append, List.length_nil, List.length_cons, Nat.not_lt_zero, bX3_cheaperThanIn_50]
      exact Wp.fog 5 hP
    · rw [bP_n (fun f => sN V f p < sN V f o) h] at hP
      simp (disch := first | decide | omega) only [mxa, vxa, vxb, vxc, vnd, vne, Nat.reduceAdd, Nat.reduceSub, Nat.reduceLeDiff, Nat.reduceLT, Int32.reduceLT, Int32.reduceLE, Int32.reduceAdd, Int32.reduceSub, Int32.reduceMul, Int32.reduceToNatClampNeg, not_false_eq_true, not_true_eq_false, false_implies, true_implies, Nat.zero_add, reduceIte, Nat.reduceMul, Nat.reduceEqDiff, nxa, nxc, lgn, nL_of, swx, Int.reduceAdd, gI_a, gI_k, gL_a, gL_k, gI_r, gL_r, nI_and, nI_or, nI_xor, nI_ndf, nI_shl, nI_shr, ne_eq, and_true, true_and, eq_self, true_or, or_true, false_or, or_false, Option.toList, List.cons_append, List.nil_append, List.length_nil, List.length_cons, Nat.not_lt_zero, show sN V f o ≤ sN V f p by omega]
      refine wp_blk kX3_cheaperThanIn_50 ?_
      simp (disch := first | decide | omega) only [mxa, vxa, vxb, vxc, vnd, vne, Nat.reduceAdd, Nat.reduceSub, Nat.reduceLeDiff, Nat.reduceLT, Int32.reduceLT, Int32.reduceLE, Int32.reduceAdd, Int32.reduceSub, Int32.reduceMul, Int32.reduceToNatClampNeg, not_false_eq_true, not_true_eq_false, false_implies, true_implies, Nat.zero_add, reduceIte, Nat.reduceMul, Nat.reduceEqDiff, nxa, nxc, lgn, nL_of, swx, Int.reduceAdd, gI_a, gI_k, gL_a, gL_k, gI_r, gL_r, nI_and, nI_or, nI_xor, nI_ndf, nI_shl, nI_shr, ne_eq, and_true, true_and, eq_self, true_or, or_true, false_or, or_false, Option.toList, List.cons_append, List.nil_append, List.length_nil, List.length_cons, Nat.not_lt_zero, bX3_cheaperThanIn_50]
      exact Wp.fog 5 hP
  · refine wp_blk kX3_cheaperThanIn_5 ?_
    simp (disch := first | decide | omega) only [mxa, vxa, vxb, vxc, vnd, vne, Nat.reduceAdd, Nat.reduceSub, Nat.reduceLeDiff, Nat.reduceLT, Int32.reduceLT, Int32.reduceLE, Int32.reduceAdd, Int32.reduceSub, Int32.reduceMul, Int32.reduceToNatClampNeg, not_false_eq_true, not_true_eq_false, false_implies, true_implies, Nat.zero_add, reduceIte, Nat.reduceMul, Nat.reduceEqDiff, nxa, nxc, lgn, nL_of, swx, Int.reduceAdd, gI_a, gI_k, gL_a, gL_k, gI_r, gL_r, nI_and, nI_or, nI_xor, nI_ndf, nI_shl, nI_shr, ne_eq, and_true, true_and, eq_self, true_or, or_true, false_or, or_false, Option.toList, List.cons_append, List.nil_append, List.length_nil, List.length_cons, Nat.not_lt_zero, bX3_cheaperThanIn_5, kdx hst, e0, Nat.le_refl]
    refine wp_blk kX3_cheaperThanIn_56 ?_
    simp (disch := first | decide | omega) only [mxa, vxa, vxb, vxc, vnd, vne, Nat.reduceAdd, Nat.reduceSub, Nat.reduceLeDiff, Nat.reduceLT, Int32.reduceLT, Int32.reduceLE, Int32.reduceAdd, Int32.reduceSub, Int32.reduceMul, Int32.reduceToNatClampNeg, not_false_eq_true, not_true_eq_false, false_implies, true_implies, Nat.zero_add, reduceIte, Nat.reduceMul, Nat.reduceEqDiff, nxa, nxc, lgn, nL_of, swx, Int.reduceAdd, gI_a, gI_k, gL_a, gL_k, gI_r, gL_r, nI_and, nI_or, nI_xor, nI_ndf, nI_shl, nI_shr, ne_eq, and_true, true_and, eq_self, true_or, or_true, false_or, or_false, Option.toList, List.cons_append, List.nil_append, List.length_nil, List.length_cons, Nat.not_lt_zero, bX3_cheaperThanIn_56]
    exact hQ
theorem c_cheaperThanAlone (X : Cx) (d : Nat) (σ : Mm) (V : Nat → Int32) (t N O K p : Nat) (hs : St σ) (hG : Gd V t N O K) (hV : VR σ 1 V N O) (hp : p < O) (Q : Po) (hQ : Q (some (.int (nI (bP (fun f => sN V f p < fuN V) N)))) σ) : Call X (d + 1) 0 0 mX3_cheaperThanAlone [.ref 1, .int (nI p)] σ Q := by
  have hN10 := hG.1.2
  have hO3 := hG.2.1.2
  have hst := hs.1
  have hrt := hs.2.1
  have e0 : gI σ 1 0 = nI N := hV.1.1.trans hG.1.1
  obtain ⟨fu1, fu2⟩ := fuN_ok hG
  have e3 : gI σ 1 3 = nI (fuN V) := hV.1.2.2.2.2.1.trans fu1
  refine call_of eX3_cheaperThanAlone rfl ?_
  refine wp_blk kX3_cheaperThanAlone_0 ?_
  simp (disch := first | decide | omega) only [mxa, vxa, vxb, vxc, vnd, vne, Nat.reduceAdd, Nat.reduceSub, Nat.reduceLeDiff, Nat.reduceLT, Int32.reduceLT, Int32.reduceLE, Int32.reduceAdd, Int32.reduceSub, Int32.reduceMul, Int32.reduceToNatClampNeg, not_false_eq_true, not_true_eq_false, false_implies, true_implies, Nat.zero_add, reduceIte, Nat.reduceMul, Nat.reduceEqDiff, nxa, nxc, lgn, nL_of, swx, Int.reduceAdd, gI_a, gI_k, gL_a, gL_k, gI_r, gL_r, nI_and, nI_or, nI_xor, nI_ndf, nI_shl, nI_shr, ne_eq, and_true, true_and, eq_self, true_or, or_true, false_or, or_false, Option.toList, List.cons_append, List.nil_append, List.length_nil, List.length_cons, Nat.not_lt_zero, bX3_cheaperThanAlone_0]
  refine wfor (fun f => Wp X mX3_cheaperThanAlone (rmo (d + 1) 0 0) (d + 1) Q 0 0 4 [some (.ref 1), some (.int (nI p)), some (.int (nI (bP (fun f => sN V f p < fuN V) f))), some (.int (nI f))] [] σ) N (fun f hf hP => ?_) ?_
  · obtain ⟨a1, a2, q, hq, eq⟩ := fa_ok hst hrt (Or.inl rfl) (hs.2.2 1 (Or.inl rfl)) (show f < 10 by omega)
    have a1' : gR σ 2 f = some (fa σ 1 f) := a1
    have wl := (wsN_ok hG hf).2
    have f2 : gI σ (fa σ 1 f) 2 = nI (wsN V f) := ((hV.2.2 f hf).1 2 (by omega)).trans (wsN_ok hG hf).1
    have sp := sN_le hG hf hp
    refine wp_blk kX3_cheaperThanAlone_4 ?_
    simp (disch := first | decide | omega) only [mxa, vxa, vxb, vxc, vnd, vne, Nat.reduceAdd, Nat.reduceSub, Nat.reduceLeDiff, Nat.reduceLT, Int32.reduceLT, Int32.reduceLE, Int32.reduceAdd, Int32.reduceSub, Int32.reduceMul, Int32.reduceToNatClampNeg, not_false_eq_true, not_true_eq_false, false_implies, true_implies, Nat.zero_add, reduceIte, Nat.reduceMul, Nat.reduceEqDiff, nxa, nxc, lgn, nL_of, swx, Int.reduceAdd, gI_a, gI_k, gL_a, gL_k, gI_r, gL_r, nI_and, nI_or, nI_xor, nI_ndf, nI_shl, nI_shr, ne_eq, and_true, true_and, eq_self, true_or, or_true, false_or, or_false, Option.toList, List.cons_append, List.nil_append, List.length_nil, List.length_cons, Nat.not_lt_zero, bX3_cheaperThanAlone_4, kdx hst, grx hrt, e0, a1', a2.1, f2, show ¬ N ≤ f by omega]
    refine c_fuelS X _ _ V t N O K f p hs hG hV hf hp _ ?_
    by_cases h : sN V f p < fuN V
    · rw [← bP_y (fun f => sN V f p < fuN V) h] at hP
      simp (disch := first | decide | omega) only [mxa, vxa, vxb, vxc, vnd, vne, Nat.reduceAdd, Nat.reduceSub, Nat.reduceLeDiff, Nat.reduceLT, Int32.reduceLT, Int32.reduceLE, Int32.reduceAdd, Int32.reduceSub, Int32.reduceMul, Int32.reduceToNatClampNeg, not_false_eq_true, not_true_eq_false, false_implies, true_implies, Nat.zero_add, reduceIte, Nat.reduceMul, Nat.reduceEqDiff, nxa, nxc, lgn, nL_of, swx, Int.reduceAdd, gI_a, gI_k, gL_a, gL_k, gI_r, gL_r, nI_and, nI_or, nI_xor, nI_ndf, nI_shl, nI_shr, ne_eq, and_true, true_and, eq_self, true_or, or_true, false_or, or_false, Option.toList, List.cons_append, List.nil_append, List.length_nil, List.length_cons, Nat.not_lt_zero, kdx hst, e3, show ¬ fuN V ≤ sN V f p by omega]
      refine wp_blk kX3_cheaperThanAlone_39 ?_
      simp (disch := first | decide | omega) only [mxa, vxa, vxb, vxc, vnd, vne, Nat.reduceAdd, Nat.reduceSub, Nat.reduceLeDiff, Nat.reduceLT, Int32.reduceLT, Int32.reduceLE, Int32.reduceAdd, Int32.reduceSub, Int32.reduceMul, Int32.reduceToNatClampNeg, not_false_eq_true, not_true_eq_false, false_implies, true_implies, Nat.zero_add, reduceIte, Nat.reduceMul, Nat.reduceEqDiff, nxa, nxc, lgn, nL_of, swx, Int.reduceAdd, gI_a, gI_k, gL_a, gL_k, gI_r, gL_r, nI_and, nI_or, nI_xor, nI_ndf, nI_shl, nI_shr, ne_eq, and_true, true_and, eq_self, true_or, or_true, false_or, or_false, Option.toList, List.cons_append, List.nil_append, List.length_nil, List.length_cons, Nat.not_lt_zero, bX3_cheaperThanAlone_39]
      exact hP
    · rw [bP_n (fun f => sN V f p < fuN V) h] at hP
      simp (disch := first | decide | omega) only [mxa, vxa, vxb, vxc, vnd, vne, Nat.reduceAdd, Nat.reduceSub, Nat.reduceLeDiff, Nat.reduceLT, Int32.reduceLT, Int32.reduceLE, Int32.reduceAdd, Int32.reduceSub, Int32.reduceMul, Int32.reduceToNatClampNeg, not_false_eq_true, not_true_eq_false, false_implies, true_implies, Nat.zero_add, reduceIte, Nat.reduceMul, Nat.reduceEqDiff, nxa, nxc, lgn, nL_of, swx, Int.reduceAdd, gI_a, gI_k, gL_a, gL_k, gI_r, gL_r, nI_and, nI_or, nI_xor, nI_ndf, nI_shl, nI_shr, ne_eq, and_true, true_and, eq_self, true_or, or_true, false_or, or_false, Option.toList, List.cons_append, List.nil_append, List.length_nil, List.length_cons, Nat.not_lt_zero, kdx hst, e3, show fuN V ≤ sN V f p by omega]
      refine wp_blk kX3_cheaperThanAlone_39 ?_
      simp (disch := first | decide | omega) only [mxa, vxa, vxb, vxc, vnd, vne, Nat.reduceAdd, Nat.reduceSub, Nat.reduceLeDiff, Nat.reduceLT, Int32.reduceLT, Int32.reduceLE, Int32.reduceAdd, Int32.reduceSub, Int32.reduceMul, Int32.reduceToNatClampNeg, not_false_eq_true, not_true_eq_false, false_implies, true_implies, Nat.zero_add, reduceIte, Nat.reduceMul, Nat.reduceEqDiff, nxa, nxc, lgn, nL_of, swx, Int.reduceAdd, gI_a, gI_k, gL_a, gL_k, gI_r, gL_r, nI_and, nI_or, nI_xor, nI_ndf, nI_shl, nI_shr, ne_eq, and_true, true_and, eq_self, true_or, or_true, false_or, or_false, Option.toList, List.cons_append, List.nil_append, List.length_nil, List.length_cons, Nat.not_lt_zero, bX3_cheaperThanAlone_39]
      exact hP
  · refine wp_blk kX3_cheaperThanAlone_4 ?_
    simp (disch := first | decide | omega) only [mxa, vxa, vxb, vxc, vnd, vne, Nat.reduceAdd, Nat.reduceSub, Nat.reduceLeDiff, Nat.reduceLT, Int32.reduceLT, Int32.reduceLE, Int32.reduceAdd, Int32.reduceSub, Int32.reduceMul, Int32.reduceToNatClampNeg, not_false_eq_true, not_true_eq_false, false_implies, true_implies, Nat.zero_add, reduceIte, Nat.reduceMul, Nat.reduceEqDiff, nxa, nxc, lgn, nL_of, swx, Int.reduceAdd, gI_a, gI_k, gL_a, gL_k, gI_r, gL_r, nI_and, nI_or, nI_xor, nI_ndf, nI_shl, nI_shr, ne_eq, and_true, true_and, eq_self, true_or, or_true, false_or, or_false, Option.toList, List.cons_append, List.nil_append, List.length_nil, List.length_cons, Nat.not_lt_zero, bX3_cheaperThanAlone_4, kdx hst, e0, Nat.le_refl]
    refine wp_blk kX3_cheaperThanAlone_45 ?_
    simp (disch := first | decide | omega) only [mxa, vxa, vxb, vxc, vnd, vne, Nat.reduceAdd, Nat.reduceSub, Nat.reduceLeDiff, Nat.reduceLT, Int32.reduceLT, Int32.reduceLE, Int32.reduceAdd, Int32.reduceSub, Int32.reduceMul, Int32.reduceToNatClampNeg, not_false_eq_true, not_true_eq_false, false_implies, true_implies, Nat.zero_add, reduceIte, Nat.reduceMul, Nat.reduceEqDiff, nxa, nxc, lgn, nL_of, swx, Int.reduceAdd, gI_a, gI_k, gL_a, gL_k, gI_r, gL_r, nI_and, nI_or, nI_xor, nI_ndf, nI_shl, nI_shr, ne_eq, and_true, true_and, eq_self, true_or, or_true, false_or, or_false, Option.toList, List.cons_append, List.nil_append, List.length_nil, List.length_cons, Nat.not_lt_zero, bX3_cheaperThanAlone_45]
    exact hQ
theorem c_leaversTo (X : Cx) (d : Nat) (σ : Mm) (V : Nat → Int32) (t N O K p o s : Nat) (hs : St σ) (hG : Gd V t N O K) (hV : VR σ 1 V N O) (hS : SV V N O σ) (hp : p < O) (ho : o < O) (hs2 : s < 2 ^ N) (Q : Po) (hQ : ∀ l, (∀ b, l.testBit b = true ↔ s.testBit b = true ∧ ∃ y, y < 2 ^ N ∧ CB V N s o y p ∧ y.testBit b = true) → Q (some (.int (nI l))) σ) : Call X (d + 2) 0 0 mX3_leaversTo [.ref 151, .ref 1, .int (nI p), .int (nI o), .int (nI s)] σ Q := by
  have hN10 := hG.1.2
  have hO3 := hG.2.1.2
  have pw := pow_le hN10
  have hst := hs.1
  have hrt := hs.2.1
  obtain ⟨-, -, S3, S4, S5⟩ := hS
  obtain ⟨z1, z2, z3⟩ := zN_ok hG hp
  have zc : gI σ 3 p = nI (zN V p) := (hV.2.1 p hp).trans z1
  have up : cntP (fil V N O) (2 ^ N) ≤ 2 ^ N := cntP_n _
  have lls : ∀ l y, (∀ b, l.testBit b = true ↔ s.testBit b = true ∧ ∃ x, x < y ∧ CB V N s o x p ∧ x.testBit b = true) → l ≤ s := fun l y h => sub_le (sub_bit.mpr (fun i hi => ((h i).mp hi).1))
  refine call_of eX3_leaversTo rfl ?_
  refine wp_blk kX3_leaversTo_0 ?_
  simp (disch := first | decide | omega) only [mxa, vxa, vxb, vxc, vnd, vne, Nat.reduceAdd, Nat.reduceSub, Nat.reduceLeDiff, Nat.reduceLT, Int32.reduceLT, Int32.reduceLE, Int32.reduceAdd, Int32.reduceSub, Int32.reduceMul, Int32.reduceToNatClampNeg, not_false_eq_true, not_true_eq_false, false_implies, true_implies, Nat.zero_add, reduceIte, Nat.reduceMul, Nat.reduceEqDiff, nxa, nxc, lgn, nL_of, swx, Int.reduceAdd, gI_a, gI_k, gL_a, gL_k, gI_r, gL_r, nI_and, nI_or, nI_xor, nI_ndf, nI_shl, nI_shr, ne_eq, and_true, true_and, eq_self, true_or, or_true, false_or, or_false, Option.toList, List.cons_append, List.nil_append, List.length_nil, List.length_cons, Nat.not_lt_zero, bX3_leaversTo_0]
  refine c_cheaperThanIn X _ _ V t N O K p o hs hG hV hp ho _ ?_
  simp (disch := first | decide | omega) only [mxa, vxa, vxb, vxc, vnd, vne, Nat.reduceAdd, Nat.reduceSub, Nat.reduceLeDiff, Nat.reduceLT, Int32.reduceLT, Int32.reduceLE, Int32.reduceAdd, Int32.reduceSub, Int32.reduceMul, Int32.reduceToNatClampNeg, not_false_eq_true, not_true_eq_false, false_implies, true_implies, Nat.zero_add, reduceIte, Nat.reduceMul, Nat.reduceEqDiff, nxa, nxc, lgn, nL_of, swx, Int.reduceAdd, gI_a, gI_k, gL_a, gL_k, gI_r, gL_r, nI_and, nI_or, nI_xor, nI_ndf, nI_shl, nI_shr, ne_eq, and_true, true_and, eq_self, true_or, or_true, false_or, or_false, Option.toList, List.cons_append, List.nil_append, List.length_nil, List.length_cons, Nat.not_lt_zero]
  refine c_cheaperThanAlone X _ _ V t N O K p hs hG hV hp _ ?_
  simp (disch := first | decide | omega) only [mxa, vxa, vxb, vxc, vnd, vne, Nat.reduceAdd, Nat.reduceSub, Nat.reduceLeDiff, Nat.reduceLT, Int32.reduceLT, Int32.reduceLE, Int32.reduceAdd, Int32.reduceSub, Int32.reduceMul, Int32.reduceToNatClampNeg, not_false_eq_true, not_true_eq_false, false_implies, true_implies, Nat.zero_add, reduceIte, Nat.reduceMul, Nat.reduceEqDiff, nxa, nxc, lgn, nL_of, swx, Int.reduceAdd, gI_a, gI_k, gL_a, gL_k, gI_r, gL_r, nI_and, nI_or, nI_xor, nI_ndf, nI_shl, nI_shr, ne_eq, and_true, true_and, eq_self, true_or, or_true, false_or, or_false, Option.toList, List.cons_append, List.nil_append, List.length_nil, List.length_cons, Nat.not_lt_zero]
  have c1 := bP_lt (fun f => sN V f p < sN V f o) N
  have c2 := bP_lt (fun f => sN V f p < fuN V) N
  have lui := fun x (hx : x < 2 ^ N) => lu_iff (V := V) (N := N) (s := s) (o := o) (x := x) (p := p) hx
  generalize bP (fun f => sN V f p < sN V f o) N = cI at *
  generalize bP (fun f => sN V f p < fuN V) N = cA at *
  have fin : ∀ l i, (∀ b, l.testBit b = true ↔ s.testBit b = true ∧ ∃ y, y < 2 ^ N ∧ CB V N s o y p ∧ y.testBit b = true) → Wp X mX3_leaversTo (rmo (d + 2) 0 0) (d + 2) Q 0 0 118 [some (.ref 151), some (.ref 1), some (.int (nI p)), some (.int (nI o)), some (.int (nI s)), some (.int (nI cI ^^^ -1)), some (.int (nI cA ^^^ -1)), some (.int (nI l)), some (.int (nI i)), none, none] [] σ := fun l i h => by
    have q := hQ l h
    refine wp_blk kX3_leaversTo_118 ?_
    simp (disch := first | decide | omega) only [mxa, vxa, vxb, vxc, vnd, vne, Nat.reduceAdd, Nat.reduceSub, Nat.reduceLeDiff, Nat.reduceLT, Int32.reduceLT, Int32.reduceLE, Int32.reduceAdd, Int32.reduceSub, Int32.reduceMul, Int32.reduceToNatClampNeg, not_false_eq_true, not_true_eq_false, false_implies, true_implies, Nat.zero_add, reduceIte, Nat.reduceMul, Nat.reduceEqDiff, nxa, nxc, lgn, nL_of, swx, Int.reduceAdd, gI_a, gI_k, gL_a, gL_k, gI_r, gL_r, nI_and, nI_or, nI_xor, nI_ndf, nI_shl, nI_shr, ne_eq, and_true, true_and, eq_self, true_or, or_true, false_or, or_false, Option.toList, List.cons_append, List.nil_append, List.length_nil, List.length_cons, Nat.not_lt_zero, bX3_leaversTo_118]
    exact q
  refine wfor (fun y => ∀ l, (∀ b, l.testBit b = true ↔ s.testBit b = true ∧ ∃ x, x < y ∧ CB V N s o x p ∧ x.testBit b = true) → Wp X mX3_leaversTo (rmo (d + 2) 0 0) (d + 2) Q 0 0 25 [some (.ref 151), some (.ref 1), some (.int (nI p)), some (.int (nI o)), some (.int (nI s)), some (.int (nI cI ^^^ -1)), some (.int (nI cA ^^^ -1)), some (.int (nI l)), some (.int (nI (cntP (fil V N O) y))), none, none] [] σ) (2 ^ N) (fun y hy hP l h => ?_) (fun l h => ?_) 0 (fun b => ⟨fun q => (by rw [Nat.zero_testBit] at q; cases q), fun q => by obtain ⟨-, x, hx, -⟩ := q; omega⟩)
  · have ll := lls l y h
    have keep : ¬ CB V N s o y p → ∀ b, l.testBit b = true ↔ s.testBit b = true ∧ ∃ x, x < y + 1 ∧ CB V N s o x p ∧ x.testBit b = true := fun hn b => by
      rw [h b]
      refine ⟨fun ⟨q1, x, q2, q3⟩ => ⟨q1, x, by omega, q3⟩, fun ⟨q1, x, q2, q3⟩ => ⟨q1, x, ?_, q3⟩⟩
      by_cases e : x = y
      · subst e; exact absurd q3.1 hn
      · omega
    by_cases hf : fil V N O y
    · have S5' := S5 y hy hf
      have S4' := S4 y hy
      have lt : cntP (fil V N O) (y + 1) ≤ cntP (fil V N O) (2 ^ N) := cntP_mono (by omega)
      rw [cntP_y hf] at lt hP
      by_cases e : l = s
      · have := fin s (cntP (fil V N O) y) (fun b => ⟨fun q => ?_, fun q => q.1⟩)
        · refine wp_blk kX3_leaversTo_25 ?_
          simp (disch := first | decide | omega) only [mxa, vxa, vxb, vxc, vnd, vne, Nat.reduceAdd, Nat.reduceSub, Nat.reduceLeDiff, Nat.reduceLT, Int32.reduceLT, Int32.reduceLE, Int32.reduceAdd, Int32.reduceSub, Int32.reduceMul, Int32.reduceToNatClampNeg, not_false_eq_true, not_true_eq_false, false_implies, true_implies, Nat.zero_add, reduceIte, Nat.reduceMul, Nat.reduceEqDiff, nxa, nxc, lgn, nL_of, swx, Int.reduceAdd, gI_a, gI_k, gL_a, gL_k, gI_r, gL_r, nI_and, nI_or, nI_xor, nI_ndf, nI_shl, nI_shr, ne_eq, and_true, true_and, eq_self, true_or, or_true, false_or, or_false, Option.toList, List.cons_append, List.nil_append, List.length_nil, List.length_cons, Nat.not_lt_zero, bX3_leaversTo_25, kdx hst, grx hrt, S3, e, show ¬ cntP (fil V N O) (2 ^ N) ≤ cntP (fil V N O) y by omega]
          exact this
        · rw [e] at h
          obtain ⟨q1, x, q2, q3⟩ := (h b).mp q
          exact ⟨q1, x, by omega, q3⟩
      · have a1 : y &&& s ≤ y := Nat.and_le_left
        have a2 : ndf (y &&& s) cI ≤ y &&& s := sub_le ndf_sub
        have a3 : ndf y s ≤ y := sub_le ndf_sub
        have a4 : ndf (ndf y s) cA ≤ ndf y s := sub_le ndf_sub
        have lu := lui y hy
        have no : ¬ CB V N s o y p → ∀ q : Nat, Wp X mX3_leaversTo (rmo (d + 2) 0 0) (d + 2) Q 0 0 112 [some (.ref 151), some (.ref 1), some (.int (nI p)), some (.int (nI o)), some (.int (nI s)), some (.int (nI cI ^^^ -1)), some (.int (nI cA ^^^ -1)), some (.int (nI l)), some (.int (nI (cntP (fil V N O) y))), some (.int (nI y)), some (.int (nI q))] [] σ := fun hn q => by
          refine wp_blk kX3_leaversTo_112 ?_
          simp (disch := first | decide | omega) only [mxa, vxa, vxb, vxc, vnd, vne, Nat.reduceAdd, Nat.reduceSub, Nat.reduceLeDiff, Nat.reduceLT, Int32.reduceLT, Int32.reduceLE, Int32.reduceAdd, Int32.reduceSub, Int32.reduceMul, Int32.reduceToNatClampNeg, not_false_eq_true, not_true_eq_false, false_implies, true_implies, Nat.zero_add, reduceIte, Nat.reduceMul, Nat.reduceEqDiff, nxa, nxc, lgn, nL_of, swx, Int.reduceAdd, gI_a, gI_k, gL_a, gL_k, gI_r, gL_r, nI_and, nI_or, nI_xor, nI_ndf, nI_shl, nI_shr, ne_eq, and_true, true_and, eq_self, true_or, or_true, false_or, or_false, Option.toList, List.cons_append, List.nil_append, List.length_nil, List.length_cons, Nat.not_lt_zero, bX3_leaversTo_112]
          exact Wp.fog 9 (Wp.fog 10 (hP l (keep hn)))
        by_cases b1 : ndf (y &&& s) cI = 0
        · by_cases b2 : ndf (ndf y s) cA = 0
          · by_cases tt : tT V N y = nI (zN V p)
            · have g := (grp_tot hG hp).mp tt
              have cb : CB V N s o y p := ⟨g, lu.mpr ⟨b1, b2⟩⟩
              refine wp_blk kX3_leaversTo_25 ?_
              simp (disch := first | decide | omega) only [mxa, vxa, vxb, vxc, vnd, vne, Nat.reduceAdd, Nat.reduceSub, Nat.reduceLeDiff, Nat.reduceLT, Int32.reduceLT, Int32.reduceLE, Int32.reduceAdd, Int32.reduceSub, Int32.reduceMul, Int32.reduceToNatClampNeg, not_false_eq_true, not_true_eq_false, false_implies, true_implies, Nat.zero_add, reduceIte, Nat.reduceMul, Nat.reduceEqDiff, nxa, nxc, lgn, nL_of, swx, Int.reduceAdd, gI_a, gI_k, gL_a, gL_k, gI_r, gL_r, nI_and, nI_or, nI_xor, nI_ndf, nI_shl, nI_shr, ne_eq, and_true, true_and, eq_self, true_or, or_true, false_or, or_false, Option.toList, List.cons_append, List.nil_append, List.length_nil, List.length_cons, Nat.not_lt_zero, bX3_leaversTo_25, kdx hst, grx hrt, S3, S5', e, b1, b2, show ¬ cntP (fil V N O) (2 ^ N) ≤ cntP (fil V N O) y by omega]
              refine wp_blk kX3_leaversTo_79 ?_
              simp (disch := first | decide | omega) only [mxa, vxa, vxb, vxc, vnd, vne, Nat.reduceAdd, Nat.reduceSub, Nat.reduceLeDiff, Nat.reduceLT, Int32.reduceLT, Int32.reduceLE, Int32.reduceAdd, Int32.reduceSub, Int32.reduceMul, Int32.reduceToNatClampNeg, not_false_eq_true, not_true_eq_false, false_implies, true_implies, Nat.zero_add, reduceIte, Nat.reduceMul, Nat.reduceEqDiff, nxa, nxc, lgn, nL_of, swx, Int.reduceAdd, gI_a, gI_k, gL_a, gL_k, gI_r, gL_r, nI_and, nI_or, nI_xor, nI_ndf, nI_shl, nI_shr, ne_eq, and_true, true_and, eq_self, true_or, or_true, false_or, or_false, Option.toList, List.cons_append, List.nil_append, List.length_nil, List.length_cons, Nat.not_lt_zero, bX3_leaversTo_79, kdx hst, grx hrt, S4', zc, tt]
              refine wp_blk kX3_leaversTo_112 ?_
              simp (disch := first | decide | omega) only [mxa, vxa, vxb, vxc, vnd, vne, Nat.reduceAdd, Nat.reduceSub, Nat.reduceLeDiff, Nat.reduceLT, Int32.reduceLT, Int32.reduceLE, Int32.reduceAdd, Int32.reduceSub, Int32.reduceMul, Int32.reduceToNatClampNeg, not_false_eq_true, not_true_eq_false, false_implies, true_implies, Nat.zero_add, reduceIte, Nat.reduceMul, Nat.reduceEqDiff, nxa, nxc, lgn, nL_of, swx, Int.reduceAdd, gI_a, gI_k, gL_a, gL_k, gI_r, gL_r, nI_and, nI_or, nI_xor, nI_ndf, nI_shl, nI_shr, ne_eq, and_true, true_and, eq_self, true_or, or_true, false_or, or_false, Option.toList, List.cons_append, List.nil_append, List.length_nil, List.length_cons, Nat.not_lt_zero, bX3_leaversTo_112]
              refine Wp.fog 9 (Wp.fog 10 (hP (l ||| y &&& s) (fun b => ?_)))
              rw [Nat.testBit_or, Bool.or_eq_true, Nat.testBit_and, Bool.and_eq_true, h b]
              constructor
              · rintro (⟨q1, x, q2, q3⟩ | ⟨q1, q2⟩)
                · exact ⟨q1, x, by omega, q3⟩
                · exact ⟨q2, y, by omega, cb, q1⟩
              · rintro ⟨q1, x, q2, q3⟩
                by_cases e : x = y
                · subst e; exact Or.inr ⟨q3.2, q1⟩
                · exact Or.inl ⟨q1, x, by omega, q3⟩
            · refine wp_blk kX3_leaversTo_25 ?_
              simp (disch := first | decide | omega) only [mxa, vxa, vxb, vxc, vnd, vne, Nat.reduceAdd, Nat.reduceSub, Nat.reduceLeDiff, Nat.reduceLT, Int32.reduceLT, Int32.reduceLE, Int32.reduceAdd, Int32.reduceSub, Int32.reduceMul, Int32.reduceToNatClampNeg, not_false_eq_true, not_true_eq_false, false_implies, true_implies, Nat.zero_add, reduceIte, Nat.reduceMul, Nat.reduceEqDiff, nxa, nxc, lgn, nL_of, swx, Int.reduceAdd, gI_a, gI_k, gL_a, gL_k, gI_r, gL_r, nI_and, nI_or, nI_xor, nI_ndf, nI_shl, nI_shr, ne_eq, and_true, true_and, eq_self, true_or, or_true, false_or, or_false, Option.toList, List.cons_append, List.nil_append, List.length_nil, List.length_cons, Nat.not_lt_zero, bX3_leaversTo_25, kdx hst, grx hrt, S3, S5', e, b1, b2, show ¬ cntP (fil V N O) (2 ^ N) ≤ cntP (fil V N O) y by omega]
              refine wp_blk kX3_leaversTo_79 ?_
              simp (disch := first | decide | omega) only [mxa, vxa, vxb, vxc, vnd, vne, Nat.reduceAdd, Nat.reduceSub, Nat.reduceLeDiff, Nat.reduceLT, Int32.reduceLT, Int32.reduceLE, Int32.reduceAdd, Int32.reduceSub, Int32.reduceMul, Int32.reduceToNatClampNeg, not_false_eq_true, not_true_eq_false, false_implies, true_implies, Nat.zero_add, reduceIte, Nat.reduceMul, Nat.reduceEqDiff, nxa, nxc, lgn, nL_of, swx, Int.reduceAdd, gI_a, gI_k, gL_a, gL_k, gI_r, gL_r, nI_and, nI_or, nI_xor, nI_ndf, nI_shl, nI_shr, ne_eq, and_true, true_and, eq_self, true_or, or_true, false_or, or_false, Option.toList, List.cons_append, List.nil_append, List.length_nil, List.length_cons, Nat.not_lt_zero, bX3_leaversTo_79, kdx hst, grx hrt, S4', zc, tt]
              exact no (fun q => tt ((grp_tot hG hp).mpr q.1)) 1
          · refine wp_blk kX3_leaversTo_25 ?_
            simp (disch := first | decide | omega) only [mxa, vxa, vxb, vxc, vnd, vne, Nat.reduceAdd, Nat.reduceSub, Nat.reduceLeDiff, Nat.reduceLT, Int32.reduceLT, Int32.reduceLE, Int32.reduceAdd, Int32.reduceSub, Int32.reduceMul, Int32.reduceToNatClampNeg, not_false_eq_true, not_true_eq_false, false_implies, true_implies, Nat.zero_add, reduceIte, Nat.reduceMul, Nat.reduceEqDiff, nxa, nxc, lgn, nL_of, swx, Int.reduceAdd, gI_a, gI_k, gL_a, gL_k, gI_r, gL_r, nI_and, nI_or, nI_xor, nI_ndf, nI_shl, nI_shr, ne_eq, and_true, true_and, eq_self, true_or, or_true, false_or, or_false, Option.toList, List.cons_append, List.nil_append, List.length_nil, List.length_cons, Nat.not_lt_zero, bX3_leaversTo_25, kdx hst, grx hrt, S3, S5', e, b1, b2, show ¬ cntP (fil V N O) (2 ^ N) ≤ cntP (fil V N O) y by omega]
            refine wp_blk kX3_leaversTo_78 ?_
            simp (disch := first | decide | omega) only [mxa, vxa, vxb, vxc, vnd, vne, Nat.reduceAdd, Nat.reduceSub, Nat.reduceLeDiff, Nat.reduceLT, Int32.reduceLT, Int32.reduceLE, Int32.reduceAdd, Int32.reduceSub, Int32.reduceMul, Int32.reduceToNatClampNeg, not_false_eq_true, not_true_eq_false, false_implies, true_implies, Nat.zero_add, reduceIte, Nat.reduceMul, Nat.reduceEqDiff, nxa, nxc, lgn, nL_of, swx, Int.reduceAdd, gI_a, gI_k, gL_a, gL_k, gI_r, gL_r, nI_and, nI_or, nI_xor, nI_ndf, nI_shl, nI_shr, ne_eq, and_true, true_and, eq_self, true_or, or_true, false_or, or_false, Option.toList, List.cons_append, List.nil_append, List.length_nil, List.length_cons, Nat.not_lt_zero, bX3_leaversTo_78]
            refine wp_blk kX3_leaversTo_79 ?_
            simp (disch := first | decide | omega) only [mxa, vxa, vxb, vxc, vnd, vne, Nat.reduceAdd, Nat.reduceSub, Nat.reduceLeDiff, Nat.reduceLT, Int32.reduceLT, Int32.reduceLE, Int32.reduceAdd, Int32.reduceSub, Int32.reduceMul, Int32.reduceToNatClampNeg, not_false_eq_true, not_true_eq_false, false_implies, true_implies, Nat.zero_add, reduceIte, Nat.reduceMul, Nat.reduceEqDiff, nxa, nxc, lgn, nL_of, swx, Int.reduceAdd, gI_a, gI_k, gL_a, gL_k, gI_r, gL_r, nI_and, nI_or, nI_xor, nI_ndf, nI_shl, nI_shr, ne_eq, and_true, true_and, eq_self, true_or, or_true, false_or, or_false, Option.toList, List.cons_append, List.nil_append, List.length_nil, List.length_cons, Nat.not_lt_zero, bX3_leaversTo_79]
            exact no (fun q => b2 (lu.mp q.2).2) 0
        · refine wp_blk kX3_leaversTo_25 ?_
          simp (disch := first | decide | omega) only [mxa, vxa, vxb, vxc, vnd, vne, Nat.reduceAdd, Nat.reduceSub, Nat.reduceLeDiff, Nat.reduceLT, Int32.reduceLT, Int32.reduceLE, Int32.reduceAdd, Int32.reduceSub, Int32.reduceMul, Int32.reduceToNatClampNeg, not_false_eq_true, not_true_eq_false, false_implies, true_implies, Nat.zero_add, reduceIte, Nat.reduceMul, Nat.reduceEqDiff, nxa, nxc, lgn, nL_of, swx, Int.reduceAdd, gI_a, gI_k, gL_a, gL_k, gI_r, gL_r, nI_and, nI_or, nI_xor, nI_ndf, nI_shl, nI_shr, ne_eq, and_true, true_and, eq_self, true_or, or_true, false_or, or_false, Option.toList, List.cons_append, List.nil_append, List.length_nil, List.length_cons, Nat.not_lt_zero, bX3_leaversTo_25, kdx hst, grx hrt, S3, S5', e, b1, show ¬ cntP (fil V N O) (2 ^ N) ≤ cntP (fil V N O) y by omega]
          refine wp_blk kX3_leaversTo_78 ?_
          simp (disch := first | decide | omega) only [mxa, vxa, vxb, vxc, vnd, vne, Nat.reduceAdd, Nat.reduceSub, Nat.reduceLeDiff, Nat.reduceLT, Int32.reduceLT, Int32.reduceLE, Int32.reduceAdd, Int32.reduceSub, Int32.reduceMul, Int32.reduceToNatClampNeg, not_false_eq_true, not_true_eq_false, false_implies, true_implies, Nat.zero_add, reduceIte, Nat.reduceMul, Nat.reduceEqDiff, nxa, nxc, lgn, nL_of, swx, Int.reduceAdd, gI_a, gI_k, gL_a, gL_k, gI_r, gL_r, nI_and, nI_or, nI_xor, nI_ndf, nI_shl, nI_shr, ne_eq, and_true, true_and, eq_self, true_or, or_true, false_or, or_false, Option.toList, List.cons_append, List.nil_append, List.length_nil, List.length_cons, Nat.not_lt_zero, bX3_leaversTo_78]
          refine wp_blk kX3_leaversTo_79 ?_
          simp (disch := first | decide | omega) only [mxa, vxa, vxb, vxc, vnd, vne, Nat.reduceAdd, Nat.reduceSub, Nat.reduceLeDiff, Nat.reduceLT, Int32.reduceLT, Int32.reduceLE, Int32.reduceAdd, Int32.reduceSub, Int32.reduceMul, Int32.reduceToNatClampNeg, not_false_eq_true, not_true_eq_false, false_implies, true_implies, Nat.zero_add, reduceIte, Nat.reduceMul, Nat.reduceEqDiff, nxa, nxc, lgn, nL_of, swx, Int.reduceAdd, gI_a, gI_k, gL_a, gL_k, gI_r, gL_r, nI_and, nI_or, nI_xor, nI_ndf, nI_shl, nI_shr, ne_eq, and_true, true_and, eq_self, true_or, or_true, false_or, or_false, Option.toList, List.cons_append, List.nil_append, List.length_nil, List.length_cons, Nat.not_lt_zero, bX3_leaversTo_79]
          exact no (fun q => b1 (lu.mp q.2).1) 0
    · rw [cntP_no hf] at hP
      exact hP l (keep (fun q => hf (grp_fil hp q.1)))
  · have := fin l (cntP (fil V N O) (2 ^ N)) h
    refine wp_blk kX3_leaversTo_25 ?_
    simp (disch := first | decide | omega) only [mxa, vxa, vxb, vxc, vnd, vne, Nat.reduceAdd, Nat.reduceSub, Nat.reduceLeDiff, Nat.reduceLT, Int32.reduceLT, Int32.reduceLE, Int32.reduceAdd, Int32.reduceSub, Int32.reduceMul, Int32.reduceToNatClampNeg, not_false_eq_true, not_true_eq_false, false_implies, true_implies, Nat.zero_add, reduceIte, Nat.reduceMul, Nat.reduceEqDiff, nxa, nxc, lgn, nL_of, swx, Int.reduceAdd, gI_a, gI_k, gL_a, gL_k, gI_r, gL_r, nI_and, nI_or, nI_xor, nI_ndf, nI_shl, nI_shr, ne_eq, and_true, true_and, eq_self, true_or, or_true, false_or, or_false, Option.toList, List.cons_append, List.nil_append, List.length_nil, List.length_cons, Nat.not_lt_zero, bX3_leaversTo_25, kdx hst, grx hrt, S3, Nat.le_refl]
    exact this
theorem c_leavers (X : Cx) (d : Nat) (σ : Mm) (V : Nat → Int32) (t N O K o s : Nat) (hs : St σ) (hG : Gd V t N O K) (hV : VR σ 1 V N O) (hS : SV V N O σ) (ho : o < O) (hs2 : s < 2 ^ N) (Q : Po) (hQ : Q (some (.int (nI (LVn V N O o s)))) σ) : Call X (d + 3) 0 0 mX3_leavers [.ref 151, .ref 1, .int (nI o), .int (nI s)] σ Q := by
  have hN10 := hG.1.2
  have hO3 := hG.2.1.2
  have pw := pow_le hN10
  have hst := hs.1
  have hrt := hs.2.1
  have e1 : gI σ 1 1 = nI O := hV.1.2.1.trans hG.2.1.1
  obtain ⟨o1, o2, o3⟩ := zN_ok hG ho
  have zo : gI σ 3 o = nI (zN V o) := (hV.2.1 o ho).trans o1
  have bN : ∀ i, s.testBit i = true → i < N := fun i hi => by
    rcases Nat.lt_or_ge i N with q | q
    · exact q
    · rw [Nat.testBit_lt_two_pow (Nat.lt_of_lt_of_le hs2 (Nat.pow_le_pow_right (by omega) q))] at hi
      cases hi
  have fin : ∀ l i, (∀ b, l.testBit b = true ↔ s.testBit b = true ∧ ∃ y p, y < 2 ^ N ∧ p < O ∧ CB V N s o y p ∧ y.testBit b = true) → Wp X mX3_leavers (rmo (d + 3) 0 0) (d + 3) Q 0 0 57 [some (.ref 151), some (.ref 1), some (.int (nI o)), some (.int (nI s)), some (.int (nI l)), some (.int (nI i))] [] σ := fun l i h => by
    have q := hQ
    rw [← LVn_eq (by omega) h] at q
    refine wp_blk kX3_leavers_57 ?_
    simp (disch := first | decide | omega) only [mxa, vxa, vxb, vxc, vnd, vne, Nat.reduceAdd, Nat.reduceSub, Nat.reduceLeDiff, Nat.reduceLT, Int32.reduceLT, Int32.reduceLE, Int32.reduceAdd, Int32.reduceSub, Int32.reduceMul, Int32.reduceToNatClampNeg, not_false_eq_true, not_true_eq_false, false_implies, true_implies, Nat.zero_add, reduceIte, Nat.reduceMul, Nat.reduceEqDiff, nxa, nxc, lgn, nL_of, swx, Int.reduceAdd, gI_a, gI_k, gL_a, gL_k, gI_r, gL_r, nI_and, nI_or, nI_xor, nI_ndf, nI_shl, nI_shr, ne_eq, and_true, true_and, eq_self, true_or, or_true, false_or, or_false, Option.toList, List.cons_append, List.nil_append, List.length_nil, List.length_cons, Nat.not_lt_zero, bX3_leavers_57]
    exact q
  refine call_of eX3_leavers rfl ?_
  refine wp_blk kX3_leavers_0 ?_
  simp (disch := first | decide | omega) only [mxa, vxa, vxb, vxc, vnd, vne, Nat.reduceAdd, Nat.reduceSub, Nat.reduceLeDiff, Nat.reduceLT, Int32.reduceLT, Int32.reduceLE, Int32.reduceAdd, Int32.reduceSub, Int32.reduceMul, Int32.reduceToNatClampNeg, not_false_eq_true, not_true_eq_false, false_implies, true_implies, Nat.zero_add, reduceIte, Nat.reduceMul, Nat.reduceEqDiff, nxa, nxc, lgn, nL_of, swx, Int.reduceAdd, gI_a, gI_k, gL_a, gL_k, gI_r, gL_r, nI_and, nI_or, nI_xor, nI_ndf, nI_shl, nI_shr, ne_eq, and_true, true_and, eq_self, true_or, or_true, false_or, or_false, Option.toList, List.cons_append, List.nil_append, List.length_nil, List.length_cons, Nat.not_lt_zero, bX3_leavers_0]
  refine wfor (fun p => ∀ l, (∀ b, l.testBit b = true ↔ s.testBit b = true ∧ ∃ y p', y < 2 ^ N ∧ p' < p ∧ CB V N s o y p' ∧ y.testBit b = true) → Wp X mX3_leavers (rmo (d + 3) 0 0) (d + 3) Q 0 0 6 [some (.ref 151), some (.ref 1), some (.int (nI o)), some (.int (nI s)), some (.int (nI l)), some (.int (nI p))] [] σ) O (fun p hp hP l h => ?_) (fun l h => ?_) 0 (fun b => ⟨fun q => (by rw [Nat.zero_testBit] at q; cases q), fun q => by obtain ⟨-, y, x, -, hx, -⟩ := q; omega⟩)
  · have ll : l ≤ s := sub_le (sub_bit.mpr (fun i hi => ((h i).mp hi).1))
    obtain ⟨z1, z2, z3⟩ := zN_ok hG hp
    have zp : gI σ 3 p = nI (zN V p) := (hV.2.1 p hp).trans z1
    by_cases e : l = s
    · have := fin s p (fun b => ⟨fun q => ?_, fun q => q.1⟩)
      · refine wp_blk kX3_leavers_6 ?_
        simp (disch := first | decide | omega) only [mxa, vxa, vxb, vxc, vnd, vne, Nat.reduceAdd, Nat.reduceSub, Nat.reduceLeDiff, Nat.reduceLT, Int32.reduceLT, Int32.reduceLE, Int32.reduceAdd, Int32.reduceSub, Int32.reduceMul, Int32.reduceToNatClampNeg, not_false_eq_true, not_true_eq_false, false_implies, true_implies, Nat.zero_add, reduceIte, Nat.reduceMul, Nat.reduceEqDiff, nxa, nxc, lgn, nL_of, swx, Int.reduceAdd, gI_a, gI_k, gL_a, gL_k, gI_r, gL_r, nI_and, nI_or, nI_xor, nI_ndf, nI_shl, nI_shr, ne_eq, and_true, true_and, eq_self, true_or, or_true, false_or, or_false, Option.toList, List.cons_append, List.nil_append, List.length_nil, List.length_cons, Nat.not_lt_zero, bX3_leavers_6, kdx hst, grx hrt, e1, e, show ¬ O ≤ p by omega]
        exact this
      · rw [e] at h
        obtain ⟨q1, x, p', q2, q3, q4⟩ := (h b).mp q
        exact ⟨q1, x, p', q2, by omega, q4⟩
    · by_cases zl : zN V p ≤ zN V o
      · refine wp_blk kX3_leavers_6 ?_
        simp (disch := first | decide | omega) only [mxa, vxa, vxb, vxc, vnd, vne, Nat.reduceAdd, Nat.reduceSub, Nat.reduceLeDiff, Nat.reduceLT, Int32.reduceLT, Int32.reduceLE, Int32.reduceAdd, Int32.reduceSub, Int32.reduceMul, Int32.reduceToNatClampNeg, not_false_eq_true, not_true_eq_false, false_implies, true_implies, Nat.zero_add, reduceIte, Nat.reduceMul, Nat.reduceEqDiff, nxa, nxc, lgn, nL_of, swx, Int.reduceAdd, gI_a, gI_k, gL_a, gL_k, gI_r, gL_r, nI_and, nI_or, nI_xor, nI_ndf, nI_shl, nI_shr, ne_eq, and_true, true_and, eq_self, true_or, or_true, false_or, or_false, Option.toList, List.cons_append, List.nil_append, List.length_nil, List.length_cons, Nat.not_lt_zero, bX3_leavers_6, kdx hst, grx hrt, e1, e, zo, zp, zl, show ¬ O ≤ p by omega]
        refine wp_blk kX3_leavers_51 ?_
        simp (disch := first | decide | omega) only [mxa, vxa, vxb, vxc, vnd, vne, Nat.reduceAdd, Nat.reduceSub, Nat.reduceLeDiff, Nat.reduceLT, Int32.reduceLT, Int32.reduceLE, Int32.reduceAdd, Int32.reduceSub, Int32.reduceMul, Int32.reduceToNatClampNeg, not_false_eq_true, not_true_eq_false, false_implies, true_implies, Nat.zero_add, reduceIte, Nat.reduceMul, Nat.reduceEqDiff, nxa, nxc, lgn, nL_of, swx, Int.reduceAdd, gI_a, gI_k, gL_a, gL_k, gI_r, gL_r, nI_and, nI_or, nI_xor, nI_ndf, nI_shl, nI_shr, ne_eq, and_true, true_and, eq_self, true_or, or_true, false_or, or_false, Option.toList, List.cons_append, List.nil_append, List.length_nil, List.length_cons, Nat.not_lt_zero, bX3_leavers_51]
        refine hP l (fun b => ?_)
        rw [h b]
        refine ⟨fun ⟨q1, x, p', q2, q3, q4⟩ => ⟨q1, x, p', q2, by omega, q4⟩, fun ⟨q1, x, p', q2, q3, q4⟩ => ⟨q1, x, p', q2, ?_, q4⟩⟩
        by_cases e : p' = p
        · subst e
          have := CB_big hG (bN b q1) hp q4.2 q1 q4.1
          omega
        · omega
      · refine wp_blk kX3_leavers_6 ?_
        simp (disch := first | decide | omega) only [mxa, vxa, vxb, vxc, vnd, vne, Nat.reduceAdd, Nat.reduceSub, Nat.reduceLeDiff, Nat.reduceLT, Int32.reduceLT, Int32.reduceLE, Int32.reduceAdd, Int32.reduceSub, Int32.reduceMul, Int32.reduceToNatClampNeg, not_false_eq_true, not_true_eq_false, false_implies, true_implies, Nat.zero_add, reduceIte, Nat.reduceMul, Nat.reduceEqDiff, nxa, nxc, lgn, nL_of, swx, Int.reduceAdd, gI_a, gI_k, gL_a, gL_k, gI_r, gL_r, nI_and, nI_or, nI_xor, nI_ndf, nI_shl, nI_shr, ne_eq, and_true, true_and, eq_self, true_or, or_true, false_or, or_false, Option.toList, List.cons_append, List.nil_append, List.length_nil, List.length_cons, Nat.not_lt_zero, bX3_leavers_6, kdx hst, grx hrt, e1, e, zo, zp, zl, show ¬ O ≤ p by omega]
        refine c_leaversTo X _ _ V t N O K p o s hs hG hV hS hp ho hs2 _ (fun l2 h2 => ?_)
        simp (disch := first | decide | omega) only [mxa, vxa, vxb, vxc, vnd, vne, Nat.reduceAdd, Nat.reduceSub, Nat.reduceLeDiff, Nat.reduceLT, Int32.reduceLT, Int32.reduceLE, Int32.reduceAdd, Int32.reduceSub, Int32.reduceMul, Int32.reduceToNatClampNeg, not_false_eq_true, not_true_eq_false, false_implies, true_implies, Nat.zero_add, reduceIte, Nat.reduceMul, Nat.reduceEqDiff, nxa, nxc, lgn, nL_of, swx, Int.reduceAdd, gI_a, gI_k, gL_a, gL_k, gI_r, gL_r, nI_and, nI_or, nI_xor, nI_ndf, nI_shl, nI_shr, ne_eq, and_true, true_and, eq_self, true_or, or_true, false_or, or_false, Option.toList, List.cons_append, List.nil_append, List.length_nil, List.length_cons, Nat.not_lt_zero]
        refine wp_blk kX3_leavers_51 ?_
        simp (disch := first | decide | omega) only [mxa, vxa, vxb, vxc, vnd, vne, Nat.reduceAdd, Nat.reduceSub, Nat.reduceLeDiff, Nat.reduceLT, Int32.reduceLT, Int32.reduceLE, Int32.reduceAdd, Int32.reduceSub, Int32.reduceMul, Int32.reduceToNatClampNeg, not_false_eq_true, not_true_eq_false, false_implies, true_implies, Nat.zero_add, reduceIte, Nat.reduceMul, Nat.reduceEqDiff, nxa, nxc, lgn, nL_of, swx, Int.reduceAdd, gI_a, gI_k, gL_a, gL_k, gI_r, gL_r, nI_and, nI_or, nI_xor, nI_ndf, nI_shl, nI_shr, ne_eq, and_true, true_and, eq_self, true_or, or_true, false_or, or_false, Option.toList, List.cons_append, List.nil_append, List.length_nil, List.length_cons, Nat.not_lt_zero, bX3_leavers_51]
        refine hP (l ||| l2) (fun b => ?_)
        rw [Nat.testBit_or, Bool.or_eq_true, h b, h2 b]
        constructor
        · rintro (⟨q1, x, p', q2, q3, q4⟩ | ⟨q1, x, q2, q3⟩)
          · exact ⟨q1, x, p', q2, by omega, q4⟩
          · exact ⟨q1, x, p, q2, by omega, q3⟩
        · rintro ⟨q1, x, p', q2, q3, q4⟩
          by_cases e : p' = p
          · subst e; exact Or.inr ⟨q1, x, q2, q4⟩
          · exact Or.inl ⟨q1, x, p', q2, by omega, q4⟩
  · have := fin l O h
    refine wp_blk kX3_leavers_6 ?_
    simp (disch := first | decide | omega) only [mxa, vxa, vxb, vxc, vnd, vne, Nat.reduceAdd, Nat.reduceSub, Nat.reduceLeDiff, Nat.reduceLT, Int32.reduceLT, Int32.reduceLE, Int32.reduceAdd, Int32.reduceSub, Int32.reduceMul, Int32.reduceToNatClampNeg, not_false_eq_true, not_true_eq_false, false_implies, true_implies, Nat.zero_add, reduceIte, Nat.reduceMul, Nat.reduceEqDiff, nxa, nxc, lgn, nL_of, swx, Int.reduceAdd, gI_a, gI_k, gL_a, gL_k, gI_r, gL_r, nI_and, nI_or, nI_xor, nI_ndf, nI_shl, nI_shr, ne_eq, and_true, true_and, eq_self, true_or, or_true, false_or, or_false, Option.toList, List.cons_append, List.nil_append, List.length_nil, List.length_cons, Nat.not_lt_zero, bX3_leavers_6, kdx hst, e1, Nat.le_refl]
    exact this
