/-! fires: what hinders one -/
set_option maxRecDepth 20000
def flN (V : Nat → Int32) (f : Nat) : Nat := (V (19 + f)).toNatClampNeg
def wsN (V : Nat → Int32) (f : Nat) : Nat := (V (29 + f)).toNatClampNeg
def fuN (V : Nat → Int32) : Nat := (V 4).toNatClampNeg
theorem flN_ok {V : Nat → Int32} {t N O K f : Nat} (hG : Gd V t N O K) (hf : f < N) : V (19 + f) = nI (flN V f) ∧ flN V f ≤ 999 := by
  obtain ⟨n, hn, e⟩ := (hG.2.2.2.2.2.2.1 f hf).2.1
  unfold flN
  rw [e, nI_clamp (by omega)]
  exact ⟨rfl, hn⟩
theorem wsN_ok {V : Nat → Int32} {t N O K f : Nat} (hG : Gd V t N O K) (hf : f < N) : V (29 + f) = nI (wsN V f) ∧ wsN V f ≤ 99 := by
  obtain ⟨n, hn, e⟩ := (hG.2.2.2.2.2.2.1 f hf).2.2
  unfold wsN
  rw [e, nI_clamp (by omega)]
  exact ⟨rfl, hn⟩
theorem fuN_ok {V : Nat → Int32} {t N O K : Nat} (hG : Gd V t N O K) : V 4 = nI (fuN V) ∧ fuN V ≤ 999 := by
  obtain ⟨n, hn, e⟩ := hG.2.2.2.1
  unfold fuN
  rw [e, nI_clamp (by omega)]
  exact ⟨rfl, hn⟩
def sumN (l : Nat → Nat) : Nat → Nat
  | 0 => 0
  | n + 1 => sumN l n + l n
theorem sumN_le {l : Nat → Nat} {b : Nat} : ∀ {n : Nat}, (∀ k, k < n → l k ≤ b) → sumN l n ≤ b * n
  | 0, _ => Nat.zero_le _
  | n + 1, h => by
    have := sumN_le (n := n) (fun k hk => h k (by omega))
    have := h n (by omega)
    rw [Nat.mul_succ]
    show sumN l n + l n ≤ _
    omega
theorem sumN_at {l : Nat → Nat} : ∀ {n k : Nat}, k < n → l k ≤ sumN l n
  | n + 1, k, h => by
    show l k ≤ sumN l n + l n
    by_cases e : k = n
    · subst e; omega
    · have := sumN_at (l := l) (show k < n by omega); omega
/-- loaves that a family has flour for -/
def okL (V : Nat → Int32) (L : Nat → Int64) (f : Nat) : Prop := (nL 0 ≤ L f) ∧ L f ≤ (V (19 + f)).toInt64
def lnN (L : Nat → Int64) (f : Nat) : Nat := (L f).toInt.toNat
theorem okL_n {V : Nat → Int32} {t N O K f : Nat} {L : Nat → Int64} (hG : Gd V t N O K) (hf : f < N) (h : okL V L f) : L f = nL (lnN L f) ∧ lnN L f ≤ flN V f := by
  obtain ⟨e, h9⟩ := flN_ok hG hf
  obtain ⟨h1, h2⟩ := h
  rw [e, nL_of (by omega)] at h2
  rw [Int64.le_iff_toInt_le, nL_toInt (by omega)] at h1 h2
  unfold lnN
  refine ⟨?_, by omega⟩
  apply Int64.toInt_inj.mp
  rw [nL_toInt (by omega)]
  omega
def tnL (V : Nat → Int32) (l : Nat → Nat) (f g : Nat) : Prop := 0 < l f ∧ 0 < l g ∧ V (119 + 10 * f + g) = nI 1
theorem and_ne {a b : Nat} : a &&& b ≠ 0 ↔ ∃ i, a.testBit i = true ∧ b.testBit i = true := by
  constructor
  · intro h
    refine Classical.byContradiction (fun q => h (Nat.eq_of_testBit_eq (fun i => ?_)))
    rw [Nat.testBit_and, Nat.zero_testBit]
    by_cases h1 : a.testBit i = true
    · by_cases h2 : b.testBit i = true
      · exact absurd ⟨i, h1, h2⟩ q
      · simp [h2]
    · simp [h1]
  · rintro ⟨i, h1, h2⟩ e
    have : (a &&& b).testBit i = true := by rw [Nat.testBit_and, h1, h2]; rfl
    rw [e, Nat.zero_testBit] at this
    cases this
theorem bm_or {p : Nat → Bool} {n : Nat} : bm p n ||| 1 * 2 ^ n = bm p n + 2 ^ n := by
  rw [Nat.one_mul, Nat.or_comm, Nat.add_comm]
  have := Nat.two_pow_add_eq_or_of_lt (bm_lt p n) 1
  rw [Nat.mul_one] at this
  exact this.symm
/-- the class -/
theorem hind_bad (X : Cx) (d : Nat) (σ : Mm) (v : Nat) (V : Nat → Int32) (t N O K k0 : Nat) (oo : Int32) (L : Nat → Int64) (hs : St σ) (hv : isV v) (hG : Gd V t N O K) (hV : VR σ v V N O) (hL : ∀ f, f < N → gL σ 147 f = L f) (hk0 : k0 < N) (hb : ¬ okL V L k0) (hok : ∀ f, f < k0 → okL V L f) (Q : Po) (hQ : Q (some (.int (nI 1))) σ) : Call X d 0 0 mX8_hindrance [.ref v, .int oo, .ref 147] σ Q := by
  have hst := hs.1
  have hrt := hs.2.1
  have hN10 := hG.1.2
  obtain ⟨v1, v2, v3, v4, v5⟩ := vk hst hrt hv
  have e0 : gI σ v 0 = nI N := hV.1.1.trans hG.1.1
  refine call_of eX8_hindrance rfl ?_
  refine wp_blk kX8_hindrance_0 ?_
  simp (disch := first | decide | omega) only [mxa, vxa, vxb, vxc, vnd, vne, Nat.reduceAdd, Nat.reduceSub, Nat.reduceLeDiff, Nat.reduceLT, Int32.reduceLT, Int32.reduceLE, Int32.reduceAdd, Int32.reduceSub, Int32.reduceMul, Int32.reduceToNatClampNeg, not_false_eq_true, not_true_eq_false, false_implies, true_implies, Nat.zero_add, reduceIte, Nat.reduceMul, Nat.reduceEqDiff, nxa, nxc, lgn, nL_of, swx, Int.reduceAdd, gI_a, gI_k, gL_a, gL_k, gI_r, gL_r, nI_and, nI_or, nI_xor, nI_ndf, nI_shl, nI_shr, ne_eq, and_true, true_and, eq_self, true_or, or_true, false_or, or_false, Option.toList, List.cons_append, List.nil_append, List.length_nil, List.length_cons, Nat.not_lt_zero, bX8_hindrance_0]
  refine wfor (fun k => Wp X mX8_hindrance (rmo d 0 0) d Q 0 0 8 [some (.ref v), some (.int oo), some (.ref 147), some (.int (nI (bm (fun f => decide (0 < lnN L f)) k))), some (.long (nL (sumN (lnN L) k))), none, some (.int (nI k))] [] σ) k0 (fun k hk hP => ?_) ?_
  · obtain ⟨a1, a2, -⟩ := fa_ok hst hrt hv (hs.2.2 v hv) (show k < 10 by omega)
    obtain ⟨l1, l2⟩ := okL_n hG (show k < N by omega) (hok k hk)
    obtain ⟨g1, g2⟩ := flN_ok hG (show k < N by omega)
    have f1 : gI σ (fa σ v k) 1 = nI (flN V k) := ((hV.2.2 k (by omega)).1 1 (by omega)).trans g1
    have l0 := (hL k (by omega)).trans l1
    refine wp_blk kX8_hindrance_8 ?_
    simp (disch := first | decide | omega) only [mxa, vxa, vxb, vxc, vnd, vne, Nat.reduceAdd, Nat.reduceSub, Nat.reduceLeDiff, Nat.reduceLT, Int32.reduceLT, Int32.reduceLE, Int32.reduceAdd, Int32.reduceSub, Int32.reduceMul, Int32.reduceToNatClampNeg, not_false_eq_true, not_true_eq_false, false_implies, true_implies, Nat.zero_add, reduceIte, Nat.reduceMul, Nat.reduceEqDiff, nxa, nxc, lgn, nL_of, swx, Int.reduceAdd, gI_a, gI_k, gL_a, gL_k, gI_r, gL_r, nI_and, nI_or, nI_xor, nI_ndf, nI_shl, nI_shr, ne_eq, and_true, true_and, eq_self, true_or, or_true, false_or, or_false, Option.toList, List.cons_append, List.nil_append, List.length_nil, List.length_cons, Nat.not_lt_zero, bX8_hindrance_8, kdx hst, v1, v2, v4, e0, a1, a2.1, f1, l0, l2, show ¬ N ≤ k by omega]
    by_cases h0 : 0 < lnN L k
    · refine wp_blk kX8_hindrance_47 ?_
      simp (disch := first | decide | omega) only [mxa, vxa, vxb, vxc, vnd, vne, Nat.reduceAdd, Nat.reduceSub, Nat.reduceLeDiff, Nat.reduceLT, Int32.reduceLT, Int32.reduceLE, Int32.reduceAdd, Int32.reduceSub, Int32.reduceMul, Int32.reduceToNatClampNeg, not_false_eq_true, not_true_eq_false, false_implies, true_implies, Nat.zero_add, reduceIte, Nat.reduceMul, Nat.reduceEqDiff, nxa, nxc, lgn, nL_of, swx, Int.reduceAdd, gI_a, gI_k, gL_a, gL_k, gI_r, gL_r, nI_and, nI_or, nI_xor, nI_ndf, nI_shl, nI_shr, ne_eq, and_true, true_and, eq_self, true_or, or_true, false_or, or_false, Option.toList, List.cons_append, List.nil_append, List.length_nil, List.length_cons, Nat.not_lt_zero, bX8_hindrance_47, kdx hst, l0, show ¬ lnN L k ≤ 0 by omega]
      refine wp_blk kX8_hindrance_63 ?_
      simp (disch := first | decide | omega) only [mxa, vxa, vxb, vxc, vnd, vne, Nat.reduceAdd, Nat.reduceSub, Nat.reduceLeDiff, Nat.reduceLT, Int32.reduceLT, Int32.reduceLE, Int32.reduceAdd, Int32.reduceSub, Int32.reduceMul, Int32.reduceToNatClampNeg, not_false_eq_true, not_true_eq_false, false_implies, true_implies, Nat.zero_add, reduceIte, Nat.reduceMul, Nat.reduceEqDiff, nxa, nxc, lgn, nL_of, swx, Int.reduceAdd, gI_a, gI_k, gL_a, gL_k, gI_r, gL_r, nI_and, nI_or, nI_xor, nI_ndf, nI_shl, nI_shr, ne_eq, and_true, true_and, eq_self, true_or, or_true, false_or, or_false, Option.toList, List.cons_append, List.nil_append, List.length_nil, List.length_cons, Nat.not_lt_zero, bX8_hindrance_63, kdx hst, l0]
      rw [bm_or]
      refine cast ?_ hP
      rw [show bm (fun f => decide (0 < lnN L f)) (k + 1) = bm (fun f => decide (0 < lnN L f)) k + 2 ^ k from by show _ + (if _ then _ else _) = _; rw [if_pos (by simpa using h0)]]
      rfl
    · refine wp_blk kX8_hindrance_47 ?_
      simp (disch := first | decide | omega) only [mxa, vxa, vxb, vxc, vnd, vne, Nat.reduceAdd, Nat.reduceSub, Nat.reduceLeDiff, Nat.reduceLT, Int32.reduceLT, Int32.reduceLE, Int32.reduceAdd, Int32.reduceSub, Int32.reduceMul, Int32.reduceToNatClampNeg, not_false_eq_true, not_true_eq_false, false_implies, true_implies, Nat.zero_add, reduceIte, Nat.reduceMul, Nat.reduceEqDiff, nxa, nxc, lgn, nL_of, swx, Int.reduceAdd, gI_a, gI_k, gL_a, gL_k, gI_r, gL_r, nI_and, nI_or, nI_xor, nI_ndf, nI_shl, nI_shr, ne_eq, and_true, true_and, eq_self, true_or, or_true, false_or, or_false, Option.toList, List.cons_append, List.nil_append, List.length_nil, List.length_cons, Nat.not_lt_zero, bX8_hindrance_47, kdx hst, l0, show lnN L k ≤ 0 by omega]
      refine wp_blk kX8_hindrance_63 ?_
      simp (disch := first | decide | omega) only [mxa, vxa, vxb, vxc, vnd, vne, Nat.reduceAdd, Nat.reduceSub, Nat.reduceLeDiff, Nat.reduceLT, Int32.reduceLT, Int32.reduceLE, Int32.reduceAdd, Int32.reduceSub, Int32.reduceMul, Int32.reduceToNatClampNeg, not_false_eq_true, not_true_eq_false, false_implies, true_implies, Nat.zero_add, reduceIte, Nat.reduceMul, Nat.reduceEqDiff, nxa, nxc, lgn, nL_of, swx, Int.reduceAdd, gI_a, gI_k, gL_a, gL_k, gI_r, gL_r, nI_and, nI_or, nI_xor, nI_ndf, nI_shl, nI_shr, ne_eq, and_true, true_and, eq_self, true_or, or_true, false_or, or_false, Option.toList, List.cons_append, List.nil_append, List.length_nil, List.length_cons, Nat.not_lt_zero, bX8_hindrance_63, kdx hst, l0]
      refine cast ?_ hP
      rw [show bm (fun f => decide (0 < lnN L f)) (k + 1) = bm (fun f => decide (0 < lnN L f)) k from by show _ + (if _ then _ else _) = _; rw [if_neg (by simpa using h0), Nat.add_zero]]
      rfl
  · obtain ⟨a1, a2, -⟩ := fa_ok hst hrt hv (hs.2.2 v hv) (show k0 < 10 by omega)
    obtain ⟨g1, g2⟩ := flN_ok hG hk0
    have f1 : gI σ (fa σ v k0) 1 = V (19 + k0) := (hV.2.2 k0 hk0).1 1 (by omega)
    have key : Wp X mX8_hindrance (rmo d 0 0) d Q 0 0 45 [some (.ref v), some (.int oo), some (.ref 147), some (.int (nI (bm (fun f => decide (0 < lnN L f)) k0))), some (.long (nL (sumN (lnN L) k0))), none, some (.int (nI k0))] [] σ := by
      refine wp_blk kX8_hindrance_45 ?_
      simp (disch := first | decide | omega) only [mxa, vxa, vxb, vxc, vnd, vne, Nat.reduceAdd, Nat.reduceSub, Nat.reduceLeDiff, Nat.reduceLT, Int32.reduceLT, Int32.reduceLE, Int32.reduceAdd, Int32.reduceSub, Int32.reduceMul, Int32.reduceToNatClampNeg, not_false_eq_true, not_true_eq_false, false_implies, true_implies, Nat.zero_add, reduceIte, Nat.reduceMul, Nat.reduceEqDiff, nxa, nxc, lgn, nL_of, swx, Int.reduceAdd, gI_a, gI_k, gL_a, gL_k, gI_r, gL_r, nI_and, nI_or, nI_xor, nI_ndf, nI_shl, nI_shr, ne_eq, and_true, true_and, eq_self, true_or, or_true, false_or, or_false, Option.toList, List.cons_append, List.nil_append, List.length_nil, List.length_cons, Nat.not_lt_zero, bX8_hindrance_45]
      exact hQ
    refine wp_blk kX8_hindrance_8 ?_
    simp (disch := first | decide | omega) only [mxa, vxa, vxb, vxc, vnd, vne, Nat.reduceAdd, Nat.reduceSub, Nat.reduceLeDiff, Nat.reduceLT, Int32.reduceLT, Int32.reduceLE, Int32.reduceAdd, Int32.reduceSub, Int32.reduceMul, Int32.reduceToNatClampNeg, not_false_eq_true, not_true_eq_false, false_implies, true_implies, Nat.zero_add, reduceIte, Nat.reduceMul, Nat.reduceEqDiff, nxa, nxc, lgn, nL_of, swx, Int.reduceAdd, gI_a, gI_k, gL_a, gL_k, gI_r, gL_r, nI_and, nI_or, nI_xor, nI_ndf, nI_shl, nI_shr, ne_eq, and_true, true_and, eq_self, true_or, or_true, false_or, or_false, Option.toList, List.cons_append, List.nil_append, List.length_nil, List.length_cons, Nat.not_lt_zero, bX8_hindrance_8, kdx hst, v1, v2, v4, e0, a1, a2.1, f1, hL k0 hk0, show ¬ N ≤ k0 by omega]
    exact ⟨fun _ => key, fun h0 => ⟨fun h1 => absurd ⟨Int64.not_lt.mp h0, h1⟩ hb, fun _ => key⟩⟩
theorem hind_ok (X : Cx) (d : Nat) (σ : Mm) (v : Nat) (V : Nat → Int32) (t N O K o : Nat) (L : Nat → Int64) (hs : St σ) (hv : isV v) (hG : Gd V t N O K) (hV : VR σ v V N O) (hL : ∀ f, f < N → gL σ 147 f = L f) (ho : o < O) (hok : ∀ f, f < N → okL V L f) (Q : Po) (h2 : (∃ f g, f < N ∧ g < N ∧ tnL V (lnN L) f g) → Q (some (.int (nI 2))) σ) (h0 : ¬ (∃ f g, f < N ∧ g < N ∧ tnL V (lnN L) f g) → sumN (lnN L) N = zN V o → Q (some (.int (nI 0))) σ) (h3 : ¬ (∃ f g, f < N ∧ g < N ∧ tnL V (lnN L) f g) → sumN (lnN L) N ≠ zN V o → Q (some (.int (nI 3))) σ) : Call X d 0 0 mX8_hindrance [.ref v, .int (nI o), .ref 147] σ Q := by
  have hst := hs.1
  have hrt := hs.2.1
  have hN10 := hG.1.2
  have hO3 := hG.2.1.2
  obtain ⟨v1, v2, v3, v4, v5⟩ := vk hst hrt hv
  have e0 : gI σ v 0 = nI N := hV.1.1.trans hG.1.1
  obtain ⟨z1, z2, z3⟩ := zN_ok hG ho
  have zz : gI σ (v + 2) o = nI (zN V o) := (hV.2.1 o ho).trans z1
  have sb : sumN (lnN L) N ≤ 999 * N := sumN_le (fun k hk => by have := (okL_n hG hk (hok k hk)).2; have := (flN_ok hG hk).2; omega)
  have bl := bm_lt (fun f => decide (0 < lnN L f)) N
  have pw : 2 ^ N ≤ 2 ^ 10 := Nat.pow_le_pow_right (by omega) hN10
  have bb : ∀ i, (bm (fun f => decide (0 < lnN L f)) N).testBit i = (decide (i < N) && decide (0 < lnN L i)) := fun i => bm_bit _ _ _
  have second : Wp X mX8_hindrance (rmo d 0 0) d Q 0 0 81 [some (.ref v), some (.int (nI o)), some (.ref 147), some (.int (nI (bm (fun f => decide (0 < lnN L f)) N))), some (.long (nL (sumN (lnN L) N))), none, some (.int (nI 0))] [] σ := by
    have step : ∀ k, k < N → (¬ (∃ g, g < N ∧ tnL V (lnN L) k g) → Wp X mX8_hindrance (rmo d 0 0) d Q 0 0 81 [some (.ref v), some (.int (nI o)), some (.ref 147), some (.int (nI (bm (fun f => decide (0 < lnN L f)) N))), some (.long (nL (sumN (lnN L) N))), none, some (.int (nI (k + 1)))] [] σ) → Wp X mX8_hindrance (rmo d 0 0) d Q 0 0 81 [some (.ref v), some (.int (nI o)), some (.ref 147), some (.int (nI (bm (fun f => decide (0 < lnN L f)) N))), some (.long (nL (sumN (lnN L) N))), none, some (.int (nI k))] [] σ := by
      intro k hk hP
      obtain ⟨a1, a2, -⟩ := fa_ok hst hrt hv (hs.2.2 v hv) (show k < 10 by omega)
      have f6 : gI σ (fa σ v k) 6 = nI (qm V k) := (hV.2.2 k hk).2.1
      have ql := qm_lt V k
      by_cases hb : 0 < lnN L k
      · have tb : (bm (fun f => decide (0 < lnN L f)) N).testBit k = true := by rw [bb]; simp [hk, hb]
        by_cases hq : qm V k &&& bm (fun f => decide (0 < lnN L f)) N = 0
        · refine wp_blk kX8_hindrance_81 ?_
          simp (disch := first | decide | omega) only [mxa, vxa, vxb, vxc, vnd, vne, Nat.reduceAdd, Nat.reduceSub, Nat.reduceLeDiff, Nat.reduceLT, Int32.reduceLT, Int32.reduceLE, Int32.reduceAdd, Int32.reduceSub, Int32.reduceMul, Int32.reduceToNatClampNeg, not_false_eq_true, not_true_eq_false, false_implies, true_implies, Nat.zero_add, reduceIte, Nat.reduceMul, Nat.reduceEqDiff, nxa, nxc, lgn, nL_of, swx, Int.reduceAdd, gI_a, gI_k, gL_a, gL_k, gI_r, gL_r, nI_and, nI_or, nI_xor, nI_ndf, nI_shl, nI_shr, ne_eq, and_true, true_and, eq_self, true_or, or_true, false_or, or_false, Option.toList, List.cons_append, List.nil_append, List.length_nil, List.length_cons, Nat.not_lt_zero, bX8_hindrance_81, kdx hst, v1, v2, v4, e0, a1, a2.1, f6, show ¬ N ≤ k by omega, and_one_bit, tb, hq]
          refine wp_blk kX8_hindrance_116 ?_
          simp (disch := first | decide | omega) only [mxa, vxa, vxb, vxc, vnd, vne, Nat.reduceAdd, Nat.reduceSub, Nat.reduceLeDiff, Nat.reduceLT, Int32.reduceLT, Int32.reduceLE, Int32.reduceAdd, Int32.reduceSub, Int32.reduceMul, Int32.reduceToNatClampNeg, not_false_eq_true, not_true_eq_false, false_implies, true_implies, Nat.zero_add, reduceIte, Nat.reduceMul, Nat.reduceEqDiff, nxa, nxc, lgn, nL_of, swx, Int.reduceAdd, gI_a, gI_k, gL_a, gL_k, gI_r, gL_r, nI_and, nI_or, nI_xor, nI_ndf, nI_shl, nI_shr, ne_eq, and_true, true_and, eq_self, true_or, or_true, false_or, or_false, Option.toList, List.cons_append, List.nil_append, List.length_nil, List.length_cons, Nat.not_lt_zero, bX8_hindrance_116]
          refine hP ?_
          rintro ⟨g, hg, t1, t2, t3⟩
          refine absurd hq (and_ne.mpr ⟨g, ?_, ?_⟩)
          · rw [qm_bit]
            simp only [qq, Bool.and_eq_true, decide_eq_true_eq]
            exact ⟨by omega, t3⟩
          · rw [bb]; simp [hg, t2]
        · obtain ⟨g, q1, q2⟩ := and_ne.mp hq
          rw [qm_bit] at q1
          rw [bb] at q2
          simp only [qq, Bool.and_eq_true, decide_eq_true_eq] at q1 q2
          have al : qm V k &&& bm (fun f => decide (0 < lnN L f)) N ≤ qm V k := Nat.and_le_left
          refine wp_blk kX8_hindrance_81 ?_
          simp (disch := first | decide | omega) only [mxa, vxa, vxb, vxc, vnd, vne, Nat.reduceAdd, Nat.reduceSub, Nat.reduceLeDiff, Nat.reduceLT, Int32.reduceLT, Int32.reduceLE, Int32.reduceAdd, Int32.reduceSub, Int32.reduceMul, Int32.reduceToNatClampNeg, not_false_eq_true, not_true_eq_false, false_implies, true_implies, Nat.zero_add, reduceIte, Nat.reduceMul, Nat.reduceEqDiff, nxa, nxc, lgn, nL_of, swx, Int.reduceAdd, gI_a, gI_k, gL_a, gL_k, gI_r, gL_r, nI_and, nI_or, nI_xor, nI_ndf, nI_shl, nI_shr, ne_eq, and_true, true_and, eq_self, true_or, or_true, false_or, or_false, Option.toList, List.cons_append, List.nil_append, List.length_nil, List.length_cons, Nat.not_lt_zero, bX8_hindrance_81, kdx hst, v1, v2, v4, e0, a1, a2.1, f6, show ¬ N ≤ k by omega, and_one_bit, tb, hq]
          exact h2 ⟨k, g, hk, q2.1, hb, q2.2, q1.2⟩
      · have tb : (bm (fun f => decide (0 < lnN L f)) N).testBit k = false := by rw [bb]; simp [hb]
        refine wp_blk kX8_hindrance_81 ?_
        simp (disch := first | decide | omega) only [mxa, vxa, vxb, vxc, vnd, vne, Nat.reduceAdd, Nat.reduceSub, Nat.reduceLeDiff, Nat.reduceLT, Int32.reduceLT, Int32.reduceLE, Int32.reduceAdd, Int32.reduceSub, Int32.reduceMul, Int32.reduceToNatClampNeg, not_false_eq_true, not_true_eq_false, false_implies, true_implies, Nat.zero_add, reduceIte, Nat.reduceMul, Nat.reduceEqDiff, nxa, nxc, lgn, nL_of, swx, Int.reduceAdd, gI_a, gI_k, gL_a, gL_k, gI_r, gL_r, nI_and, nI_or, nI_xor, nI_ndf, nI_shl, nI_shr, ne_eq, and_true, true_and, eq_self, true_or, or_true, false_or, or_false, Option.toList, List.cons_append, List.nil_append, List.length_nil, List.length_cons, Nat.not_lt_zero, bX8_hindrance_81, kdx hst, v1, v2, v4, e0, a1, a2.1, f6, show ¬ N ≤ k by omega, and_one_bit, tb, show (false = true) = False from by simp]
        refine wp_blk kX8_hindrance_116 ?_
        simp (disch := first | decide | omega) only [mxa, vxa, vxb, vxc, vnd, vne, Nat.reduceAdd, Nat.reduceSub, Nat.reduceLeDiff, Nat.reduceLT, Int32.reduceLT, Int32.reduceLE, Int32.reduceAdd, Int32.reduceSub, Int32.reduceMul, Int32.reduceToNatClampNeg, not_false_eq_true, not_true_eq_false, false_implies, true_implies, Nat.zero_add, reduceIte, Nat.reduceMul, Nat.reduceEqDiff, nxa, nxc, lgn, nL_of, swx, Int.reduceAdd, gI_a, gI_k, gL_a, gL_k, gI_r, gL_r, nI_and, nI_or, nI_xor, nI_ndf, nI_shl, nI_shr, ne_eq, and_true, true_and, eq_self, true_or, or_true, false_or, or_false, Option.toList, List.cons_append, List.nil_append, List.length_nil, List.length_cons, Nat.not_lt_zero, bX8_hindrance_116]
        refine hP ?_
        rintro ⟨g, hg, t1, t2, t3⟩
        exact hb t1
    have loop := wfor (fun k => (∀ f, f < k → ¬ ∃ g, g < N ∧ tnL V (lnN L) f g) → Wp X mX8_hindrance (rmo d 0 0) d Q 0 0 81 [some (.ref v), some (.int (nI o)), some (.ref 147), some (.int (nI (bm (fun f => decide (0 < lnN L f)) N))), some (.long (nL (sumN (lnN L) N))), none, some (.int (nI k))] [] σ) N (fun k hk hP hno => step k hk (fun hk' => hP (fun f hf => by
        by_cases e : f = k
        · rw [e]; exact hk'
        · exact hno f (by omega)))) (fun hno => by
      have nt : ¬ (∃ f g, f < N ∧ g < N ∧ tnL V (lnN L) f g) := fun ⟨f, g, hf, hg, ht⟩ => hno f hf ⟨g, hg, ht⟩
      refine wp_blk kX8_hindrance_81 ?_
      simp (disch := first | decide | omega) only [mxa, vxa, vxb, vxc, vnd, vne, Nat.reduceAdd, Nat.reduceSub, Nat.reduceLeDiff, Nat.reduceLT, Int32.reduceLT, Int32.reduceLE, Int32.reduceAdd, Int32.reduceSub, Int32.reduceMul, Int32.reduceToNatClampNeg, not_false_eq_true, not_true_eq_false, false_implies, true_implies, Nat.zero_add, reduceIte, Nat.reduceMul, Nat.reduceEqDiff, nxa, nxc, lgn, nL_of, swx, Int.reduceAdd, gI_a, gI_k, gL_a, gL_k, gI_r, gL_r, nI_and, nI_or, nI_xor, nI_ndf, nI_shl, nI_shr, ne_eq, and_true, true_and, eq_self, true_or, or_true, false_or, or_false, Option.toList, List.cons_append, List.nil_append, List.length_nil, List.length_cons, Nat.not_lt_zero, bX8_hindrance_81, v1, e0, Nat.le_refl]
      by_cases hz : sumN (lnN L) N = zN V o
      · refine wp_blk kX8_hindrance_122 ?_
        simp (disch := first | decide | omega) only [mxa, vxa, vxb, vxc, vnd, vne, Nat.reduceAdd, Nat.reduceSub, Nat.reduceLeDiff, Nat.reduceLT, Int32.reduceLT, Int32.reduceLE, Int32.reduceAdd, Int32.reduceSub, Int32.reduceMul, Int32.reduceToNatClampNeg, not_false_eq_true, not_true_eq_false, false_implies, true_implies, Nat.zero_add, reduceIte, Nat.reduceMul, Nat.reduceEqDiff, nxa, nxc, lgn, nL_of, swx, Int.reduceAdd, gI_a, gI_k, gL_a, gL_k, gI_r, gL_r, nI_and, nI_or, nI_xor, nI_ndf, nI_shl, nI_shr, ne_eq, and_true, true_and, eq_self, true_or, or_true, false_or, or_false, Option.toList, List.cons_append, List.nil_append, List.length_nil, List.length_cons, Nat.not_lt_zero, bX8_hindrance_122, v1, v3, v5, zz, hz]
        refine wp_blk kX8_hindrance_140 ?_
        simp (disch := first | decide | omega) only [mxa, vxa, vxb, vxc, vnd, vne, Nat.reduceAdd, Nat.reduceSub, Nat.reduceLeDiff, Nat.reduceLT, Int32.reduceLT, Int32.reduceLE, Int32.reduceAdd, Int32.reduceSub, Int32.reduceMul, Int32.reduceToNatClampNeg, not_false_eq_true, not_true_eq_false, false_implies, true_implies, Nat.zero_add, reduceIte, Nat.reduceMul, Nat.reduceEqDiff, nxa, nxc, lgn, nL_of, swx, Int.reduceAdd, gI_a, gI_k, gL_a, gL_k, gI_r, gL_r, nI_and, nI_or, nI_xor, nI_ndf, nI_shl, nI_shr, ne_eq, and_true, true_and, eq_self, true_or, or_true, false_or, or_false, Option.toList, List.cons_append, List.nil_append, List.length_nil, List.length_cons, Nat.not_lt_zero, bX8_hindrance_140]
        exact h0 nt hz
      · refine wp_blk kX8_hindrance_122 ?_
        simp (disch := first | decide | omega) only [mxa, vxa, vxb, vxc, vnd, vne, Nat.reduceAdd, Nat.reduceSub, Nat.reduceLeDiff, Nat.reduceLT, Int32.reduceLT, Int32.reduceLE, Int32.reduceAdd, Int32.reduceSub, Int32.reduceMul, Int32.reduceToNatClampNeg, not_false_eq_true, not_true_eq_false, false_implies, true_implies, Nat.zero_add, reduceIte, Nat.reduceMul, Nat.reduceEqDiff, nxa, nxc, lgn, nL_of, swx, Int.reduceAdd, gI_a, gI_k, gL_a, gL_k, gI_r, gL_r, nI_and, nI_or, nI_xor, nI_ndf, nI_shl, nI_shr, ne_eq, and_true, true_and, eq_self, true_or, or_true, false_or, or_false, Option.toList, List.cons_append, List.nil_append, List.length_nil, List.length_cons, Nat.not_lt_zero, bX8_hindrance_122, v1, v3, v5, zz, hz]
        refine wp_blk kX8_hindrance_139 ?_
        simp (disch := first | decide | omega) only [mxa, vxa, vxb, vxc, vnd, vne, Nat.reduceAdd, Nat.reduceSub, Nat.reduceLeDiff, Nat.reduceLT, Int32.reduceLT, Int32.reduceLE, Int32.reduceAdd, Int32.reduceSub, Int32.reduceMul, Int32.reduceToNatClampNeg, not_false_eq_true, not_true_eq_false, false_implies, true_implies, Nat.zero_add, reduceIte, Nat.reduceMul, Nat.reduceEqDiff, nxa, nxc, lgn, nL_of, swx, Int.reduceAdd, gI_a, gI_k, gL_a, gL_k, gI_r, gL_r, nI_and, nI_or, nI_xor, nI_ndf, nI_shl, nI_shr, ne_eq, and_true, true_and, eq_self, true_or, or_true, false_or, or_false, Option.toList, List.cons_append, List.nil_append, List.length_nil, List.length_cons, Nat.not_lt_zero, bX8_hindrance_139]
        refine wp_blk kX8_hindrance_140 ?_
        simp (disch := first | decide | omega) only [mxa, vxa, vxb, vxc, vnd, vne, Nat.reduceAdd, Nat.reduceSub, Nat.reduceLeDiff, Nat.reduceLT, Int32.reduceLT, Int32.reduceLE, Int32.reduceAdd, Int32.reduceSub, Int32.reduceMul, Int32.reduceToNatClampNeg, not_false_eq_true, not_true_eq_false, false_implies, true_implies, Nat.zero_add, reduceIte, Nat.reduceMul, Nat.reduceEqDiff, nxa, nxc, lgn, nL_of, swx, Int.reduceAdd, gI_a, gI_k, gL_a, gL_k, gI_r, gL_r, nI_and, nI_or, nI_xor, nI_ndf, nI_shl, nI_shr, ne_eq, and_true, true_and, eq_self, true_or, or_true, false_or, or_false, Option.toList, List.cons_append, List.nil_append, List.length_nil, List.length_cons, Nat.not_lt_zero, bX8_hindrance_140]
        exact h3 nt hz)
    exact loop (fun f hf => absurd hf (by omega))
  refine call_of eX8_hindrance rfl ?_
  refine wp_blk kX8_hindrance_0 ?_
  simp (disch := first | decide | omega) only [mxa, vxa, vxb, vxc, vnd, vne, Nat.reduceAdd, Nat.reduceSub, Nat.reduceLeDiff, Nat.reduceLT, Int32.reduceLT, Int32.reduceLE, Int32.reduceAdd, Int32.reduceSub, Int32.reduceMul, Int32.reduceToNatClampNeg, not_false_eq_true, not_true_eq_false, false_implies, true_implies, Nat.zero_add, reduceIte, Nat.reduceMul, Nat.reduceEqDiff, nxa, nxc, lgn, nL_of, swx, Int.reduceAdd, gI_a, gI_k, gL_a, gL_k, gI_r, gL_r, nI_and, nI_or, nI_xor, nI_ndf, nI_shl, nI_shr, ne_eq, and_true, true_and, eq_self, true_or, or_true, false_or, or_false, Option.toList, List.cons_append, List.nil_append, List.length_nil, List.length_cons, Nat.not_lt_zero, bX8_hindrance_0]
  refine wfor (fun k => Wp X mX8_hindrance (rmo d 0 0) d Q 0 0 8 [some (.ref v), some (.int (nI o)), some (.ref 147), some (.int (nI (bm (fun f => decide (0 < lnN L f)) k))), some (.long (nL (sumN (lnN L) k))), none, some (.int (nI k))] [] σ) N (fun k hk hP => ?_) ?_
  · obtain ⟨a1, a2, -⟩ := fa_ok hst hrt hv (hs.2.2 v hv) (show k < 10 by omega)
    obtain ⟨l1, l2⟩ := okL_n hG hk (hok k hk)
    obtain ⟨g1, g2⟩ := flN_ok hG hk
    have f1 : gI σ (fa σ v k) 1 = nI (flN V k) := ((hV.2.2 k hk).1 1 (by omega)).trans g1
    have l0 := (hL k hk).trans l1
    refine wp_blk kX8_hindrance_8 ?_
    simp (disch := first | decide | omega) only [mxa, vxa, vxb, vxc, vnd, vne, Nat.reduceAdd, Nat.reduceSub, Nat.reduceLeDiff, Nat.reduceLT, Int32.reduceLT, Int32.reduceLE, Int32.reduceAdd, Int32.reduceSub, Int32.reduceMul, Int32.reduceToNatClampNeg, not_false_eq_true, not_true_eq_false, false_implies, true_implies, Nat.zero_add, reduceIte, Nat.reduceMul, Nat.reduceEqDiff, nxa, nxc, lgn, nL_of, swx, Int.reduceAdd, gI_a, gI_k, gL_a, gL_k, gI_r, gL_r, nI_and, nI_or, nI_xor, nI_ndf, nI_shl, nI_shr, ne_eq, and_true, true_and, eq_self, true_or, or_true, false_or, or_false, Option.toList, List.cons_append, List.nil_append, List.length_nil, List.length_cons, Nat.not_lt_zero, bX8_hindrance_8, kdx hst, v1, v2, v4, e0, a1, a2.1, f1, l0, l2, show ¬ N ≤ k by omega]
    by_cases h0 : 0 < lnN L k
    · refine wp_blk kX8_hindrance_47 ?_
      simp (disch := first | decide | omega) only [mxa, vxa, vxb, vxc, vnd, vne, Nat.reduceAdd, Nat.reduceSub, Nat.reduceLeDiff, Nat.reduceLT, Int32.reduceLT, Int32.reduceLE, Int32.reduceAdd, Int32.reduceSub, Int32.reduceMul, Int32.reduceToNatClampNeg, not_false_eq_true, not_true_eq_false, false_implies, true_implies, Nat.zero_add, reduceIte, Nat.reduceMul, Nat.reduceEqDiff, nxa, nxc, lgn, nL_of, swx, Int.reduceAdd, gI_a, gI_k, gL_a, gL_k, gI_r, gL_r, nI_and, nI_or, nI_xor, nI_ndf, nI_shl, nI_shr, ne_eq, and_true, true_and, eq_self, true_or, or_true, false_or, or_false, Option.toList, List.cons_append, List.nil_append, List.length_nil, List.length_cons, Nat.not_lt_zero, bX8_hindrance_47, kdx hst, l0, show ¬ lnN L k ≤ 0 by omega]
      refine wp_blk kX8_hindrance_63 ?_
      simp (disch := first | decide | omega) only [mxa, vxa, vxb, vxc, vnd, vne, Nat.reduceAdd, Nat.reduceSub, Nat.reduceLeDiff, Nat.reduceLT, Int32.reduceLT, Int32.reduceLE, Int32.reduceAdd, Int32.reduceSub, Int32.reduceMul, Int32.reduceToNatClampNeg, not_false_eq_true, not_true_eq_false, false_implies, true_implies, Nat.zero_add, reduceIte, Nat.reduceMul, Nat.reduceEqDiff, nxa, nxc, lgn, nL_of, swx, Int.reduceAdd, gI_a, gI_k, gL_a, gL_k, gI_r, gL_r, nI_and, nI_or, nI_xor, nI_ndf, nI_shl, nI_shr, ne_eq, and_true, true_and, eq_self, true_or, or_true, false_or, or_false, Option.toList, List.cons_append, List.nil_append, List.length_nil, List.length_cons, Nat.not_lt_zero, bX8_hindrance_63, kdx hst, l0]
      rw [bm_or]
      refine cast ?_ hP
      rw [show bm (fun f => decide (0 < lnN L f)) (k + 1) = bm (fun f => decide (0 < lnN L f)) k + 2 ^ k from by show _ + (if _ then _ else _) = _; rw [if_pos (by simpa using h0)]]
      rfl
    · refine wp_blk kX8_hindrance_47 ?_
      simp (disch := first | decide | omega) only [mxa, vxa, vxb, vxc, vnd, vne, Nat.reduceAdd, Nat.reduceSub, Nat.reduceLeDiff, Nat.reduceLT, Int32.reduceLT, Int32.reduceLE, Int32.reduceAdd, Int32.reduceSub, Int32.reduceMul, Int32.reduceToNatClampNeg, not_false_eq_true, not_true_eq_false, false_implies, true_implies, Nat.zero_add, reduceIte, Nat.reduceMul, Nat.reduceEqDiff, nxa, nxc, lgn, nL_of, swx, Int.reduceAdd, gI_a, gI_k, gL_a, gL_k, gI_r, gL_r, nI_and, nI_or, nI_xor, nI_ndf, nI_shl, nI_shr, ne_eq, and_true, true_and, eq_self, true_or, or_true, false_or, or_false, Option.toList, List.cons_append, List.nil_append, List.length_nil, List.length_cons, Nat.not_lt_zero, bX8_hindrance_47, kdx hst, l0, show lnN L k ≤ 0 by omega]
      refine wp_blk kX8_hindrance_63 ?_
      simp (disch := first | decide | omega) only [mxa, vxa, vxb, vxc, vnd, vne, Nat.reduceAdd, Nat.reduceSub, Nat.reduceLeDiff, Nat.reduceLT, Int32.reduceLT, Int32.reduceLE, Int32.reduceAdd, Int32.reduceSub, Int32.reduceMul, Int32.reduceToNatClampNeg, not_false_eq_true, not_true_eq_false, false_implies, true_implies, Nat.zero_add, reduceIte, Nat.reduceMul, Nat.reduceEqDiff, nxa, nxc, lgn, nL_of, swx, Int.reduceAdd, gI_a, gI_k, gL_a, gL_k, gI_r, gL_r, nI_and, nI_or, nI_xor, nI_ndf, nI_shl, nI_shr, ne_eq, and_true, true_and, eq_self, true_or, or_true, false_or, or_false, Option.toList, List.cons_append, List.nil_append, List.length_nil, List.length_cons, Nat.not_lt_zero, bX8_hindrance_63, kdx hst, l0]
      refine cast ?_ hP
      rw [show bm (fun f => decide (0 < lnN L f)) (k + 1) = bm (fun f => decide (0 < lnN L f)) k from by show _ + (if _ then _ else _) = _; rw [if_neg (by simpa using h0), Nat.add_zero]]
      rfl
  · refine wp_blk kX8_hindrance_8 ?_
    simp (disch := first | decide | omega) only [mxa, vxa, vxb, vxc, vnd, vne, Nat.reduceAdd, Nat.reduceSub, Nat.reduceLeDiff, Nat.reduceLT, Int32.reduceLT, Int32.reduceLE, Int32.reduceAdd, Int32.reduceSub, Int32.reduceMul, Int32.reduceToNatClampNeg, not_false_eq_true, not_true_eq_false, false_implies, true_implies, Nat.zero_add, reduceIte, Nat.reduceMul, Nat.reduceEqDiff, nxa, nxc, lgn, nL_of, swx, Int.reduceAdd, gI_a, gI_k, gL_a, gL_k, gI_r, gL_r, nI_and, nI_or, nI_xor, nI_ndf, nI_shl, nI_shr, ne_eq, and_true, true_and, eq_self, true_or, or_true, false_or, or_false, Option.toList, List.cons_append, List.nil_append, List.length_nil, List.length_cons, Nat.not_lt_zero, bX8_hindrance_8, v1, e0, Nat.le_refl]
    refine wp_blk kX8_hindrance_78 ?_
    simp (disch := first | decide | omega) only [mxa, vxa, vxb, vxc, vnd, vne, Nat.reduceAdd, Nat.reduceSub, Nat.reduceLeDiff, Nat.reduceLT, Int32.reduceLT, Int32.reduceLE, Int32.reduceAdd, Int32.reduceSub, Int32.reduceMul, Int32.reduceToNatClampNeg, not_false_eq_true, not_true_eq_false, false_implies, true_implies, Nat.zero_add, reduceIte, Nat.reduceMul, Nat.reduceEqDiff, nxa, nxc, lgn, nL_of, swx, Int.reduceAdd, gI_a, gI_k, gL_a, gL_k, gI_r, gL_r, nI_and, nI_or, nI_xor, nI_ndf, nI_shl, nI_shr, ne_eq, and_true, true_and, eq_self, true_or, or_true, false_or, or_false, Option.toList, List.cons_append, List.nil_append, List.length_nil, List.length_cons, Nat.not_lt_zero, bX8_hindrance_78]
    exact second
/-- why a fire of loaves L can't be -/
noncomputable def hnF (V : Nat → Int32) (N o : Nat) (L : Nat → Int64) : Nat := by
  classical
  exact if ∀ f, f < N → okL V L f then (if ∃ f g, f < N ∧ g < N ∧ tnL V (lnN L) f g then 2 else if sumN (lnN L) N = zN V o then 0 else 3) else 1
theorem hnF_0 {V : Nat → Int32} {N o : Nat} {L : Nat → Int64} (h : hnF V N o L = 0) : (∀ f, f < N → okL V L f) ∧ sumN (lnN L) N = zN V o := by
  unfold hnF at h
  by_cases h1 : ∀ f, f < N → okL V L f
  · rw [if_pos h1] at h
    by_cases h2 : ∃ f g, f < N ∧ g < N ∧ tnL V (lnN L) f g
    · rw [if_pos h2] at h; omega
    · rw [if_neg h2] at h
      by_cases h3 : sumN (lnN L) N = zN V o
      · exact ⟨h1, h3⟩
      · rw [if_neg h3] at h; omega
  · rw [if_neg h1] at h; omega
theorem hnF_le {V : Nat → Int32} {N o : Nat} {L : Nat → Int64} : hnF V N o L ≤ 3 := by
  unfold hnF
  split
  · split
    · omega
    · split <;> omega
  · omega
theorem first_bad {N : Nat} {P : Nat → Prop} (h : ¬ ∀ f, f < N → P f) : ∃ k, k < N ∧ ¬ P k ∧ ∀ f, f < k → P f := by
  have ex : ∃ k, k < N ∧ ¬ P k := by
    refine Classical.byContradiction (fun q => h (fun f hf => Classical.byContradiction (fun z => q ⟨f, hf, z⟩)))
  obtain ⟨k, ⟨h1, h2⟩, h3⟩ := pk_least (fun k => k < N ∧ ¬ P k) ex
  refine ⟨k, h1, h2, fun f hf => Classical.byContradiction (fun z => h3 f hf ⟨by omega, z⟩)⟩
theorem c_hind (X : Cx) (d : Nat) (σ : Mm) (v : Nat) (V : Nat → Int32) (t N O K o : Nat) (L : Nat → Int64) (hs : St σ) (hv : isV v) (hG : Gd V t N O K) (hV : VR σ v V N O) (hL : ∀ f, f < N → gL σ 147 f = L f) (ho : o < O) (Q : Po) (hQ : Q (some (.int (nI (hnF V N o L)))) σ) : Call X d 0 0 mX8_hindrance [.ref v, .int (nI o), .ref 147] σ Q := by
  by_cases h1 : ∀ f, f < N → okL V L f
  · refine hind_ok X d σ v V t N O K o L hs hv hG hV hL ho h1 Q (fun h2 => ?_) (fun h2 h3 => ?_) (fun h2 h3 => ?_)
    · unfold hnF at hQ; rw [if_pos h1, if_pos h2] at hQ; exact hQ
    · unfold hnF at hQ; rw [if_pos h1, if_neg h2, if_pos h3] at hQ; exact hQ
    · unfold hnF at hQ; rw [if_pos h1, if_neg h2, if_neg h3] at hQ; exact hQ
  · obtain ⟨k, q1, q2, q3⟩ := first_bad h1
    unfold hnF at hQ
    rw [if_neg h1] at hQ
    exact hind_bad X d σ v V t N O K k _ L hs hv hG hV hL q1 q2 q3 Q hQ
/-- the model -/
theorem c_refuses (X : Cx) (d : Nat) (σ : Mm) (V : Nat → Int32) (t N O K o : Nat) (L : Nat → Int64) (hs : Sh σ) (hr : Rf σ) (hV : gI σ 191 = V) (hG : Gd V t N O K) (hL : ∀ f, f < N → gL σ 195 f = L f) (ho : o < O) (Q : Po) (hQ : Q (some (.int (nI (hnF V N o L)))) σ) : Call X (d + 1) 0 0 mX10_refuses [.ref 190, .int (nI o)] σ Q := by
  have hN10 := hG.1.2
  have hO3 := hG.2.1.2
  have n0 : gI σ 191 0 = nI N := by rw [hV]; exact hG.1.1
  obtain ⟨z1, z2, z3⟩ := zN_ok hG ho
  have zz : gI σ 191 (6 + o) = nI (zN V o) := by rw [hV]; exact z1
  have fl : ∀ k, k < N → gI σ 191 (19 + k) = nI (flN V k) := fun k hk => by rw [hV]; exact (flN_ok hG hk).1
  have step : ∀ k, k < N → okL V L k → ∀ b, b ≤ 1 → (b = 1 ↔ ∃ f g, f < k ∧ g < f ∧ tnL V (lnN L) f g) → (∀ b', b' ≤ 1 → (b' = 1 ↔ ∃ f g, f < k + 1 ∧ g < f ∧ tnL V (lnN L) f g) → Wp X mX10_refuses (rmo (d + 1) 0 0) (d + 1) Q 0 0 8 [some (.ref 190), some (.int (nI o)), some (.long (nL (sumN (lnN L) (k + 1)))), none, some (.int (nI b')), some (.int (nI (k + 1))), none] [] σ) → Wp X mX10_refuses (rmo (d + 1) 0 0) (d + 1) Q 0 0 8 [some (.ref 190), some (.int (nI o)), some (.long (nL (sumN (lnN L) k))), none, some (.int (nI b)), some (.int (nI k)), none] [] σ := by
    intro k hk hok b hb1 hb hP
    obtain ⟨l1, l2⟩ := okL_n hG hk hok
    have g2 := (flN_ok hG hk).2
    have l0 := (hL k hk).trans l1
    refine wp_blk kX10_refuses_8 ?_
    simp (disch := first | decide | omega) only [mxa, vxa, vxb, vxc, vnd, vne, Nat.reduceAdd, Nat.reduceSub, Nat.reduceLeDiff, Nat.reduceLT, Int32.reduceLT, Int32.reduceLE, Int32.reduceAdd, Int32.reduceSub, Int32.reduceMul, Int32.reduceToNatClampNeg, not_false_eq_true, not_true_eq_false, false_implies, true_implies, Nat.zero_add, reduceIte, Nat.reduceMul, Nat.reduceEqDiff, nxa, nxc, lgn, nL_of, swx, Int.reduceAdd, gI_a, gI_k, gL_a, gL_k, gI_r, gL_r, nI_and, nI_or, nI_xor, nI_ndf, nI_shl, nI_shr, ne_eq, and_true, true_and, eq_self, true_or, or_true, false_or, or_false, Option.toList, List.cons_append, List.nil_append, List.length_nil, List.length_cons, Nat.not_lt_zero, bX10_refuses_8, kdx hs, grx hr, n0, l0, fl k hk, show ¬ N ≤ k by omega]
    refine c_within X _ _ _ _ _ _ ?_
    simp (disch := first | decide | omega) only [mxa, vxa, vxb, vxc, vnd, vne, Nat.reduceAdd, Nat.reduceSub, Nat.reduceLeDiff, Nat.reduceLT, Int32.reduceLT, Int32.reduceLE, Int32.reduceAdd, Int32.reduceSub, Int32.reduceMul, Int32.reduceToNatClampNeg, not_false_eq_true, not_true_eq_false, false_implies, true_implies, Nat.zero_add, reduceIte, Nat.reduceMul, Nat.reduceEqDiff, nxa, nxc, lgn, nL_of, swx, Int.reduceAdd, gI_a, gI_k, gL_a, gL_k, gI_r, gL_r, nI_and, nI_or, nI_xor, nI_ndf, nI_shl, nI_shr, ne_eq, and_true, true_and, eq_self, true_or, or_true, false_or, or_false, Option.toList, List.cons_append, List.nil_append, List.length_nil, List.length_cons, Nat.not_lt_zero]
    refine wp_blk kX10_refuses_46 ?_
    simp (disch := first | decide | omega) only [mxa, vxa, vxb, vxc, vnd, vne, Nat.reduceAdd, Nat.reduceSub, Nat.reduceLeDiff, Nat.reduceLT, Int32.reduceLT, Int32.reduceLE, Int32.reduceAdd, Int32.reduceSub, Int32.reduceMul, Int32.reduceToNatClampNeg, not_false_eq_true, not_true_eq_false, false_implies, true_implies, Nat.zero_add, reduceIte, Nat.reduceMul, Nat.reduceEqDiff, nxa, nxc, lgn, nL_of, swx, Int.reduceAdd, gI_a, gI_k, gL_a, gL_k, gI_r, gL_r, nI_and, nI_or, nI_xor, nI_ndf, nI_shl, nI_shr, ne_eq, and_true, true_and, eq_self, true_or, or_true, false_or, or_false, Option.toList, List.cons_append, List.nil_append, List.length_nil, List.length_cons, Nat.not_lt_zero, bX10_refuses_46, kdx hs, grx hr, l0]
    refine wfor (fun j => ∀ c, c ≤ 1 → (c = 1 ↔ (∃ f g, f < k ∧ g < f ∧ tnL V (lnN L) f g) ∨ ∃ g, g < j ∧ tnL V (lnN L) k g) → Wp X mX10_refuses (rmo (d + 1) 0 0) (d + 1) Q 0 0 59 [some (.ref 190), some (.int (nI o)), some (.long (nL (sumN (lnN L) (k + 1)))), none, some (.int (nI c)), some (.int (nI k)), some (.int (nI j))] [] σ) k (fun j hj hP2 c hc1 hc => ?_) (fun c hc1 hc => ?_) b hb1 (by
      rw [hb]
      constructor
      · exact Or.inl
      · rintro (q | ⟨g, q, -⟩)
        · exact q
        · omega)
    · have yes : tnL V (lnN L) k j → Wp X mX10_refuses (rmo (d + 1) 0 0) (d + 1) Q 0 0 108 [some (.ref 190), some (.int (nI o)), some (.long (nL (sumN (lnN L) (k + 1)))), none, some (.int (nI c)), some (.int (nI k)), some (.int (nI j))] [.int (nI 1), .int (nI c)] σ := by
        intro ht
        have e : c ||| 1 = 1 := by rcases (by omega : c = 0 ∨ c = 1) with rfl | rfl <;> rfl
        refine wp_blk kX10_refuses_108 ?_
        simp (disch := first | decide | omega) only [mxa, vxa, vxb, vxc, vnd, vne, Nat.reduceAdd, Nat.reduceSub, Nat.reduceLeDiff, Nat.reduceLT, Int32.reduceLT, Int32.reduceLE, Int32.reduceAdd, Int32.reduceSub, Int32.reduceMul, Int32.reduceToNatClampNeg, not_false_eq_true, not_true_eq_false, false_implies, true_implies, Nat.zero_add, reduceIte, Nat.reduceMul, Nat.reduceEqDiff, nxa, nxc, lgn, nL_of, swx, Int.reduceAdd, gI_a, gI_k, gL_a, gL_k, gI_r, gL_r, nI_and, nI_or, nI_xor, nI_ndf, nI_shl, nI_shr, ne_eq, and_true, true_and, eq_self, true_or, or_true, false_or, or_false, Option.toList, List.cons_append, List.nil_append, List.length_nil, List.length_cons, Nat.not_lt_zero, bX10_refuses_108, e]
        exact hP2 1 (by omega) ⟨fun _ => Or.inr ⟨j, by omega, ht⟩, fun _ => rfl⟩
      have no : ¬ tnL V (lnN L) k j → Wp X mX10_refuses (rmo (d + 1) 0 0) (d + 1) Q 0 0 107 [some (.ref 190), some (.int (nI o)), some (.long (nL (sumN (lnN L) (k + 1)))), none, some (.int (nI c)), some (.int (nI k)), some (.int (nI j))] [.int (nI c)] σ := by
        intro ht
        have e : c ||| 0 = c := Nat.or_zero c
        refine wp_blk kX10_refuses_107 ?_
        simp (disch := first | decide | omega) only [mxa, vxa, vxb, vxc, vnd, vne, Nat.reduceAdd, Nat.reduceSub, Nat.reduceLeDiff, Nat.reduceLT, Int32.reduceLT, Int32.reduceLE, Int32.reduceAdd, Int32.reduceSub, Int32.reduceMul, Int32.reduceToNatClampNeg, not_false_eq_true, not_true_eq_false, false_implies, true_implies, Nat.zero_add, reduceIte, Nat.reduceMul, Nat.reduceEqDiff, nxa, nxc, lgn, nL_of, swx, Int.reduceAdd, gI_a, gI_k, gL_a, gL_k, gI_r, gL_r, nI_and, nI_or, nI_xor, nI_ndf, nI_shl, nI_shr, ne_eq, and_true, true_and, eq_self, true_or, or_true, false_or, or_false, Option.toList, List.cons_append, List.nil_append, List.length_nil, List.length_cons, Nat.not_lt_zero, bX10_refuses_107]
        refine wp_blk kX10_refuses_108 ?_
        simp (disch := first | decide | omega) only [mxa, vxa, vxb, vxc, vnd, vne, Nat.reduceAdd, Nat.reduceSub, Nat.reduceLeDiff, Nat.reduceLT, Int32.reduceLT, Int32.reduceLE, Int32.reduceAdd, Int32.reduceSub, Int32.reduceMul, Int32.reduceToNatClampNeg, not_false_eq_true, not_true_eq_false, false_implies, true_implies, Nat.zero_add, reduceIte, Nat.reduceMul, Nat.reduceEqDiff, nxa, nxc, lgn, nL_of, swx, Int.reduceAdd, gI_a, gI_k, gL_a, gL_k, gI_r, gL_r, nI_and, nI_or, nI_xor, nI_ndf, nI_shl, nI_shr, ne_eq, and_true, true_and, eq_self, true_or, or_true, false_or, or_false, Option.toList, List.cons_append, List.nil_append, List.length_nil, List.length_cons, Nat.not_lt_zero, bX10_refuses_108, e]
        refine hP2 c hc1 (hc.trans ⟨?_, ?_⟩)
        · rintro (q | ⟨g, q1, q2⟩)
          · exact Or.inl q
          · exact Or.inr ⟨g, by omega, q2⟩
        · rintro (q | ⟨g, q1, q2⟩)
          · exact Or.inl q
          · by_cases e : g = j
            · subst e; exact absurd q2 ht
            · exact Or.inr ⟨g, by omega, q2⟩
      have lj1 : (∃ n, L j = nL n ∧ n ≤ 999 ∧ n = lnN L j) ∨ True := Or.inr trivial
      by_cases a1 : 0 < lnN L k
      · by_cases a2 : nL 0 < L j
        · have a2' : 0 < lnN L j := by
            unfold lnN
            rw [Int64.lt_iff_toInt_lt, nL_toInt (by omega)] at a2
            omega
          refine wp_blk kX10_refuses_59 ?_
          simp (disch := first | decide | omega) only [mxa, vxa, vxb, vxc, vnd, vne, Nat.reduceAdd, Nat.reduceSub, Nat.reduceLeDiff, Nat.reduceLT, Int32.reduceLT, Int32.reduceLE, Int32.reduceAdd, Int32.reduceSub, Int32.reduceMul, Int32.reduceToNatClampNeg, not_false_eq_true, not_true_eq_false, false_implies, true_implies, Nat.zero_add, reduceIte, Nat.reduceMul, Nat.reduceEqDiff, nxa, nxc, lgn, nL_of, swx, Int.reduceAdd, gI_a, gI_k, gL_a, gL_k, gI_r, gL_r, nI_and, nI_or, nI_xor, nI_ndf, nI_shl, nI_shr, ne_eq, and_true, true_and, eq_self, true_or, or_true, false_or, or_false, Option.toList, List.cons_append, List.nil_append, List.length_nil, List.length_cons, Nat.not_lt_zero, bX10_refuses_59, kdx hs, grx hr, l0, hL j (by omega), show ¬ k ≤ j by omega, show ¬ lnN L k ≤ 0 by omega, show ¬ L j ≤ nL 0 from Int64.not_le.mpr a2]
          refine c_quarrels X _ _ k j hs hr (by omega) (by omega) _ ?_
          by_cases a3 : gI σ 191 (119 + 10 * k + j) = nI 1
          · rw [if_pos a3]
            simp (disch := first | decide | omega) only [mxa, vxa, vxb, vxc, vnd, vne, Nat.reduceAdd, Nat.reduceSub, Nat.reduceLeDiff, Nat.reduceLT, Int32.reduceLT, Int32.reduceLE, Int32.reduceAdd, Int32.reduceSub, Int32.reduceMul, Int32.reduceToNatClampNeg, not_false_eq_true, not_true_eq_false, false_implies, true_implies, Nat.zero_add, reduceIte, Nat.reduceMul, Nat.reduceEqDiff, nxa, nxc, lgn, nL_of, swx, Int.reduceAdd, gI_a, gI_k, gL_a, gL_k, gI_r, gL_r, nI_and, nI_or, nI_xor, nI_ndf, nI_shl, nI_shr, ne_eq, and_true, true_and, eq_self, true_or, or_true, false_or, or_false, Option.toList, List.cons_append, List.nil_append, List.length_nil, List.length_cons, Nat.not_lt_zero]
            exact yes ⟨a1, a2', by rw [← hV]; exact a3⟩
          · rw [if_neg a3]
            simp (disch := first | decide | omega) only [mxa, vxa, vxb, vxc, vnd, vne, Nat.reduceAdd, Nat.reduceSub, Nat.reduceLeDiff, Nat.reduceLT, Int32.reduceLT, Int32.reduceLE, Int32.reduceAdd, Int32.reduceSub, Int32.reduceMul, Int32.reduceToNatClampNeg, not_false_eq_true, not_true_eq_false, false_implies, true_implies, Nat.zero_add, reduceIte, Nat.reduceMul, Nat.reduceEqDiff, nxa, nxc, lgn, nL_of, swx, Int.reduceAdd, gI_a, gI_k, gL_a, gL_k, gI_r, gL_r, nI_and, nI_or, nI_xor, nI_ndf, nI_shl, nI_shr, ne_eq, and_true, true_and, eq_self, true_or, or_true, false_or, or_false, Option.toList, List.cons_append, List.nil_append, List.length_nil, List.length_cons, Nat.not_lt_zero]
            exact no (fun q => a3 (by rw [hV]; exact q.2.2))
        · refine wp_blk kX10_refuses_59 ?_
          simp (disch := first | decide | omega) only [mxa, vxa, vxb, vxc, vnd, vne, Nat.reduceAdd, Nat.reduceSub, Nat.reduceLeDiff, Nat.reduceLT, Int32.reduceLT, Int32.reduceLE, Int32.reduceAdd, Int32.reduceSub, Int32.reduceMul, Int32.reduceToNatClampNeg, not_false_eq_true, not_true_eq_false, false_implies, true_implies, Nat.zero_add, reduceIte, Nat.reduceMul, Nat.reduceEqDiff, nxa, nxc, lgn, nL_of, swx, Int.reduceAdd, gI_a, gI_k, gL_a, gL_k, gI_r, gL_r, nI_and, nI_or, nI_xor, nI_ndf, nI_shl, nI_shr, ne_eq, and_true, true_and, eq_self, true_or, or_true, false_or, or_false, Option.toList, List.cons_append, List.nil_append, List.length_nil, List.length_cons, Nat.not_lt_zero, bX10_refuses_59, kdx hs, grx hr, l0, hL j (by omega), show ¬ k ≤ j by omega, show ¬ lnN L k ≤ 0 by omega, show L j ≤ nL 0 from Int64.not_lt.mp a2]
          refine no (fun q => ?_)
          have := q.2.1
          unfold lnN at this
          rw [Int64.lt_iff_toInt_lt, nL_toInt (by omega)] at a2
          omega
      · refine wp_blk kX10_refuses_59 ?_
        simp (disch := first | decide | omega) only [mxa, vxa, vxb, vxc, vnd, vne, Nat.reduceAdd, Nat.reduceSub, Nat.reduceLeDiff, Nat.reduceLT, Int32.reduceLT, Int32.reduceLE, Int32.reduceAdd, Int32.reduceSub, Int32.reduceMul, Int32.reduceToNatClampNeg, not_false_eq_true, not_true_eq_false, false_implies, true_implies, Nat.zero_add, reduceIte, Nat.reduceMul, Nat.reduceEqDiff, nxa, nxc, lgn, nL_of, swx, Int.reduceAdd, gI_a, gI_k, gL_a, gL_k, gI_r, gL_r, nI_and, nI_or, nI_xor, nI_ndf, nI_shl, nI_shr, ne_eq, and_true, true_and, eq_self, true_or, or_true, false_or, or_false, Option.toList, List.cons_append, List.nil_append, List.length_nil, List.length_cons, Nat.not_lt_zero, bX10_refuses_59, kdx hs, grx hr, l0, show ¬ k ≤ j by omega, show lnN L k ≤ 0 by omega]
        exact no (fun q => a1 q.1)
    · refine wp_blk kX10_refuses_59 ?_
      simp (disch := first | decide | omega) only [mxa, vxa, vxb, vxc, vnd, vne, Nat.reduceAdd, Nat.reduceSub, Nat.reduceLeDiff, Nat.reduceLT, Int32.reduceLT, Int32.reduceLE, Int32.reduceAdd, Int32.reduceSub, Int32.reduceMul, Int32.reduceToNatClampNeg, not_false_eq_true, not_true_eq_false, false_implies, true_implies, Nat.zero_add, reduceIte, Nat.reduceMul, Nat.reduceEqDiff, nxa, nxc, lgn, nL_of, swx, Int.reduceAdd, gI_a, gI_k, gL_a, gL_k, gI_r, gL_r, nI_and, nI_or, nI_xor, nI_ndf, nI_shl, nI_shr, ne_eq, and_true, true_and, eq_self, true_or, or_true, false_or, or_false, Option.toList, List.cons_append, List.nil_append, List.length_nil, List.length_cons, Nat.not_lt_zero, bX10_refuses_59, Nat.le_refl]
      refine wp_blk kX10_refuses_117 ?_
      simp (disch := first | decide | omega) only [mxa, vxa, vxb, vxc, vnd, vne, Nat.reduceAdd, Nat.reduceSub, Nat.reduceLeDiff, Nat.reduceLT, Int32.reduceLT, Int32.reduceLE, Int32.reduceAdd, Int32.reduceSub, Int32.reduceMul, Int32.reduceToNatClampNeg, not_false_eq_true, not_true_eq_false, false_implies, true_implies, Nat.zero_add, reduceIte, Nat.reduceMul, Nat.reduceEqDiff, nxa, nxc, lgn, nL_of, swx, Int.reduceAdd, gI_a, gI_k, gL_a, gL_k, gI_r, gL_r, nI_and, nI_or, nI_xor, nI_ndf, nI_shl, nI_shr, ne_eq, and_true, true_and, eq_self, true_or, or_true, false_or, or_false, Option.toList, List.cons_append, List.nil_append, List.length_nil, List.length_cons, Nat.not_lt_zero, bX10_refuses_117]
      refine Wp.fog 6 ?_
      refine hP c hc1 (hc.trans ⟨?_, ?_⟩)
      · rintro (⟨f, g, q1, q2, q3⟩ | ⟨g, q1, q2⟩)
        · exact ⟨f, g, by omega, q2, q3⟩
        · exact ⟨k, g, by omega, q1, q2⟩
      · rintro ⟨f, g, q1, q2, q3⟩
        by_cases e : f = k
        · subst e; exact Or.inr ⟨g, q2, q3⟩
        · exact Or.inl ⟨f, g, by omega, q2, q3⟩
  have start : ∀ n, n ≤ N → (∀ f, f < n → okL V L f) → (∀ b, b ≤ 1 → (b = 1 ↔ ∃ f g, f < n ∧ g < f ∧ tnL V (lnN L) f g) → Wp X mX10_refuses (rmo (d + 1) 0 0) (d + 1) Q 0 0 8 [some (.ref 190), some (.int (nI o)), some (.long (nL (sumN (lnN L) n))), none, some (.int (nI b)), some (.int (nI n)), none] [] σ) → Wp X mX10_refuses (rmo (d + 1) 0 0) (d + 1) Q 0 0 8 [some (.ref 190), some (.int (nI o)), some (.long (nL 0)), none, some (.int (nI 0)), some (.int (nI 0)), none] [] σ := by
    intro n hn hok hend
    refine wfor (fun k => ∀ b, b ≤ 1 → (b = 1 ↔ ∃ f g, f < k ∧ g < f ∧ tnL V (lnN L) f g) → Wp X mX10_refuses (rmo (d + 1) 0 0) (d + 1) Q 0 0 8 [some (.ref 190), some (.int (nI o)), some (.long (nL (sumN (lnN L) k))), none, some (.int (nI b)), some (.int (nI k)), none] [] σ) n (fun k hk hP b hb1 hb => step k (by omega) (hok k hk) b hb1 hb hP) hend 0 (by omega) ?_
    constructor
    · intro q; omega
    · rintro ⟨f, g, q, -⟩; omega
  refine call_of eX10_refuses rfl ?_
  refine wp_blk kX10_refuses_0 ?_
  simp (disch := first | decide | omega) only [mxa, vxa, vxb, vxc, vnd, vne, Nat.reduceAdd, Nat.reduceSub, Nat.reduceLeDiff, Nat.reduceLT, Int32.reduceLT, Int32.reduceLE, Int32.reduceAdd, Int32.reduceSub, Int32.reduceMul, Int32.reduceToNatClampNeg, not_false_eq_true, not_true_eq_false, false_implies, true_implies, Nat.zero_add, reduceIte, Nat.reduceMul, Nat.reduceEqDiff, nxa, nxc, lgn, nL_of, swx, Int.reduceAdd, gI_a, gI_k, gL_a, gL_k, gI_r, gL_r, nI_and, nI_or, nI_xor, nI_ndf, nI_shl, nI_shr, ne_eq, and_true, true_and, eq_self, true_or, or_true, false_or, or_false, Option.toList, List.cons_append, List.nil_append, List.length_nil, List.length_cons, Nat.not_lt_zero, bX10_refuses_0]
  by_cases h1 : ∀ f, f < N → okL V L f
  · refine start N (Nat.le_refl _) h1 (fun b hb1 hb => ?_)
    have sb : sumN (lnN L) N ≤ 999 * N := sumN_le (fun k hk => by have := (okL_n hG hk (h1 k hk)).2; have := (flN_ok hG hk).2; omega)
    have iff : b = 1 ↔ ∃ f g, f < N ∧ g < N ∧ tnL V (lnN L) f g := by
      rw [hb]
      constructor
      · rintro ⟨f, g, q1, q2, q3⟩
        exact ⟨f, g, q1, by omega, q3⟩
      · rintro ⟨f, g, q1, q2, q3⟩
        rcases (by omega : g < f ∨ g = f ∨ f < g) with q | q | q
        · exact ⟨f, g, q1, q, q3⟩
        · subst q
          have := hG.2.2.2.2.2.2.2.2.1.2.1 g (by omega)
          have e := q3.2.2
          rw [this] at e
          exact absurd e (by decide)
        · refine ⟨g, f, q2, q, q3.2.1, q3.1, ?_⟩
          rw [← (hG.2.2.2.2.2.2.2.2.1.1 f g (by omega) (by omega)).2]
          exact q3.2.2
    refine wp_blk kX10_refuses_8 ?_
    simp (disch := first | decide | omega) only [mxa, vxa, vxb, vxc, vnd, vne, Nat.reduceAdd, Nat.reduceSub, Nat.reduceLeDiff, Nat.reduceLT, Int32.reduceLT, Int32.reduceLE, Int32.reduceAdd, Int32.reduceSub, Int32.reduceMul, Int32.reduceToNatClampNeg, not_false_eq_true, not_true_eq_false, false_implies, true_implies, Nat.zero_add, reduceIte, Nat.reduceMul, Nat.reduceEqDiff, nxa, nxc, lgn, nL_of, swx, Int.reduceAdd, gI_a, gI_k, gL_a, gL_k, gI_r, gL_r, nI_and, nI_or, nI_xor, nI_ndf, nI_shl, nI_shr, ne_eq, and_true, true_and, eq_self, true_or, or_true, false_or, or_false, Option.toList, List.cons_append, List.nil_append, List.length_nil, List.length_cons, Nat.not_lt_zero, bX10_refuses_8, kdx hs, grx hr, n0, Nat.le_refl]
    unfold hnF at hQ
    rw [if_pos h1] at hQ
    by_cases h2 : ∃ f g, f < N ∧ g < N ∧ tnL V (lnN L) f g
    · rw [if_pos h2] at hQ
      have e := iff.mpr h2
      refine wp_blk kX10_refuses_123 ?_
      simp (disch := first | decide | omega) only [mxa, vxa, vxb, vxc, vnd, vne, Nat.reduceAdd, Nat.reduceSub, Nat.reduceLeDiff, Nat.reduceLT, Int32.reduceLT, Int32.reduceLE, Int32.reduceAdd, Int32.reduceSub, Int32.reduceMul, Int32.reduceToNatClampNeg, not_false_eq_true, not_true_eq_false, false_implies, true_implies, Nat.zero_add, reduceIte, Nat.reduceMul, Nat.reduceEqDiff, nxa, nxc, lgn, nL_of, swx, Int.reduceAdd, gI_a, gI_k, gL_a, gL_k, gI_r, gL_r, nI_and, nI_or, nI_xor, nI_ndf, nI_shl, nI_shr, ne_eq, and_true, true_and, eq_self, true_or, or_true, false_or, or_false, Option.toList, List.cons_append, List.nil_append, List.length_nil, List.length_cons, Nat.not_lt_zero, bX10_refuses_123, e]
      refine wp_blk kX10_refuses_152 ?_
      simp (disch := first | decide | omega) only [mxa, vxa, vxb, vxc, vnd, vne, Nat.reduceAdd, Nat.reduceSub, Nat.reduceLeDiff, Nat.reduceLT, Int32.reduceLT, Int32.reduceLE, Int32.reduceAdd, Int32.reduceSub, Int32.reduceMul, Int32.reduceToNatClampNeg, not_false_eq_true, not_true_eq_false, false_implies, true_implies, Nat.zero_add, reduceIte, Nat.reduceMul, Nat.reduceEqDiff, nxa, nxc, lgn, nL_of, swx, Int.reduceAdd, gI_a, gI_k, gL_a, gL_k, gI_r, gL_r, nI_and, nI_or, nI_xor, nI_ndf, nI_shl, nI_shr, ne_eq, and_true, true_and, eq_self, true_or, or_true, false_or, or_false, Option.toList, List.cons_append, List.nil_append, List.length_nil, List.length_cons, Nat.not_lt_zero, bX10_refuses_152]
      exact hQ
    · rw [if_neg h2] at hQ
      have e : b = 0 := by
        rcases (by omega : b = 0 ∨ b = 1) with q | q
        · exact q
        · exact absurd (iff.mp q) h2
      refine wp_blk kX10_refuses_123 ?_
      simp (disch := first | decide | omega) only [mxa, vxa, vxb, vxc, vnd, vne, Nat.reduceAdd, Nat.reduceSub, Nat.reduceLeDiff, Nat.reduceLT, Int32.reduceLT, Int32.reduceLE, Int32.reduceAdd, Int32.reduceSub, Int32.reduceMul, Int32.reduceToNatClampNeg, not_false_eq_true, not_true_eq_false, false_implies, true_implies, Nat.zero_add, reduceIte, Nat.reduceMul, Nat.reduceEqDiff, nxa, nxc, lgn, nL_of, swx, Int.reduceAdd, gI_a, gI_k, gL_a, gL_k, gI_r, gL_r, nI_and, nI_or, nI_xor, nI_ndf, nI_shl, nI_shr, ne_eq, and_true, true_and, eq_self, true_or, or_true, false_or, or_false, Option.toList, List.cons_append, List.nil_append, List.length_nil, List.length_cons, Nat.not_lt_zero, bX10_refuses_123, e]
      by_cases h3 : sumN (lnN L) N = zN V o
      · rw [if_pos h3] at hQ
        refine wp_blk kX10_refuses_132 ?_
        simp (disch := first | decide | omega) only [mxa, vxa, vxb, vxc, vnd, vne, Nat.reduceAdd, Nat.reduceSub, Nat.reduceLeDiff, Nat.reduceLT, Int32.reduceLT, Int32.reduceLE, Int32.reduceAdd, Int32.reduceSub, Int32.reduceMul, Int32.reduceToNatClampNeg, not_false_eq_true, not_true_eq_false, false_implies, true_implies, Nat.zero_add, reduceIte, Nat.reduceMul, Nat.reduceEqDiff, nxa, nxc, lgn, nL_of, swx, Int.reduceAdd, gI_a, gI_k, gL_a, gL_k, gI_r, gL_r, nI_and, nI_or, nI_xor, nI_ndf, nI_shl, nI_shr, ne_eq, and_true, true_and, eq_self, true_or, or_true, false_or, or_false, Option.toList, List.cons_append, List.nil_append, List.length_nil, List.length_cons, Nat.not_lt_zero, bX10_refuses_132, kdx hs, grx hr, zz, h3]
        refine wp_blk kX10_refuses_152 ?_
        simp (disch := first | decide | omega) only [mxa, vxa, vxb, vxc, vnd, vne, Nat.reduceAdd, Nat.reduceSub, Nat.reduceLeDiff, Nat.reduceLT, Int32.reduceLT, Int32.reduceLE, Int32.reduceAdd, Int32.reduceSub, Int32.reduceMul, Int32.reduceToNatClampNeg, not_false_eq_true, not_true_eq_false, false_implies, true_implies, Nat.zero_add, reduceIte, Nat.reduceMul, Nat.reduceEqDiff, nxa, nxc, lgn, nL_of, swx, Int.reduceAdd, gI_a, gI_k, gL_a, gL_k, gI_r, gL_r, nI_and, nI_or, nI_xor, nI_ndf, nI_shl, nI_shr, ne_eq, and_true, true_and, eq_self, true_or, or_true, false_or, or_false, Option.toList, List.cons_append, List.nil_append, List.length_nil, List.length_cons, Nat.not_lt_zero, bX10_refuses_152]
        exact hQ
      · rw [if_neg h3] at hQ
        refine wp_blk kX10_refuses_132 ?_
        simp (disch := first | decide | omega) only [mxa, vxa, vxb, vxc, vnd, vne, Nat.reduceAdd, Nat.reduceSub, Nat.reduceLeDiff, Nat.reduceLT, Int32.reduceLT, Int32.reduceLE, Int32.reduceAdd, Int32.reduceSub, Int32.reduceMul, Int32.reduceToNatClampNeg, not_false_eq_true, not_true_eq_false, false_implies, true_implies, Nat.zero_add, reduceIte, Nat.reduceMul, Nat.reduceEqDiff, nxa, nxc, lgn, nL_of, swx, Int.reduceAdd, gI_a, gI_k, gL_a, gL_k, gI_r, gL_r, nI_and, nI_or, nI_xor, nI_ndf, nI_shl, nI_shr, ne_eq, and_true, true_and, eq_self, true_or, or_true, false_or, or_false, Option.toList, List.cons_append, List.nil_append, List.length_nil, List.length_cons, Nat.not_lt_zero, bX10_refuses_132, kdx hs, grx hr, zz, h3]
        refine wp_blk kX10_refuses_151 ?_
        simp (disch := first | decide | omega) only [mxa, vxa, vxb, vxc, vnd, vne, Nat.reduceAdd, Nat.reduceSub, Nat.reduceLeDiff, Nat.reduceLT, Int32.reduceLT, Int32.reduceLE, Int32.reduceAdd, Int32.reduceSub, Int32.reduceMul, Int32.reduceToNatClampNeg, not_false_eq_true, not_true_eq_false, false_implies, true_implies, Nat.zero_add, reduceIte, Nat.reduceMul, Nat.reduceEqDiff, nxa, nxc, lgn, nL_of, swx, Int.reduceAdd, gI_a, gI_k, gL_a, gL_k, gI_r, gL_r, nI_and, nI_or, nI_xor, nI_ndf, nI_shl, nI_shr, ne_eq, and_true, true_and, eq_self, true_or, or_true, false_or, or_false, Option.toList, List.cons_append, List.nil_append, List.length_nil, List.length_cons, Nat.not_lt_zero, bX10_refuses_151]
        refine wp_blk kX10_refuses_152 ?_
        simp (disch := first | decide | omega) only [mxa, vxa, vxb, vxc, vnd, vne, Nat.reduceAdd, Nat.reduceSub, Nat.reduceLeDiff, Nat.reduceLT, Int32.reduceLT, Int32.reduceLE, Int32.reduceAdd, Int32.reduceSub, Int32.reduceMul, Int32.reduceToNatClampNeg, not_false_eq_true, not_true_eq_false, false_implies, true_implies, Nat.zero_add, reduceIte, Nat.reduceMul, Nat.reduceEqDiff, nxa, nxc, lgn, nL_of, swx, Int.reduceAdd, gI_a, gI_k, gL_a, gL_k, gI_r, gL_r, nI_and, nI_or, nI_xor, nI_ndf, nI_shl, nI_shr, ne_eq, and_true, true_and, eq_self, true_or, or_true, false_or, or_false, Option.toList, List.cons_append, List.nil_append, List.length_nil, List.length_cons, Nat.not_lt_zero, bX10_refuses_152]
        exact hQ
  · obtain ⟨k, q1, q2, q3⟩ := first_bad h1
    unfold hnF at hQ
    rw [if_neg h1] at hQ
    refine start k (by omega) q3 (fun b hb1 hb => ?_)
    have fk := fl k q1
    have fk9 := (flN_ok hG q1).2
    refine wp_blk kX10_refuses_8 ?_
    simp (disch := first | decide | omega) only [mxa, vxa, vxb, vxc, vnd, vne, Nat.reduceAdd, Nat.reduceSub, Nat.reduceLeDiff, Nat.reduceLT, Int32.reduceLT, Int32.reduceLE, Int32.reduceAdd, Int32.reduceSub, Int32.reduceMul, Int32.reduceToNatClampNeg, not_false_eq_true, not_true_eq_false, false_implies, true_implies, Nat.zero_add, reduceIte, Nat.reduceMul, Nat.reduceEqDiff, nxa, nxc, lgn, nL_of, swx, Int.reduceAdd, gI_a, gI_k, gL_a, gL_k, gI_r, gL_r, nI_and, nI_or, nI_xor, nI_ndf, nI_shl, nI_shr, ne_eq, and_true, true_and, eq_self, true_or, or_true, false_or, or_false, Option.toList, List.cons_append, List.nil_append, List.length_nil, List.length_cons, Nat.not_lt_zero, bX10_refuses_8, kdx hs, grx hr, n0, hL k q1, fk, show ¬ N ≤ k by omega]
    refine c_within X _ _ _ _ _ _ ?_
    have w0 : wi (L k) (nL 0) (nL (flN V k)) = nI 0 := if_neg (fun q => q2 ⟨q.1, by rw [(flN_ok hG q1).1, nL_of (by omega)]; exact q.2⟩)
    simp (disch := first | decide | omega) only [mxa, vxa, vxb, vxc, vnd, vne, Nat.reduceAdd, Nat.reduceSub, Nat.reduceLeDiff, Nat.reduceLT, Int32.reduceLT, Int32.reduceLE, Int32.reduceAdd, Int32.reduceSub, Int32.reduceMul, Int32.reduceToNatClampNeg, not_false_eq_true, not_true_eq_false, false_implies, true_implies, Nat.zero_add, reduceIte, Nat.reduceMul, Nat.reduceEqDiff, nxa, nxc, lgn, nL_of, swx, Int.reduceAdd, gI_a, gI_k, gL_a, gL_k, gI_r, gL_r, nI_and, nI_or, nI_xor, nI_ndf, nI_shl, nI_shr, ne_eq, and_true, true_and, eq_self, true_or, or_true, false_or, or_false, Option.toList, List.cons_append, List.nil_append, List.length_nil, List.length_cons, Nat.not_lt_zero, w0]
    exact hQ
