/-! rings of debts: the class -/
set_option maxRecDepth 20000
noncomputable def bP (p : Nat → Prop) (n : Nat) : Nat := by
  classical
  exact bm (fun f => decide (p f)) n
theorem bP_bit {p : Nat → Prop} {n i : Nat} : (bP p n).testBit i = true ↔ i < n ∧ p i := by
  unfold bP
  rw [bm_bit]
  simp
theorem bP_in (p : Nat → Prop) {n i : Nat} (h1 : i < n) (h2 : p i) : (bP p n).testBit i = true := bP_bit.mpr ⟨h1, h2⟩
theorem bP_no (p : Nat → Prop) {n i : Nat} (h : ¬ (i < n ∧ p i)) : (bP p n).testBit i = false := by
  cases q : (bP p n).testBit i
  · rfl
  · exact absurd (bP_bit.mp q) h
theorem bP_lt (p : Nat → Prop) (n : Nat) : bP p n < 2 ^ n := bm_lt _ n
theorem bP_y (p : Nat → Prop) {n : Nat} (h : p n) : bP p n ||| 1 * 2 ^ n = bP p (n + 1) := by
  unfold bP
  rw [bm_or]
  show _ = _ + (if _ then _ else _)
  rw [if_pos (by simpa using h)]
theorem bP_n (p : Nat → Prop) {n : Nat} (h : ¬ p n) : bP p (n + 1) = bP p n := by
  unfold bP
  show _ + (if _ then _ else _) = _
  rw [if_neg (by simpa using h), Nat.add_zero]
theorem bP_eq {p q : Nat → Prop} {n : Nat} (h : ∀ i, i < n → (p i ↔ q i)) : bP p n = bP q n := bit_eq (fun i => by
  by_cases hi : i < n
  · by_cases hp : p i
    · rw [bP_in p hi hp, bP_in q hi ((h i hi).mp hp)]
    · rw [bP_no p (fun z => hp z.2), bP_no q (fun z => hp ((h i hi).mpr z.2))]
  · rw [bP_no p (fun z => hi z.1), bP_no q (fun z => hi z.1)])
theorem bP_or {p q : Nat → Prop} {n : Nat} : bP p n ||| bP q n = bP (fun f => p f ∨ q f) n := bit_eq (fun i => by
  rw [Nat.testBit_or]
  by_cases hi : i < n
  · by_cases hp : p i
    · rw [bP_in p hi hp, bP_in (fun f => p f ∨ q f) hi (Or.inl hp)]; rfl
    · by_cases hq : q i
      · rw [bP_in q hi hq, bP_in (fun f => p f ∨ q f) hi (Or.inr hq), Bool.or_true]
      · rw [bP_no p (fun z => hp z.2), bP_no q (fun z => hq z.2), bP_no (fun f => p f ∨ q f) (fun z => z.2.elim hp hq)]; rfl
  · rw [bP_no p (fun z => hi z.1), bP_no q (fun z => hi z.1), bP_no (fun f => p f ∨ q f) (fun z => hi z.1)]; rfl)
theorem bP_one {a n : Nat} (h : a < n) : 1 * 2 ^ a = bP (fun f => f = a) n := bit_eq (fun i => by
  rw [Nat.one_mul, Nat.testBit_two_pow]
  by_cases e : a = i
  · rw [bP_in (fun f => f = a) (show i < n by omega) e.symm]; simp [e]
  · rw [bP_no (fun f => f = a) (fun z => e z.2.symm)]; simp [e])
theorem bP_0 (p : Nat → Prop) {n : Nat} (h : bP p n = 0) (i : Nat) (hi : i < n) : ¬ p i := fun hp => by
  have := bP_in p hi hp
  rw [h, Nat.zero_testBit] at this
  cases this
def db (V : Nat → Int32) (f g : Nat) : Nat := (V (219 + 10 * f + g)).toNatClampNeg
def Eb (V : Nat → Int32) (f g : Nat) : Prop := 0 < db V f g
theorem db_ok {V : Nat → Int32} {t N O K f g : Nat} (hG : Gd V t N O K) (ht : t ≤ 600) (hf : f < 10) (hg : g < 10) : V (219 + 10 * f + g) = nI (db V f g) ∧ db V f g < 1000000000 ∧ (N ≤ f ∨ N ≤ g ∨ f = g → db V f g = 0) := by
  obtain ⟨⟨n, hn, e⟩, hz⟩ := hG.2.2.2.2.2.2.2.2.2 f g hf hg
  have hb : 999 * t * 2 ^ (10 - N) ≤ 999 * t * 1024 := Nat.mul_le_mul_left _ (Nat.pow_le_pow_right (n := 2) (by omega) (show 10 - N ≤ 10 by omega))
  unfold db
  refine ⟨by rw [e, nI_clamp (by omega)], by rw [e, nI_clamp (by omega)]; omega, fun q => by rw [hz q]; rfl⟩
theorem c_gather (X : Cx) (d : Nat) (σ : Mm) (V : Nat → Int32) (t N O K : Nat) (hs : St σ) (hG : Gd V t N O K) (ht : t ≤ 600) (hV : VR σ 1 V N O) (Q : Po) (hQ : ∀ R, (∀ f, f < N → R f = nI (bP (Eb V f) N)) → Q none (rI σ 158 R)) : Call X d 0 0 mX1_gatherCreditors [.ref 156, .ref 1] σ Q := by
  have hN10 := hG.1.2
  have pw := pow_le hN10
  have hst := hs.1
  have hrt := hs.2.1
  have e0 : gI σ 1 0 = nI N := hV.1.1.trans hG.1.1
  refine call_of eX1_gatherCreditors rfl ?_
  refine wp_blk kX1_gatherCreditors_0 ?_
  simp (disch := first | decide | omega) only [mxa, vxa, vxb, vxc, vnd, vne, Nat.reduceAdd, Nat.reduceSub, Nat.reduceLeDiff, Nat.reduceLT, Int32.reduceLT, Int32.reduceLE, Int32.reduceAdd, Int32.reduceSub, Int32.reduceMul, Int32.reduceToNatClampNeg, not_false_eq_true, not_true_eq_false, false_implies, true_implies, Nat.zero_add, reduceIte, Nat.reduceMul, Nat.reduceEqDiff, nxa, nxc, lgn, nL_of, swx, Int.reduceAdd, gI_a, gI_k, gL_a, gL_k, gI_r, gL_r, nI_and, nI_or, nI_xor, nI_ndf, nI_shl, nI_shr, ne_eq, and_true, true_and, eq_self, true_or, or_true, false_or, or_false, Option.toList, List.cons_append, List.nil_append, List.length_nil, List.length_cons, Nat.not_lt_zero, bX1_gatherCreditors_0]
  have go := wfor (fun f => ∀ R : Nat → Int32, (∀ j, j < f → R j = nI (bP (Eb V j) N)) → Wp X mX1_gatherCreditors (rmo d 0 0) d Q 0 0 2 [some (.ref 156), some (.ref 1), some (.int (nI f)), none] [] (rI σ 158 R)) N (fun f hf hP R hR => by
    obtain ⟨a1, a2, p, hp, ep⟩ := fa_ok hst hrt (Or.inl rfl) (hs.2.2 1 (Or.inl rfl)) (show f < 10 by omega)
    have a1' : gR σ 2 f = some (fa σ 1 f) := a1
    refine wp_blk kX1_gatherCreditors_2 ?_
    simp (disch := first | decide | omega) only [mxa, vxa, vxb, vxc, vnd, vne, Nat.reduceAdd, Nat.reduceSub, Nat.reduceLeDiff, Nat.reduceLT, Int32.reduceLT, Int32.reduceLE, Int32.reduceAdd, Int32.reduceSub, Int32.reduceMul, Int32.reduceToNatClampNeg, not_false_eq_true, not_true_eq_false, false_implies, true_implies, Nat.zero_add, reduceIte, Nat.reduceMul, Nat.reduceEqDiff, nxa, nxc, lgn, nL_of, swx, Int.reduceAdd, gI_a, gI_k, gL_a, gL_k, gI_r, gL_r, nI_and, nI_or, nI_xor, nI_ndf, nI_shl, nI_shr, ne_eq, and_true, true_and, eq_self, true_or, or_true, false_or, or_false, Option.toList, List.cons_append, List.nil_append, List.length_nil, List.length_cons, Nat.not_lt_zero, bX1_gatherCreditors_2, kdx hst, grx hrt, e0, show ¬ N ≤ f by omega, sI_rI]
    refine wfor (fun g => ∀ R : Nat → Int32, (∀ j, j < f → R j = nI (bP (Eb V j) N)) → R f = nI (bP (Eb V f) g) → Wp X mX1_gatherCreditors (rmo d 0 0) d Q 0 0 19 [some (.ref 156), some (.ref 1), some (.int (nI f)), some (.int (nI g))] [] (rI σ 158 R)) N (fun g hg hP2 R hR hRf => ?_) (fun R hR hRf => ?_) _ (fun j hj => ?_) ?_
    · obtain ⟨b1, b2, b3⟩ := db_ok (f := f) (g := g) hG ht (by omega) (by omega)
      have ow : gI σ (fa σ 1 f + 2) g = nI (db V f g) := ((hV.2.2 f hf).2.2.2 g (by omega)).trans b1
      by_cases h0 : 0 < db V f g
      · have h0' : Eb V f g := h0
        refine wp_blk kX1_gatherCreditors_19 ?_
        simp (disch := first | decide | omega) only [mxa, vxa, vxb, vxc, vnd, vne, Nat.reduceAdd, Nat.reduceSub, Nat.reduceLeDiff, Nat.reduceLT, Int32.reduceLT, Int32.reduceLE, Int32.reduceAdd, Int32.reduceSub, Int32.reduceMul, Int32.reduceToNatClampNeg, not_false_eq_true, not_true_eq_false, false_implies, true_implies, Nat.zero_add, reduceIte, Nat.reduceMul, Nat.reduceEqDiff, nxa, nxc, lgn, nL_of, swx, Int.reduceAdd, gI_a, gI_k, gL_a, gL_k, gI_r, gL_r, nI_and, nI_or, nI_xor, nI_ndf, nI_shl, nI_shr, ne_eq, and_true, true_and, eq_self, true_or, or_true, false_or, or_false, Option.toList, List.cons_append, List.nil_append, List.length_nil, List.length_cons, Nat.not_lt_zero, bX1_gatherCreditors_19, kdx hst, grx hrt, e0, a1', a2.1, a2.2.2.1, a2.2.2.2.2, ow, hRf, show ¬ N ≤ g by omega, show ¬ db V f g ≤ 0 by omega, sI_rI]
        refine wp_blk kX1_gatherCreditors_53 ?_
        simp (disch := first | decide | omega) only [mxa, vxa, vxb, vxc, vnd, vne, Nat.reduceAdd, Nat.reduceSub, Nat.reduceLeDiff, Nat.reduceLT, Int32.reduceLT, Int32.reduceLE, Int32.reduceAdd, Int32.reduceSub, Int32.reduceMul, Int32.reduceToNatClampNeg, not_false_eq_true, not_true_eq_false, false_implies, true_implies, Nat.zero_add, reduceIte, Nat.reduceMul, Nat.reduceEqDiff, nxa, nxc, lgn, nL_of, swx, Int.reduceAdd, gI_a, gI_k, gL_a, gL_k, gI_r, gL_r, nI_and, nI_or, nI_xor, nI_ndf, nI_shl, nI_shr, ne_eq, and_true, true_and, eq_self, true_or, or_true, false_or, or_false, Option.toList, List.cons_append, List.nil_append, List.length_nil, List.length_cons, Nat.not_lt_zero, bX1_gatherCreditors_53]
        refine hP2 _ (fun j hj => ?_) ?_
        · rw [upd_n (by omega)]; exact hR j hj
        · rw [upd_s, bP_y (Eb V f) h0']
      · refine wp_blk kX1_gatherCreditors_19 ?_
        simp (disch := first | decide | omega) only [mxa, vxa, vxb, vxc, vnd, vne, Nat.reduceAdd, Nat.reduceSub, Nat.reduceLeDiff, Nat.reduceLT, Int32.reduceLT, Int32.reduceLE, Int32.reduceAdd, Int32.reduceSub, Int32.reduceMul, Int32.reduceToNatClampNeg, not_false_eq_true, not_true_eq_false, false_implies, true_implies, Nat.zero_add, reduceIte, Nat.reduceMul, Nat.reduceEqDiff, nxa, nxc, lgn, nL_of, swx, Int.reduceAdd, gI_a, gI_k, gL_a, gL_k, gI_r, gL_r, nI_and, nI_or, nI_xor, nI_ndf, nI_shl, nI_shr, ne_eq, and_true, true_and, eq_self, true_or, or_true, false_or, or_false, Option.toList, List.cons_append, List.nil_append, List.length_nil, List.length_cons, Nat.not_lt_zero, bX1_gatherCreditors_19, kdx hst, grx hrt, e0, a1', a2.1, a2.2.2.1, a2.2.2.2.2, ow, show ¬ N ≤ g by omega, show db V f g ≤ 0 by omega]
        refine wp_blk kX1_gatherCreditors_53 ?_
        simp (disch := first | decide | omega) only [mxa, vxa, vxb, vxc, vnd, vne, Nat.reduceAdd, Nat.reduceSub, Nat.reduceLeDiff, Nat.reduceLT, Int32.reduceLT, Int32.reduceLE, Int32.reduceAdd, Int32.reduceSub, Int32.reduceMul, Int32.reduceToNatClampNeg, not_false_eq_true, not_true_eq_false, false_implies, true_implies, Nat.zero_add, reduceIte, Nat.reduceMul, Nat.reduceEqDiff, nxa, nxc, lgn, nL_of, swx, Int.reduceAdd, gI_a, gI_k, gL_a, gL_k, gI_r, gL_r, nI_and, nI_or, nI_xor, nI_ndf, nI_shl, nI_shr, ne_eq, and_true, true_and, eq_self, true_or, or_true, false_or, or_false, Option.toList, List.cons_append, List.nil_append, List.length_nil, List.length_cons, Nat.not_lt_zero, bX1_gatherCreditors_53]
        refine hP2 _ hR ?_
        rw [hRf, bP_n (Eb V f) h0]
    · refine wp_blk kX1_gatherCreditors_19 ?_
      simp (disch := first | decide | omega) only [mxa, vxa, vxb, vxc, vnd, vne, Nat.reduceAdd, Nat.reduceSub, Nat.reduceLeDiff, Nat.reduceLT, Int32.reduceLT, Int32.reduceLE, Int32.reduceAdd, Int32.reduceSub, Int32.reduceMul, Int32.reduceToNatClampNeg, not_false_eq_true, not_true_eq_false, false_implies, true_implies, Nat.zero_add, reduceIte, Nat.reduceMul, Nat.reduceEqDiff, nxa, nxc, lgn, nL_of, swx, Int.reduceAdd, gI_a, gI_k, gL_a, gL_k, gI_r, gL_r, nI_and, nI_or, nI_xor, nI_ndf, nI_shl, nI_shr, ne_eq, and_true, true_and, eq_self, true_or, or_true, false_or, or_false, Option.toList, List.cons_append, List.nil_append, List.length_nil, List.length_cons, Nat.not_lt_zero, bX1_gatherCreditors_19, kdx hst, e0, Nat.le_refl]
      refine wp_blk kX1_gatherCreditors_59 ?_
      simp (disch := first | decide | omega) only [mxa, vxa, vxb, vxc, vnd, vne, Nat.reduceAdd, Nat.reduceSub, Nat.reduceLeDiff, Nat.reduceLT, Int32.reduceLT, Int32.reduceLE, Int32.reduceAdd, Int32.reduceSub, Int32.reduceMul, Int32.reduceToNatClampNeg, not_false_eq_true, not_true_eq_false, false_implies, true_implies, Nat.zero_add, reduceIte, Nat.reduceMul, Nat.reduceEqDiff, nxa, nxc, lgn, nL_of, swx, Int.reduceAdd, gI_a, gI_k, gL_a, gL_k, gI_r, gL_r, nI_and, nI_or, nI_xor, nI_ndf, nI_shl, nI_shr, ne_eq, and_true, true_and, eq_self, true_or, or_true, false_or, or_false, Option.toList, List.cons_append, List.nil_append, List.length_nil, List.length_cons, Nat.not_lt_zero, bX1_gatherCreditors_59]
      refine Wp.fog 3 ?_
      refine hP R (fun j hj => ?_)
      by_cases e : j = f
      · rw [e]; exact hRf
      · exact hR j (by omega)
    · rw [upd_n (by omega)]; exact hR j hj
    · rw [upd_s]; rfl) (fun R hR => by
    refine wp_blk kX1_gatherCreditors_2 ?_
    simp (disch := first | decide | omega) only [mxa, vxa, vxb, vxc, vnd, vne, Nat.reduceAdd, Nat.reduceSub, Nat.reduceLeDiff, Nat.reduceLT, Int32.reduceLT, Int32.reduceLE, Int32.reduceAdd, Int32.reduceSub, Int32.reduceMul, Int32.reduceToNatClampNeg, not_false_eq_true, not_true_eq_false, false_implies, true_implies, Nat.zero_add, reduceIte, Nat.reduceMul, Nat.reduceEqDiff, nxa, nxc, lgn, nL_of, swx, Int.reduceAdd, gI_a, gI_k, gL_a, gL_k, gI_r, gL_r, nI_and, nI_or, nI_xor, nI_ndf, nI_shl, nI_shr, ne_eq, and_true, true_and, eq_self, true_or, or_true, false_or, or_false, Option.toList, List.cons_append, List.nil_append, List.length_nil, List.length_cons, Nat.not_lt_zero, bX1_gatherCreditors_2, kdx hst, e0, Nat.le_refl]
    refine wp_blk kX1_gatherCreditors_65 ?_
    simp (disch := first | decide | omega) only [mxa, vxa, vxb, vxc, vnd, vne, Nat.reduceAdd, Nat.reduceSub, Nat.reduceLeDiff, Nat.reduceLT, Int32.reduceLT, Int32.reduceLE, Int32.reduceAdd, Int32.reduceSub, Int32.reduceMul, Int32.reduceToNatClampNeg, not_false_eq_true, not_true_eq_false, false_implies, true_implies, Nat.zero_add, reduceIte, Nat.reduceMul, Nat.reduceEqDiff, nxa, nxc, lgn, nL_of, swx, Int.reduceAdd, gI_a, gI_k, gL_a, gL_k, gI_r, gL_r, nI_and, nI_or, nI_xor, nI_ndf, nI_shl, nI_shr, ne_eq, and_true, true_and, eq_self, true_or, or_true, false_or, or_false, Option.toList, List.cons_append, List.nil_append, List.length_nil, List.length_cons, Nat.not_lt_zero, bX1_gatherCreditors_65]
    exact hQ R hR)
  have := go (gI σ 158) (fun j hj => absurd hj (by omega))
  rw [rI_self] at this
  exact this
def Wkp (E : Nat → Nat → Prop) (N a : Nat) : Nat → Nat → Prop
  | 0, _ => False
  | k + 1, f => Wk E N a k f
noncomputable def stD (E : Nat → Nat → Prop) (N a : Nat) : Nat → Nat → Nat
  | 0, f => if f = a then 0 else 1048576
  | k + 1, f => by
    classical
    exact if Wk E N a (k + 1) f ∧ ¬ Wk E N a k f then k + 1 else stD E N a k f
theorem stD_y {E : Nat → Nat → Prop} {N a k f : Nat} (h : Wk E N a (k + 1) f ∧ ¬ Wk E N a k f) : stD E N a (k + 1) f = k + 1 := if_pos h
theorem stD_n {E : Nat → Nat → Prop} {N a k f : Nat} (h : ¬ (Wk E N a (k + 1) f ∧ ¬ Wk E N a k f)) : stD E N a (k + 1) f = stD E N a k f := if_neg h
theorem stD_ok {E : Nat → Nat → Prop} {N a f : Nat} : ∀ k, (Wk E N a k f → stD E N a k f ≤ k ∧ Wk E N a (stD E N a k f) f ∧ ∀ j, Wk E N a j f → stD E N a k f ≤ j) ∧ (¬ Wk E N a k f → stD E N a k f = 1048576)
  | 0 => by
    refine ⟨fun h => ?_, fun h => if_neg h⟩
    have h' : f = a := h
    have e : stD E N a 0 f = 0 := if_pos h'
    rw [e]
    exact ⟨Nat.le_refl _, h', fun j _ => Nat.zero_le _⟩
  | k + 1 => by
    obtain ⟨h1, h2⟩ := stD_ok (E := E) (N := N) (a := a) (f := f) k
    by_cases q : Wk E N a k f
    · have e : stD E N a (k + 1) f = stD E N a k f := stD_n (fun z => z.2 q)
      rw [e]
      obtain ⟨a1, a2, a3⟩ := h1 q
      exact ⟨fun _ => ⟨by omega, a2, a3⟩, fun z => absurd (Or.inl q) z⟩
    · by_cases q2 : Wk E N a (k + 1) f
      · have e : stD E N a (k + 1) f = k + 1 := stD_y ⟨q2, q⟩
        rw [e]
        refine ⟨fun _ => ⟨Nat.le_refl _, q2, fun j hj => ?_⟩, fun z => absurd q2 z⟩
        rcases Nat.lt_or_ge j (k + 1) with z | z
        · exact absurd (Wk_mono (show j ≤ k by omega) hj) q
        · exact z
      · have e : stD E N a (k + 1) f = stD E N a k f := stD_n (fun z => q2 z.1)
        rw [e]
        exact ⟨fun z => absurd z q2, fun _ => h2 q⟩
/-- the distances -/
noncomputable def ds (E : Nat → Nat → Prop) (N a : Nat) : Nat → Nat := stD E N a (N - 1)
theorem ds_isD {E : Nat → Nat → Prop} {N a k : Nat} (ha : a < N) (hN : N ≤ 10) (hk : k = N - 1 ∨ ∀ f, f < N → Wk E N a k f → Wkp E N a k f) (hk2 : k < N) : isD E N a 1048576 (stD E N a k) := by
  intro f hf
  obtain ⟨h1, h2⟩ := stD_ok (E := E) (N := N) (a := a) (f := f) k
  have all : ∀ j, Wk E N a j f → Wk E N a k f := by
    intro j hj
    rcases hk with hk | hk
    · rw [hk]; exact Wk_bd ha hf hj
    · cases k with
      | zero => exact absurd (hk a ha rfl) (fun z => z)
      | succ k =>
        by_cases hjk : j ≤ k
        · exact Wk_mono (by omega) hj
        · exact Or.inl (Wk_stop hk (j - k) f hf (by rw [show k + (j - k) = j by omega]; exact hj))
  refine ⟨fun q => ?_, fun j hj => ?_, fun q => ?_⟩
  · by_cases z : Wk E N a k f
    · exact (h1 z).2.1
    · have := h2 z; omega
  · exact (h1 (all j hj)).2.2 j hj
  · by_cases z : Wk E N a k f
    · have := (h1 z).1; omega
    · exact h2 z
theorem c_measure (X : Cx) (d : Nat) (σ : Mm) (E : Nat → Nat → Prop) (N a : Nat) (hs : Sh σ) (hr : Rf σ) (hN : N ≤ 10) (ha : a < N) (hC : ∀ f, f < N → gI σ 158 f = nI (bP (E f) N)) (Q : Po) (hQ : ∀ R D, isD E N a 1048576 D → (∀ f, f < N → R f = nI (D f)) → Q none (rI σ 159 R)) : Call X (d + 1) 0 0 mX1_measure [.ref 156, .int (nI N), .int (nI a)] σ Q := by
  have pw := pow_le hN
  refine call_of eX1_measure rfl ?_
  refine wp_blk kX1_measure_0 ?_
  simp (disch := first | decide | omega) only [mxa, vxa, vxb, vxc, vnd, vne, Nat.reduceAdd, Nat.reduceSub, Nat.reduceLeDiff, Nat.reduceLT, Int32.reduceLT, Int32.reduceLE, Int32.reduceAdd, Int32.reduceSub, Int32.reduceMul, Int32.reduceToNatClampNeg, not_false_eq_true, not_true_eq_false, false_implies, true_implies, Nat.zero_add, reduceIte, Nat.reduceMul, Nat.reduceEqDiff, nxa, nxc, lgn, nL_of, swx, Int.reduceAdd, gI_a, gI_k, gL_a, gL_k, gI_r, gL_r, nI_and, nI_or, nI_xor, nI_ndf, nI_shl, nI_shr, ne_eq, and_true, true_and, eq_self, true_or, or_true, false_or, or_false, Option.toList, List.cons_append, List.nil_append, List.length_nil, List.length_cons, Nat.not_lt_zero, bX1_measure_0, kdx hs, grx hr]
  refine c_fillI X _ _ 159 10 _ (by simp only [mxa, kdx hs]) (by omega) _ ?_
  simp (disch := first | decide | omega) only [mxa, vxa, vxb, vxc, vnd, vne, Nat.reduceAdd, Nat.reduceSub, Nat.reduceLeDiff, Nat.reduceLT, Int32.reduceLT, Int32.reduceLE, Int32.reduceAdd, Int32.reduceSub, Int32.reduceMul, Int32.reduceToNatClampNeg, not_false_eq_true, not_true_eq_false, false_implies, true_implies, Nat.zero_add, reduceIte, Nat.reduceMul, Nat.reduceEqDiff, nxa, nxc, lgn, nL_of, swx, Int.reduceAdd, gI_a, gI_k, gL_a, gL_k, gI_r, gL_r, nI_and, nI_or, nI_xor, nI_ndf, nI_shl, nI_shr, ne_eq, and_true, true_and, eq_self, true_or, or_true, false_or, or_false, Option.toList, List.cons_append, List.nil_append, List.length_nil, List.length_cons, Nat.not_lt_zero, kdx hs, grx hr, sI_rI]
  have fin : ∀ k, k < N → (k = N - 1 ∨ ∀ f, f < N → Wk E N a k f → Wkp E N a k f) → ∀ R : Nat → Int32, (∀ f, f < N → R f = nI (stD E N a k f)) → ∀ x y z : Int32, Wp X mX1_measure (rmo (d + 1) 0 0) (d + 1) Q 0 0 110 [some (.ref 156), some (.int (nI N)), some (.int (nI a)), some (.int x), some (.int y), some (.int z), none, none] [] (rI σ 159 R) := by
    intro k hk hst R hR x y z
    refine wp_blk kX1_measure_110 ?_
    simp (disch := first | decide | omega) only [mxa, vxa, vxb, vxc, vnd, vne, Nat.reduceAdd, Nat.reduceSub, Nat.reduceLeDiff, Nat.reduceLT, Int32.reduceLT, Int32.reduceLE, Int32.reduceAdd, Int32.reduceSub, Int32.reduceMul, Int32.reduceToNatClampNeg, not_false_eq_true, not_true_eq_false, false_implies, true_implies, Nat.zero_add, reduceIte, Nat.reduceMul, Nat.reduceEqDiff, nxa, nxc, lgn, nL_of, swx, Int.reduceAdd, gI_a, gI_k, gL_a, gL_k, gI_r, gL_r, nI_and, nI_or, nI_xor, nI_ndf, nI_shl, nI_shr, ne_eq, and_true, true_and, eq_self, true_or, or_true, false_or, or_false, Option.toList, List.cons_append, List.nil_append, List.length_nil, List.length_cons, Nat.not_lt_zero, bX1_measure_110]
    exact hQ R _ (ds_isD ha hN hst hk) hR
  have go := wfor (fun k => ∀ R : Nat → Int32, (∀ f, f < N → R f = nI (stD E N a k f)) → Wp X mX1_measure (rmo (d + 1) 0 0) (d + 1) Q 0 0 26 [some (.ref 156), some (.int (nI N)), some (.int (nI a)), some (.int (nI (bP (Wk E N a k) N))), some (.int (nI (bP (fun f => Wk E N a k f ∧ ¬ Wkp E N a k f) N))), some (.int (nI (k + 1))), none, none] [] (rI σ 159 R)) (N - 1) (fun k hk hP R hR => by
    have b1 := bP_lt (Wk E N a k) N
    have b2 := bP_lt (fun f => Wk E N a k f ∧ ¬ Wkp E N a k f) N
    by_cases h0 : bP (fun f => Wk E N a k f ∧ ¬ Wkp E N a k f) N = 0
    · refine wp_blk kX1_measure_26 ?_
      simp (disch := first | decide | omega) only [mxa, vxa, vxb, vxc, vnd, vne, Nat.reduceAdd, Nat.reduceSub, Nat.reduceLeDiff, Nat.reduceLT, Int32.reduceLT, Int32.reduceLE, Int32.reduceAdd, Int32.reduceSub, Int32.reduceMul, Int32.reduceToNatClampNeg, not_false_eq_true, not_true_eq_false, false_implies, true_implies, Nat.zero_add, reduceIte, Nat.reduceMul, Nat.reduceEqDiff, nxa, nxc, lgn, nL_of, swx, Int.reduceAdd, gI_a, gI_k, gL_a, gL_k, gI_r, gL_r, nI_and, nI_or, nI_xor, nI_ndf, nI_shl, nI_shr, ne_eq, and_true, true_and, eq_self, true_or, or_true, false_or, or_false, Option.toList, List.cons_append, List.nil_append, List.length_nil, List.length_cons, Nat.not_lt_zero, bX1_measure_26, h0, show ¬ N ≤ k + 1 by omega]
      exact fin k (by omega) (Or.inr (fun f hf hw => Classical.byContradiction (fun z => bP_0 (fun f => Wk E N a k f ∧ ¬ Wkp E N a k f) h0 f hf ⟨hw, z⟩))) R hR _ _ _
    · refine wp_blk kX1_measure_26 ?_
      simp (disch := first | decide | omega) only [mxa, vxa, vxb, vxc, vnd, vne, Nat.reduceAdd, Nat.reduceSub, Nat.reduceLeDiff, Nat.reduceLT, Int32.reduceLT, Int32.reduceLE, Int32.reduceAdd, Int32.reduceSub, Int32.reduceMul, Int32.reduceToNatClampNeg, not_false_eq_true, not_true_eq_false, false_implies, true_implies, Nat.zero_add, reduceIte, Nat.reduceMul, Nat.reduceEqDiff, nxa, nxc, lgn, nL_of, swx, Int.reduceAdd, gI_a, gI_k, gL_a, gL_k, gI_r, gL_r, nI_and, nI_or, nI_xor, nI_ndf, nI_shl, nI_shr, ne_eq, and_true, true_and, eq_self, true_or, or_true, false_or, or_false, Option.toList, List.cons_append, List.nil_append, List.length_nil, List.length_cons, Nat.not_lt_zero, bX1_measure_26, h0, show ¬ N ≤ k + 1 by omega]
      refine wfor (fun f => ∀ R : Nat → Int32, (∀ j, j < f → R j = nI (stD E N a (k + 1) j)) → (∀ j, f ≤ j → j < N → R j = nI (stD E N a k j)) → Wp X mX1_measure (rmo (d + 1) 0 0) (d + 1) Q 0 0 43 [some (.ref 156), some (.int (nI N)), some (.int (nI a)), some (.int (nI (bP (Wk E N a k) N))), some (.int (nI (bP (fun f => Wk E N a k f ∧ ¬ Wkp E N a k f) N))), some (.int (nI (k + 1))), some (.int (nI (bP (fun f => Wk E N a (k + 1) f ∧ ¬ Wk E N a k f) f))), some (.int (nI f))] [] (rI σ 159 R)) N (fun f hf hP2 R h1 h2 => ?_) (fun R h1 h2 => ?_) R (fun j hj => absurd hj (by omega)) (fun j _ hj => hR j hj)
      · have skip : ¬ (Wk E N a (k + 1) f ∧ ¬ Wk E N a k f) → Wp X mX1_measure (rmo (d + 1) 0 0) (d + 1) Q 0 0 89 [some (.ref 156), some (.int (nI N)), some (.int (nI a)), some (.int (nI (bP (Wk E N a k) N))), some (.int (nI (bP (fun f => Wk E N a k f ∧ ¬ Wkp E N a k f) N))), some (.int (nI (k + 1))), some (.int (nI (bP (fun f => Wk E N a (k + 1) f ∧ ¬ Wk E N a k f) f))), some (.int (nI f))] [] (rI σ 159 R) := by
          intro hno
          refine wp_blk kX1_measure_89 ?_
          simp (disch := first | decide | omega) only [mxa, vxa, vxb, vxc, vnd, vne, Nat.reduceAdd, Nat.reduceSub, Nat.reduceLeDiff, Nat.reduceLT, Int32.reduceLT, Int32.reduceLE, Int32.reduceAdd, Int32.reduceSub, Int32.reduceMul, Int32.reduceToNatClampNeg, not_false_eq_true, not_true_eq_false, false_implies, true_implies, Nat.zero_add, reduceIte, Nat.reduceMul, Nat.reduceEqDiff, nxa, nxc, lgn, nL_of, swx, Int.reduceAdd, gI_a, gI_k, gL_a, gL_k, gI_r, gL_r, nI_and, nI_or, nI_xor, nI_ndf, nI_shl, nI_shr, ne_eq, and_true, true_and, eq_self, true_or, or_true, false_or, or_false, Option.toList, List.cons_append, List.nil_append, List.length_nil, List.length_cons, Nat.not_lt_zero, bX1_measure_89]
          rw [bP_n (fun f => Wk E N a (k + 1) f ∧ ¬ Wk E N a k f) hno] at hP2
          refine hP2 R (fun j hj => ?_) (fun j hj hj2 => h2 j (by omega) hj2)
          by_cases e : j = f
          · subst e
            rw [h2 j (Nat.le_refl _) hf]
            exact congrArg nI (stD_n hno).symm
          · exact h1 j (by omega)
        by_cases hs1 : Wk E N a k f
        · have tb := bP_in (Wk E N a k) hf hs1
          refine wp_blk kX1_measure_43 ?_
          simp (disch := first | decide | omega) only [mxa, vxa, vxb, vxc, vnd, vne, Nat.reduceAdd, Nat.reduceSub, Nat.reduceLeDiff, Nat.reduceLT, Int32.reduceLT, Int32.reduceLE, Int32.reduceAdd, Int32.reduceSub, Int32.reduceMul, Int32.reduceToNatClampNeg, not_false_eq_true, not_true_eq_false, false_implies, true_implies, Nat.zero_add, reduceIte, Nat.reduceMul, Nat.reduceEqDiff, nxa, nxc, lgn, nL_of, swx, Int.reduceAdd, gI_a, gI_k, gL_a, gL_k, gI_r, gL_r, nI_and, nI_or, nI_xor, nI_ndf, nI_shl, nI_shr, ne_eq, and_true, true_and, eq_self, true_or, or_true, false_or, or_false, Option.toList, List.cons_append, List.nil_append, List.length_nil, List.length_cons, Nat.not_lt_zero, bX1_measure_43, show ¬ N ≤ f by omega, and_one_bit, tb]
          exact skip (fun z => z.2 hs1)
        · have tb : (bP (Wk E N a k) N).testBit f = false := bP_no (Wk E N a k) (fun z => hs1 z.2)
          have cf := hC f hf
          have b3 := bP_lt (E f) N
          by_cases hq : bP (E f) N &&& bP (fun f => Wk E N a k f ∧ ¬ Wkp E N a k f) N = 0
          · refine wp_blk kX1_measure_43 ?_
            simp (disch := first | decide | omega) only [mxa, vxa, vxb, vxc, vnd, vne, Nat.reduceAdd, Nat.reduceSub, Nat.reduceLeDiff, Nat.reduceLT, Int32.reduceLT, Int32.reduceLE, Int32.reduceAdd, Int32.reduceSub, Int32.reduceMul, Int32.reduceToNatClampNeg, not_false_eq_true, not_true_eq_false, false_implies, true_implies, Nat.zero_add, reduceIte, Nat.reduceMul, Nat.reduceEqDiff, nxa, nxc, lgn, nL_of, swx, Int.reduceAdd, gI_a, gI_k, gL_a, gL_k, gI_r, gL_r, nI_and, nI_or, nI_xor, nI_ndf, nI_shl, nI_shr, ne_eq, and_true, true_and, eq_self, true_or, or_true, false_or, or_false, Option.toList, List.cons_append, List.nil_append, List.length_nil, List.length_cons, Nat.not_lt_zero, bX1_measure_43, kdx hs, grx hr, show ¬ N ≤ f by omega, and_one_bit, tb, Bool.false_eq_true, cf, hq]
            refine skip (fun z => ?_)
            rcases z.1 with z1 | ⟨g, g1, g2, g3⟩
            · exact hs1 z1
            · refine absurd hq (and_ne.mpr ⟨g, bP_in (E f) g1 g2, bP_in (fun f => Wk E N a k f ∧ ¬ Wkp E N a k f) g1 ⟨g3, fun y => ?_⟩⟩)
              cases k with
              | zero => exact y
              | succ k => exact hs1 (Or.inr ⟨g, g1, g2, y⟩)
          · have al : bP (E f) N &&& bP (fun f => Wk E N a k f ∧ ¬ Wkp E N a k f) N ≤ bP (E f) N := Nat.and_le_left
            have yes : Wk E N a (k + 1) f ∧ ¬ Wk E N a k f := by
              obtain ⟨g, q1, q2⟩ := and_ne.mp hq
              obtain ⟨g1, g2⟩ := bP_bit.mp q1
              obtain ⟨g3, g4, g5⟩ := bP_bit.mp q2
              exact ⟨Or.inr ⟨g, g1, g2, g4⟩, hs1⟩
            refine wp_blk kX1_measure_43 ?_
            simp (disch := first | decide | omega) only [mxa, vxa, vxb, vxc, vnd, vne, Nat.reduceAdd, Nat.reduceSub, Nat.reduceLeDiff, Nat.reduceLT, Int32.reduceLT, Int32.reduceLE, Int32.reduceAdd, Int32.reduceSub, Int32.reduceMul, Int32.reduceToNatClampNeg, not_false_eq_true, not_true_eq_false, false_implies, true_implies, Nat.zero_add, reduceIte, Nat.reduceMul, Nat.reduceEqDiff, nxa, nxc, lgn, nL_of, swx, Int.reduceAdd, gI_a, gI_k, gL_a, gL_k, gI_r, gL_r, nI_and, nI_or, nI_xor, nI_ndf, nI_shl, nI_shr, ne_eq, and_true, true_and, eq_self, true_or, or_true, false_or, or_false, Option.toList, List.cons_append, List.nil_append, List.length_nil, List.length_cons, Nat.not_lt_zero, bX1_measure_43, kdx hs, grx hr, show ¬ N ≤ f by omega, and_one_bit, tb, Bool.false_eq_true, cf, hq, sI_rI, bP_y (fun f => Wk E N a (k + 1) f ∧ ¬ Wk E N a k f) yes]
            refine wp_blk kX1_measure_89 ?_
            simp (disch := first | decide | omega) only [mxa, vxa, vxb, vxc, vnd, vne, Nat.reduceAdd, Nat.reduceSub, Nat.reduceLeDiff, Nat.reduceLT, Int32.reduceLT, Int32.reduceLE, Int32.reduceAdd, Int32.reduceSub, Int32.reduceMul, Int32.reduceToNatClampNeg, not_false_eq_true, not_true_eq_false, false_implies, true_implies, Nat.zero_add, reduceIte, Nat.reduceMul, Nat.reduceEqDiff, nxa, nxc, lgn, nL_of, swx, Int.reduceAdd, gI_a, gI_k, gL_a, gL_k, gI_r, gL_r, nI_and, nI_or, nI_xor, nI_ndf, nI_shl, nI_shr, ne_eq, and_true, true_and, eq_self, true_or, or_true, false_or, or_false, Option.toList, List.cons_append, List.nil_append, List.length_nil, List.length_cons, Nat.not_lt_zero, bX1_measure_89]
            refine hP2 _ (fun j hj => ?_) (fun j hj hj2 => ?_)
            · by_cases e : j = f
              · subst e
                rw [upd_s]
                exact congrArg nI (stD_y yes).symm
              · rw [upd_n e]; exact h1 j (by omega)
            · rw [upd_n (by omega)]; exact h2 j (by omega) hj2
      · have e1 : bP (Wk E N a k) N ||| bP (fun f => Wk E N a (k + 1) f ∧ ¬ Wk E N a k f) N = bP (Wk E N a (k + 1)) N := by
          rw [bP_or]
          refine bP_eq (fun i hi => ⟨fun z => z.elim Or.inl (fun y => y.1), fun z => ?_⟩)
          by_cases y : Wk E N a k i
          · exact Or.inl y
          · exact Or.inr ⟨z, y⟩
        refine wp_blk kX1_measure_43 ?_
        simp (disch := first | decide | omega) only [mxa, vxa, vxb, vxc, vnd, vne, Nat.reduceAdd, Nat.reduceSub, Nat.reduceLeDiff, Nat.reduceLT, Int32.reduceLT, Int32.reduceLE, Int32.reduceAdd, Int32.reduceSub, Int32.reduceMul, Int32.reduceToNatClampNeg, not_false_eq_true, not_true_eq_false, false_implies, true_implies, Nat.zero_add, reduceIte, Nat.reduceMul, Nat.reduceEqDiff, nxa, nxc, lgn, nL_of, swx, Int.reduceAdd, gI_a, gI_k, gL_a, gL_k, gI_r, gL_r, nI_and, nI_or, nI_xor, nI_ndf, nI_shl, nI_shr, ne_eq, and_true, true_and, eq_self, true_or, or_true, false_or, or_false, Option.toList, List.cons_append, List.nil_append, List.length_nil, List.length_cons, Nat.not_lt_zero, bX1_measure_43, Nat.le_refl]
        refine wp_blk kX1_measure_95 ?_
        simp (disch := first | decide | omega) only [mxa, vxa, vxb, vxc, vnd, vne, Nat.reduceAdd, Nat.reduceSub, Nat.reduceLeDiff, Nat.reduceLT, Int32.reduceLT, Int32.reduceLE, Int32.reduceAdd, Int32.reduceSub, Int32.reduceMul, Int32.reduceToNatClampNeg, not_false_eq_true, not_true_eq_false, false_implies, true_implies, Nat.zero_add, reduceIte, Nat.reduceMul, Nat.reduceEqDiff, nxa, nxc, lgn, nL_of, swx, Int.reduceAdd, gI_a, gI_k, gL_a, gL_k, gI_r, gL_r, nI_and, nI_or, nI_xor, nI_ndf, nI_shl, nI_shr, ne_eq, and_true, true_and, eq_self, true_or, or_true, false_or, or_false, Option.toList, List.cons_append, List.nil_append, List.length_nil, List.length_cons, Nat.not_lt_zero, bX1_measure_95, e1]
        refine Wp.fog 6 (Wp.fog 7 ?_)
        exact hP R (fun f hf => h1 f hf)) (fun R hR => by
    refine wp_blk kX1_measure_26 ?_
    simp (disch := first | decide | omega) only [mxa, vxa, vxb, vxc, vnd, vne, Nat.reduceAdd, Nat.reduceSub, Nat.reduceLeDiff, Nat.reduceLT, Int32.reduceLT, Int32.reduceLE, Int32.reduceAdd, Int32.reduceSub, Int32.reduceMul, Int32.reduceToNatClampNeg, not_false_eq_true, not_true_eq_false, false_implies, true_implies, Nat.zero_add, reduceIte, Nat.reduceMul, Nat.reduceEqDiff, nxa, nxc, lgn, nL_of, swx, Int.reduceAdd, gI_a, gI_k, gL_a, gL_k, gI_r, gL_r, nI_and, nI_or, nI_xor, nI_ndf, nI_shl, nI_shr, ne_eq, and_true, true_and, eq_self, true_or, or_true, false_or, or_false, Option.toList, List.cons_append, List.nil_append, List.length_nil, List.length_cons, Nat.not_lt_zero, bX1_measure_26, show N ≤ N - 1 + 1 by omega]
    exact fin (N - 1) (by omega) (Or.inl rfl) R hR _ _ _)
  have e1 : 1 * 2 ^ a = bP (Wk E N a 0) N := bP_one ha
  have e2 : 1 * 2 ^ a = bP (fun f => Wk E N a 0 f ∧ ¬ Wkp E N a 0 f) N := e1.trans (bP_eq (fun i _ => ⟨fun z => ⟨z, fun y => y⟩, fun z => z.1⟩))
  have k0 : ∀ f, f < N → upd (fun j => if j < 10 then nI 1048576 else gI σ 159 j) a (nI 0) f = nI (stD E N a 0 f) := fun f hf => by
    by_cases e : f = a
    · rw [e, upd_s]
      exact congrArg nI (if_pos rfl).symm
    · rw [upd_n e, if_pos (by omega)]
      exact congrArg nI (if_neg e).symm
  have := go _ k0
  rw [← e1, ← e2] at this
  exact this
/-- the least distance of those whom a owes -/
noncomputable def mlE (E : Nat → Nat → Prop) (D : Nat → Nat) (a : Nat) : Nat → Nat
  | 0 => 1048576
  | n + 1 => by
    classical
    exact if E a n then min (mlE E D a n) (D n) else mlE E D a n
theorem mlE_y {E : Nat → Nat → Prop} {D : Nat → Nat} {a n : Nat} (h : E a n) : mlE E D a (n + 1) = min (mlE E D a n) (D n) := if_pos h
theorem mlE_n {E : Nat → Nat → Prop} {D : Nat → Nat} {a n : Nat} (h : ¬ E a n) : mlE E D a (n + 1) = mlE E D a n := if_neg h
theorem mlE_le {E : Nat → Nat → Prop} {D : Nat → Nat} {a f : Nat} (h : E a f) : ∀ {n : Nat}, f < n → mlE E D a n ≤ D f
  | n + 1, hn => by
    by_cases e : f = n
    · subst e; rw [mlE_y h]; omega
    · have := mlE_le (D := D) h (show f < n by omega)
      by_cases q : E a n
      · rw [mlE_y q]; omega
      · rw [mlE_n q]; omega
theorem mlE_at {E : Nat → Nat → Prop} {D : Nat → Nat} {a : Nat} : ∀ n, mlE E D a n = 1048576 ∨ ∃ f, f < n ∧ E a f ∧ mlE E D a n = D f
  | 0 => Or.inl rfl
  | n + 1 => by
    rcases mlE_at (E := E) (D := D) (a := a) n with h | ⟨f, f1, f2, f3⟩
    · by_cases q : E a n
      · rw [mlE_y q]
        by_cases z : mlE E D a n ≤ D n
        · exact Or.inl (by omega)
        · exact Or.inr ⟨n, by omega, q, by omega⟩
      · rw [mlE_n q]; exact Or.inl h
    · by_cases q : E a n
      · rw [mlE_y q]
        by_cases z : mlE E D a n ≤ D n
        · exact Or.inr ⟨f, by omega, f2, by omega⟩
        · exact Or.inr ⟨n, by omega, q, by omega⟩
      · rw [mlE_n q]; exact Or.inr ⟨f, by omega, f2, f3⟩
theorem mlE_cap {E : Nat → Nat → Prop} {D : Nat → Nat} {a : Nat} : ∀ n, mlE E D a n ≤ 1048576
  | 0 => Nat.le_refl _
  | n + 1 => by
    have := mlE_cap (E := E) (D := D) (a := a) n
    by_cases q : E a n
    · rw [mlE_y q]; omega
    · rw [mlE_n q]; exact this
noncomputable def lstP (p : Nat → Prop) : Nat := by
  classical
  exact if h : ∃ k, p k then Classical.choose (pk_least p h) else 0
theorem lstP_ok {p : Nat → Prop} (h : ∃ k, p k) : p (lstP p) ∧ ∀ j, j < lstP p → ¬ p j := by
  unfold lstP
  rw [dif_pos h]
  exact Classical.choose_spec (pk_least p h)
theorem lstP_eq {p q : Nat → Prop} (h : ∀ k, p k ↔ q k) : lstP p = lstP q := by
  have : p = q := funext fun k => propext (h k)
  rw [this]
/-- the ring from a, of length L -/
noncomputable def chR (E : Nat → Nat → Prop) (N a L : Nat) : Nat → Nat
  | 0 => a
  | i + 1 => lstP (fun f => f < N ∧ E (chR E N a L i) f ∧ ds E N a f = L - (i + 1))
theorem chR_ok {E : Nat → Nat → Prop} {N a L : Nat} (ha : a < N) (hN : N ≤ 10) (hL : L = mlE E (ds E N a) a N + 1) (hl : mlE E (ds E N a) a N < N) : ∀ i, i < L → chR E N a L i < N ∧ (0 < i → ds E N a (chR E N a L i) = L - i ∧ E (chR E N a L (i - 1)) (chR E N a L i) ∧ ∀ j, j < chR E N a L i → ¬ (j < N ∧ E (chR E N a L (i - 1)) j ∧ ds E N a j = L - i))
  | 0, _ => ⟨ha, fun q => absurd q (by omega)⟩
  | i + 1, hi => by
    have hD : isD E N a 1048576 (ds E N a) := ds_isD ha hN (Or.inl rfl) (by omega)
    obtain ⟨h1, h2⟩ := chR_ok ha hN hL hl i (by omega)
    have ex : ∃ f, f < N ∧ E (chR E N a L i) f ∧ ds E N a f = L - (i + 1) := by
      by_cases h0 : i = 0
      · subst h0
        rcases mlE_at (E := E) (D := ds E N a) (a := a) N with q | ⟨f, f1, f2, f3⟩
        · omega
        · exact ⟨f, f1, f2, by omega⟩
      · obtain ⟨q1, -, -⟩ := h2 (by omega)
        obtain ⟨g, g1, g2, g3⟩ := isD_next hD ha h1 (by omega) (by omega)
        exact ⟨g, g1, g2, by omega⟩
    obtain ⟨k1, k2⟩ := lstP_ok ex
    exact ⟨k1.1, fun _ => ⟨k1.2.2, k1.2.1, k2⟩⟩
