/-! groups: what the class surveys -/
set_option maxRecDepth 20000
theorem bit_add {f r i : Nat} (h : r < 2 ^ f) : (2 ^ f + r).testBit i = (decide (i = f) || r.testBit i) := by
  rcases (by omega : i < f ∨ i = f ∨ f < i) with q | q | q
  · rw [Nat.testBit_two_pow_add_gt q]
    simp [show ¬ i = f by omega]
  · subst q
    rw [Nat.testBit_two_pow_add_eq, Nat.testBit_lt_two_pow h]
    simp
  · have h2 : 2 ^ f + r < 2 ^ i := by
      have : 2 ^ (f + 1) ≤ 2 ^ i := Nat.pow_le_pow_right (by omega) q
      rw [Nat.pow_succ] at this
      omega
    have h3 : r < 2 ^ i := by omega
    rw [Nat.testBit_lt_two_pow h2, Nat.testBit_lt_two_pow h3]
    simp [show ¬ i = f by omega]
def gdS (V : Nat → Int32) (N s : Nat) : Prop := (∀ f, f < N → s.testBit f = true → 0 < wsN V f) ∧ ∀ f g, f < N → g < N → s.testBit f = true → s.testBit g = true → ¬ V (119 + 10 * f + g) = nI 1
def sW (V : Nat → Int32) (N s : Nat) : Nat := sumN (fun f => if s.testBit f = true then wsN V f else 0) N
noncomputable def tT (V : Nat → Int32) (N s : Nat) : Int32 := by
  classical
  exact if gdS V N s then nI (sW V N s) else -1
theorem tT_y {V : Nat → Int32} {N s : Nat} (h : gdS V N s) : tT V N s = nI (sW V N s) := if_pos h
theorem tT_n {V : Nat → Int32} {N s : Nat} (h : ¬ gdS V N s) : tT V N s = -1 := if_neg h
noncomputable def ofB (V : Nat → Int32) (N O s : Nat) : Nat := bP (fun o => gdS V N s ∧ sW V N s = zN V o) O
def fil (V : Nat → Int32) (N O s : Nat) : Prop := ∃ o, o < O ∧ gdS V N s ∧ sW V N s = zN V o
theorem ofB_0 {V : Nat → Int32} {N O s : Nat} : ofB V N O s = 0 ↔ ¬ fil V N O s := by
  constructor
  · rintro h ⟨o, ho, h1⟩
    exact bP_0 (fun o => gdS V N s ∧ sW V N s = zN V o) h o ho h1
  · intro h
    refine bit_eq (fun i => ?_)
    rw [Nat.zero_testBit]
    exact bP_no (fun o => gdS V N s ∧ sW V N s = zN V o) (fun z => h ⟨i, z.1, z.2⟩)
theorem ofB_lt {V : Nat → Int32} {N O s : Nat} (hO : O ≤ 3) : ofB V N O s < 8 := Nat.lt_of_lt_of_le (bP_lt _ _) (Nat.pow_le_pow_right (n := 2) (by omega) hO)
theorem sumN_at1 {g h : Nat → Nat} {f x : Nat} (he : ∀ i, i ≠ f → h i = g i) (hf : h f = g f + x) : ∀ n, sumN h n = sumN g n + (if f < n then x else 0)
  | 0 => rfl
  | n + 1 => by
    show sumN h n + h n = sumN g n + g n + _
    rw [sumN_at1 he hf n]
    by_cases e : n = f
    · subst e
      rw [if_neg (by omega), if_pos (by omega), hf]; omega
    · rw [he n e]
      by_cases q : f < n
      · rw [if_pos q, if_pos (by omega)]; omega
      · rw [if_neg q, if_neg (by omega)]; omega
theorem sW_add {V : Nat → Int32} {N f r : Nat} (hf : f < N) (hr : r < 2 ^ f) : sW V N (2 ^ f + r) = sW V N r + wsN V f := by
  have h1 : ∀ i, i ≠ f → (if (2 ^ f + r).testBit i = true then wsN V i else 0) = (if r.testBit i = true then wsN V i else 0) := fun i hi => by
    rw [bit_add hr]
    simp [hi]
  have h2 : (if (2 ^ f + r).testBit f = true then wsN V f else 0) = (if r.testBit f = true then wsN V f else 0) + wsN V f := by
    rw [bit_add hr, Nat.testBit_lt_two_pow hr]
    simp
  have := sumN_at1 (g := fun i => if r.testBit i = true then wsN V i else 0) (h := fun i => if (2 ^ f + r).testBit i = true then wsN V i else 0) h1 h2 N
  rw [if_pos hf] at this
  exact this
theorem gdS_add {V : Nat → Int32} {t N O K f r : Nat} (hG : Gd V t N O K) (hf : f < N) (hr : r < 2 ^ f) : gdS V N (2 ^ f + r) ↔ 0 < wsN V f ∧ gdS V N r ∧ qm V f &&& r = 0 := by
  have hN := hG.1.2
  have b : ∀ i, (2 ^ f + r).testBit i = true ↔ i = f ∨ r.testBit i = true := fun i => by rw [bit_add hr]; simp
  constructor
  · rintro ⟨h1, h2⟩
    refine ⟨h1 f hf ((b f).mpr (Or.inl rfl)), ⟨fun g hg q => h1 g hg ((b g).mpr (Or.inr q)), fun g g' hg hg' q q' => h2 g g' hg hg' ((b g).mpr (Or.inr q)) ((b g').mpr (Or.inr q'))⟩, ?_⟩
    refine Classical.byContradiction (fun z => ?_)
    obtain ⟨i, i1, i2⟩ := and_ne.mp z
    rw [qm_bit] at i1
    simp only [qq, Bool.and_eq_true, decide_eq_true_eq] at i1
    have hi : i < N := by
      rcases Nat.lt_or_ge i f with q | q
      · omega
      · rw [Nat.testBit_lt_two_pow (Nat.lt_of_lt_of_le hr (Nat.pow_le_pow_right (by omega) q))] at i2
        cases i2
    exact h2 f i hf hi ((b f).mpr (Or.inl rfl)) ((b i).mpr (Or.inr i2)) i1.2
  · rintro ⟨h1, ⟨h2, h3⟩, h4⟩
    have nq : ∀ i, i < 10 → r.testBit i = true → ¬ V (119 + 10 * f + i) = nI 1 := fun i hi hb e => by
      refine absurd h4 (and_ne.mpr ⟨i, ?_, hb⟩)
      rw [qm_bit]
      simp only [qq, Bool.and_eq_true, decide_eq_true_eq]
      exact ⟨hi, e⟩
    have sym := hG.2.2.2.2.2.2.2.2.1.1
    refine ⟨fun g hg q => ?_, fun g g' hg hg' q q' => ?_⟩
    · rcases (b g).mp q with e | e
      · rw [e]; exact h1
      · exact h2 g hg e
    · rcases (b g).mp q with e | e
      · rcases (b g').mp q' with e' | e'
        · rw [e, e', hG.2.2.2.2.2.2.2.2.1.2.1 f (by omega)]
          decide
        · rw [e]; exact nq g' (by omega) e'
      · rcases (b g').mp q' with e' | e'
        · rw [e', (sym g f (by omega) (by omega)).2]; exact nq g (by omega) e
        · exact h3 g g' hg hg' e e'
theorem sW_le {V : Nat → Int32} {t N O K s : Nat} (hG : Gd V t N O K) : sW V N s ≤ 990 := by
  have hN := hG.1.2
  have : sW V N s ≤ 99 * N := sumN_le (fun f hf => by
    have := (wsN_ok hG hf).2
    split <;> omega)
  omega
theorem cntP_y {p : Nat → Prop} {n : Nat} (h : p n) : cntP p (n + 1) = cntP p n + 1 := by
  conv => lhs; unfold cntP
  rw [if_pos h]
theorem cntP_no {p : Nat → Prop} {n : Nat} (h : ¬ p n) : cntP p (n + 1) = cntP p n := by
  conv => lhs; unfold cntP
  rw [if_neg h, Nat.add_zero]
noncomputable def wsh (V : Nat → Int32) (n : Nat) : Nat := bP (fun f => 0 < wsN V f) n
/-- what the survey leaves -/
def SV (V : Nat → Int32) (N O : Nat) (σ : Mm) : Prop := gI σ 151 7 = nI (2 ^ N - 1) ∧ gI σ 151 0 = nI (wsh V N) ∧ gI σ 151 9 = nI (cntP (fil V N O) (2 ^ N)) ∧ (∀ s, s < 2 ^ N → gI σ 152 s = tT V N s) ∧ ∀ s, s < 2 ^ N → fil V N O s → gI σ 154 (cntP (fil V N O) s) = nI s
theorem c_ovensFilled (X : Cx) (d : Nat) (σ : Mm) (V : Nat → Int32) (t N O K s : Nat) (hs : Sh σ) (hr : Rf σ) (hG : Gd V t N O K) (o1 : gI σ 1 1 = nI O) (o2 : ∀ o, o < O → gI σ 3 o = nI (zN V o)) (hs10 : s < 1024) (hT : gI σ 152 s = tT V N s) (Q : Po) (hQ : Q (some (.int (nI (ofB V N O s)))) σ) : Call X d 0 0 mX3_ovensFilled [.ref 151, .ref 1, .int (nI s)] σ Q := by
  have hO3 := hG.2.1.2
  have sl := sW_le (s := s) hG
  refine call_of eX3_ovensFilled rfl ?_
  refine wp_blk kX3_ovensFilled_0 ?_
  simp (disch := first | decide | omega) only [mxa, vxa, vxb, vxc, vnd, vne, Nat.reduceAdd, Nat.reduceSub, Nat.reduceLeDiff, Nat.reduceLT, Int32.reduceLT, Int32.reduceLE, Int32.reduceAdd, Int32.reduceSub, Int32.reduceMul, Int32.reduceToNatClampNeg, not_false_eq_true, not_true_eq_false, false_implies, true_implies, Nat.zero_add, reduceIte, Nat.reduceMul, Nat.reduceEqDiff, nxa, nxc, lgn, nL_of, swx, Int.reduceAdd, gI_a, gI_k, gL_a, gL_k, gI_r, gL_r, nI_and, nI_or, nI_xor, nI_ndf, nI_shl, nI_shr, ne_eq, and_true, true_and, eq_self, true_or, or_true, false_or, or_false, Option.toList, List.cons_append, List.nil_append, List.length_nil, List.length_cons, Nat.not_lt_zero, bX3_ovensFilled_0]
  refine wfor (fun o => Wp X mX3_ovensFilled (rmo d 0 0) d Q 0 0 5 [some (.ref 151), some (.ref 1), some (.int (nI s)), some (.int (nI (bP (fun o => gdS V N s ∧ sW V N s = zN V o) o))), some (.int (nI o))] [] σ) O (fun o ho hP => ?_) ?_
  · obtain ⟨z1, z2, z3⟩ := zN_ok hG ho
    by_cases h : gdS V N s ∧ sW V N s = zN V o
    · rw [← bP_y (fun o => gdS V N s ∧ sW V N s = zN V o) h] at hP
      refine wp_blk kX3_ovensFilled_5 ?_
      simp (disch := first | decide | omega) only [mxa, vxa, vxb, vxc, vnd, vne, Nat.reduceAdd, Nat.reduceSub, Nat.reduceLeDiff, Nat.reduceLT, Int32.reduceLT, Int32.reduceLE, Int32.reduceAdd, Int32.reduceSub, Int32.reduceMul, Int32.reduceToNatClampNeg, not_false_eq_true, not_true_eq_false, false_implies, true_implies, Nat.zero_add, reduceIte, Nat.reduceMul, Nat.reduceEqDiff, nxa, nxc, lgn, nL_of, swx, Int.reduceAdd, gI_a, gI_k, gL_a, gL_k, gI_r, gL_r, nI_and, nI_or, nI_xor, nI_ndf, nI_shl, nI_shr, ne_eq, and_true, true_and, eq_self, true_or, or_true, false_or, or_false, Option.toList, List.cons_append, List.nil_append, List.length_nil, List.length_cons, Nat.not_lt_zero, bX3_ovensFilled_5, kdx hs, grx hr, o1, o2 o ho, hT, show tT V N s = nI (zN V o) by rw [tT_y h.1, h.2], show ¬ O ≤ o by omega]
      refine wp_blk kX3_ovensFilled_37 ?_
      simp (disch := first | decide | omega) only [mxa, vxa, vxb, vxc, vnd, vne, Nat.reduceAdd, Nat.reduceSub, Nat.reduceLeDiff, Nat.reduceLT, Int32.reduceLT, Int32.reduceLE, Int32.reduceAdd, Int32.reduceSub, Int32.reduceMul, Int32.reduceToNatClampNeg, not_false_eq_true, not_true_eq_false, false_implies, true_implies, Nat.zero_add, reduceIte, Nat.reduceMul, Nat.reduceEqDiff, nxa, nxc, lgn, nL_of, swx, Int.reduceAdd, gI_a, gI_k, gL_a, gL_k, gI_r, gL_r, nI_and, nI_or, nI_xor, nI_ndf, nI_shl, nI_shr, ne_eq, and_true, true_and, eq_self, true_or, or_true, false_or, or_false, Option.toList, List.cons_append, List.nil_append, List.length_nil, List.length_cons, Nat.not_lt_zero, bX3_ovensFilled_37]
      exact hP
    · rw [bP_n (fun o => gdS V N s ∧ sW V N s = zN V o) h] at hP
      by_cases hg : gdS V N s
      · refine wp_blk kX3_ovensFilled_5 ?_
        simp (disch := first | decide | omega) only [mxa, vxa, vxb, vxc, vnd, vne, Nat.reduceAdd, Nat.reduceSub, Nat.reduceLeDiff, Nat.reduceLT, Int32.reduceLT, Int32.reduceLE, Int32.reduceAdd, Int32.reduceSub, Int32.reduceMul, Int32.reduceToNatClampNeg, not_false_eq_true, not_true_eq_false, false_implies, true_implies, Nat.zero_add, reduceIte, Nat.reduceMul, Nat.reduceEqDiff, nxa, nxc, lgn, nL_of, swx, Int.reduceAdd, gI_a, gI_k, gL_a, gL_k, gI_r, gL_r, nI_and, nI_or, nI_xor, nI_ndf, nI_shl, nI_shr, ne_eq, and_true, true_and, eq_self, true_or, or_true, false_or, or_false, Option.toList, List.cons_append, List.nil_append, List.length_nil, List.length_cons, Nat.not_lt_zero, bX3_ovensFilled_5, kdx hs, grx hr, o1, o2 o ho, hT, tT_y hg, show ¬ sW V N s = zN V o from fun q => h ⟨hg, q⟩, show ¬ O ≤ o by omega]
        refine wp_blk kX3_ovensFilled_37 ?_
        simp (disch := first | decide | omega) only [mxa, vxa, vxb, vxc, vnd, vne, Nat.reduceAdd, Nat.reduceSub, Nat.reduceLeDiff, Nat.reduceLT, Int32.reduceLT, Int32.reduceLE, Int32.reduceAdd, Int32.reduceSub, Int32.reduceMul, Int32.reduceToNatClampNeg, not_false_eq_true, not_true_eq_false, false_implies, true_implies, Nat.zero_add, reduceIte, Nat.reduceMul, Nat.reduceEqDiff, nxa, nxc, lgn, nL_of, swx, Int.reduceAdd, gI_a, gI_k, gL_a, gL_k, gI_r, gL_r, nI_and, nI_or, nI_xor, nI_ndf, nI_shl, nI_shr, ne_eq, and_true, true_and, eq_self, true_or, or_true, false_or, or_false, Option.toList, List.cons_append, List.nil_append, List.length_nil, List.length_cons, Nat.not_lt_zero, bX3_ovensFilled_37]
        exact hP
      · have ne : ¬ (-1 : Int32) = nI (zN V o) := fun q => nI_m1 (by omega) q.symm
        refine wp_blk kX3_ovensFilled_5 ?_
        simp (disch := first | decide | omega) only [mxa, vxa, vxb, vxc, vnd, vne, Nat.reduceAdd, Nat.reduceSub, Nat.reduceLeDiff, Nat.reduceLT, Int32.reduceLT, Int32.reduceLE, Int32.reduceAdd, Int32.reduceSub, Int32.reduceMul, Int32.reduceToNatClampNeg, not_false_eq_true, not_true_eq_false, false_implies, true_implies, Nat.zero_add, reduceIte, Nat.reduceMul, Nat.reduceEqDiff, nxa, nxc, lgn, nL_of, swx, Int.reduceAdd, gI_a, gI_k, gL_a, gL_k, gI_r, gL_r, nI_and, nI_or, nI_xor, nI_ndf, nI_shl, nI_shr, ne_eq, and_true, true_and, eq_self, true_or, or_true, false_or, or_false, Option.toList, List.cons_append, List.nil_append, List.length_nil, List.length_cons, Nat.not_lt_zero, bX3_ovensFilled_5, kdx hs, grx hr, o1, o2 o ho, hT, tT_n hg, ne, show ¬ O ≤ o by omega]
        refine wp_blk kX3_ovensFilled_37 ?_
        simp (disch := first | decide | omega) only [mxa, vxa, vxb, vxc, vnd, vne, Nat.reduceAdd, Nat.reduceSub, Nat.reduceLeDiff, Nat.reduceLT, Int32.reduceLT, Int32.reduceLE, Int32.reduceAdd, Int32.reduceSub, Int32.reduceMul, Int32.reduceToNatClampNeg, not_false_eq_true, not_true_eq_false, false_implies, true_implies, Nat.zero_add, reduceIte, Nat.reduceMul, Nat.reduceEqDiff, nxa, nxc, lgn, nL_of, swx, Int.reduceAdd, gI_a, gI_k, gL_a, gL_k, gI_r, gL_r, nI_and, nI_or, nI_xor, nI_ndf, nI_shl, nI_shr, ne_eq, and_true, true_and, eq_self, true_or, or_true, false_or, or_false, Option.toList, List.cons_append, List.nil_append, List.length_nil, List.length_cons, Nat.not_lt_zero, bX3_ovensFilled_37]
        exact hP
  · refine wp_blk kX3_ovensFilled_5 ?_
    simp (disch := first | decide | omega) only [mxa, vxa, vxb, vxc, vnd, vne, Nat.reduceAdd, Nat.reduceSub, Nat.reduceLeDiff, Nat.reduceLT, Int32.reduceLT, Int32.reduceLE, Int32.reduceAdd, Int32.reduceSub, Int32.reduceMul, Int32.reduceToNatClampNeg, not_false_eq_true, not_true_eq_false, false_implies, true_implies, Nat.zero_add, reduceIte, Nat.reduceMul, Nat.reduceEqDiff, nxa, nxc, lgn, nL_of, swx, Int.reduceAdd, gI_a, gI_k, gL_a, gL_k, gI_r, gL_r, nI_and, nI_or, nI_xor, nI_ndf, nI_shl, nI_shr, ne_eq, and_true, true_and, eq_self, true_or, or_true, false_or, or_false, Option.toList, List.cons_append, List.nil_append, List.length_nil, List.length_cons, Nat.not_lt_zero, bX3_ovensFilled_5, kdx hs, grx hr, o1, Nat.le_refl]
    refine wp_blk kX3_ovensFilled_43 ?_
    simp (disch := first | decide | omega) only [mxa, vxa, vxb, vxc, vnd, vne, Nat.reduceAdd, Nat.reduceSub, Nat.reduceLeDiff, Nat.reduceLT, Int32.reduceLT, Int32.reduceLE, Int32.reduceAdd, Int32.reduceSub, Int32.reduceMul, Int32.reduceToNatClampNeg, not_false_eq_true, not_true_eq_false, false_implies, true_implies, Nat.zero_add, reduceIte, Nat.reduceMul, Nat.reduceEqDiff, nxa, nxc, lgn, nL_of, swx, Int.reduceAdd, gI_a, gI_k, gL_a, gL_k, gI_r, gL_r, nI_and, nI_or, nI_xor, nI_ndf, nI_shl, nI_shr, ne_eq, and_true, true_and, eq_self, true_or, or_true, false_or, or_false, Option.toList, List.cons_append, List.nil_append, List.length_nil, List.length_cons, Nat.not_lt_zero, bX3_ovensFilled_43]
    exact hQ
theorem c_totalWith (X : Cx) (d : Nat) (σ : Mm) (V : Nat → Int32) (t N O K f r a : Nat) (hs : Sh σ) (hr : Rf σ) (hG : Gd V t N O K) (hf : f < N) (hr2 : r < 2 ^ f) (hk : kd σ a = some (0, 2)) (h2 : gI σ a 2 = nI (wsN V f)) (h6 : gI σ a 6 = nI (qm V f)) (hT : gI σ 152 r = tT V N r) (Q : Po) (hQ : Q (some (.int (tT V N (2 ^ f + r)))) σ) : Call X d 0 0 mX3_totalWith [.ref 151, .ref a, .int (nI r)] σ Q := by
  have hN := hG.1.2
  have pf : 2 ^ f ≤ 2 ^ 9 := Nat.pow_le_pow_right (by omega) (by omega)
  have wl := (wsN_ok hG hf).2
  have sl := sW_le (s := r) hG
  have ql := qm_lt V f
  have al : qm V f &&& r ≤ qm V f := Nat.and_le_left
  have ga := gdS_add hG hf hr2
  have no : ¬ gdS V N (2 ^ f + r) → Wp X mX3_totalWith (rmo d 0 0) d Q 0 0 29 [some (.ref 151), some (.ref a), some (.int (nI r)), none] [] σ := by
    intro hn
    rw [tT_n hn] at hQ
    repeat (first | ((with_reducible refine wp_blk kX3_totalWith_0 ?_); simp (disch := first | decide | omega) only [mxa, vxa, vxb, vxc, vnd, vne, Nat.reduceAdd, Nat.reduceSub, Nat.reduceLeDiff, Nat.reduceLT, Int32.reduceLT, Int32.reduceLE, Int32.reduceAdd, Int32.reduceSub, Int32.reduceMul, Int32.reduceToNatClampNeg, not_false_eq_true, not_true_eq_false, false_implies, true_implies, Nat.zero_add, reduceIte, Nat.reduceMul, Nat.reduceEqDiff, nxa, nxc, lgn, nL_of, swx, Int.reduceAdd, gI_a, gI_k, gL_a, gL_k, gI_r, gL_r, nI_and, nI_or, nI_xor, nI_ndf, nI_shl, nI_shr, ne_eq, and_true, true_and, eq_self, true_or, or_true, false_or, or_false, Option.toList, List.cons_append, List.nil_append, List.length_nil, List.length_cons, Nat.not_lt_zero, bX3_totalWith_0]) | ((with_reducible refine wp_blk kX3_totalWith_29 ?_); simp (disch := first | decide | omega) only [mxa, vxa, vxb, vxc, vnd, vne, Nat.reduceAdd, Nat.reduceSub, Nat.reduceLeDiff, Nat.reduceLT, Int32.reduceLT, Int32.reduceLE, Int32.reduceAdd, Int32.reduceSub, Int32.reduceMul, Int32.reduceToNatClampNeg, not_false_eq_true, not_true_eq_false, false_implies, true_implies, Nat.zero_add, reduceIte, Nat.reduceMul, Nat.reduceEqDiff, nxa, nxc, lgn, nL_of, swx, Int.reduceAdd, gI_a, gI_k, gL_a, gL_k, gI_r, gL_r, nI_and, nI_or, nI_xor, nI_ndf, nI_shl, nI_shr, ne_eq, and_true, true_and, eq_self, true_or, or_true, false_or, or_false, Option.toList, List.cons_append, List.nil_append, List.length_nil, List.length_cons, Nat.not_lt_zero, bX3_totalWith_29]) | ((with_reducible refine wp_blk kX3_totalWith_30 ?_); simp (disch := first | decide | omega) only [mxa, vxa, vxb, vxc, vnd, vne, Nat.reduceAdd, Nat.reduceSub, Nat.reduceLeDiff, Nat.reduceLT, Int32.reduceLT, Int32.reduceLE, Int32.reduceAdd, Int32.reduceSub, Int32.reduceMul, Int32.reduceToNatClampNeg, not_false_eq_true, not_true_eq_false, false_implies, true_implies, Nat.zero_add, reduceIte, Nat.reduceMul, Nat.reduceEqDiff, nxa, nxc, lgn, nL_of, swx, Int.reduceAdd, gI_a, gI_k, gL_a, gL_k, gI_r, gL_r, nI_and, nI_or, nI_xor, nI_ndf, nI_shl, nI_shr, ne_eq, and_true, true_and, eq_self, true_or, or_true, false_or, or_false, Option.toList, List.cons_append, List.nil_append, List.length_nil, List.length_cons, Nat.not_lt_zero, bX3_totalWith_30]) | ((with_reducible refine wp_blk kX3_totalWith_49 ?_); simp (disch := first | decide | omega) only [mxa, vxa, vxb, vxc, vnd, vne, Nat.reduceAdd, Nat.reduceSub, Nat.reduceLeDiff, Nat.reduceLT, Int32.reduceLT, Int32.reduceLE, Int32.reduceAdd, Int32.reduceSub, Int32.reduceMul, Int32.reduceToNatClampNeg, not_false_eq_true, not_true_eq_false, false_implies, true_implies, Nat.zero_add, reduceIte, Nat.reduceMul, Nat.reduceEqDiff, nxa, nxc, lgn, nL_of, swx, Int.reduceAdd, gI_a, gI_k, gL_a, gL_k, gI_r, gL_r, nI_and, nI_or, nI_xor, nI_ndf, nI_shl, nI_shr, ne_eq, and_true, true_and, eq_self, true_or, or_true, false_or, or_false, Option.toList, List.cons_append, List.nil_append, List.length_nil, List.length_cons, Nat.not_lt_zero, bX3_totalWith_49]) | ((with_reducible refine wp_blk kX3_totalWith_50 ?_); simp (disch := first | decide | omega) only [mxa, vxa, vxb, vxc, vnd, vne, Nat.reduceAdd, Nat.reduceSub, Nat.reduceLeDiff, Nat.reduceLT, Int32.reduceLT, Int32.reduceLE, Int32.reduceAdd, Int32.reduceSub, Int32.reduceMul, Int32.reduceToNatClampNeg, not_false_eq_true, not_true_eq_false, false_implies, true_implies, Nat.zero_add, reduceIte, Nat.reduceMul, Nat.reduceEqDiff, nxa, nxc, lgn, nL_of, swx, Int.reduceAdd, gI_a, gI_k, gL_a, gL_k, gI_r, gL_r, nI_and, nI_or, nI_xor, nI_ndf, nI_shl, nI_shr, ne_eq, and_true, true_and, eq_self, true_or, or_true, false_or, or_false, Option.toList, List.cons_append, List.nil_append, List.length_nil, List.length_cons, Nat.not_lt_zero, bX3_totalWith_50]))
    exact hQ
  by_cases w0 : 0 < wsN V f
  · by_cases hg : gdS V N r
    · by_cases hq : qm V f &&& r = 0
      · have y := ga.mpr ⟨w0, hg, hq⟩
        rw [tT_y y, sW_add hf hr2] at hQ
        refine call_of eX3_totalWith rfl ?_
        refine wp_blk kX3_totalWith_0 ?_
        simp (disch := first | decide | omega) only [mxa, vxa, vxb, vxc, vnd, vne, Nat.reduceAdd, Nat.reduceSub, Nat.reduceLeDiff, Nat.reduceLT, Int32.reduceLT, Int32.reduceLE, Int32.reduceAdd, Int32.reduceSub, Int32.reduceMul, Int32.reduceToNatClampNeg, not_false_eq_true, not_true_eq_false, false_implies, true_implies, Nat.zero_add, reduceIte, Nat.reduceMul, Nat.reduceEqDiff, nxa, nxc, lgn, nL_of, swx, Int.reduceAdd, gI_a, gI_k, gL_a, gL_k, gI_r, gL_r, nI_and, nI_or, nI_xor, nI_ndf, nI_shl, nI_shr, ne_eq, and_true, true_and, eq_self, true_or, or_true, false_or, or_false, Option.toList, List.cons_append, List.nil_append, List.length_nil, List.length_cons, Nat.not_lt_zero, bX3_totalWith_0, kdx hs, grx hr, hk, h2, h6, hT, tT_y hg, hq, show ¬ wsN V f ≤ 0 by omega]
        repeat (first | ((with_reducible refine wp_blk kX3_totalWith_0 ?_); simp (disch := first | decide | omega) only [mxa, vxa, vxb, vxc, vnd, vne, Nat.reduceAdd, Nat.reduceSub, Nat.reduceLeDiff, Nat.reduceLT, Int32.reduceLT, Int32.reduceLE, Int32.reduceAdd, Int32.reduceSub, Int32.reduceMul, Int32.reduceToNatClampNeg, not_false_eq_true, not_true_eq_false, false_implies, true_implies, Nat.zero_add, reduceIte, Nat.reduceMul, Nat.reduceEqDiff, nxa, nxc, lgn, nL_of, swx, Int.reduceAdd, gI_a, gI_k, gL_a, gL_k, gI_r, gL_r, nI_and, nI_or, nI_xor, nI_ndf, nI_shl, nI_shr, ne_eq, and_true, true_and, eq_self, true_or, or_true, false_or, or_false, Option.toList, List.cons_append, List.nil_append, List.length_nil, List.length_cons, Nat.not_lt_zero, bX3_totalWith_0, kdx hs, grx hr, hk, h2, hT, tT_y hg]) | ((with_reducible refine wp_blk kX3_totalWith_29 ?_); simp (disch := first | decide | omega) only [mxa, vxa, vxb, vxc, vnd, vne, Nat.reduceAdd, Nat.reduceSub, Nat.reduceLeDiff, Nat.reduceLT, Int32.reduceLT, Int32.reduceLE, Int32.reduceAdd, Int32.reduceSub, Int32.reduceMul, Int32.reduceToNatClampNeg, not_false_eq_true, not_true_eq_false, false_implies, true_implies, Nat.zero_add, reduceIte, Nat.reduceMul, Nat.reduceEqDiff, nxa, nxc, lgn, nL_of, swx, Int.reduceAdd, gI_a, gI_k, gL_a, gL_k, gI_r, gL_r, nI_and, nI_or, nI_xor, nI_ndf, nI_shl, nI_shr, ne_eq, and_true, true_and, eq_self, true_or, or_true, false_or, or_false, Option.toList, List.cons_append, List.nil_append, List.length_nil, List.length_cons, Nat.not_lt_zero, bX3_totalWith_29, kdx hs, grx hr, hk, h2, hT, tT_y hg]) | ((with_reducible refine wp_blk kX3_totalWith_30 ?_); simp (disch := first | decide | omega) only [mxa, vxa, vxb, vxc, vnd, vne, Nat.reduceAdd, Nat.reduceSub, Nat.reduceLeDiff, Nat.reduceLT, Int32.reduceLT, Int32.reduceLE, Int32.reduceAdd, Int32.reduceSub, Int32.reduceMul, Int32.reduceToNatClampNeg, not_false_eq_true, not_true_eq_false, false_implies, true_implies, Nat.zero_add, reduceIte, Nat.reduceMul, Nat.reduceEqDiff, nxa, nxc, lgn, nL_of, swx, Int.reduceAdd, gI_a, gI_k, gL_a, gL_k, gI_r, gL_r, nI_and, nI_or, nI_xor, nI_ndf, nI_shl, nI_shr, ne_eq, and_true, true_and, eq_self, true_or, or_true, false_or, or_false, Option.toList, List.cons_append, List.nil_append, List.length_nil, List.length_cons, Nat.not_lt_zero, bX3_totalWith_30, kdx hs, grx hr, hk, h2, hT, tT_y hg]) | ((with_reducible refine wp_blk kX3_totalWith_49 ?_); simp (disch := first | decide | omega) only [mxa, vxa, vxb, vxc, vnd, vne, Nat.reduceAdd, Nat.reduceSub, Nat.reduceLeDiff, Nat.reduceLT, Int32.reduceLT, Int32.reduceLE, Int32.reduceAdd, Int32.reduceSub, Int32.reduceMul, Int32.reduceToNatClampNeg, not_false_eq_true, not_true_eq_false, false_implies, true_implies, Nat.zero_add, reduceIte, Nat.reduceMul, Nat.reduceEqDiff, nxa, nxc, lgn, nL_of, swx, Int.reduceAdd, gI_a, gI_k, gL_a, gL_k, gI_r, gL_r, nI_and, nI_or, nI_xor, nI_ndf, nI_shl, nI_shr, ne_eq, and_true, true_and, eq_self, true_or, or_true, false_or, or_false, Option.toList, List.cons_append, List.nil_append, List.length_nil, List.length_cons, Nat.not_lt_zero, bX3_totalWith_49, kdx hs, grx hr, hk, h2, hT, tT_y hg]) | ((with_reducible refine wp_blk kX3_totalWith_50 ?_); simp (disch := first | decide | omega) only [mxa, vxa, vxb, vxc, vnd, vne, Nat.reduceAdd, Nat.reduceSub, Nat.reduceLeDiff, Nat.reduceLT, Int32.reduceLT, Int32.reduceLE, Int32.reduceAdd, Int32.reduceSub, Int32.reduceMul, Int32.reduceToNatClampNeg, not_false_eq_true, not_true_eq_false, false_implies, true_implies, Nat.zero_add, reduceIte, Nat.reduceMul, Nat.reduceEqDiff, nxa, nxc, lgn, nL_of, swx, Int.reduceAdd, gI_a, gI_k, gL_a, gL_k, gI_r, gL_r, nI_and, nI_or, nI_xor, nI_ndf, nI_shl, nI_shr, ne_eq, and_true, true_and, eq_self, true_or, or_true, false_or, or_false, Option.toList, List.cons_append, List.nil_append, List.length_nil, List.length_cons, Nat.not_lt_zero, bX3_totalWith_50, kdx hs, grx hr, hk, h2, hT, tT_y hg]))
        exact hQ
      · refine call_of eX3_totalWith rfl ?_
        refine wp_blk kX3_totalWith_0 ?_
        simp (disch := first | decide | omega) only [mxa, vxa, vxb, vxc, vnd, vne, Nat.reduceAdd, Nat.reduceSub, Nat.reduceLeDiff, Nat.reduceLT, Int32.reduceLT, Int32.reduceLE, Int32.reduceAdd, Int32.reduceSub, Int32.reduceMul, Int32.reduceToNatClampNeg, not_false_eq_true, not_true_eq_false, false_implies, true_implies, Nat.zero_add, reduceIte, Nat.reduceMul, Nat.reduceEqDiff, nxa, nxc, lgn, nL_of, swx, Int.reduceAdd, gI_a, gI_k, gL_a, gL_k, gI_r, gL_r, nI_and, nI_or, nI_xor, nI_ndf, nI_shl, nI_shr, ne_eq, and_true, true_and, eq_self, true_or, or_true, false_or, or_false, Option.toList, List.cons_append, List.nil_append, List.length_nil, List.length_cons, Nat.not_lt_zero, bX3_totalWith_0, kdx hs, grx hr, hk, h2, h6, hT, tT_y hg, hq, show ¬ wsN V f ≤ 0 by omega]
        exact no (fun q => hq (ga.mp q).2.2)
    · refine call_of eX3_totalWith rfl ?_
      refine wp_blk kX3_totalWith_0 ?_
      simp (disch := first | decide | omega) only [mxa, vxa, vxb, vxc, vnd, vne, Nat.reduceAdd, Nat.reduceSub, Nat.reduceLeDiff, Nat.reduceLT, Int32.reduceLT, Int32.reduceLE, Int32.reduceAdd, Int32.reduceSub, Int32.reduceMul, Int32.reduceToNatClampNeg, not_false_eq_true, not_true_eq_false, false_implies, true_implies, Nat.zero_add, reduceIte, Nat.reduceMul, Nat.reduceEqDiff, nxa, nxc, lgn, nL_of, swx, Int.reduceAdd, gI_a, gI_k, gL_a, gL_k, gI_r, gL_r, nI_and, nI_or, nI_xor, nI_ndf, nI_shl, nI_shr, ne_eq, and_true, true_and, eq_self, true_or, or_true, false_or, or_false, Option.toList, List.cons_append, List.nil_append, List.length_nil, List.length_cons, Nat.not_lt_zero, bX3_totalWith_0, kdx hs, grx hr, hk, h2, hT, tT_n hg, show ((-1 : Int32) < nI 0) = True from eq_true (by decide), show ¬ wsN V f ≤ 0 by omega]
      exact no (fun q => hg (ga.mp q).2.1)
  · refine call_of eX3_totalWith rfl ?_
    refine wp_blk kX3_totalWith_0 ?_
    simp (disch := first | decide | omega) only [mxa, vxa, vxb, vxc, vnd, vne, Nat.reduceAdd, Nat.reduceSub, Nat.reduceLeDiff, Nat.reduceLT, Int32.reduceLT, Int32.reduceLE, Int32.reduceAdd, Int32.reduceSub, Int32.reduceMul, Int32.reduceToNatClampNeg, not_false_eq_true, not_true_eq_false, false_implies, true_implies, Nat.zero_add, reduceIte, Nat.reduceMul, Nat.reduceEqDiff, nxa, nxc, lgn, nL_of, swx, Int.reduceAdd, gI_a, gI_k, gL_a, gL_k, gI_r, gL_r, nI_and, nI_or, nI_xor, nI_ndf, nI_shl, nI_shr, ne_eq, and_true, true_and, eq_self, true_or, or_true, false_or, or_false, Option.toList, List.cons_append, List.nil_append, List.length_nil, List.length_cons, Nat.not_lt_zero, bX3_totalWith_0, kdx hs, grx hr, hk, h2, show wsN V f ≤ 0 by omega]
    exact no (fun q => w0 (ga.mp q).1)
theorem c_survey3 (X : Cx) (d : Nat) (σ : Mm) (V : Nat → Int32) (t N O K : Nat) (hs : St σ) (hG : Gd V t N O K) (hV : VR σ 1 V N O) (Q : Po) (hQ : ∀ σ' : Mm, Fr (fun c => c = 151 ∨ c = 152 ∨ c = 154) σ σ' → SV V N O σ' → Q none σ') : Call X (d + 1) 0 0 mX3_survey [.ref 151, .ref 1] σ Q := by
  have hN10 := hG.1.2
  have hO3 := hG.2.1.2
  have pw := pow_le hN10
  have hst0 := hs.1
  have hrt0 := hs.2.1
  have e0 : gI σ 1 0 = nI N := hV.1.1.trans hG.1.1
  have e1 : gI σ 1 1 = nI O := hV.1.2.1.trans hG.2.1.1
  have e2 : ∀ o, o < O → gI σ 3 o = nI (zN V o) := fun o ho => (hV.2.1 o ho).trans (zN_ok hG ho).1
  have go := wfor (fun f => ∀ τ : Mm, Fr (fun c => c = 151 ∨ c = 152 ∨ c = 154) σ τ → gI τ 151 7 = nI (2 ^ N - 1) → gI τ 151 0 = nI (wsh V f) → gI τ 151 9 = nI (cntP (fil V N O) (2 ^ f)) → (∀ s, s < 2 ^ f → gI τ 152 s = tT V N s) → (∀ s, s < 2 ^ f → fil V N O s → gI τ 154 (cntP (fil V N O) s) = nI s) → Wp X mX3_survey (rmo (d + 1) 0 0) (d + 1) Q 0 0 31 [some (.ref 151), some (.ref 1), some (.int (nI f)), none, none, none] [] τ) N (fun f hf hP τ hF h1 h2 h3 h4 h5 => by
    have hsτ := hF.St hs
    have hst := hsτ.1
    have hrt := hsτ.2.1
    have nb : ∀ c, c < 151 → ∀ j, gI τ c j = gI σ c j := fun c hc => hF.2.2.1 c (by omega)
    have hVk := hV.keep hN10 hs (Or.inl rfl) hF.gR (fun a q1 q2 => nb a (by omega))
    obtain ⟨a1, a2, p, hp, ep⟩ := fa_ok hst hrt (Or.inl rfl) (hsτ.2.2 1 (Or.inl rfl)) (show f < 10 by omega)
    have a1' : gR τ 2 f = some (fa τ 1 f) := a1
    have pf : 2 ^ f ≤ 2 ^ 9 := Nat.pow_le_pow_right (by omega) (by omega)
    have pf2 : 2 ^ (f + 1) = 2 ^ f + 2 ^ f := by rw [Nat.pow_succ]; omega
    have pf3 : 2 ^ (f + 1) ≤ 2 ^ N := Nat.pow_le_pow_right (by omega) (by omega)
    have wl := (wsN_ok hG hf).2
    have f2 : gI τ (fa τ 1 f) 2 = nI (wsN V f) := ((hVk.2.2 f hf).1 2 (by omega)).trans (wsN_ok hG hf).1
    have f6 : gI τ (fa τ 1 f) 6 = nI (qm V f) := (hVk.2.2 f hf).2.1
    have inner : ∀ τ1 : Mm, Fr (fun c => c = 151) τ τ1 → gI τ1 151 7 = nI (2 ^ N - 1) → gI τ1 151 0 = nI (wsh V (f + 1)) → gI τ1 151 9 = nI (cntP (fil V N O) (2 ^ f)) → Wp X mX3_survey (rmo (d + 1) 0 0) (d + 1) Q 0 0 69 [some (.ref 151), some (.ref 1), some (.int (nI f)), some (.ref (fa τ 1 f)), some (.int (nI (2 ^ f))), none] [] τ1 := by
      intro τ1 F1 i1 i2 i3
      refine wp_blk kX3_survey_69 ?_
      simp (disch := first | decide | omega) only [mxa, vxa, vxb, vxc, vnd, vne, Nat.reduceAdd, Nat.reduceSub, Nat.reduceLeDiff, Nat.reduceLT, Int32.reduceLT, Int32.reduceLE, Int32.reduceAdd, Int32.reduceSub, Int32.reduceMul, Int32.reduceToNatClampNeg, not_false_eq_true, not_true_eq_false, false_implies, true_implies, Nat.zero_add, reduceIte, Nat.reduceMul, Nat.reduceEqDiff, nxa, nxc, lgn, nL_of, swx, Int.reduceAdd, gI_a, gI_k, gL_a, gL_k, gI_r, gL_r, nI_and, nI_or, nI_xor, nI_ndf, nI_shl, nI_shr, ne_eq, and_true, true_and, eq_self, true_or, or_true, false_or, or_false, Option.toList, List.cons_append, List.nil_append, List.length_nil, List.length_cons, Nat.not_lt_zero, bX3_survey_69]
      refine wfor (fun r => ∀ τ2 : Mm, Fr (fun c => c = 151 ∨ c = 152 ∨ c = 154) σ τ2 → gI τ2 151 7 = nI (2 ^ N - 1) → gI τ2 151 0 = nI (wsh V (f + 1)) → gI τ2 151 9 = nI (cntP (fil V N O) (2 ^ f + r)) → (∀ s, s < 2 ^ f + r → gI τ2 152 s = tT V N s) → (∀ s, s < 2 ^ f + r → fil V N O s → gI τ2 154 (cntP (fil V N O) s) = nI s) → Wp X mX3_survey (rmo (d + 1) 0 0) (d + 1) Q 0 0 72 [some (.ref 151), some (.ref 1), some (.int (nI f)), some (.ref (fa τ 1 f)), some (.int (nI (2 ^ f))), some (.int (nI r))] [] τ2) (2 ^ f) (fun r hr hP2 τ2 F2 j1 j2 j3 j4 j5 => ?_) (fun τ2 F2 j1 j2 j3 j4 j5 => ?_) τ1 (hF.tr (F1.mono (fun c q => by omega))) i1 i2 i3 (fun s hs' => (F1.2.2.1 152 (by omega) s).trans (h4 s hs')) (fun s hs' hf' => (F1.2.2.1 154 (by omega) _).trans (h5 s hs' hf'))
      · have st2 := (F2.St hs).1
        have rt2 := (F2.St hs).2.1
        have nb2 : ∀ c, c < 151 → ∀ j, gI τ2 c j = gI σ c j := fun c hc => F2.2.2.1 c (by omega)
        have cl : cntP (fil V N O) (2 ^ f + r) ≤ 2 ^ f + r := cntP_n _
        have fa' : kd τ2 (fa τ 1 f) = some (0, 2) := by rw [F2.kd, ← hF.kd]; exact a2.1
        refine wp_blk kX3_survey_72 ?_
        simp (disch := first | decide | omega) only [mxa, vxa, vxb, vxc, vnd, vne, Nat.reduceAdd, Nat.reduceSub, Nat.reduceLeDiff, Nat.reduceLT, Int32.reduceLT, Int32.reduceLE, Int32.reduceAdd, Int32.reduceSub, Int32.reduceMul, Int32.reduceToNatClampNeg, not_false_eq_true, not_true_eq_false, false_implies, true_implies, Nat.zero_add, reduceIte, Nat.reduceMul, Nat.reduceEqDiff, nxa, nxc, lgn, nL_of, swx, Int.reduceAdd, gI_a, gI_k, gL_a, gL_k, gI_r, gL_r, nI_and, nI_or, nI_xor, nI_ndf, nI_shl, nI_shr, ne_eq, and_true, true_and, eq_self, true_or, or_true, false_or, or_false, Option.toList, List.cons_append, List.nil_append, List.length_nil, List.length_cons, Nat.not_lt_zero, bX3_survey_72, kdx st2, grx rt2, show ¬ 2 ^ f ≤ r by omega]
        refine c_totalWith X _ τ2 V t N O K f r (fa τ 1 f) st2 rt2 hG hf hr fa' ((nb2 _ (by omega) _).trans ((nb _ (by omega) _).symm.trans f2)) ((nb2 _ (by omega) _).trans ((nb _ (by omega) _).symm.trans f6)) (j4 r (by omega)) _ ?_
        simp (disch := first | decide | omega) only [mxa, vxa, vxb, vxc, vnd, vne, Nat.reduceAdd, Nat.reduceSub, Nat.reduceLeDiff, Nat.reduceLT, Int32.reduceLT, Int32.reduceLE, Int32.reduceAdd, Int32.reduceSub, Int32.reduceMul, Int32.reduceToNatClampNeg, not_false_eq_true, not_true_eq_false, false_implies, true_implies, Nat.zero_add, reduceIte, Nat.reduceMul, Nat.reduceEqDiff, nxa, nxc, lgn, nL_of, swx, Int.reduceAdd, gI_a, gI_k, gL_a, gL_k, gI_r, gL_r, nI_and, nI_or, nI_xor, nI_ndf, nI_shl, nI_shr, ne_eq, and_true, true_and, eq_self, true_or, or_true, false_or, or_false, Option.toList, List.cons_append, List.nil_append, List.length_nil, List.length_cons, Nat.not_lt_zero, kdx st2]
        have F3 : Fr (fun c => c = 151 ∨ c = 152 ∨ c = 154) σ (sI τ2 152 (2 ^ f + r) (tT V N (2 ^ f + r))) := F2.tr (Fr.sI (by omega))
        refine c_ovensFilled X _ _ V t N O K (2 ^ f + r) (by exact st2) (by exact rt2) hG ((gI_a (by decide)).trans ((nb2 1 (by omega) 1).trans e1)) (fun o ho => (gI_a (by decide)).trans ((nb2 3 (by omega) o).trans (e2 o ho))) (by omega) (gI_same _ _ _ _) _ ?_
        have ol := ofB_lt (V := V) (N := N) (s := 2 ^ f + r) hO3
        have tot : ∀ s, s < 2 ^ f + r + 1 → gI (sI τ2 152 (2 ^ f + r) (tT V N (2 ^ f + r))) 152 s = tT V N s := fun s hs' => by
          by_cases e : s = 2 ^ f + r
          · rw [e, gI_same]
          · rw [gI_k e]; exact j4 s (by omega)
        by_cases h0 : ofB V N O (2 ^ f + r) = 0
        · have hn := ofB_0.mp h0
          simp (disch := first | decide | omega) only [mxa, vxa, vxb, vxc, vnd, vne, Nat.reduceAdd, Nat.reduceSub, Nat.reduceLeDiff, Nat.reduceLT, Int32.reduceLT, Int32.reduceLE, Int32.reduceAdd, Int32.reduceSub, Int32.reduceMul, Int32.reduceToNatClampNeg, not_false_eq_true, not_true_eq_false, false_implies, true_implies, Nat.zero_add, reduceIte, Nat.reduceMul, Nat.reduceEqDiff, nxa, nxc, lgn, nL_of, swx, Int.reduceAdd, gI_a, gI_k, gL_a, gL_k, gI_r, gL_r, nI_and, nI_or, nI_xor, nI_ndf, nI_shl, nI_shr, ne_eq, and_true, true_and, eq_self, true_or, or_true, false_or, or_false, Option.toList, List.cons_append, List.nil_append, List.length_nil, List.length_cons, Nat.not_lt_zero, h0]
          refine wp_blk kX3_survey_133 ?_
          simp (disch := first | decide | omega) only [mxa, vxa, vxb, vxc, vnd, vne, Nat.reduceAdd, Nat.reduceSub, Nat.reduceLeDiff, Nat.reduceLT, Int32.reduceLT, Int32.reduceLE, Int32.reduceAdd, Int32.reduceSub, Int32.reduceMul, Int32.reduceToNatClampNeg, not_false_eq_true, not_true_eq_false, false_implies, true_implies, Nat.zero_add, reduceIte, Nat.reduceMul, Nat.reduceEqDiff, nxa, nxc, lgn, nL_of, swx, Int.reduceAdd, gI_a, gI_k, gL_a, gL_k, gI_r, gL_r, nI_and, nI_or, nI_xor, nI_ndf, nI_shl, nI_shr, ne_eq, and_true, true_and, eq_self, true_or, or_true, false_or, or_false, Option.toList, List.cons_append, List.nil_append, List.length_nil, List.length_cons, Nat.not_lt_zero, bX3_survey_133]
          refine hP2 _ F3 ?_ ?_ ?_ (fun s hs' => tot s hs') (fun s hs' hf' => ?_)
          · simp (disch := first | decide | omega) only [mxa, vxa, vxb, vxc, vnd, vne, Nat.reduceAdd, Nat.reduceSub, Nat.reduceLeDiff, Nat.reduceLT, Int32.reduceLT, Int32.reduceLE, Int32.reduceAdd, Int32.reduceSub, Int32.reduceMul, Int32.reduceToNatClampNeg, not_false_eq_true, not_true_eq_false, false_implies, true_implies, Nat.zero_add, reduceIte, Nat.reduceMul, Nat.reduceEqDiff, nxa, nxc, lgn, nL_of, swx, Int.reduceAdd, gI_a, gI_k, gL_a, gL_k, gI_r, gL_r, nI_and, nI_or, nI_xor, nI_ndf, nI_shl, nI_shr, ne_eq, and_true, true_and, eq_self, true_or, or_true, false_or, or_false, Option.toList, List.cons_append, List.nil_append, List.length_nil, List.length_cons, Nat.not_lt_zero]; exact j1
          · simp (disch := first | decide | omega) only [mxa, vxa, vxb, vxc, vnd, vne, Nat.reduceAdd, Nat.reduceSub, Nat.reduceLeDiff, Nat.reduceLT, Int32.reduceLT, Int32.reduceLE, Int32.reduceAdd, Int32.reduceSub, Int32.reduceMul, Int32.reduceToNatClampNeg, not_false_eq_true, not_true_eq_false, false_implies, true_implies, Nat.zero_add, reduceIte, Nat.reduceMul, Nat.reduceEqDiff, nxa, nxc, lgn, nL_of, swx, Int.reduceAdd, gI_a, gI_k, gL_a, gL_k, gI_r, gL_r, nI_and, nI_or, nI_xor, nI_ndf, nI_shl, nI_shr, ne_eq, and_true, true_and, eq_self, true_or, or_true, false_or, or_false, Option.toList, List.cons_append, List.nil_append, List.length_nil, List.length_cons, Nat.not_lt_zero]; exact j2
          · simp (disch := first | decide | omega) only [mxa, vxa, vxb, vxc, vnd, vne, Nat.reduceAdd, Nat.reduceSub, Nat.reduceLeDiff, Nat.reduceLT, Int32.reduceLT, Int32.reduceLE, Int32.reduceAdd, Int32.reduceSub, Int32.reduceMul, Int32.reduceToNatClampNeg, not_false_eq_true, not_true_eq_false, false_implies, true_implies, Nat.zero_add, reduceIte, Nat.reduceMul, Nat.reduceEqDiff, nxa, nxc, lgn, nL_of, swx, Int.reduceAdd, gI_a, gI_k, gL_a, gL_k, gI_r, gL_r, nI_and, nI_or, nI_xor, nI_ndf, nI_shl, nI_shr, ne_eq, and_true, true_and, eq_self, true_or, or_true, false_or, or_false, Option.toList, List.cons_append, List.nil_append, List.length_nil, List.length_cons, Nat.not_lt_zero]
            rw [← Nat.add_assoc, cntP_no hn]; exact j3
          · rw [gI_a (by decide)]
            by_cases e : s = 2 ^ f + r
            · rw [e] at hf'; exact absurd hf' hn
            · exact j5 s (by omega) hf'
        · have hy : fil V N O (2 ^ f + r) := Classical.byContradiction (fun q => h0 (ofB_0.mpr q))
          simp (disch := first | decide | omega) only [mxa, vxa, vxb, vxc, vnd, vne, Nat.reduceAdd, Nat.reduceSub, Nat.reduceLeDiff, Nat.reduceLT, Int32.reduceLT, Int32.reduceLE, Int32.reduceAdd, Int32.reduceSub, Int32.reduceMul, Int32.reduceToNatClampNeg, not_false_eq_true, not_true_eq_false, false_implies, true_implies, Nat.zero_add, reduceIte, Nat.reduceMul, Nat.reduceEqDiff, nxa, nxc, lgn, nL_of, swx, Int.reduceAdd, gI_a, gI_k, gL_a, gL_k, gI_r, gL_r, nI_and, nI_or, nI_xor, nI_ndf, nI_shl, nI_shr, ne_eq, and_true, true_and, eq_self, true_or, or_true, false_or, or_false, Option.toList, List.cons_append, List.nil_append, List.length_nil, List.length_cons, Nat.not_lt_zero, kdx st2, grx rt2, h0, j3]
          refine wp_blk kX3_survey_133 ?_
          simp (disch := first | decide | omega) only [mxa, vxa, vxb, vxc, vnd, vne, Nat.reduceAdd, Nat.reduceSub, Nat.reduceLeDiff, Nat.reduceLT, Int32.reduceLT, Int32.reduceLE, Int32.reduceAdd, Int32.reduceSub, Int32.reduceMul, Int32.reduceToNatClampNeg, not_false_eq_true, not_true_eq_false, false_implies, true_implies, Nat.zero_add, reduceIte, Nat.reduceMul, Nat.reduceEqDiff, nxa, nxc, lgn, nL_of, swx, Int.reduceAdd, gI_a, gI_k, gL_a, gL_k, gI_r, gL_r, nI_and, nI_or, nI_xor, nI_ndf, nI_shl, nI_shr, ne_eq, and_true, true_and, eq_self, true_or, or_true, false_or, or_false, Option.toList, List.cons_append, List.nil_append, List.length_nil, List.length_cons, Nat.not_lt_zero, bX3_survey_133]
          refine hP2 _ (F3.tr ((Fr.sI (by omega)).tr (Fr.sI (by omega)))) ?_ ?_ ?_ (fun s hs' => ?_) (fun s hs' hf' => ?_)
          · simp (disch := first | decide | omega) only [mxa, vxa, vxb, vxc, vnd, vne, Nat.reduceAdd, Nat.reduceSub, Nat.reduceLeDiff, Nat.reduceLT, Int32.reduceLT, Int32.reduceLE, Int32.reduceAdd, Int32.reduceSub, Int32.reduceMul, Int32.reduceToNatClampNeg, not_false_eq_true, not_true_eq_false, false_implies, true_implies, Nat.zero_add, reduceIte, Nat.reduceMul, Nat.reduceEqDiff, nxa, nxc, lgn, nL_of, swx, Int.reduceAdd, gI_a, gI_k, gL_a, gL_k, gI_r, gL_r, nI_and, nI_or, nI_xor, nI_ndf, nI_shl, nI_shr, ne_eq, and_true, true_and, eq_self, true_or, or_true, false_or, or_false, Option.toList, List.cons_append, List.nil_append, List.length_nil, List.length_cons, Nat.not_lt_zero]; exact j1
          · simp (disch := first | decide | omega) only [mxa, vxa, vxb, vxc, vnd, vne, Nat.reduceAdd, Nat.reduceSub, Nat.reduceLeDiff, Nat.reduceLT, Int32.reduceLT, Int32.reduceLE, Int32.reduceAdd, Int32.reduceSub, Int32.reduceMul, Int32.reduceToNatClampNeg, not_false_eq_true, not_true_eq_false, false_implies, true_implies, Nat.zero_add, reduceIte, Nat.reduceMul, Nat.reduceEqDiff, nxa, nxc, lgn, nL_of, swx, Int.reduceAdd, gI_a, gI_k, gL_a, gL_k, gI_r, gL_r, nI_and, nI_or, nI_xor, nI_ndf, nI_shl, nI_shr, ne_eq, and_true, true_and, eq_self, true_or, or_true, false_or, or_false, Option.toList, List.cons_append, List.nil_append, List.length_nil, List.length_cons, Nat.not_lt_zero]; exact j2
          · simp (disch := first | decide | omega) only [mxa, vxa, vxb, vxc, vnd, vne, Nat.reduceAdd, Nat.reduceSub, Nat.reduceLeDiff, Nat.reduceLT, Int32.reduceLT, Int32.reduceLE, Int32.reduceAdd, Int32.reduceSub, Int32.reduceMul, Int32.reduceToNatClampNeg, not_false_eq_true, not_true_eq_false, false_implies, true_implies, Nat.zero_add, reduceIte, Nat.reduceMul, Nat.reduceEqDiff, nxa, nxc, lgn, nL_of, swx, Int.reduceAdd, gI_a, gI_k, gL_a, gL_k, gI_r, gL_r, nI_and, nI_or, nI_xor, nI_ndf, nI_shl, nI_shr, ne_eq, and_true, true_and, eq_self, true_or, or_true, false_or, or_false, Option.toList, List.cons_append, List.nil_append, List.length_nil, List.length_cons, Nat.not_lt_zero]
            rw [← Nat.add_assoc, cntP_y hy]
          · rw [gI_a (by decide), gI_a (by decide)]; exact tot s hs'
          · rw [gI_a (by decide)]
            by_cases e : s = 2 ^ f + r
            · rw [e, gI_same]
            · have lt : cntP (fil V N O) s < cntP (fil V N O) (2 ^ f + r) := by
                have m : ∀ a b, a ≤ b → cntP (fil V N O) a ≤ cntP (fil V N O) b := fun a b h => by
                  induction b with
                  | zero => rw [show a = 0 by omega]; exact Nat.le_refl _
                  | succ b ih =>
                    by_cases z : a = b + 1
                    · rw [z]; exact Nat.le_refl _
                    · have := ih (by omega)
                      by_cases y : fil V N O b
                      · rw [cntP_y y]; omega
                      · rw [cntP_no y]; exact this
                have := m (s + 1) (2 ^ f + r) (by omega)
                rw [cntP_y hf'] at this
                omega
              rw [gI_k (by omega), gI_a (by decide)]
              exact j5 s (by omega) hf'
      · refine wp_blk kX3_survey_72 ?_
        simp (disch := first | decide | omega) only [mxa, vxa, vxb, vxc, vnd, vne, Nat.reduceAdd, Nat.reduceSub, Nat.reduceLeDiff, Nat.reduceLT, Int32.reduceLT, Int32.reduceLE, Int32.reduceAdd, Int32.reduceSub, Int32.reduceMul, Int32.reduceToNatClampNeg, not_false_eq_true, not_true_eq_false, false_implies, true_implies, Nat.zero_add, reduceIte, Nat.reduceMul, Nat.reduceEqDiff, nxa, nxc, lgn, nL_of, swx, Int.reduceAdd, gI_a, gI_k, gL_a, gL_k, gI_r, gL_r, nI_and, nI_or, nI_xor, nI_ndf, nI_shl, nI_shr, ne_eq, and_true, true_and, eq_self, true_or, or_true, false_or, or_false, Option.toList, List.cons_append, List.nil_append, List.length_nil, List.length_cons, Nat.not_lt_zero, bX3_survey_72, Nat.le_refl]
        refine wp_blk kX3_survey_139 ?_
        simp (disch := first | decide | omega) only [mxa, vxa, vxb, vxc, vnd, vne, Nat.reduceAdd, Nat.reduceSub, Nat.reduceLeDiff, Nat.reduceLT, Int32.reduceLT, Int32.reduceLE, Int32.reduceAdd, Int32.reduceSub, Int32.reduceMul, Int32.reduceToNatClampNeg, not_false_eq_true, not_true_eq_false, false_implies, true_implies, Nat.zero_add, reduceIte, Nat.reduceMul, Nat.reduceEqDiff, nxa, nxc, lgn, nL_of, swx, Int.reduceAdd, gI_a, gI_k, gL_a, gL_k, gI_r, gL_r, nI_and, nI_or, nI_xor, nI_ndf, nI_shl, nI_shr, ne_eq, and_true, true_and, eq_self, true_or, or_true, false_or, or_false, Option.toList, List.cons_append, List.nil_append, List.length_nil, List.length_cons, Nat.not_lt_zero, bX3_survey_139]
        refine Wp.fog 3 (Wp.fog 4 (Wp.fog 5 ?_))
        rw [pf2] at hP
        exact hP τ2 F2 j1 j2 j3 j4 j5
    have e0' : gI τ 1 0 = nI N := (nb 1 (by omega) 0).trans e0
    by_cases w0 : 0 < wsN V f
    · refine wp_blk kX3_survey_31 ?_
      simp (disch := first | decide | omega) only [mxa, vxa, vxb, vxc, vnd, vne, Nat.reduceAdd, Nat.reduceSub, Nat.reduceLeDiff, Nat.reduceLT, Int32.reduceLT, Int32.reduceLE, Int32.reduceAdd, Int32.reduceSub, Int32.reduceMul, Int32.reduceToNatClampNeg, not_false_eq_true, not_true_eq_false, false_implies, true_implies, Nat.zero_add, reduceIte, Nat.reduceMul, Nat.reduceEqDiff, nxa, nxc, lgn, nL_of, swx, Int.reduceAdd, gI_a, gI_k, gL_a, gL_k, gI_r, gL_r, nI_and, nI_or, nI_xor, nI_ndf, nI_shl, nI_shr, ne_eq, and_true, true_and, eq_self, true_or, or_true, false_or, or_false, Option.toList, List.cons_append, List.nil_append, List.length_nil, List.length_cons, Nat.not_lt_zero, bX3_survey_31, kdx hst, grx hrt, e0', a1', a2.1, f2, h2, Nat.one_mul, show ¬ N ≤ f by omega, show ¬ wsN V f ≤ 0 by omega]
      have ob : wsh V f ||| 2 ^ f = wsh V (f + 1) := by
        have := bP_y (fun f => 0 < wsN V f) w0
        rw [Nat.one_mul] at this
        exact this
      rw [ob]
      refine inner _ (Fr.sI rfl) ?_ ?_ ?_
      · simp (disch := first | decide | omega) only [mxa, vxa, vxb, vxc, vnd, vne, Nat.reduceAdd, Nat.reduceSub, Nat.reduceLeDiff, Nat.reduceLT, Int32.reduceLT, Int32.reduceLE, Int32.reduceAdd, Int32.reduceSub, Int32.reduceMul, Int32.reduceToNatClampNeg, not_false_eq_true, not_true_eq_false, false_implies, true_implies, Nat.zero_add, reduceIte, Nat.reduceMul, Nat.reduceEqDiff, nxa, nxc, lgn, nL_of, swx, Int.reduceAdd, gI_a, gI_k, gL_a, gL_k, gI_r, gL_r, nI_and, nI_or, nI_xor, nI_ndf, nI_shl, nI_shr, ne_eq, and_true, true_and, eq_self, true_or, or_true, false_or, or_false, Option.toList, List.cons_append, List.nil_append, List.length_nil, List.length_cons, Nat.not_lt_zero]; exact h1
      · simp (disch := first | decide | omega) only [mxa, vxa, vxb, vxc, vnd, vne, Nat.reduceAdd, Nat.reduceSub, Nat.reduceLeDiff, Nat.reduceLT, Int32.reduceLT, Int32.reduceLE, Int32.reduceAdd, Int32.reduceSub, Int32.reduceMul, Int32.reduceToNatClampNeg, not_false_eq_true, not_true_eq_false, false_implies, true_implies, Nat.zero_add, reduceIte, Nat.reduceMul, Nat.reduceEqDiff, nxa, nxc, lgn, nL_of, swx, Int.reduceAdd, gI_a, gI_k, gL_a, gL_k, gI_r, gL_r, nI_and, nI_or, nI_xor, nI_ndf, nI_shl, nI_shr, ne_eq, and_true, true_and, eq_self, true_or, or_true, false_or, or_false, Option.toList, List.cons_append, List.nil_append, List.length_nil, List.length_cons, Nat.not_lt_zero]
      · simp (disch := first | decide | omega) only [mxa, vxa, vxb, vxc, vnd, vne, Nat.reduceAdd, Nat.reduceSub, Nat.reduceLeDiff, Nat.reduceLT, Int32.reduceLT, Int32.reduceLE, Int32.reduceAdd, Int32.reduceSub, Int32.reduceMul, Int32.reduceToNatClampNeg, not_false_eq_true, not_true_eq_false, false_implies, true_implies, Nat.zero_add, reduceIte, Nat.reduceMul, Nat.reduceEqDiff, nxa, nxc, lgn, nL_of, swx, Int.reduceAdd, gI_a, gI_k, gL_a, gL_k, gI_r, gL_r, nI_and, nI_or, nI_xor, nI_ndf, nI_shl, nI_shr, ne_eq, and_true, true_and, eq_self, true_or, or_true, false_or, or_false, Option.toList, List.cons_append, List.nil_append, List.length_nil, List.length_cons, Nat.not_lt_zero]; exact h3
    · refine wp_blk kX3_survey_31 ?_
      simp (disch := first | decide | omega) only [mxa, vxa, vxb, vxc, vnd, vne, Nat.reduceAdd, Nat.reduceSub, Nat.reduceLeDiff, Nat.reduceLT, Int32.reduceLT, Int32.reduceLE, Int32.reduceAdd, Int32.reduceSub, Int32.reduceMul, Int32.reduceToNatClampNeg, not_false_eq_true, not_true_eq_false, false_implies, true_implies, Nat.zero_add, reduceIte, Nat.reduceMul, Nat.reduceEqDiff, nxa, nxc, lgn, nL_of, swx, Int.reduceAdd, gI_a, gI_k, gL_a, gL_k, gI_r, gL_r, nI_and, nI_or, nI_xor, nI_ndf, nI_shl, nI_shr, ne_eq, and_true, true_and, eq_self, true_or, or_true, false_or, or_false, Option.toList, List.cons_append, List.nil_append, List.length_nil, List.length_cons, Nat.not_lt_zero, bX3_survey_31, kdx hst, grx hrt, e0', a1', a2.1, f2, Nat.one_mul, show ¬ N ≤ f by omega, show wsN V f ≤ 0 by omega]
      refine inner τ Fr.rf h1 ?_ h3
      rw [h2]
      exact congrArg nI (bP_n (fun f => 0 < wsN V f) w0).symm) (fun τ hF h1 h2 h3 h4 h5 => by
    have hst := (hF.St hs).1
    have e0' : gI τ 1 0 = nI N := (hF.2.2.1 1 (by omega) 0).trans e0
    refine wp_blk kX3_survey_31 ?_
    simp (disch := first | decide | omega) only [mxa, vxa, vxb, vxc, vnd, vne, Nat.reduceAdd, Nat.reduceSub, Nat.reduceLeDiff, Nat.reduceLT, Int32.reduceLT, Int32.reduceLE, Int32.reduceAdd, Int32.reduceSub, Int32.reduceMul, Int32.reduceToNatClampNeg, not_false_eq_true, not_true_eq_false, false_implies, true_implies, Nat.zero_add, reduceIte, Nat.reduceMul, Nat.reduceEqDiff, nxa, nxc, lgn, nL_of, swx, Int.reduceAdd, gI_a, gI_k, gL_a, gL_k, gI_r, gL_r, nI_and, nI_or, nI_xor, nI_ndf, nI_shl, nI_shr, ne_eq, and_true, true_and, eq_self, true_or, or_true, false_or, or_false, Option.toList, List.cons_append, List.nil_append, List.length_nil, List.length_cons, Nat.not_lt_zero, bX3_survey_31, kdx hst, e0', Nat.le_refl]
    refine wp_blk kX3_survey_145 ?_
    simp (disch := first | decide | omega) only [mxa, vxa, vxb, vxc, vnd, vne, Nat.reduceAdd, Nat.reduceSub, Nat.reduceLeDiff, Nat.reduceLT, Int32.reduceLT, Int32.reduceLE, Int32.reduceAdd, Int32.reduceSub, Int32.reduceMul, Int32.reduceToNatClampNeg, not_false_eq_true, not_true_eq_false, false_implies, true_implies, Nat.zero_add, reduceIte, Nat.reduceMul, Nat.reduceEqDiff, nxa, nxc, lgn, nL_of, swx, Int.reduceAdd, gI_a, gI_k, gL_a, gL_k, gI_r, gL_r, nI_and, nI_or, nI_xor, nI_ndf, nI_shl, nI_shr, ne_eq, and_true, true_and, eq_self, true_or, or_true, false_or, or_false, Option.toList, List.cons_append, List.nil_append, List.length_nil, List.length_cons, Nat.not_lt_zero, bX3_survey_145]
    exact hQ τ hF ⟨h1, h2, h3, h4, h5⟩)
  have g0 : gdS V N 0 := ⟨fun f _ q => absurd q (by rw [Nat.zero_testBit]; decide), fun f g _ _ q => absurd q (by rw [Nat.zero_testBit]; decide)⟩
  have s0 : sW V N 0 = 0 := by
    have : sW V N 0 ≤ 0 * N := sumN_le (fun f hf => by rw [Nat.zero_testBit]; simp)
    omega
  have nf0 : ¬ fil V N O 0 := fun ⟨o, ho, _, q⟩ => by
    have := (zN_ok hG ho).2.1
    omega
  refine call_of eX3_survey rfl ?_
  refine wp_blk kX3_survey_0 ?_
  simp (disch := first | decide | omega) only [mxa, vxa, vxb, vxc, vnd, vne, Nat.reduceAdd, Nat.reduceSub, Nat.reduceLeDiff, Nat.reduceLT, Int32.reduceLT, Int32.reduceLE, Int32.reduceAdd, Int32.reduceSub, Int32.reduceMul, Int32.reduceToNatClampNeg, not_false_eq_true, not_true_eq_false, false_implies, true_implies, Nat.zero_add, reduceIte, Nat.reduceMul, Nat.reduceEqDiff, nxa, nxc, lgn, nL_of, swx, Int.reduceAdd, gI_a, gI_k, gL_a, gL_k, gI_r, gL_r, nI_and, nI_or, nI_xor, nI_ndf, nI_shl, nI_shr, ne_eq, and_true, true_and, eq_self, true_or, or_true, false_or, or_false, Option.toList, List.cons_append, List.nil_append, List.length_nil, List.length_cons, Nat.not_lt_zero, bX3_survey_0, kdx hst0, grx hrt0, e0, Nat.one_mul]
  refine go _ ((((Fr.sI (by omega)).tr (Fr.sI (by omega))).tr (Fr.sI (by omega))).tr (Fr.sI (by omega))) ?_ ?_ ?_ (fun s hs' => ?_) (fun s hs' hf' => ?_)
  · simp (disch := first | decide | omega) only [mxa, vxa, vxb, vxc, vnd, vne, Nat.reduceAdd, Nat.reduceSub, Nat.reduceLeDiff, Nat.reduceLT, Int32.reduceLT, Int32.reduceLE, Int32.reduceAdd, Int32.reduceSub, Int32.reduceMul, Int32.reduceToNatClampNeg, not_false_eq_true, not_true_eq_false, false_implies, true_implies, Nat.zero_add, reduceIte, Nat.reduceMul, Nat.reduceEqDiff, nxa, nxc, lgn, nL_of, swx, Int.reduceAdd, gI_a, gI_k, gL_a, gL_k, gI_r, gL_r, nI_and, nI_or, nI_xor, nI_ndf, nI_shl, nI_shr, ne_eq, and_true, true_and, eq_self, true_or, or_true, false_or, or_false, Option.toList, List.cons_append, List.nil_append, List.length_nil, List.length_cons, Nat.not_lt_zero]
  · simp (disch := first | decide | omega) only [mxa, vxa, vxb, vxc, vnd, vne, Nat.reduceAdd, Nat.reduceSub, Nat.reduceLeDiff, Nat.reduceLT, Int32.reduceLT, Int32.reduceLE, Int32.reduceAdd, Int32.reduceSub, Int32.reduceMul, Int32.reduceToNatClampNeg, not_false_eq_true, not_true_eq_false, false_implies, true_implies, Nat.zero_add, reduceIte, Nat.reduceMul, Nat.reduceEqDiff, nxa, nxc, lgn, nL_of, swx, Int.reduceAdd, gI_a, gI_k, gL_a, gL_k, gI_r, gL_r, nI_and, nI_or, nI_xor, nI_ndf, nI_shl, nI_shr, ne_eq, and_true, true_and, eq_self, true_or, or_true, false_or, or_false, Option.toList, List.cons_append, List.nil_append, List.length_nil, List.length_cons, Nat.not_lt_zero]
    rfl
  · simp (disch := first | decide | omega) only [mxa, vxa, vxb, vxc, vnd, vne, Nat.reduceAdd, Nat.reduceSub, Nat.reduceLeDiff, Nat.reduceLT, Int32.reduceLT, Int32.reduceLE, Int32.reduceAdd, Int32.reduceSub, Int32.reduceMul, Int32.reduceToNatClampNeg, not_false_eq_true, not_true_eq_false, false_implies, true_implies, Nat.zero_add, reduceIte, Nat.reduceMul, Nat.reduceEqDiff, nxa, nxc, lgn, nL_of, swx, Int.reduceAdd, gI_a, gI_k, gL_a, gL_k, gI_r, gL_r, nI_and, nI_or, nI_xor, nI_ndf, nI_shl, nI_shr, ne_eq, and_true, true_and, eq_self, true_or, or_true, false_or, or_false, Option.toList, List.cons_append, List.nil_append, List.length_nil, List.length_cons, Nat.not_lt_zero]
    rw [Nat.pow_zero, show 1 = 0 + 1 from rfl, cntP_no nf0]
    rfl
  · rw [Nat.pow_zero] at hs'
    have : s = 0 := by omega
    subst this
    rw [tT_y g0, s0]
    simp (disch := first | decide | omega) only [mxa, vxa, vxb, vxc, vnd, vne, Nat.reduceAdd, Nat.reduceSub, Nat.reduceLeDiff, Nat.reduceLT, Int32.reduceLT, Int32.reduceLE, Int32.reduceAdd, Int32.reduceSub, Int32.reduceMul, Int32.reduceToNatClampNeg, not_false_eq_true, not_true_eq_false, false_implies, true_implies, Nat.zero_add, reduceIte, Nat.reduceMul, Nat.reduceEqDiff, nxa, nxc, lgn, nL_of, swx, Int.reduceAdd, gI_a, gI_k, gL_a, gL_k, gI_r, gL_r, nI_and, nI_or, nI_xor, nI_ndf, nI_shl, nI_shr, ne_eq, and_true, true_and, eq_self, true_or, or_true, false_or, or_false, Option.toList, List.cons_append, List.nil_append, List.length_nil, List.length_cons, Nat.not_lt_zero]
  · rw [Nat.pow_zero] at hs'
    have : s = 0 := by omega
    subst this
    exact absurd hf' nf0
