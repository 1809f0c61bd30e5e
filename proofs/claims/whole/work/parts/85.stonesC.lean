/-! stones: the model's table -/
set_option maxRecDepth 20000
def fitM (V : Nat → Int32) (N z x : Nat) : Prop := ¬ tornS V x N ∧ sW V N x ≤ z
theorem m_stIn (X : Cx) (d : Nat) (τ : Mm) (V : Nat → Int32) (t N O K s o w : Nat) (k : Int32) (hs : Sh τ) (hr : Rf τ) (hG : Gd V t N O K) (ho : o < O) (zz : gI τ 191 (6 + o) = nI (zN V o)) (hL : ∀ s, s < 2 ^ N → GL V N O τ s) (s1 : 0 < s) (s2 : s < 2 ^ N) (Q : Po) (fin : ∀ τ' : Mm, Fr (fun c => c = 203) τ τ' → (∀ r, r ≠ s → gI τ' 203 r = gI τ 203 r) → gI τ' 203 s = cm (fitM V N (zN V o)) (gI τ 203) s → Wp X mX10_stones (rmo (d + 2) 0 0) (d + 2) Q 0 0 188 [some (.ref 190), some (.int (nI o)), some (.int k), some (.int (nI w)), some (.int (nI s)), none, none, none] [] τ') : ∀ n x, x ≤ n → x &&& s = x → ∀ τ' : Mm, Fr (fun c => c = 203) τ τ' → (∀ r, r ≠ s → gI τ' 203 r = gI τ 203 r) → gI τ' 203 s = fE (fun x => pA s x ∧ fitM V N (zN V o) x) (fun x v => mj (gI τ 203 (ndf s x)) v) (nI 99) s (x + 1) → Wp X mX10_stones (rmo (d + 2) 0 0) (d + 2) Q 0 0 84 [some (.ref 190), some (.int (nI o)), some (.int k), some (.int (nI w)), some (.int (nI s)), some (.int (nI (lowN s))), some (.int (nI x)), none] [] τ' := by
  have hO3 := hG.2.1.2
  have pw := pow_le hG.1.2
  obtain ⟨-, za, zb⟩ := zN_ok hG ho
  intro n
  induction n with
  | zero =>
    intro x hx hx2 τ' F h1 h2
    have x0 : x = 0 := by omega
    subst x0
    refine wp_blk kX10_stones_84 ?_
    simp (disch := first | decide | omega) only [mxa, vxa, vxb, vxc, vnd, vne, Nat.reduceAdd, Nat.reduceSub, Nat.reduceLeDiff, Nat.reduceLT, Int32.reduceLT, Int32.reduceLE, Int32.reduceAdd, Int32.reduceSub, Int32.reduceMul, Int32.reduceToNatClampNeg, not_false_eq_true, not_true_eq_false, false_implies, true_implies, Nat.zero_add, reduceIte, Nat.reduceMul, Nat.reduceEqDiff, nxa, nxc, lgn, nL_of, swx, Int.reduceAdd, gI_a, gI_k, gL_a, gL_k, gI_r, gL_r, nI_and, nI_or, nI_xor, nI_ndf, nI_shl, nI_shr, ne_eq, and_true, true_and, eq_self, true_or, or_true, false_or, or_false, Option.toList, List.cons_append, List.nil_append, List.length_nil, List.length_cons, Nat.not_lt_zero, bX10_stones_84]
    refine Wp.fog 5 (Wp.fog 6 (fin τ' F h1 ?_))
    rw [h2]
    unfold cm
    rw [fE_n (p := fun x => pA s x ∧ fitM V N (zN V o) x) (by omega) (fun q => q.1.2 (Nat.zero_and _))]
  | succ n ih =>
    intro x hx hx2 τ' F h1 h2
    by_cases x0 : x = 0
    · exact ih x (by omega) hx2 τ' F h1 h2
    have st : Sh τ' := F.Sh hs
    have rt : Rf τ' := F.Rf hr
    have xs := sub_le hx2
    obtain ⟨n1, n2, n3⟩ := fE_next (p := fun x => pA s x ∧ fitM V N (zN V o) x) (g := fun x v => mj (gI τ 203 (ndf s x)) v) (v := nI 99) (show s < 1024 by omega) hx2 (by omega) (fun y q => q.1.1)
    have next : ∀ τ' : Mm, Fr (fun c => c = 203) τ τ' → (∀ r, r ≠ s → gI τ' 203 r = gI τ 203 r) → gI τ' 203 s = fE (fun x => pA s x ∧ fitM V N (zN V o) x) (fun x v => mj (gI τ 203 (ndf s x)) v) (nI 99) s x → ∀ v, Wp X mX10_stones (rmo (d + 2) 0 0) (d + 2) Q 0 0 176 [some (.ref 190), some (.int (nI o)), some (.int k), some (.int (nI w)), some (.int (nI s)), some (.int (nI (lowN s))), some (.int (nI x)), v] [] τ' := by
      intro τ' F h1 h2 v
      refine Wp.fog 7 ?_
      change Wp X mX10_stones (rmo (d + 2) 0 0) (d + 2) Q 0 0 176 [some (.ref 190), some (.int (nI o)), some (.int k), some (.int (nI w)), some (.int (nI s)), some (.int (nI (lowN s))), some (.int (nI x)), none] [] τ'
      refine wp_blk kX10_stones_176 ?_
      simp (disch := first | decide | omega) only [mxa, vxa, vxb, vxc, vnd, vne, Nat.reduceAdd, Nat.reduceSub, Nat.reduceLeDiff, Nat.reduceLT, Int32.reduceLT, Int32.reduceLE, Int32.reduceAdd, Int32.reduceSub, Int32.reduceMul, Int32.reduceToNatClampNeg, not_false_eq_true, not_true_eq_false, false_implies, true_implies, Nat.zero_add, reduceIte, Nat.reduceMul, Nat.reduceEqDiff, nxa, nxc, lgn, nL_of, swx, Int.reduceAdd, gI_a, gI_k, gL_a, gL_k, gI_r, gL_r, nI_and, nI_or, nI_xor, nI_ndf, nI_shl, nI_shr, ne_eq, and_true, true_and, eq_self, true_or, or_true, false_or, or_false, Option.toList, List.cons_append, List.nil_append, List.length_nil, List.length_cons, Nat.not_lt_zero, bX10_stones_176, nI_dec1 (show 0 < x by omega)]
      exact ih _ (by omega) n2 τ' F h1 (h2.trans n3.symm)
    obtain ⟨-, L2, b, b1, L3, b2⟩ := hL x (by omega)
    have sl := sW_le (s := x) hG
    have L2' : gI τ' 201 x = nI (sW V N x) := (F.2.2.1 201 (by omega) x).trans L2
    have L3' : gI τ' 202 x = nI b := (F.2.2.1 202 (by omega) x).trans L3
    have zz' : gI τ' 191 (6 + o) = nI (zN V o) := (F.2.2.1 191 (by omega) _).trans zz
    have al : x &&& lowN s ≤ x := Nat.and_le_left
    by_cases hl : x &&& lowN s = 0
    · rw [fE_n (p := fun x => pA s x ∧ fitM V N (zN V o) x) (by omega) (fun q => q.1.2 hl)] at next
      refine wp_blk kX10_stones_84 ?_
      simp (disch := first | decide | omega) only [mxa, vxa, vxb, vxc, vnd, vne, Nat.reduceAdd, Nat.reduceSub, Nat.reduceLeDiff, Nat.reduceLT, Int32.reduceLT, Int32.reduceLE, Int32.reduceAdd, Int32.reduceSub, Int32.reduceMul, Int32.reduceToNatClampNeg, not_false_eq_true, not_true_eq_false, false_implies, true_implies, Nat.zero_add, reduceIte, Nat.reduceMul, Nat.reduceEqDiff, nxa, nxc, lgn, nL_of, swx, Int.reduceAdd, gI_a, gI_k, gL_a, gL_k, gI_r, gL_r, nI_and, nI_or, nI_xor, nI_ndf, nI_shl, nI_shr, ne_eq, and_true, true_and, eq_self, true_or, or_true, false_or, or_false, Option.toList, List.cons_append, List.nil_append, List.length_nil, List.length_cons, Nat.not_lt_zero, bX10_stones_84, hl, show ¬ x ≤ 0 by omega]
      exact next τ' F h1 h2 none
    · by_cases hf : fitM V N (zN V o) x
      · have pa : pA s x := ⟨hx2, hl⟩
        rw [fE_y (p := fun x => pA s x ∧ fitM V N (zN V o) x) (by omega) ⟨pa, hf⟩] at next
        obtain ⟨q1, q2⟩ := ndf_lt (show s < 1024 by omega) s1 pa
        have b0 : b = 0 := by
          rcases (by omega : b = 0 ∨ b = 1) with q | q
          · exact q
          · exact absurd (b2.mp q) hf.1
        have T1 : gI τ' 203 (ndf s x) = gI τ 203 (ndf s x) := h1 _ (by omega)
        have fin2 : ∀ z : Int32, z = mj (gI τ 203 (ndf s x)) (gI τ' 203 s) → ∀ v, Wp X mX10_stones (rmo (d + 2) 0 0) (d + 2) Q 0 0 175 [some (.ref 190), some (.int (nI o)), some (.int k), some (.int (nI w)), some (.int (nI s)), some (.int (nI (lowN s))), some (.int (nI x)), some (.int v)] [.int z, .int (nI s), .ref 203] τ' := by
          intro z hz v
          refine wp_blk kX10_stones_175 ?_
          simp (disch := first | decide | omega) only [mxa, vxa, vxb, vxc, vnd, vne, Nat.reduceAdd, Nat.reduceSub, Nat.reduceLeDiff, Nat.reduceLT, Int32.reduceLT, Int32.reduceLE, Int32.reduceAdd, Int32.reduceSub, Int32.reduceMul, Int32.reduceToNatClampNeg, not_false_eq_true, not_true_eq_false, false_implies, true_implies, Nat.zero_add, reduceIte, Nat.reduceMul, Nat.reduceEqDiff, nxa, nxc, lgn, nL_of, swx, Int.reduceAdd, gI_a, gI_k, gL_a, gL_k, gI_r, gL_r, nI_and, nI_or, nI_xor, nI_ndf, nI_shl, nI_shr, ne_eq, and_true, true_and, eq_self, true_or, or_true, false_or, or_false, Option.toList, List.cons_append, List.nil_append, List.length_nil, List.length_cons, Nat.not_lt_zero, bX10_stones_175, kdx st]
          refine next _ (F.tr (Fr.sI rfl)) (fun r hr' => (gI_k hr').trans (h1 r hr')) ?_ _
          rw [gI_same, hz, h2]
        rw [b0] at L3'
        refine wp_blk kX10_stones_84 ?_
        simp (disch := first | decide | omega) only [mxa, vxa, vxb, vxc, vnd, vne, Nat.reduceAdd, Nat.reduceSub, Nat.reduceLeDiff, Nat.reduceLT, Int32.reduceLT, Int32.reduceLE, Int32.reduceAdd, Int32.reduceSub, Int32.reduceMul, Int32.reduceToNatClampNeg, not_false_eq_true, not_true_eq_false, false_implies, true_implies, Nat.zero_add, reduceIte, Nat.reduceMul, Nat.reduceEqDiff, nxa, nxc, lgn, nL_of, swx, Int.reduceAdd, gI_a, gI_k, gL_a, gL_k, gI_r, gL_r, nI_and, nI_or, nI_xor, nI_ndf, nI_shl, nI_shr, ne_eq, and_true, true_and, eq_self, true_or, or_true, false_or, or_false, Option.toList, List.cons_append, List.nil_append, List.length_nil, List.length_cons, Nat.not_lt_zero, bX10_stones_84, kdx st, grx rt, L2', L3', zz', hl, hf.2, show ¬ x ≤ 0 by omega]
        by_cases lt : gI τ 203 (ndf s x) + nI 1 < gI τ' 203 s
        · have nl : ¬ gI τ' 203 s ≤ gI τ 203 (ndf s x) + nI 1 := fun q => by
            rw [Int32.lt_iff_toInt_lt] at lt
            rw [Int32.le_iff_toInt_le] at q
            omega
          refine wp_blk kX10_stones_129 ?_
          simp (disch := first | decide | omega) only [mxa, vxa, vxb, vxc, vnd, vne, Nat.reduceAdd, Nat.reduceSub, Nat.reduceLeDiff, Nat.reduceLT, Int32.reduceLT, Int32.reduceLE, Int32.reduceAdd, Int32.reduceSub, Int32.reduceMul, Int32.reduceToNatClampNeg, not_false_eq_true, not_true_eq_false, false_implies, true_implies, Nat.zero_add, reduceIte, Nat.reduceMul, Nat.reduceEqDiff, nxa, nxc, lgn, nL_of, swx, Int.reduceAdd, gI_a, gI_k, gL_a, gL_k, gI_r, gL_r, nI_and, nI_or, nI_xor, nI_ndf, nI_shl, nI_shr, ne_eq, and_true, true_and, eq_self, true_or, or_true, false_or, or_false, Option.toList, List.cons_append, List.nil_append, List.length_nil, List.length_cons, Nat.not_lt_zero, bX10_stones_129, kdx st, grx rt, T1, nl]
          exact fin2 _ (if_pos lt).symm _
        · have nl : gI τ' 203 s ≤ gI τ 203 (ndf s x) + nI 1 := by
            rw [Int32.lt_iff_toInt_lt] at lt
            rw [Int32.le_iff_toInt_le]
            omega
          refine wp_blk kX10_stones_129 ?_
          simp (disch := first | decide | omega) only [mxa, vxa, vxb, vxc, vnd, vne, Nat.reduceAdd, Nat.reduceSub, Nat.reduceLeDiff, Nat.reduceLT, Int32.reduceLT, Int32.reduceLE, Int32.reduceAdd, Int32.reduceSub, Int32.reduceMul, Int32.reduceToNatClampNeg, not_false_eq_true, not_true_eq_false, false_implies, true_implies, Nat.zero_add, reduceIte, Nat.reduceMul, Nat.reduceEqDiff, nxa, nxc, lgn, nL_of, swx, Int.reduceAdd, gI_a, gI_k, gL_a, gL_k, gI_r, gL_r, nI_and, nI_or, nI_xor, nI_ndf, nI_shl, nI_shr, ne_eq, and_true, true_and, eq_self, true_or, or_true, false_or, or_false, Option.toList, List.cons_append, List.nil_append, List.length_nil, List.length_cons, Nat.not_lt_zero, bX10_stones_129, kdx st, grx rt, T1, nl]
          refine wp_blk kX10_stones_168 ?_
          simp (disch := first | decide | omega) only [mxa, vxa, vxb, vxc, vnd, vne, Nat.reduceAdd, Nat.reduceSub, Nat.reduceLeDiff, Nat.reduceLT, Int32.reduceLT, Int32.reduceLE, Int32.reduceAdd, Int32.reduceSub, Int32.reduceMul, Int32.reduceToNatClampNeg, not_false_eq_true, not_true_eq_false, false_implies, true_implies, Nat.zero_add, reduceIte, Nat.reduceMul, Nat.reduceEqDiff, nxa, nxc, lgn, nL_of, swx, Int.reduceAdd, gI_a, gI_k, gL_a, gL_k, gI_r, gL_r, nI_and, nI_or, nI_xor, nI_ndf, nI_shl, nI_shr, ne_eq, and_true, true_and, eq_self, true_or, or_true, false_or, or_false, Option.toList, List.cons_append, List.nil_append, List.length_nil, List.length_cons, Nat.not_lt_zero, bX10_stones_168, kdx st, grx rt]
          exact fin2 _ (if_neg lt).symm _
      · rw [fE_n (p := fun x => pA s x ∧ fitM V N (zN V o) x) (by omega) (fun q => hf q.2)] at next
        by_cases t1 : b = 1
        · rw [t1] at L3'
          refine wp_blk kX10_stones_84 ?_
          simp (disch := first | decide | omega) only [mxa, vxa, vxb, vxc, vnd, vne, Nat.reduceAdd, Nat.reduceSub, Nat.reduceLeDiff, Nat.reduceLT, Int32.reduceLT, Int32.reduceLE, Int32.reduceAdd, Int32.reduceSub, Int32.reduceMul, Int32.reduceToNatClampNeg, not_false_eq_true, not_true_eq_false, false_implies, true_implies, Nat.zero_add, reduceIte, Nat.reduceMul, Nat.reduceEqDiff, nxa, nxc, lgn, nL_of, swx, Int.reduceAdd, gI_a, gI_k, gL_a, gL_k, gI_r, gL_r, nI_and, nI_or, nI_xor, nI_ndf, nI_shl, nI_shr, ne_eq, and_true, true_and, eq_self, true_or, or_true, false_or, or_false, Option.toList, List.cons_append, List.nil_append, List.length_nil, List.length_cons, Nat.not_lt_zero, bX10_stones_84, kdx st, grx rt, L2', L3', zz', hl, show ¬ x ≤ 0 by omega]
          exact next τ' F h1 h2 none
        · have b0 : b = 0 := by omega
          have gt : ¬ sW V N x ≤ zN V o := fun q => hf ⟨fun z => t1 (b2.mpr z), q⟩
          rw [b0] at L3'
          refine wp_blk kX10_stones_84 ?_
          simp (disch := first | decide | omega) only [mxa, vxa, vxb, vxc, vnd, vne, Nat.reduceAdd, Nat.reduceSub, Nat.reduceLeDiff, Nat.reduceLT, Int32.reduceLT, Int32.reduceLE, Int32.reduceAdd, Int32.reduceSub, Int32.reduceMul, Int32.reduceToNatClampNeg, not_false_eq_true, not_true_eq_false, false_implies, true_implies, Nat.zero_add, reduceIte, Nat.reduceMul, Nat.reduceEqDiff, nxa, nxc, lgn, nL_of, swx, Int.reduceAdd, gI_a, gI_k, gL_a, gL_k, gI_r, gL_r, nI_and, nI_or, nI_xor, nI_ndf, nI_shl, nI_shr, ne_eq, and_true, true_and, eq_self, true_or, or_true, false_or, or_false, Option.toList, List.cons_append, List.nil_append, List.length_nil, List.length_cons, Nat.not_lt_zero, bX10_stones_84, kdx st, grx rt, L2', L3', zz', hl, gt, show ¬ x ≤ 0 by omega]
          exact next τ' F h1 h2 none
