/-! served: the model's table -/
set_option maxRecDepth 20000
def mj (x : Int32) (v : Int32) : Int32 := if x + nI 1 < v then x + nI 1 else v
/-- a cell of the model's table -/
noncomputable def cm (F : Nat → Prop) (T : Nat → Int32) (s : Nat) : Int32 := fE (fun x => pA s x ∧ F x) (fun x v => mj (T (ndf s x)) v) (nI 99) s 0
theorem cm_congr {s : Nat} {F : Nat → Prop} {T T' : Nat → Int32} (hs : s < 1024) (h0 : 0 < s) (h : ∀ r, r < s → r &&& s = r → T r = T' r) : cm F T s = cm F T' s := by
  unfold cm
  refine fE_rel (R := fun a b => a = b) rfl (fun x a b _ hx e => ?_) (s + 1) 0 (by omega)
  obtain ⟨q1, q2⟩ := ndf_lt hs h0 hx.1
  show mj (T (ndf s x)) a = mj (T' (ndf s x)) b
  rw [e, h _ q1 q2]
theorem m_srvIn (X : Cx) (d : Nat) (τ : Mm) (V : Nat → Int32) (t N O K s : Nat) (hs : Sh τ) (hr : Rf τ) (hG : Gd V t N O K) (hL : ∀ s, s < 2 ^ N → GL V N O τ s) (s1 : 0 < s) (s2 : s < 2 ^ N) (Q : Po) (fin : ∀ τ' : Mm, Fr (fun c => c = 204) τ τ' → (∀ r, r ≠ s → gI τ' 204 r = gI τ 204 r) → gI τ' 204 s = cm (fil V N O) (gI τ 204) s → Wp X mX10_serves (rmo (d + 2) 0 0) (d + 2) Q 0 0 118 [some (.ref 191), some (.int (nI s)), none, none, none] [] τ') : ∀ n x, x ≤ n → x &&& s = x → ∀ τ' : Mm, Fr (fun c => c = 204) τ τ' → (∀ r, r ≠ s → gI τ' 204 r = gI τ 204 r) → gI τ' 204 s = fE (fun x => pA s x ∧ fil V N O x) (fun x v => mj (gI τ 204 (ndf s x)) v) (nI 99) s (x + 1) → Wp X mX10_serves (rmo (d + 2) 0 0) (d + 2) Q 0 0 45 [some (.ref 191), some (.int (nI s)), some (.int (nI (lowN s))), some (.int (nI x)), none] [] τ' := by
  have hO3 := hG.2.1.2
  have pw := pow_le hG.1.2
  intro n
  induction n with
  | zero =>
    intro x hx hx2 τ' F h1 h2
    have x0 : x = 0 := by omega
    subst x0
    refine wp_blk kX10_serves_45 ?_
    simp (disch := first | decide | omega) only [mxa, vxa, vxb, vxc, vnd, vne, Nat.reduceAdd, Nat.reduceSub, Nat.reduceLeDiff, Nat.reduceLT, Int32.reduceLT, Int32.reduceLE, Int32.reduceAdd, Int32.reduceSub, Int32.reduceMul, Int32.reduceToNatClampNeg, not_false_eq_true, not_true_eq_false, false_implies, true_implies, Nat.zero_add, reduceIte, Nat.reduceMul, Nat.reduceEqDiff, nxa, nxc, lgn, nL_of, swx, Int.reduceAdd, gI_a, gI_k, gL_a, gL_k, gI_r, gL_r, nI_and, nI_or, nI_xor, nI_ndf, nI_shl, nI_shr, ne_eq, and_true, true_and, eq_self, true_or, or_true, false_or, or_false, Option.toList, List.cons_append, List.nil_append, List.length_nil, List.length_cons, Nat.not_lt_zero, bX10_serves_45]
    refine Wp.fog 2 (Wp.fog 3 (fin τ' F h1 ?_))
    rw [h2]
    unfold cm
    rw [fE_n (p := fun x => pA s x ∧ fil V N O x) (by omega) (fun q => q.1.2 (Nat.zero_and _))]
  | succ n ih =>
    intro x hx hx2 τ' F h1 h2
    by_cases x0 : x = 0
    · exact ih x (by omega) hx2 τ' F h1 h2
    have st : Sh τ' := F.Sh hs
    have rt : Rf τ' := F.Rf hr
    have xs := sub_le hx2
    obtain ⟨n1, n2, n3⟩ := fE_next (p := fun x => pA s x ∧ fil V N O x) (g := fun x v => mj (gI τ 204 (ndf s x)) v) (v := nI 99) (show s < 1024 by omega) hx2 (by omega) (fun y q => q.1.1)
    have next : ∀ τ' : Mm, Fr (fun c => c = 204) τ τ' → (∀ r, r ≠ s → gI τ' 204 r = gI τ 204 r) → gI τ' 204 s = fE (fun x => pA s x ∧ fil V N O x) (fun x v => mj (gI τ 204 (ndf s x)) v) (nI 99) s x → ∀ v, Wp X mX10_serves (rmo (d + 2) 0 0) (d + 2) Q 0 0 109 [some (.ref 191), some (.int (nI s)), some (.int (nI (lowN s))), some (.int (nI x)), v] [] τ' := by
      intro τ' F h1 h2 v
      refine Wp.fog 4 ?_
      change Wp X mX10_serves (rmo (d + 2) 0 0) (d + 2) Q 0 0 109 [some (.ref 191), some (.int (nI s)), some (.int (nI (lowN s))), some (.int (nI x)), none] [] τ'
      refine wp_blk kX10_serves_109 ?_
      simp (disch := first | decide | omega) only [mxa, vxa, vxb, vxc, vnd, vne, Nat.reduceAdd, Nat.reduceSub, Nat.reduceLeDiff, Nat.reduceLT, Int32.reduceLT, Int32.reduceLE, Int32.reduceAdd, Int32.reduceSub, Int32.reduceMul, Int32.reduceToNatClampNeg, not_false_eq_true, not_true_eq_false, false_implies, true_implies, Nat.zero_add, reduceIte, Nat.reduceMul, Nat.reduceEqDiff, nxa, nxc, lgn, nL_of, swx, Int.reduceAdd, gI_a, gI_k, gL_a, gL_k, gI_r, gL_r, nI_and, nI_or, nI_xor, nI_ndf, nI_shl, nI_shr, ne_eq, and_true, true_and, eq_self, true_or, or_true, false_or, or_false, Option.toList, List.cons_append, List.nil_append, List.length_nil, List.length_cons, Nat.not_lt_zero, bX10_serves_109, nI_dec1 (show 0 < x by omega)]
      exact ih _ (by omega) n2 τ' F h1 (h2.trans n3.symm)
    have ol := ofB_lt (V := V) (N := N) (s := x) hO3
    have L1 : gI τ' 201 x = nI (ofB V N O x) := (F.2.2.1 201 (by omega) x).trans (hL x (by omega)).1
    have al : x &&& lowN s ≤ x := Nat.and_le_left
    by_cases hl : x &&& lowN s = 0
    · rw [fE_n (p := fun x => pA s x ∧ fil V N O x) (by omega) (fun q => q.1.2 hl)] at next
      refine wp_blk kX10_serves_45 ?_
      simp (disch := first | decide | omega) only [mxa, vxa, vxb, vxc, vnd, vne, Nat.reduceAdd, Nat.reduceSub, Nat.reduceLeDiff, Nat.reduceLT, Int32.reduceLT, Int32.reduceLE, Int32.reduceAdd, Int32.reduceSub, Int32.reduceMul, Int32.reduceToNatClampNeg, not_false_eq_true, not_true_eq_false, false_implies, true_implies, Nat.zero_add, reduceIte, Nat.reduceMul, Nat.reduceEqDiff, nxa, nxc, lgn, nL_of, swx, Int.reduceAdd, gI_a, gI_k, gL_a, gL_k, gI_r, gL_r, nI_and, nI_or, nI_xor, nI_ndf, nI_shl, nI_shr, ne_eq, and_true, true_and, eq_self, true_or, or_true, false_or, or_false, Option.toList, List.cons_append, List.nil_append, List.length_nil, List.length_cons, Nat.not_lt_zero, bX10_serves_45, hl, show ¬ x ≤ 0 by omega]
      exact next τ' F h1 h2 none
    · by_cases hf : fil V N O x
      · have pa : pA s x := ⟨hx2, hl⟩
        rw [fE_y (p := fun x => pA s x ∧ fil V N O x) (by omega) ⟨pa, hf⟩] at next
        obtain ⟨q1, q2⟩ := ndf_lt (show s < 1024 by omega) s1 pa
        have hne : ¬ ofB V N O x = 0 := fun q => ofB_0.mp q hf
        have T1 : gI τ' 204 (ndf s x) = gI τ 204 (ndf s x) := h1 _ (by omega)
        have fin2 : ∀ z : Int32, z = mj (gI τ 204 (ndf s x)) (gI τ' 204 s) → ∀ v, Wp X mX10_serves (rmo (d + 2) 0 0) (d + 2) Q 0 0 108 [some (.ref 191), some (.int (nI s)), some (.int (nI (lowN s))), some (.int (nI x)), some (.int v)] [.int z, .int (nI s), .ref 204] τ' := by
          intro z hz v
          refine wp_blk kX10_serves_108 ?_
          simp (disch := first | decide | omega) only [mxa, vxa, vxb, vxc, vnd, vne, Nat.reduceAdd, Nat.reduceSub, Nat.reduceLeDiff, Nat.reduceLT, Int32.reduceLT, Int32.reduceLE, Int32.reduceAdd, Int32.reduceSub, Int32.reduceMul, Int32.reduceToNatClampNeg, not_false_eq_true, not_true_eq_false, false_implies, true_implies, Nat.zero_add, reduceIte, Nat.reduceMul, Nat.reduceEqDiff, nxa, nxc, lgn, nL_of, swx, Int.reduceAdd, gI_a, gI_k, gL_a, gL_k, gI_r, gL_r, nI_and, nI_or, nI_xor, nI_ndf, nI_shl, nI_shr, ne_eq, and_true, true_and, eq_self, true_or, or_true, false_or, or_false, Option.toList, List.cons_append, List.nil_append, List.length_nil, List.length_cons, Nat.not_lt_zero, bX10_serves_108, kdx st]
          refine next _ (F.tr (Fr.sI rfl)) (fun r hr' => (gI_k hr').trans (h1 r hr')) ?_ _
          rw [gI_same, hz, h2]
        refine wp_blk kX10_serves_45 ?_
        simp (disch := first | decide | omega) only [mxa, vxa, vxb, vxc, vnd, vne, Nat.reduceAdd, Nat.reduceSub, Nat.reduceLeDiff, Nat.reduceLT, Int32.reduceLT, Int32.reduceLE, Int32.reduceAdd, Int32.reduceSub, Int32.reduceMul, Int32.reduceToNatClampNeg, not_false_eq_true, not_true_eq_false, false_implies, true_implies, Nat.zero_add, reduceIte, Nat.reduceMul, Nat.reduceEqDiff, nxa, nxc, lgn, nL_of, swx, Int.reduceAdd, gI_a, gI_k, gL_a, gL_k, gI_r, gL_r, nI_and, nI_or, nI_xor, nI_ndf, nI_shl, nI_shr, ne_eq, and_true, true_and, eq_self, true_or, or_true, false_or, or_false, Option.toList, List.cons_append, List.nil_append, List.length_nil, List.length_cons, Nat.not_lt_zero, bX10_serves_45, kdx st, grx rt, L1, hl, hne, show ¬ x ≤ 0 by omega]
        by_cases lt : gI τ 204 (ndf s x) + nI 1 < gI τ' 204 s
        · have nl : ¬ gI τ' 204 s ≤ gI τ 204 (ndf s x) + nI 1 := fun q => by
            rw [Int32.lt_iff_toInt_lt] at lt
            rw [Int32.le_iff_toInt_le] at q
            omega
          refine wp_blk kX10_serves_67 ?_
          simp (disch := first | decide | omega) only [mxa, vxa, vxb, vxc, vnd, vne, Nat.reduceAdd, Nat.reduceSub, Nat.reduceLeDiff, Nat.reduceLT, Int32.reduceLT, Int32.reduceLE, Int32.reduceAdd, Int32.reduceSub, Int32.reduceMul, Int32.reduceToNatClampNeg, not_false_eq_true, not_true_eq_false, false_implies, true_implies, Nat.zero_add, reduceIte, Nat.reduceMul, Nat.reduceEqDiff, nxa, nxc, lgn, nL_of, swx, Int.reduceAdd, gI_a, gI_k, gL_a, gL_k, gI_r, gL_r, nI_and, nI_or, nI_xor, nI_ndf, nI_shl, nI_shr, ne_eq, and_true, true_and, eq_self, true_or, or_true, false_or, or_false, Option.toList, List.cons_append, List.nil_append, List.length_nil, List.length_cons, Nat.not_lt_zero, bX10_serves_67, kdx st, grx rt, T1, nl]
          exact fin2 _ (if_pos lt).symm _
        · have nl : gI τ' 204 s ≤ gI τ 204 (ndf s x) + nI 1 := by
            rw [Int32.lt_iff_toInt_lt] at lt
            rw [Int32.le_iff_toInt_le]
            omega
          refine wp_blk kX10_serves_67 ?_
          simp (disch := first | decide | omega) only [mxa, vxa, vxb, vxc, vnd, vne, Nat.reduceAdd, Nat.reduceSub, Nat.reduceLeDiff, Nat.reduceLT, Int32.reduceLT, Int32.reduceLE, Int32.reduceAdd, Int32.reduceSub, Int32.reduceMul, Int32.reduceToNatClampNeg, not_false_eq_true, not_true_eq_false, false_implies, true_implies, Nat.zero_add, reduceIte, Nat.reduceMul, Nat.reduceEqDiff, nxa, nxc, lgn, nL_of, swx, Int.reduceAdd, gI_a, gI_k, gL_a, gL_k, gI_r, gL_r, nI_and, nI_or, nI_xor, nI_ndf, nI_shl, nI_shr, ne_eq, and_true, true_and, eq_self, true_or, or_true, false_or, or_false, Option.toList, List.cons_append, List.nil_append, List.length_nil, List.length_cons, Nat.not_lt_zero, bX10_serves_67, kdx st, grx rt, T1, nl]
          refine wp_blk kX10_serves_102 ?_
          simp (disch := first | decide | omega) only [mxa, vxa, vxb, vxc, vnd, vne, Nat.reduceAdd, Nat.reduceSub, Nat.reduceLeDiff, Nat.reduceLT, Int32.reduceLT, Int32.reduceLE, Int32.reduceAdd, Int32.reduceSub, Int32.reduceMul, Int32.reduceToNatClampNeg, not_false_eq_true, not_true_eq_false, false_implies, true_implies, Nat.zero_add, reduceIte, Nat.reduceMul, Nat.reduceEqDiff, nxa, nxc, lgn, nL_of, swx, Int.reduceAdd, gI_a, gI_k, gL_a, gL_k, gI_r, gL_r, nI_and, nI_or, nI_xor, nI_ndf, nI_shl, nI_shr, ne_eq, and_true, true_and, eq_self, true_or, or_true, false_or, or_false, Option.toList, List.cons_append, List.nil_append, List.length_nil, List.length_cons, Nat.not_lt_zero, bX10_serves_102, kdx st, grx rt]
          exact fin2 _ (if_neg lt).symm _
      · rw [fE_n (p := fun x => pA s x ∧ fil V N O x) (by omega) (fun q => hf q.2)] at next
        refine wp_blk kX10_serves_45 ?_
        simp (disch := first | decide | omega) only [mxa, vxa, vxb, vxc, vnd, vne, Nat.reduceAdd, Nat.reduceSub, Nat.reduceLeDiff, Nat.reduceLT, Int32.reduceLT, Int32.reduceLE, Int32.reduceAdd, Int32.reduceSub, Int32.reduceMul, Int32.reduceToNatClampNeg, not_false_eq_true, not_true_eq_false, false_implies, true_implies, Nat.zero_add, reduceIte, Nat.reduceMul, Nat.reduceEqDiff, nxa, nxc, lgn, nL_of, swx, Int.reduceAdd, gI_a, gI_k, gL_a, gL_k, gI_r, gL_r, nI_and, nI_or, nI_xor, nI_ndf, nI_shl, nI_shr, ne_eq, and_true, true_and, eq_self, true_or, or_true, false_or, or_false, Option.toList, List.cons_append, List.nil_append, List.length_nil, List.length_cons, Nat.not_lt_zero, bX10_serves_45, kdx st, grx rt, L1, hl, show ¬ x ≤ 0 by omega, show ofB V N O x = 0 from ofB_0.mpr hf]
        exact next τ' F h1 h2 none
theorem c_serves (X : Cx) (d : Nat) (σ : Mm) (V : Nat → Int32) (t N O K : Nat) (hs : Sh σ) (hr : Rf σ) (hV : gI σ 192 = V) (hG : Gd V t N O K) (Q : Po) (hQ : ∀ τ : Mm, Fr (fun c => c = 191 ∨ c = 201 ∨ c = 202 ∨ c = 203 ∨ c = 204) σ τ → (∀ j, j ≠ 26 → gI τ 191 j = gI σ 191 j) → gI τ 204 0 = nI 0 → (∀ s, 0 < s → s < 2 ^ N → gI τ 204 s = cm (fil V N O) (gI τ 204) s) → gI τ 191 26 = nI (bsN (fun s => gI τ 204 s < nI 99) (btr (gI τ 204)) (2 ^ N - 1)) → Q (some (.int (nI (pcN (bsN (fun s => gI τ 204 s < nI 99) (btr (gI τ 204)) (2 ^ N - 1)) 10)))) τ) : Call X (d + 3) 0 0 mX10_serves [.ref 191] σ Q := by
  sorry
