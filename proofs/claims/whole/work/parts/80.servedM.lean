/-! served: the model's table -/
set_option maxRecDepth 20000
def mj (x : Int32) (v : Int32) : Int32 := if x + nI 1 < v then x + nI 1 else v
/-- a cell of the model's table -/
noncomputable def cm (F : Nat → Prop) (T : Nat → Int32) (s : Nat) : Int32 := fE (fun x => pA s x ∧ F x) (fun x v => mj (T (ndf s x)) v) (nI 99) s 0
theorem cm_congr {s : Nat} {F : Nat → Prop} {T T' : Nat → Int32} (hs : s < 1024) (h0 : 0 < s) (h : ∀ r, r < s → r &&& s = r → T r = T' r) : cm F T s = cm F T' s := by
  unfold cm
  refine fE_rel (R := fun a b => a = b) rfl (fun x a b _ hx e => ?_) (s + 1) 0 (by omega)
  obtain ⟨q1, q2⟩ := ndf_lt hs h0 hx.1
  show mj (T (ndf s x)) a = mj (T' (ndf s x)) b
  rw [e, h _ q1 q2]
theorem m_srvIn (X : Cx) (d : Nat) (τ : Mm) (V : Nat → Int32) (t N O K s : Nat) (hs : Sh τ) (hr : Rf τ) (hG : Gd V t N O K) (hL : ∀ s, s < 2 ^ N → GL V N O τ s) (s1 : 0 < s) (s2 : s < 2 ^ N) (Q : Po) (fin : ∀ τ' : Mm, Fr (fun c => c = 203) τ τ' → (∀ r, r ≠ s → gI τ' 203 r = gI τ 203 r) → gI τ' 203 s = cm (fil V N O) (gI τ 203) s → Wp X mX10_serves (rmo (d + 2) 0 0) (d + 2) Q 0 0 118 [some (.ref 190), some (.int (nI s)), none, none, none] [] τ') : ∀ n x, x ≤ n → x &&& s = x → ∀ τ' : Mm, Fr (fun c => c = 203) τ τ' → (∀ r, r ≠ s → gI τ' 203 r = gI τ 203 r) → gI τ' 203 s = fE (fun x => pA s x ∧ fil V N O x) (fun x v => mj (gI τ 203 (ndf s x)) v) (nI 99) s (x + 1) → Wp X mX10_serves (rmo (d + 2) 0 0) (d + 2) Q 0 0 45 [some (.ref 190), some (.int (nI s)), some (.int (nI (lowN s))), some (.int (nI x)), none] [] τ' := by
  have hO3 := hG.2.1.2
  have pw := pow_le hG.1.2
  intro n
  induction n with
  | zero =>
    intro x hx hx2 τ' F h1 h2
    have x0 : x = 0 := by omega
    subst x0
    refine wp_blk kX10_serves_45 ?_
    simp (disch := first | decide | omega) only [mxa, vxa, vxb, vxc, vnd, vne, Nat.reduceAdd, Nat.reduceSub, Nat.reduceLeDiff, Nat.reduceLT, Int32.reduceLT, Int32.reduceLE, Int32.reduceAdd, Int32.reduceSub, Int32.reduceMul, Int32.reduceToNatClampNeg, not_false_eq_true, not_true_eq_false, false_implies, true_implies, Nat.zero_add, reduceIte, Nat.reduceMul, Nat.reduceEqDiff, nxa, nxc, lgn, nL_of, swx, Int.reduceAdd, gI_a, gI_k, gL_a, gL_k, gI_r, gL_r, nI_and, nI_or, nI_xor, nI_ndf, nI_shl, nI_shr, ne_eq, and_true, true_and, eq_self, true_or, or_true, false_or, or_false, Option.toList, List.cons_append, List.nil_append, List.length_nil, List.length_cons, Nat.not_lt_zero, bX10_serves_45]
    refine Wp.fog 2 (Wp.fog 3 (fin τ' F h1 ?_))
    rw [h2]
    unfold cm
    rw [fE_n (p := fun x => pA s x ∧ fil V N O x) (by omega) (fun q => q.1.2 (Nat.zero_and _))]
  | succ n ih =>
    intro x hx hx2 τ' F h1 h2
    by_cases x0 : x = 0
    · exact ih x (by omega) hx2 τ' F h1 h2
    have st : Sh τ' := F.Sh hs
    have rt : Rf τ' := F.Rf hr
    have xs := sub_le hx2
    obtain ⟨n1, n2, n3⟩ := fE_next (p := fun x => pA s x ∧ fil V N O x) (g := fun x v => mj (gI τ 203 (ndf s x)) v) (v := nI 99) (show s < 1024 by omega) hx2 (by omega) (fun y q => q.1.1)
    have next : ∀ τ' : Mm, Fr (fun c => c = 203) τ τ' → (∀ r, r ≠ s → gI τ' 203 r = gI τ 203 r) → gI τ' 203 s = fE (fun x => pA s x ∧ fil V N O x) (fun x v => mj (gI τ 203 (ndf s x)) v) (nI 99) s x → ∀ v, Wp X mX10_serves (rmo (d + 2) 0 0) (d + 2) Q 0 0 109 [some (.ref 190), some (.int (nI s)), some (.int (nI (lowN s))), some (.int (nI x)), v] [] τ' := by
      intro τ' F h1 h2 v
      refine Wp.fog 4 ?_
      change Wp X mX10_serves (rmo (d + 2) 0 0) (d + 2) Q 0 0 109 [some (.ref 190), some (.int (nI s)), some (.int (nI (lowN s))), some (.int (nI x)), none] [] τ'
      refine wp_blk kX10_serves_109 ?_
      simp (disch := first | decide | omega) only [mxa, vxa, vxb, vxc, vnd, vne, Nat.reduceAdd, Nat.reduceSub, Nat.reduceLeDiff, Nat.reduceLT, Int32.reduceLT, Int32.reduceLE, Int32.reduceAdd, Int32.reduceSub, Int32.reduceMul, Int32.reduceToNatClampNeg, not_false_eq_true, not_true_eq_false, false_implies, true_implies, Nat.zero_add, reduceIte, Nat.reduceMul, Nat.reduceEqDiff, nxa, nxc, lgn, nL_of, swx, Int.reduceAdd, gI_a, gI_k, gL_a, gL_k, gI_r, gL_r, nI_and, nI_or, nI_xor, nI_ndf, nI_shl, nI_shr, ne_eq, and_true, true_and, eq_self, true_or, or_true, false_or, or_false, Option.toList, List.cons_append, List.nil_append, List.length_nil, List.length_cons, Nat.not_lt_zero, bX10_serves_109, nI_dec1 (show 0 < x by omega)]
      exact ih _ (by omega) n2 τ' F h1 (h2.trans n3.symm)
    have ol := ofB_lt (V := V) (N := N) (s := x) hO3
    have L1 : gI τ' 200 x = nI (ofB V N O x) := (F.2.2.1 200 (by omega) x).trans (hL x (by omega)).1
    have al : x &&& lowN s ≤ x := Nat.and_le_left
    by_cases hl : x &&& lowN s = 0
    · rw [fE_n (p := fun x => pA s x ∧ fil V N O x) (by omega) (fun q => q.1.2 hl)] at next
      refine wp_blk kX10_serves_45 ?_
      simp (disch := first | decide | omega) only [mxa, vxa, vxb, vxc, vnd, vne, Nat.reduceAdd, Nat.reduceSub, Nat.reduceLeDiff, Nat.reduceLT, Int32.reduceLT, Int32.reduceLE, Int32.reduceAdd, Int32.reduceSub, Int32.reduceMul, Int32.reduceToNatClampNeg, not_false_eq_true, not_true_eq_false, false_implies, true_implies, Nat.zero_add, reduceIte, Nat.reduceMul, Nat.reduceEqDiff, nxa, nxc, lgn, nL_of, swx, Int.reduceAdd, gI_a, gI_k, gL_a, gL_k, gI_r, gL_r, nI_and, nI_or, nI_xor, nI_ndf, nI_shl, nI_shr, ne_eq, and_true, true_and, eq_self, true_or, or_true, false_or, or_false, Option.toList, List.cons_append, List.nil_append, List.length_nil, List.length_cons, Nat.not_lt_zero, bX10_serves_45, hl, show ¬ x ≤ 0 by omega]
      exact next τ' F h1 h2 none
    · by_cases hf : fil V N O x
      · have pa : pA s x := ⟨hx2, hl⟩
        rw [fE_y (p := fun x => pA s x ∧ fil V N O x) (by omega) ⟨pa, hf⟩] at next
        obtain ⟨q1, q2⟩ := ndf_lt (show s < 1024 by omega) s1 pa
        have hne : ¬ ofB V N O x = 0 := fun q => ofB_0.mp q hf
        have T1 : gI τ' 203 (ndf s x) = gI τ 203 (ndf s x) := h1 _ (by omega)
        have fin2 : ∀ z : Int32, z = mj (gI τ 203 (ndf s x)) (gI τ' 203 s) → ∀ v, Wp X mX10_serves (rmo (d + 2) 0 0) (d + 2) Q 0 0 108 [some (.ref 190), some (.int (nI s)), some (.int (nI (lowN s))), some (.int (nI x)), some (.int v)] [.int z, .int (nI s), .ref 203] τ' := by
          intro z hz v
          refine wp_blk kX10_serves_108 ?_
          simp (disch := first | decide | omega) only [mxa, vxa, vxb, vxc, vnd, vne, Nat.reduceAdd, Nat.reduceSub, Nat.reduceLeDiff, Nat.reduceLT, Int32.reduceLT, Int32.reduceLE, Int32.reduceAdd, Int32.reduceSub, Int32.reduceMul, Int32.reduceToNatClampNeg, not_false_eq_true, not_true_eq_false, false_implies, true_implies, Nat.zero_add, reduceIte, Nat.reduceMul, Nat.reduceEqDiff, nxa, nxc, lgn, nL_of, swx, Int.reduceAdd, gI_a, gI_k, gL_a, gL_k, gI_r, gL_r, nI_and, nI_or, nI_xor, nI_ndf, nI_shl, nI_shr, ne_eq, and_true, true_and, eq_self, true_or, or_true, false_or, or_false, Option.toList, List.cons_append, List.nil_append, List.length_nil, List.length_cons, Nat.not_lt_zero, bX10_serves_108, kdx st]
          refine next _ (F.tr (Fr.sI rfl)) (fun r hr' => (gI_k hr').trans (h1 r hr')) ?_ _
          rw [gI_same, hz, h2]
        refine wp_blk kX10_serves_45 ?_
        simp (disch := first | decide | omega) only [mxa, vxa, vxb, vxc, vnd, vne, Nat.reduceAdd, Nat.reduceSub, Nat.reduceLeDiff, Nat.reduceLT, Int32.reduceLT, Int32.reduceLE, Int32.reduceAdd, Int32.reduceSub, Int32.reduceMul, Int32.reduceToNatClampNeg, not_false_eq_true, not_true_eq_false, false_implies, true_implies, Nat.zero_add, reduceIte, Nat.reduceMul, Nat.reduceEqDiff, nxa, nxc, lgn, nL_of, swx, Int.reduceAdd, gI_a, gI_k, gL_a, gL_k, gI_r, gL_r, nI_and, nI_or, nI_xor, nI_ndf, nI_shl, nI_shr, ne_eq, and_true, true_and, eq_self, true_or, or_true, false_or, or_false, Option.toList, List.cons_append, List.nil_append, List.length_nil, List.length_cons, Nat.not_lt_zero, bX10_serves_45, kdx st, grx rt, L1, hl, hne, show ¬ x ≤ 0 by omega]
        by_cases lt : gI τ 203 (ndf s x) + nI 1 < gI τ' 203 s
        · have nl : ¬ gI τ' 203 s ≤ gI τ 203 (ndf s x) + nI 1 := fun q => by
            rw [Int32.lt_iff_toInt_lt] at lt
            rw [Int32.le_iff_toInt_le] at q
            omega
          refine wp_blk kX10_serves_67 ?_
          simp (disch := first | decide | omega) only [mxa, vxa, vxb, vxc, vnd, vne, Nat.reduceAdd, Nat.reduceSub, Nat.reduceLeDiff, Nat.reduceLT, Int32.reduceLT, Int32.reduceLE, Int32.reduceAdd, Int32.reduceSub, Int32.reduceMul, Int32.reduceToNatClampNeg, not_false_eq_true, not_true_eq_false, false_implies, true_implies, Nat.zero_add, reduceIte, Nat.reduceMul, Nat.reduceEqDiff, nxa, nxc, lgn, nL_of, swx, Int.reduceAdd, gI_a, gI_k, gL_a, gL_k, gI_r, gL_r, nI_and, nI_or, nI_xor, nI_ndf, nI_shl, nI_shr, ne_eq, and_true, true_and, eq_self, true_or, or_true, false_or, or_false, Option.toList, List.cons_append, List.nil_append, List.length_nil, List.length_cons, Nat.not_lt_zero, bX10_serves_67, kdx st, grx rt, T1, nl]
          exact fin2 _ (if_pos lt).symm _
        · have nl : gI τ' 203 s ≤ gI τ 203 (ndf s x) + nI 1 := by
            rw [Int32.lt_iff_toInt_lt] at lt
            rw [Int32.le_iff_toInt_le]
            omega
          refine wp_blk kX10_serves_67 ?_
          simp (disch := first | decide | omega) only [mxa, vxa, vxb, vxc, vnd, vne, Nat.reduceAdd, Nat.reduceSub, Nat.reduceLeDiff, Nat.reduceLT, Int32.reduceLT, Int32.reduceLE, Int32.reduceAdd, Int32.reduceSub, Int32.reduceMul, Int32.reduceToNatClampNeg, not_false_eq_true, not_true_eq_false, false_implies, true_implies, Nat.zero_add, reduceIte, Nat.reduceMul, Nat.reduceEqDiff, nxa, nxc, lgn, nL_of, swx, Int.reduceAdd, gI_a, gI_k, gL_a, gL_k, gI_r, gL_r, nI_and, nI_or, nI_xor, nI_ndf, nI_shl, nI_shr, ne_eq, and_true, true_and, eq_self, true_or, or_true, false_or, or_false, Option.toList, List.cons_append, List.nil_append, List.length_nil, List.length_cons, Nat.not_lt_zero, bX10_serves_67, kdx st, grx rt, T1, nl]
          refine wp_blk kX10_serves_102 ?_
          simp (disch := first | decide | omega) only [mxa, vxa, vxb, vxc, vnd, vne, Nat.reduceAdd, Nat.reduceSub, Nat.reduceLeDiff, Nat.reduceLT, Int32.reduceLT, Int32.reduceLE, Int32.reduceAdd, Int32.reduceSub, Int32.reduceMul, Int32.reduceToNatClampNeg, not_false_eq_true, not_true_eq_false, false_implies, true_implies, Nat.zero_add, reduceIte, Nat.reduceMul, Nat.reduceEqDiff, nxa, nxc, lgn, nL_of, swx, Int.reduceAdd, gI_a, gI_k, gL_a, gL_k, gI_r, gL_r, nI_and, nI_or, nI_xor, nI_ndf, nI_shl, nI_shr, ne_eq, and_true, true_and, eq_self, true_or, or_true, false_or, or_false, Option.toList, List.cons_append, List.nil_append, List.length_nil, List.length_cons, Nat.not_lt_zero, bX10_serves_102, kdx st, grx rt]
          exact fin2 _ (if_neg lt).symm _
      · rw [fE_n (p := fun x => pA s x ∧ fil V N O x) (by omega) (fun q => hf q.2)] at next
        refine wp_blk kX10_serves_45 ?_
        simp (disch := first | decide | omega) only [mxa, vxa, vxb, vxc, vnd, vne, Nat.reduceAdd, Nat.reduceSub, Nat.reduceLeDiff, Nat.reduceLT, Int32.reduceLT, Int32.reduceLE, Int32.reduceAdd, Int32.reduceSub, Int32.reduceMul, Int32.reduceToNatClampNeg, not_false_eq_true, not_true_eq_false, false_implies, true_implies, Nat.zero_add, reduceIte, Nat.reduceMul, Nat.reduceEqDiff, nxa, nxc, lgn, nL_of, swx, Int.reduceAdd, gI_a, gI_k, gL_a, gL_k, gI_r, gL_r, nI_and, nI_or, nI_xor, nI_ndf, nI_shl, nI_shr, ne_eq, and_true, true_and, eq_self, true_or, or_true, false_or, or_false, Option.toList, List.cons_append, List.nil_append, List.length_nil, List.length_cons, Nat.not_lt_zero, bX10_serves_45, kdx st, grx rt, L1, hl, show ¬ x ≤ 0 by omega, show ofB V N O x = 0 from ofB_0.mpr hf]
        exact next τ' F h1 h2 none
theorem bsN_congr {C C' : Nat → Prop} {B B' : Nat → Nat → Prop} : ∀ m, (∀ s, 0 < s → s ≤ m → (C s ↔ C' s)) → (∀ s b, 0 < s → s ≤ m → b < s → (b = 0 ∨ C b) → C s → (B s b ↔ B' s b)) → bsN C B m = bsN C' B' m
  | 0, _, _ => rfl
  | m + 1, h1, h2 => by
    have ih := bsN_congr (C := C) (C' := C') (B := B) (B' := B') m (fun s a b => h1 s a (by omega)) (fun s b a1 a2 => h2 s b a1 (by omega))
    have le := bsN_le (C := C) (B := B) m
    have c := h1 (m + 1) (by omega) (Nat.le_refl _)
    by_cases h : C (m + 1) ∧ B (m + 1) (bsN C B m)
    · have b := h2 (m + 1) (bsN C B m) (by omega) (Nat.le_refl _) (by omega) (bsN_in m) h.1
      rw [bsN_y h.1 h.2, bsN_y (c.mp h.1) (by rw [← ih]; exact b.mp h.2)]
    · rw [bsN_n h, bsN_n (C := C') (B := B') (fun q => h ⟨c.mpr q.1, (h2 (m + 1) (bsN C B m) (by omega) (Nat.le_refl _) (by omega) (bsN_in m) (c.mpr q.1)).mpr (by rw [ih]; exact q.2)⟩), ih]
theorem GL.keep {V : Nat → Int32} {N O s : Nat} {σ τ : Mm} (h : GL V N O σ s) (k : ∀ c, c = 200 ∨ c = 201 ∨ c = 202 → ∀ j, gI τ c j = gI σ c j) : GL V N O τ s := by
  obtain ⟨h1, h2, b, h3, h4, h5⟩ := h
  exact ⟨(k 200 (by omega) s).trans h1, (k 201 (by omega) s).trans h2, b, h3, (k 202 (by omega) s).trans h4, h5⟩
theorem c_serves (X : Cx) (d : Nat) (σ : Mm) (V : Nat → Int32) (t N O K : Nat) (hs : Sh σ) (hr : Rf σ) (hV : gI σ 191 = V) (hG : Gd V t N O K) (Q : Po) (hQ : ∀ τ : Mm, Fr (fun c => c = 190 ∨ c = 200 ∨ c = 201 ∨ c = 202 ∨ c = 203) σ τ → (∀ j, j ≠ 26 → gI τ 190 j = gI σ 190 j) → gI τ 203 0 = nI 0 → (∀ s, 0 < s → s < 2 ^ N → gI τ 203 s = cm (fil V N O) (gI τ 203) s) → gI τ 190 26 = nI (bsN (fun s => gI τ 203 s < nI 99) (btr (gI τ 203)) (2 ^ N - 1)) → Q (some (.int (nI (pcN (bsN (fun s => gI τ 203 s < nI 99) (btr (gI τ 203)) (2 ^ N - 1)) 10)))) τ) : Call X (d + 3) 0 0 mX10_serves [.ref 190] σ Q := by
  have hN10 := hG.1.2
  have pw := pow_le hG.1.2
  refine call_of eX10_serves rfl ?_
  refine wp_blk kX10_serves_0 ?_
  simp (disch := first | decide | omega) only [mxa, vxa, vxb, vxc, vnd, vne, Nat.reduceAdd, Nat.reduceSub, Nat.reduceLeDiff, Nat.reduceLT, Int32.reduceLT, Int32.reduceLE, Int32.reduceAdd, Int32.reduceSub, Int32.reduceMul, Int32.reduceToNatClampNeg, not_false_eq_true, not_true_eq_false, false_implies, true_implies, Nat.zero_add, reduceIte, Nat.reduceMul, Nat.reduceEqDiff, nxa, nxc, lgn, nL_of, swx, Int.reduceAdd, gI_a, gI_k, gL_a, gL_k, gI_r, gL_r, nI_and, nI_or, nI_xor, nI_ndf, nI_shl, nI_shr, ne_eq, and_true, true_and, eq_self, true_or, or_true, false_or, or_false, Option.toList, List.cons_append, List.nil_append, List.length_nil, List.length_cons, Nat.not_lt_zero, bX10_serves_0, kdx hs]
  refine c_laysGroups X _ σ V t N O K hs hr hV hG _ (fun σ2 F2 L2 => ?_)
  have sh2 := F2.Sh hs
  have rf2 := F2.Rf hr
  have n2 : gI σ2 191 0 = nI N := (F2.2.2.1 191 (by omega) 0).trans (by rw [hV]; exact hG.1.1)
  have go := wfor (fun m => ∀ τ : Mm, Fr (fun c => c = 190 ∨ c = 203) σ2 τ → (∀ j, j ≠ 26 → gI τ 190 j = gI σ2 190 j) → gI τ 203 0 = nI 0 → (∀ s, 0 < s → s ≤ m → gI τ 203 s = cm (fil V N O) (gI τ 203) s) → gI τ 190 26 = nI (bsN (fun s => gI τ 203 s < nI 99) (btr (gI τ 203)) m) → Wp X mX10_serves (rmo (d + 3) 0 0) (d + 3) Q 0 0 18 [some (.ref 190), some (.int (nI (m + 1))), none, none, none] [] τ) (2 ^ N - 1) (fun m hm hP τ F h1 h2 h3 h4 => by
    have s1 := F.Sh sh2
    have r1 := F.Rf rf2
    have n1 : gI τ 191 0 = nI N := (F.2.2.1 191 (by omega) 0).trans n2
    have lI := low_I (m + 1) (by omega)
    have inn := m_srvIn X (d + 1) (sI τ 203 (m + 1) (nI 99)) V t N O K (m + 1) (by exact s1) (by exact r1) hG (fun s hs' => (L2 s hs').keep (fun c hc j => (gI_a (by omega)).trans (F.2.2.1 c (by omega) j))) (by omega) (by omega) Q (fun τ' F' k1 k2 => by
      have s3 : Sh τ' := F'.1.trans s1
      have r3 : Rf τ' := F'.Rf (by exact r1)
      have eq : ∀ r, r ≠ m + 1 → gI τ' 203 r = gI τ 203 r := fun r hr' => (k1 r hr').trans (gI_k hr')
      have F3 : Fr (fun c => c = 190 ∨ c = 203) σ2 τ' := F.tr ((Fr.sI (by omega)).tr (F'.mono (fun c q => Or.inr q)))
      have g1 : ∀ j, gI τ' 190 j = gI τ 190 j := fun j => (F'.2.2.1 190 (by omega) j).trans (gI_a (by decide))
      have tb : ∀ s, 0 < s → s ≤ m + 1 → gI τ' 203 s = cm (fil V N O) (gI τ' 203) s := fun s q1 q2 => by
        by_cases e : s = m + 1
        · rw [e, k2]
          exact cm_congr (by omega) (by omega) (fun r r1 _ => (k1 r (by omega)).symm)
        · rw [eq s e, h3 s q1 (by omega)]
          exact cm_congr (by omega) q1 (fun r r1 _ => (eq r (by omega)).symm)
      have bs : bsN (fun s => gI τ 203 s < nI 99) (btr (gI τ 203)) m = bsN (fun s => gI τ' 203 s < nI 99) (btr (gI τ' 203)) m := bsN_congr m (fun s q1 q2 => by rw [eq s (by omega)]) (fun s b q1 q2 q3 _ _ => by unfold btr; rw [eq s (by omega), eq b (by omega)])
      have b26 : gI τ' 190 26 = nI (bsN (fun s => gI τ' 203 s < nI 99) (btr (gI τ' 203)) m) := by rw [g1, h4, bs]
      have bl := bsN_le (C := fun s => gI τ' 203 s < nI 99) (B := btr (gI τ' 203)) m
      have hP' := hP τ' F3 (fun j hj => (g1 j).trans (h1 j hj)) ((eq 0 (by omega)).trans h2) tb
      have skip : ¬ (gI τ' 203 (m + 1) < nI 99 ∧ btr (gI τ' 203) (m + 1) (bsN (fun s => gI τ' 203 s < nI 99) (btr (gI τ' 203)) m)) → Wp X mX10_serves (rmo (d + 3) 0 0) (d + 3) Q 0 0 183 [some (.ref 190), some (.int (nI (m + 1))), none, none, none] [] τ' := by
        intro h
        rw [bsN_n (C := fun s => gI τ' 203 s < nI 99) h] at hP'
        refine wp_blk kX10_serves_183 ?_
        simp (disch := first | decide | omega) only [mxa, vxa, vxb, vxc, vnd, vne, Nat.reduceAdd, Nat.reduceSub, Nat.reduceLeDiff, Nat.reduceLT, Int32.reduceLT, Int32.reduceLE, Int32.reduceAdd, Int32.reduceSub, Int32.reduceMul, Int32.reduceToNatClampNeg, not_false_eq_true, not_true_eq_false, false_implies, true_implies, Nat.zero_add, reduceIte, Nat.reduceMul, Nat.reduceEqDiff, nxa, nxc, lgn, nL_of, swx, Int.reduceAdd, gI_a, gI_k, gL_a, gL_k, gI_r, gL_r, nI_and, nI_or, nI_xor, nI_ndf, nI_shl, nI_shr, ne_eq, and_true, true_and, eq_self, true_or, or_true, false_or, or_false, Option.toList, List.cons_append, List.nil_append, List.length_nil, List.length_cons, Nat.not_lt_zero, bX10_serves_183]
        exact hP' b26
      have take : gI τ' 203 (m + 1) < nI 99 → btr (gI τ' 203) (m + 1) (bsN (fun s => gI τ' 203 s < nI 99) (btr (gI τ' 203)) m) → Wp X mX10_serves (rmo (d + 3) 0 0) (d + 3) Q 0 0 178 [some (.ref 190), some (.int (nI (m + 1))), none, none, none] [] τ' := by
        intro q1 q2
        have e204 : gI (sI τ' 190 26 (nI (m + 1))) 203 = gI τ' 203 := funext (fun j => gI_a (by decide))
        have := hP (sI τ' 190 26 (nI (m + 1))) (F3.tr (Fr.sI (by omega))) (fun j hj => (gI_k hj).trans ((g1 j).trans (h1 j hj)))
        rw [e204, bsN_y (C := fun s => gI τ' 203 s < nI 99) q1 q2] at this
        refine wp_blk kX10_serves_178 ?_
        simp (disch := first | decide | omega) only [mxa, vxa, vxb, vxc, vnd, vne, Nat.reduceAdd, Nat.reduceSub, Nat.reduceLeDiff, Nat.reduceLT, Int32.reduceLT, Int32.reduceLE, Int32.reduceAdd, Int32.reduceSub, Int32.reduceMul, Int32.reduceToNatClampNeg, not_false_eq_true, not_true_eq_false, false_implies, true_implies, Nat.zero_add, reduceIte, Nat.reduceMul, Nat.reduceEqDiff, nxa, nxc, lgn, nL_of, swx, Int.reduceAdd, gI_a, gI_k, gL_a, gL_k, gI_r, gL_r, nI_and, nI_or, nI_xor, nI_ndf, nI_shl, nI_shr, ne_eq, and_true, true_and, eq_self, true_or, or_true, false_or, or_false, Option.toList, List.cons_append, List.nil_append, List.length_nil, List.length_cons, Nat.not_lt_zero, bX10_serves_178, kdx s3]
        refine wp_blk kX10_serves_183 ?_
        simp (disch := first | decide | omega) only [mxa, vxa, vxb, vxc, vnd, vne, Nat.reduceAdd, Nat.reduceSub, Nat.reduceLeDiff, Nat.reduceLT, Int32.reduceLT, Int32.reduceLE, Int32.reduceAdd, Int32.reduceSub, Int32.reduceMul, Int32.reduceToNatClampNeg, not_false_eq_true, not_true_eq_false, false_implies, true_implies, Nat.zero_add, reduceIte, Nat.reduceMul, Nat.reduceEqDiff, nxa, nxc, lgn, nL_of, swx, Int.reduceAdd, gI_a, gI_k, gL_a, gL_k, gI_r, gL_r, nI_and, nI_or, nI_xor, nI_ndf, nI_shl, nI_shr, ne_eq, and_true, true_and, eq_self, true_or, or_true, false_or, or_false, Option.toList, List.cons_append, List.nil_append, List.length_nil, List.length_cons, Nat.not_lt_zero, bX10_serves_183]
        exact this ((eq 0 (by omega)).trans h2) tb (gI_same _ _ _ _)
      generalize bsN (fun s => gI τ' 203 s < nI 99) (btr (gI τ' 203)) m = b at *
      by_cases lt : gI τ' 203 (m + 1) < nI 99
      · refine wp_blk kX10_serves_118 ?_
        simp (disch := first | decide | omega) only [mxa, vxa, vxb, vxc, vnd, vne, Nat.reduceAdd, Nat.reduceSub, Nat.reduceLeDiff, Nat.reduceLT, Int32.reduceLT, Int32.reduceLE, Int32.reduceAdd, Int32.reduceSub, Int32.reduceMul, Int32.reduceToNatClampNeg, not_false_eq_true, not_true_eq_false, false_implies, true_implies, Nat.zero_add, reduceIte, Nat.reduceMul, Nat.reduceEqDiff, nxa, nxc, lgn, nL_of, swx, Int.reduceAdd, gI_a, gI_k, gL_a, gL_k, gI_r, gL_r, nI_and, nI_or, nI_xor, nI_ndf, nI_shl, nI_shr, ne_eq, and_true, true_and, eq_self, true_or, or_true, false_or, or_false, Option.toList, List.cons_append, List.nil_append, List.length_nil, List.length_cons, Nat.not_lt_zero, bX10_serves_118, kdx s3, grx r3, lt]
        refine wp_blk kX10_serves_132 ?_
        simp (disch := first | decide | omega) only [mxa, vxa, vxb, vxc, vnd, vne, Nat.reduceAdd, Nat.reduceSub, Nat.reduceLeDiff, Nat.reduceLT, Int32.reduceLT, Int32.reduceLE, Int32.reduceAdd, Int32.reduceSub, Int32.reduceMul, Int32.reduceToNatClampNeg, not_false_eq_true, not_true_eq_false, false_implies, true_implies, Nat.zero_add, reduceIte, Nat.reduceMul, Nat.reduceEqDiff, nxa, nxc, lgn, nL_of, swx, Int.reduceAdd, gI_a, gI_k, gL_a, gL_k, gI_r, gL_r, nI_and, nI_or, nI_xor, nI_ndf, nI_shl, nI_shr, ne_eq, and_true, true_and, eq_self, true_or, or_true, false_or, or_false, Option.toList, List.cons_append, List.nil_append, List.length_nil, List.length_cons, Nat.not_lt_zero, bX10_serves_132, kdx s3]
        refine c_bitsOf X _ _ (m + 1) (by omega) _ ?_
        simp (disch := first | decide | omega) only [mxa, vxa, vxb, vxc, vnd, vne, Nat.reduceAdd, Nat.reduceSub, Nat.reduceLeDiff, Nat.reduceLT, Int32.reduceLT, Int32.reduceLE, Int32.reduceAdd, Int32.reduceSub, Int32.reduceMul, Int32.reduceToNatClampNeg, not_false_eq_true, not_true_eq_false, false_implies, true_implies, Nat.zero_add, reduceIte, Nat.reduceMul, Nat.reduceEqDiff, nxa, nxc, lgn, nL_of, swx, Int.reduceAdd, gI_a, gI_k, gL_a, gL_k, gI_r, gL_r, nI_and, nI_or, nI_xor, nI_ndf, nI_shl, nI_shr, ne_eq, and_true, true_and, eq_self, true_or, or_true, false_or, or_false, Option.toList, List.cons_append, List.nil_append, List.length_nil, List.length_cons, Nat.not_lt_zero, kdx s3, b26]
        refine c_bitsOf X _ _ b (by omega) _ ?_
        have pb := pcN_le b 10
        have ps := pcN_le (m + 1) 10
        by_cases c1 : pcN b 10 < pcN (m + 1) 10
        · simp (disch := first | decide | omega) only [mxa, vxa, vxb, vxc, vnd, vne, Nat.reduceAdd, Nat.reduceSub, Nat.reduceLeDiff, Nat.reduceLT, Int32.reduceLT, Int32.reduceLE, Int32.reduceAdd, Int32.reduceSub, Int32.reduceMul, Int32.reduceToNatClampNeg, not_false_eq_true, not_true_eq_false, false_implies, true_implies, Nat.zero_add, reduceIte, Nat.reduceMul, Nat.reduceEqDiff, nxa, nxc, lgn, nL_of, swx, Int.reduceAdd, gI_a, gI_k, gL_a, gL_k, gI_r, gL_r, nI_and, nI_or, nI_xor, nI_ndf, nI_shl, nI_shr, ne_eq, and_true, true_and, eq_self, true_or, or_true, false_or, or_false, Option.toList, List.cons_append, List.nil_append, List.length_nil, List.length_cons, Nat.not_lt_zero, c1]
          exact take lt (Or.inl c1)
        · simp (disch := first | decide | omega) only [mxa, vxa, vxb, vxc, vnd, vne, Nat.reduceAdd, Nat.reduceSub, Nat.reduceLeDiff, Nat.reduceLT, Int32.reduceLT, Int32.reduceLE, Int32.reduceAdd, Int32.reduceSub, Int32.reduceMul, Int32.reduceToNatClampNeg, not_false_eq_true, not_true_eq_false, false_implies, true_implies, Nat.zero_add, reduceIte, Nat.reduceMul, Nat.reduceEqDiff, nxa, nxc, lgn, nL_of, swx, Int.reduceAdd, gI_a, gI_k, gL_a, gL_k, gI_r, gL_r, nI_and, nI_or, nI_xor, nI_ndf, nI_shl, nI_shr, ne_eq, and_true, true_and, eq_self, true_or, or_true, false_or, or_false, Option.toList, List.cons_append, List.nil_append, List.length_nil, List.length_cons, Nat.not_lt_zero, c1]
          refine c_bitsOf X _ _ (m + 1) (by omega) _ ?_
          simp (disch := first | decide | omega) only [mxa, vxa, vxb, vxc, vnd, vne, Nat.reduceAdd, Nat.reduceSub, Nat.reduceLeDiff, Nat.reduceLT, Int32.reduceLT, Int32.reduceLE, Int32.reduceAdd, Int32.reduceSub, Int32.reduceMul, Int32.reduceToNatClampNeg, not_false_eq_true, not_true_eq_false, false_implies, true_implies, Nat.zero_add, reduceIte, Nat.reduceMul, Nat.reduceEqDiff, nxa, nxc, lgn, nL_of, swx, Int.reduceAdd, gI_a, gI_k, gL_a, gL_k, gI_r, gL_r, nI_and, nI_or, nI_xor, nI_ndf, nI_shl, nI_shr, ne_eq, and_true, true_and, eq_self, true_or, or_true, false_or, or_false, Option.toList, List.cons_append, List.nil_append, List.length_nil, List.length_cons, Nat.not_lt_zero, kdx s3, b26]
          refine c_bitsOf X _ _ b (by omega) _ ?_
          by_cases c2 : pcN (m + 1) 10 = pcN b 10
          · by_cases c3 : gI τ' 203 (m + 1) < gI τ' 203 b
            · have nl : ¬ gI τ' 203 b ≤ gI τ' 203 (m + 1) := fun q => by
                rw [Int32.lt_iff_toInt_lt] at c3
                rw [Int32.le_iff_toInt_le] at q
                omega
              simp (disch := first | decide | omega) only [mxa, vxa, vxb, vxc, vnd, vne, Nat.reduceAdd, Nat.reduceSub, Nat.reduceLeDiff, Nat.reduceLT, Int32.reduceLT, Int32.reduceLE, Int32.reduceAdd, Int32.reduceSub, Int32.reduceMul, Int32.reduceToNatClampNeg, not_false_eq_true, not_true_eq_false, false_implies, true_implies, Nat.zero_add, reduceIte, Nat.reduceMul, Nat.reduceEqDiff, nxa, nxc, lgn, nL_of, swx, Int.reduceAdd, gI_a, gI_k, gL_a, gL_k, gI_r, gL_r, nI_and, nI_or, nI_xor, nI_ndf, nI_shl, nI_shr, ne_eq, and_true, true_and, eq_self, true_or, or_true, false_or, or_false, Option.toList, List.cons_append, List.nil_append, List.length_nil, List.length_cons, Nat.not_lt_zero, kdx s3, grx r3, b26, c2, nl]
              exact take lt (Or.inr ⟨c2, c3⟩)
            · have nl : gI τ' 203 b ≤ gI τ' 203 (m + 1) := by
                rw [Int32.lt_iff_toInt_lt] at c3
                rw [Int32.le_iff_toInt_le]
                omega
              simp (disch := first | decide | omega) only [mxa, vxa, vxb, vxc, vnd, vne, Nat.reduceAdd, Nat.reduceSub, Nat.reduceLeDiff, Nat.reduceLT, Int32.reduceLT, Int32.reduceLE, Int32.reduceAdd, Int32.reduceSub, Int32.reduceMul, Int32.reduceToNatClampNeg, not_false_eq_true, not_true_eq_false, false_implies, true_implies, Nat.zero_add, reduceIte, Nat.reduceMul, Nat.reduceEqDiff, nxa, nxc, lgn, nL_of, swx, Int.reduceAdd, gI_a, gI_k, gL_a, gL_k, gI_r, gL_r, nI_and, nI_or, nI_xor, nI_ndf, nI_shl, nI_shr, ne_eq, and_true, true_and, eq_self, true_or, or_true, false_or, or_false, Option.toList, List.cons_append, List.nil_append, List.length_nil, List.length_cons, Nat.not_lt_zero, kdx s3, grx r3, b26, c2, nl]
              exact skip (fun q => q.2.elim c1 (fun z => c3 z.2))
          · simp (disch := first | decide | omega) only [mxa, vxa, vxb, vxc, vnd, vne, Nat.reduceAdd, Nat.reduceSub, Nat.reduceLeDiff, Nat.reduceLT, Int32.reduceLT, Int32.reduceLE, Int32.reduceAdd, Int32.reduceSub, Int32.reduceMul, Int32.reduceToNatClampNeg, not_false_eq_true, not_true_eq_false, false_implies, true_implies, Nat.zero_add, reduceIte, Nat.reduceMul, Nat.reduceEqDiff, nxa, nxc, lgn, nL_of, swx, Int.reduceAdd, gI_a, gI_k, gL_a, gL_k, gI_r, gL_r, nI_and, nI_or, nI_xor, nI_ndf, nI_shl, nI_shr, ne_eq, and_true, true_and, eq_self, true_or, or_true, false_or, or_false, Option.toList, List.cons_append, List.nil_append, List.length_nil, List.length_cons, Nat.not_lt_zero, c2]
            exact skip (fun q => q.2.elim c1 (fun z => c2 z.1))
      · refine wp_blk kX10_serves_118 ?_
        simp (disch := first | decide | omega) only [mxa, vxa, vxb, vxc, vnd, vne, Nat.reduceAdd, Nat.reduceSub, Nat.reduceLeDiff, Nat.reduceLT, Int32.reduceLT, Int32.reduceLE, Int32.reduceAdd, Int32.reduceSub, Int32.reduceMul, Int32.reduceToNatClampNeg, not_false_eq_true, not_true_eq_false, false_implies, true_implies, Nat.zero_add, reduceIte, Nat.reduceMul, Nat.reduceEqDiff, nxa, nxc, lgn, nL_of, swx, Int.reduceAdd, gI_a, gI_k, gL_a, gL_k, gI_r, gL_r, nI_and, nI_or, nI_xor, nI_ndf, nI_shl, nI_shr, ne_eq, and_true, true_and, eq_self, true_or, or_true, false_or, or_false, Option.toList, List.cons_append, List.nil_append, List.length_nil, List.length_cons, Nat.not_lt_zero, bX10_serves_118, kdx s3, grx r3, lt]
        exact skip (fun q => lt q.1))
    refine wp_blk kX10_serves_18 ?_
    simp (disch := first | decide | omega) only [mxa, vxa, vxb, vxc, vnd, vne, Nat.reduceAdd, Nat.reduceSub, Nat.reduceLeDiff, Nat.reduceLT, Int32.reduceLT, Int32.reduceLE, Int32.reduceAdd, Int32.reduceSub, Int32.reduceMul, Int32.reduceToNatClampNeg, not_false_eq_true, not_true_eq_false, false_implies, true_implies, Nat.zero_add, reduceIte, Nat.reduceMul, Nat.reduceEqDiff, nxa, nxc, lgn, nL_of, swx, Int.reduceAdd, gI_a, gI_k, gL_a, gL_k, gI_r, gL_r, nI_and, nI_or, nI_xor, nI_ndf, nI_shl, nI_shr, ne_eq, and_true, true_and, eq_self, true_or, or_true, false_or, or_false, Option.toList, List.cons_append, List.nil_append, List.length_nil, List.length_cons, Nat.not_lt_zero, bX10_serves_18, kdx s1, grx r1, n1, Nat.one_mul, lI, show ¬ 2 ^ N ≤ m + 1 by omega]
    exact inn (m + 1) (m + 1) (Nat.le_refl _) (Nat.and_self _) _ Fr.rf (fun _ _ => rfl) ((gI_same _ _ _ _).trans fE_top.symm)) (fun τ F h1 h2 h3 h4 => by
    have s1 := F.Sh sh2
    have r1 := F.Rf rf2
    have n1 : gI τ 191 0 = nI N := (F.2.2.1 191 (by omega) 0).trans n2
    have bl := bsN_le (C := fun s => gI τ 203 s < nI 99) (B := btr (gI τ 203)) (2 ^ N - 1)
    have q := hQ τ ((F2.mono (fun c q => by omega)).tr (F.mono (fun c q => by omega))) (fun j hj => (h1 j hj).trans (F2.2.2.1 190 (by omega) j)) h2 (fun s q1 q2 => h3 s q1 (by omega)) h4
    generalize bsN (fun s => gI τ 203 s < nI 99) (btr (gI τ 203)) (2 ^ N - 1) = b at *
    refine wp_blk kX10_serves_18 ?_
    simp (disch := first | decide | omega) only [mxa, vxa, vxb, vxc, vnd, vne, Nat.reduceAdd, Nat.reduceSub, Nat.reduceLeDiff, Nat.reduceLT, Int32.reduceLT, Int32.reduceLE, Int32.reduceAdd, Int32.reduceSub, Int32.reduceMul, Int32.reduceToNatClampNeg, not_false_eq_true, not_true_eq_false, false_implies, true_implies, Nat.zero_add, reduceIte, Nat.reduceMul, Nat.reduceEqDiff, nxa, nxc, lgn, nL_of, swx, Int.reduceAdd, gI_a, gI_k, gL_a, gL_k, gI_r, gL_r, nI_and, nI_or, nI_xor, nI_ndf, nI_shl, nI_shr, ne_eq, and_true, true_and, eq_self, true_or, or_true, false_or, or_false, Option.toList, List.cons_append, List.nil_append, List.length_nil, List.length_cons, Nat.not_lt_zero, bX10_serves_18, kdx s1, grx r1, n1, Nat.one_mul, show 2 ^ N ≤ 2 ^ N - 1 + 1 by omega]
    refine wp_blk kX10_serves_189 ?_
    simp (disch := first | decide | omega) only [mxa, vxa, vxb, vxc, vnd, vne, Nat.reduceAdd, Nat.reduceSub, Nat.reduceLeDiff, Nat.reduceLT, Int32.reduceLT, Int32.reduceLE, Int32.reduceAdd, Int32.reduceSub, Int32.reduceMul, Int32.reduceToNatClampNeg, not_false_eq_true, not_true_eq_false, false_implies, true_implies, Nat.zero_add, reduceIte, Nat.reduceMul, Nat.reduceEqDiff, nxa, nxc, lgn, nL_of, swx, Int.reduceAdd, gI_a, gI_k, gL_a, gL_k, gI_r, gL_r, nI_and, nI_or, nI_xor, nI_ndf, nI_shl, nI_shr, ne_eq, and_true, true_and, eq_self, true_or, or_true, false_or, or_false, Option.toList, List.cons_append, List.nil_append, List.length_nil, List.length_cons, Nat.not_lt_zero, bX10_serves_189, kdx s1, h4]
    refine c_bitsOf X _ _ b (by omega) _ ?_
    simp (disch := first | decide | omega) only [mxa, vxa, vxb, vxc, vnd, vne, Nat.reduceAdd, Nat.reduceSub, Nat.reduceLeDiff, Nat.reduceLT, Int32.reduceLT, Int32.reduceLE, Int32.reduceAdd, Int32.reduceSub, Int32.reduceMul, Int32.reduceToNatClampNeg, not_false_eq_true, not_true_eq_false, false_implies, true_implies, Nat.zero_add, reduceIte, Nat.reduceMul, Nat.reduceEqDiff, nxa, nxc, lgn, nL_of, swx, Int.reduceAdd, gI_a, gI_k, gL_a, gL_k, gI_r, gL_r, nI_and, nI_or, nI_xor, nI_ndf, nI_shl, nI_shr, ne_eq, and_true, true_and, eq_self, true_or, or_true, false_or, or_false, Option.toList, List.cons_append, List.nil_append, List.length_nil, List.length_cons, Nat.not_lt_zero]
    exact q)
  simp (disch := first | decide | omega) only [mxa, vxa, vxb, vxc, vnd, vne, Nat.reduceAdd, Nat.reduceSub, Nat.reduceLeDiff, Nat.reduceLT, Int32.reduceLT, Int32.reduceLE, Int32.reduceAdd, Int32.reduceSub, Int32.reduceMul, Int32.reduceToNatClampNeg, not_false_eq_true, not_true_eq_false, false_implies, true_implies, Nat.zero_add, reduceIte, Nat.reduceMul, Nat.reduceEqDiff, nxa, nxc, lgn, nL_of, swx, Int.reduceAdd, gI_a, gI_k, gL_a, gL_k, gI_r, gL_r, nI_and, nI_or, nI_xor, nI_ndf, nI_shl, nI_shr, ne_eq, and_true, true_and, eq_self, true_or, or_true, false_or, or_false, Option.toList, List.cons_append, List.nil_append, List.length_nil, List.length_cons, Nat.not_lt_zero, kdx sh2, grx rf2]
  refine go _ ((Fr.sI (by omega)).tr (Fr.sI (by omega))) (fun j hj => (gI_a (by decide)).trans (gI_k hj)) (gI_same _ _ _ _) (fun s q1 q2 => absurd q2 (by omega)) ?_
  rw [gI_a (by decide), gI_same]; rfl
