/-! better: the class's rounds, the model, the pair -/
set_option maxRecDepth 20000
theorem c_findBetter (X : Cx) (d : Nat) (σ : Mm) (V : Nat → Int32) (t N O K : Nat) (hst : St σ) (hG : Gd V t N O K) (hV : VR σ 1 V N O) (hS : SV V N O σ) (Q : Po) (hQ : ∀ (τ : Mm) (cT : Nat → Nat) (C : Nat), Fr (fun c => c = 151 ∨ c = 153 ∨ c = 155) σ τ → (∀ s, s &&& wsh V N = s → MXp (fil V N O) s (cT s)) → C ≤ 30 → gI τ 151 4 = nI C → BST (fun f w c => ∃ S o, KS V N O cT f S o w c) (cT (wsh V N)) (gI τ 151 2) (gI τ 151 3) C → Q none τ) : Call X (d + 4) 0 0 mX3_findBetter [.ref 151, .ref 1] σ Q := by
  have hs := hst.1
  have hr := hst.2.1
  have hN10 := hG.1.2
  have hO3 := hG.2.1.2
  have pw := pow_le hN10
  have wl : wsh V N < 2 ^ N := bP_lt _ _
  have hw : gI σ 151 0 = nI (wsh V N) := hS.2.1
  refine call_of eX3_findBetter rfl ?_
  refine wp_blk kX3_findBetter_0 ?_
  simp (disch := first | decide | omega) only [mxa, vxa, vxb, vxc, vnd, vne, Nat.reduceAdd, Nat.reduceSub, Nat.reduceLeDiff, Nat.reduceLT, Int32.reduceLT, Int32.reduceLE, Int32.reduceAdd, Int32.reduceSub, Int32.reduceMul, Int32.reduceToNatClampNeg, not_false_eq_true, not_true_eq_false, false_implies, true_implies, Nat.zero_add, reduceIte, Nat.reduceMul, Nat.reduceEqDiff, nxa, nxc, lgn, nL_of, swx, Int.reduceAdd, gI_a, gI_k, gL_a, gL_k, gI_r, gL_r, nI_and, nI_or, nI_xor, nI_ndf, nI_shl, nI_shr, ne_eq, and_true, true_and, eq_self, true_or, or_true, false_or, or_false, Option.toList, List.cons_append, List.nil_append, List.length_nil, List.length_cons, Nat.not_lt_zero, bX3_findBetter_0, kdx hs]
  refine c_fitGroups X _ σ V N O hs hr hN10 hS _ (fun R hR => ?_)
  simp (disch := first | decide | omega) only [mxa, vxa, vxb, vxc, vnd, vne, Nat.reduceAdd, Nat.reduceSub, Nat.reduceLeDiff, Nat.reduceLT, Int32.reduceLT, Int32.reduceLE, Int32.reduceAdd, Int32.reduceSub, Int32.reduceMul, Int32.reduceToNatClampNeg, not_false_eq_true, not_true_eq_false, false_implies, true_implies, Nat.zero_add, reduceIte, Nat.reduceMul, Nat.reduceEqDiff, nxa, nxc, lgn, nL_of, swx, Int.reduceAdd, gI_a, gI_k, gL_a, gL_k, gI_r, gL_r, nI_and, nI_or, nI_xor, nI_ndf, nI_shl, nI_shr, ne_eq, and_true, true_and, eq_self, true_or, or_true, false_or, or_false, Option.toList, List.cons_append, List.nil_append, List.length_nil, List.length_cons, Nat.not_lt_zero, kdx hs, grx hr]
  refine c_fillTable X _ (rI σ 155 R) 2 (wsh V N) (by exact hs) (by exact hr) (by omega) ((gI_r (by decide)).trans hw) (by omega) (fil V N O) (fun x hx => ?_) _ (fun T hT => ?_)
  · rw [gI_rS]; exact hR x (by omega)
  have ch : ∀ s, ∃ c, s &&& wsh V N = s → T s = nI c ∧ MXp (fil V N O) s c := fun s => by
    by_cases q : s &&& wsh V N = s
    · obtain ⟨c, c1, c2⟩ := T_2 (show wsh V N < 1024 by omega) hT (s + 1) s (by omega) q
      exact ⟨c, fun _ => ⟨c1, c2⟩⟩
    · exact ⟨0, fun z => absurd z q⟩
  obtain ⟨cT, hcT⟩ := Classical.axiomOfChoice ch
  have hcT : ∀ s, s &&& wsh V N = s → T s = nI (cT s) ∧ MXp (fil V N O) s (cT s) := hcT
  have tw := (hcT _ (Nat.and_self (wsh V N))).1
  have tl := MXp_le (hcT _ (Nat.and_self (wsh V N))).2
  have sig : Fr (fun c => c = 151 ∨ c = 153 ∨ c = 155) σ (rI (rI σ 155 R) 153 T) := (Fr.rI (by omega)).tr (Fr.rI (by omega))
  have s152 : ∀ j, gI (rI (rI σ 155 R) 153 T) 151 j = gI σ 151 j := fun j => (gI_r (by decide)).trans (gI_r (by decide))
  have t154 : gI (rI (rI σ 155 R) 153 T) 153 = T := gI_rS _ _ _
  have hs1 : Sh (rI (rI σ 155 R) 153 T) := hs
  have hr1 : Rf (rI (rI σ 155 R) 153 T) := hr
  simp (disch := first | decide | omega) only [mxa, vxa, vxb, vxc, vnd, vne, Nat.reduceAdd, Nat.reduceSub, Nat.reduceLeDiff, Nat.reduceLT, Int32.reduceLT, Int32.reduceLE, Int32.reduceAdd, Int32.reduceSub, Int32.reduceMul, Int32.reduceToNatClampNeg, not_false_eq_true, not_true_eq_false, false_implies, true_implies, Nat.zero_add, reduceIte, Nat.reduceMul, Nat.reduceEqDiff, nxa, nxc, lgn, nL_of, swx, Int.reduceAdd, gI_a, gI_k, gL_a, gL_k, gI_r, gL_r, nI_and, nI_or, nI_xor, nI_ndf, nI_shl, nI_shr, ne_eq, and_true, true_and, eq_self, true_or, or_true, false_or, or_false, Option.toList, List.cons_append, List.nil_append, List.length_nil, List.length_cons, Nat.not_lt_zero, kdx hs, grx hr, hw, tw]
  generalize rI (rI σ 155 R) 153 T = σ1 at *
  have w1 : gI σ1 151 0 = nI (wsh V N) := (s152 0).trans hw
  have base : ∀ τ, FrB σ1 τ → Sh τ ∧ Rf τ ∧ gI τ 153 = T ∧ gI τ 1 0 = nI N ∧ gI τ 1 1 = nI O ∧ (∀ o, o < O → gI τ 3 o = nI (zN V o)) ∧ gI τ 151 0 = nI (wsh V N) ∧ gI τ 151 7 = nI (2 ^ N - 1) ∧ (∀ s, s < 2 ^ N → gI τ 152 s = tT V N s) ∧ (∀ f, f < N → gR τ 2 f = some (fa σ 1 f) ∧ kd τ (fa σ 1 f) = some (0, 2) ∧ gI τ (fa σ 1 f) 6 = nI (qm V f)) := fun τ F => by
    have st := F.1.Sh hs1
    have rt := F.1.Rf hr1
    refine ⟨st, rt, (funext fun k => F.1.2.2.1 153 (by omega) k).trans t154, (F.1.2.2.1 1 (by omega) 0).trans ((sig.2.2.1 1 (by omega) 0).trans (hV.1.1.trans hG.1.1)), (F.1.2.2.1 1 (by omega) 1).trans ((sig.2.2.1 1 (by omega) 1).trans (hV.1.2.1.trans hG.2.1.1)), fun o ho => (F.1.2.2.1 3 (by omega) o).trans ((sig.2.2.1 3 (by omega) o).trans ((hV.2.1 o ho).trans (zN_ok hG ho).1)), (F.2 0 (by decide) (by decide) (by decide)).trans w1, (F.2 7 (by decide) (by decide) (by decide)).trans ((s152 7).trans hS.1), fun s q => (F.1.2.2.1 152 (by omega) s).trans ((sig.2.2.1 152 (by omega) s).trans (hS.2.2.2.1 s q)), fun f q => ?_⟩
    obtain ⟨a1, a2, p, hp, ep⟩ := fa_ok hs hr (Or.inl rfl) (hst.2.2 1 (Or.inl rfl)) (show f < 10 by omega)
    refine ⟨(F.1.gR 2 f).trans ((sig.gR 2 f).trans a1), (F.1.kd _).trans ((sig.kd _).trans a2.1), (F.1.2.2.1 _ (by omega) 6).trans ((sig.2.2.1 _ (by omega) 6).trans ((hV.2.2 f q).2.1))⟩
  have two : ∀ f, f < N → (∀ τ C, FrB σ1 τ → C ≤ 30 → gI τ 151 4 = nI C → BST (fun f' w c => ∃ S o, KS V N O cT f' S o w c ∧ f' < f + 1) (cT (wsh V N)) (gI τ 151 2) (gI τ 151 3) C → Wp X mX3_findBetter (rmo (d + 4) 0 0) (d + 4) Q 0 0 34 [some (.ref 151), some (.ref 1), some (.int (nI (f + 1))), none, none] [] τ) → ∀ τ C, FrB σ1 τ → C ≤ 30 → gI τ 151 4 = nI C → BST (fun f' w c => ∃ S o, KS V N O cT f' S o w c ∧ f' < f) (cT (wsh V N)) (gI τ 151 2) (gI τ 151 3) C → Wp X mX3_findBetter (rmo (d + 4) 0 0) (d + 4) Q 0 0 44 [some (.ref 151), some (.ref 1), some (.int (nI f)), some (.int (nI 0)), none] [] τ := by
    intro f hf hP τ C F hC eC hB
    refine wfor (fun S => ∀ τ C, FrB σ1 τ → C ≤ 30 → gI τ 151 4 = nI C → BST (fun f' w c => ∃ S' o, KS V N O cT f' S' o w c ∧ (f' < f ∨ (f' = f ∧ S' < S))) (cT (wsh V N)) (gI τ 151 2) (gI τ 151 3) C → Wp X mX3_findBetter (rmo (d + 4) 0 0) (d + 4) Q 0 0 44 [some (.ref 151), some (.ref 1), some (.int (nI f)), some (.int (nI S)), none] [] τ) (2 ^ N) (fun S hS2 hP2 τ C F hC eC hB => ?_) (fun τ C F hC eC hB => ?_) τ C F hC eC (BST_congr hB (fun f' w c => ?_))
    · obtain ⟨st, rt, b154, b20, b21, b4, b1520, b1527, b153, bfa⟩ := base τ F
      obtain ⟨a1, a2, a3⟩ := bfa f hf
      have T3 := b153 S hS2
      have ql := qm_lt V f
      have al : S &&& qm V f ≤ S := Nat.and_le_left
      have next : ∀ τ C, FrB σ1 τ → C ≤ 30 → gI τ 151 4 = nI C → BST (fun f' w c => ∃ S' o, KS V N O cT f' S' o w c ∧ (f' < f ∨ (f' = f ∧ S' < S + 1))) (cT (wsh V N)) (gI τ 151 2) (gI τ 151 3) C → ∀ x : Int32, Wp X mX3_findBetter (rmo (d + 4) 0 0) (d + 4) Q 0 0 102 [some (.ref 151), some (.ref 1), some (.int (nI f)), some (.int (nI S)), some (.int x)] [] τ := fun τ C F hC eC hB x => by
        refine wp_blk kX3_findBetter_102 ?_
        simp (disch := first | decide | omega) only [mxa, vxa, vxb, vxc, vnd, vne, Nat.reduceAdd, Nat.reduceSub, Nat.reduceLeDiff, Nat.reduceLT, Int32.reduceLT, Int32.reduceLE, Int32.reduceAdd, Int32.reduceSub, Int32.reduceMul, Int32.reduceToNatClampNeg, not_false_eq_true, not_true_eq_false, false_implies, true_implies, Nat.zero_add, reduceIte, Nat.reduceMul, Nat.reduceEqDiff, nxa, nxc, lgn, nL_of, swx, Int.reduceAdd, gI_a, gI_k, gL_a, gL_k, gI_r, gL_r, nI_and, nI_or, nI_xor, nI_ndf, nI_shl, nI_shr, ne_eq, and_true, true_and, eq_self, true_or, or_true, false_or, or_false, Option.toList, List.cons_append, List.nil_append, List.length_nil, List.length_cons, Nat.not_lt_zero, bX3_findBetter_102]
        exact Wp.fog 4 (hP2 τ C F hC eC hB)
      have skip : ¬ (S.testBit f = false ∧ S &&& qm V f = 0 ∧ gdS V N S) → BST (fun f' w c => ∃ S' o, KS V N O cT f' S' o w c ∧ (f' < f ∨ (f' = f ∧ S' < S + 1))) (cT (wsh V N)) (gI τ 151 2) (gI τ 151 3) C := fun hn => BST_congr hB (fun f' w c => by
        refine ⟨fun ⟨S', o, q1, q2⟩ => ⟨S', o, q1, by omega⟩, fun ⟨S', o, q1, q2⟩ => ⟨S', o, q1, ?_⟩⟩
        by_cases e : f' = f ∧ S' = S
        · rw [e.1, e.2] at q1; exact absurd q1.2.2.2.1 hn
        · omega)
      by_cases b1 : S.testBit f = true
      · refine wp_blk kX3_findBetter_44 ?_
        simp (disch := first | decide | omega) only [mxa, vxa, vxb, vxc, vnd, vne, Nat.reduceAdd, Nat.reduceSub, Nat.reduceLeDiff, Nat.reduceLT, Int32.reduceLT, Int32.reduceLE, Int32.reduceAdd, Int32.reduceSub, Int32.reduceMul, Int32.reduceToNatClampNeg, not_false_eq_true, not_true_eq_false, false_implies, true_implies, Nat.zero_add, reduceIte, Nat.reduceMul, Nat.reduceEqDiff, nxa, nxc, lgn, nL_of, swx, Int.reduceAdd, gI_a, gI_k, gL_a, gL_k, gI_r, gL_r, nI_and, nI_or, nI_xor, nI_ndf, nI_shl, nI_shr, ne_eq, and_true, true_and, eq_self, true_or, or_true, false_or, or_false, Option.toList, List.cons_append, List.nil_append, List.length_nil, List.length_cons, Nat.not_lt_zero, bX3_findBetter_44, kdx st, b1527, and_one_bit, b1, show ¬ 2 ^ N - 1 < S by omega]
        refine wp_blk kX3_findBetter_78 ?_
        simp (disch := first | decide | omega) only [mxa, vxa, vxb, vxc, vnd, vne, Nat.reduceAdd, Nat.reduceSub, Nat.reduceLeDiff, Nat.reduceLT, Int32.reduceLT, Int32.reduceLE, Int32.reduceAdd, Int32.reduceSub, Int32.reduceMul, Int32.reduceToNatClampNeg, not_false_eq_true, not_true_eq_false, false_implies, true_implies, Nat.zero_add, reduceIte, Nat.reduceMul, Nat.reduceEqDiff, nxa, nxc, lgn, nL_of, swx, Int.reduceAdd, gI_a, gI_k, gL_a, gL_k, gI_r, gL_r, nI_and, nI_or, nI_xor, nI_ndf, nI_shl, nI_shr, ne_eq, and_true, true_and, eq_self, true_or, or_true, false_or, or_false, Option.toList, List.cons_append, List.nil_append, List.length_nil, List.length_cons, Nat.not_lt_zero, bX3_findBetter_78]
        refine wp_blk kX3_findBetter_79 ?_
        simp (disch := first | decide | omega) only [mxa, vxa, vxb, vxc, vnd, vne, Nat.reduceAdd, Nat.reduceSub, Nat.reduceLeDiff, Nat.reduceLT, Int32.reduceLT, Int32.reduceLE, Int32.reduceAdd, Int32.reduceSub, Int32.reduceMul, Int32.reduceToNatClampNeg, not_false_eq_true, not_true_eq_false, false_implies, true_implies, Nat.zero_add, reduceIte, Nat.reduceMul, Nat.reduceEqDiff, nxa, nxc, lgn, nL_of, swx, Int.reduceAdd, gI_a, gI_k, gL_a, gL_k, gI_r, gL_r, nI_and, nI_or, nI_xor, nI_ndf, nI_shl, nI_shr, ne_eq, and_true, true_and, eq_self, true_or, or_true, false_or, or_false, Option.toList, List.cons_append, List.nil_append, List.length_nil, List.length_cons, Nat.not_lt_zero, bX3_findBetter_79]
        exact next τ C F hC eC (skip (fun q => by rw [b1] at q; cases q.1)) _
      · have b1' : S.testBit f = false := by simpa using b1
        by_cases b2 : S &&& qm V f = 0
        · by_cases b3 : gdS V N S
          · have sl := sW_le (s := S) hG
            have eS : gI τ 152 S = nI (sW V N S) := T3.trans (tT_y b3)
            refine wp_blk kX3_findBetter_44 ?_
            simp (disch := first | decide | omega) only [mxa, vxa, vxb, vxc, vnd, vne, Nat.reduceAdd, Nat.reduceSub, Nat.reduceLeDiff, Nat.reduceLT, Int32.reduceLT, Int32.reduceLE, Int32.reduceAdd, Int32.reduceSub, Int32.reduceMul, Int32.reduceToNatClampNeg, not_false_eq_true, not_true_eq_false, false_implies, true_implies, Nat.zero_add, reduceIte, Nat.reduceMul, Nat.reduceEqDiff, nxa, nxc, lgn, nL_of, swx, Int.reduceAdd, gI_a, gI_k, gL_a, gL_k, gI_r, gL_r, nI_and, nI_or, nI_xor, nI_ndf, nI_shl, nI_shr, ne_eq, and_true, true_and, eq_self, true_or, or_true, false_or, or_false, Option.toList, List.cons_append, List.nil_append, List.length_nil, List.length_cons, Nat.not_lt_zero, bX3_findBetter_44, kdx st, grx rt, b1527, and_one_bit, b1', Bool.false_eq_true, a1, a2, a3, b2, show ¬ 2 ^ N - 1 < S by omega]
            refine wp_blk kX3_findBetter_79 ?_
            simp (disch := first | decide | omega) only [mxa, vxa, vxb, vxc, vnd, vne, Nat.reduceAdd, Nat.reduceSub, Nat.reduceLeDiff, Nat.reduceLT, Int32.reduceLT, Int32.reduceLE, Int32.reduceAdd, Int32.reduceSub, Int32.reduceMul, Int32.reduceToNatClampNeg, not_false_eq_true, not_true_eq_false, false_implies, true_implies, Nat.zero_add, reduceIte, Nat.reduceMul, Nat.reduceEqDiff, nxa, nxc, lgn, nL_of, swx, Int.reduceAdd, gI_a, gI_k, gL_a, gL_k, gI_r, gL_r, nI_and, nI_or, nI_xor, nI_ndf, nI_shl, nI_shr, ne_eq, and_true, true_and, eq_self, true_or, or_true, false_or, or_false, Option.toList, List.cons_append, List.nil_append, List.length_nil, List.length_cons, Nat.not_lt_zero, bX3_findBetter_79, kdx st, grx rt, eS, Nat.not_lt_zero]
            refine c_tryWishes X _ τ V t N O K f S T cT st rt hG (fun s q => ⟨(hcT s q).1, MXp_le (hcT s q).2⟩) b154 b21 b4 b1520 hf hS2 b1' b2 b3 eS _ (fun f' w' c' ⟨S', o, q1, q2⟩ => by omega) _ C hC hB eC _ (fun τ2 C2 F2 hC2 eC2 hB2 => ?_)
            simp (disch := first | decide | omega) only [mxa, vxa, vxb, vxc, vnd, vne, Nat.reduceAdd, Nat.reduceSub, Nat.reduceLeDiff, Nat.reduceLT, Int32.reduceLT, Int32.reduceLE, Int32.reduceAdd, Int32.reduceSub, Int32.reduceMul, Int32.reduceToNatClampNeg, not_false_eq_true, not_true_eq_false, false_implies, true_implies, Nat.zero_add, reduceIte, Nat.reduceMul, Nat.reduceEqDiff, nxa, nxc, lgn, nL_of, swx, Int.reduceAdd, gI_a, gI_k, gL_a, gL_k, gI_r, gL_r, nI_and, nI_or, nI_xor, nI_ndf, nI_shl, nI_shr, ne_eq, and_true, true_and, eq_self, true_or, or_true, false_or, or_false, Option.toList, List.cons_append, List.nil_append, List.length_nil, List.length_cons, Nat.not_lt_zero]
            refine next τ2 C2 (F.tr F2) hC2 eC2 (BST_congr hB2 (fun f' w c => ?_)) _
            constructor
            · rintro (⟨S', o, q1, q2⟩ | ⟨rfl, o, q1, q2⟩)
              · exact ⟨S', o, q1, by omega⟩
              · exact ⟨S, o, q2, by omega⟩
            · rintro ⟨S', o, q1, q2⟩
              by_cases e : f' = f ∧ S' = S
              · rw [e.1, e.2] at q1; exact Or.inr ⟨e.1, o, q1.2.2.1, q1⟩
              · exact Or.inl ⟨S', o, q1, by omega⟩
          · refine wp_blk kX3_findBetter_44 ?_
            simp (disch := first | decide | omega) only [mxa, vxa, vxb, vxc, vnd, vne, Nat.reduceAdd, Nat.reduceSub, Nat.reduceLeDiff, Nat.reduceLT, Int32.reduceLT, Int32.reduceLE, Int32.reduceAdd, Int32.reduceSub, Int32.reduceMul, Int32.reduceToNatClampNeg, not_false_eq_true, not_true_eq_false, false_implies, true_implies, Nat.zero_add, reduceIte, Nat.reduceMul, Nat.reduceEqDiff, nxa, nxc, lgn, nL_of, swx, Int.reduceAdd, gI_a, gI_k, gL_a, gL_k, gI_r, gL_r, nI_and, nI_or, nI_xor, nI_ndf, nI_shl, nI_shr, ne_eq, and_true, true_and, eq_self, true_or, or_true, false_or, or_false, Option.toList, List.cons_append, List.nil_append, List.length_nil, List.length_cons, Nat.not_lt_zero, bX3_findBetter_44, kdx st, grx rt, b1527, and_one_bit, b1', Bool.false_eq_true, a1, a2, a3, b2, show ¬ 2 ^ N - 1 < S by omega]
            refine wp_blk kX3_findBetter_79 ?_
            simp (disch := first | decide | omega) only [mxa, vxa, vxb, vxc, vnd, vne, Nat.reduceAdd, Nat.reduceSub, Nat.reduceLeDiff, Nat.reduceLT, Int32.reduceLT, Int32.reduceLE, Int32.reduceAdd, Int32.reduceSub, Int32.reduceMul, Int32.reduceToNatClampNeg, not_false_eq_true, not_true_eq_false, false_implies, true_implies, Nat.zero_add, reduceIte, Nat.reduceMul, Nat.reduceEqDiff, nxa, nxc, lgn, nL_of, swx, Int.reduceAdd, gI_a, gI_k, gL_a, gL_k, gI_r, gL_r, nI_and, nI_or, nI_xor, nI_ndf, nI_shl, nI_shr, ne_eq, and_true, true_and, eq_self, true_or, or_true, false_or, or_false, Option.toList, List.cons_append, List.nil_append, List.length_nil, List.length_cons, Nat.not_lt_zero, bX3_findBetter_79, kdx st, grx rt, T3, tT_n b3, show (-1 : Int32) < nI 0 by decide]
            exact next τ C F hC eC (skip (fun q => b3 q.2.2)) _
        · refine wp_blk kX3_findBetter_44 ?_
          simp (disch := first | decide | omega) only [mxa, vxa, vxb, vxc, vnd, vne, Nat.reduceAdd, Nat.reduceSub, Nat.reduceLeDiff, Nat.reduceLT, Int32.reduceLT, Int32.reduceLE, Int32.reduceAdd, Int32.reduceSub, Int32.reduceMul, Int32.reduceToNatClampNeg, not_false_eq_true, not_true_eq_false, false_implies, true_implies, Nat.zero_add, reduceIte, Nat.reduceMul, Nat.reduceEqDiff, nxa, nxc, lgn, nL_of, swx, Int.reduceAdd, gI_a, gI_k, gL_a, gL_k, gI_r, gL_r, nI_and, nI_or, nI_xor, nI_ndf, nI_shl, nI_shr, ne_eq, and_true, true_and, eq_self, true_or, or_true, false_or, or_false, Option.toList, List.cons_append, List.nil_append, List.length_nil, List.length_cons, Nat.not_lt_zero, bX3_findBetter_44, kdx st, grx rt, b1527, and_one_bit, b1', Bool.false_eq_true, a1, a2, a3, b2, show ¬ 2 ^ N - 1 < S by omega]
          refine wp_blk kX3_findBetter_78 ?_
          simp (disch := first | decide | omega) only [mxa, vxa, vxb, vxc, vnd, vne, Nat.reduceAdd, Nat.reduceSub, Nat.reduceLeDiff, Nat.reduceLT, Int32.reduceLT, Int32.reduceLE, Int32.reduceAdd, Int32.reduceSub, Int32.reduceMul, Int32.reduceToNatClampNeg, not_false_eq_true, not_true_eq_false, false_implies, true_implies, Nat.zero_add, reduceIte, Nat.reduceMul, Nat.reduceEqDiff, nxa, nxc, lgn, nL_of, swx, Int.reduceAdd, gI_a, gI_k, gL_a, gL_k, gI_r, gL_r, nI_and, nI_or, nI_xor, nI_ndf, nI_shl, nI_shr, ne_eq, and_true, true_and, eq_self, true_or, or_true, false_or, or_false, Option.toList, List.cons_append, List.nil_append, List.length_nil, List.length_cons, Nat.not_lt_zero, bX3_findBetter_78]
          refine wp_blk kX3_findBetter_79 ?_
          simp (disch := first | decide | omega) only [mxa, vxa, vxb, vxc, vnd, vne, Nat.reduceAdd, Nat.reduceSub, Nat.reduceLeDiff, Nat.reduceLT, Int32.reduceLT, Int32.reduceLE, Int32.reduceAdd, Int32.reduceSub, Int32.reduceMul, Int32.reduceToNatClampNeg, not_false_eq_true, not_true_eq_false, false_implies, true_implies, Nat.zero_add, reduceIte, Nat.reduceMul, Nat.reduceEqDiff, nxa, nxc, lgn, nL_of, swx, Int.reduceAdd, gI_a, gI_k, gL_a, gL_k, gI_r, gL_r, nI_and, nI_or, nI_xor, nI_ndf, nI_shl, nI_shr, ne_eq, and_true, true_and, eq_self, true_or, or_true, false_or, or_false, Option.toList, List.cons_append, List.nil_append, List.length_nil, List.length_cons, Nat.not_lt_zero, bX3_findBetter_79]
          exact next τ C F hC eC (skip (fun q => b2 q.2.1)) _
    · obtain ⟨st, rt, b154, b20, b21, b4, b1520, b1527, b153, bfa⟩ := base τ F
      refine wp_blk kX3_findBetter_44 ?_
      simp (disch := first | decide | omega) only [mxa, vxa, vxb, vxc, vnd, vne, Nat.reduceAdd, Nat.reduceSub, Nat.reduceLeDiff, Nat.reduceLT, Int32.reduceLT, Int32.reduceLE, Int32.reduceAdd, Int32.reduceSub, Int32.reduceMul, Int32.reduceToNatClampNeg, not_false_eq_true, not_true_eq_false, false_implies, true_implies, Nat.zero_add, reduceIte, Nat.reduceMul, Nat.reduceEqDiff, nxa, nxc, lgn, nL_of, swx, Int.reduceAdd, gI_a, gI_k, gL_a, gL_k, gI_r, gL_r, nI_and, nI_or, nI_xor, nI_ndf, nI_shl, nI_shr, ne_eq, and_true, true_and, eq_self, true_or, or_true, false_or, or_false, Option.toList, List.cons_append, List.nil_append, List.length_nil, List.length_cons, Nat.not_lt_zero, bX3_findBetter_44, kdx st, b1527, show 2 ^ N - 1 < 2 ^ N by omega]
      refine wp_blk kX3_findBetter_108 ?_
      simp (disch := first | decide | omega) only [mxa, vxa, vxb, vxc, vnd, vne, Nat.reduceAdd, Nat.reduceSub, Nat.reduceLeDiff, Nat.reduceLT, Int32.reduceLT, Int32.reduceLE, Int32.reduceAdd, Int32.reduceSub, Int32.reduceMul, Int32.reduceToNatClampNeg, not_false_eq_true, not_true_eq_false, false_implies, true_implies, Nat.zero_add, reduceIte, Nat.reduceMul, Nat.reduceEqDiff, nxa, nxc, lgn, nL_of, swx, Int.reduceAdd, gI_a, gI_k, gL_a, gL_k, gI_r, gL_r, nI_and, nI_or, nI_xor, nI_ndf, nI_shl, nI_shr, ne_eq, and_true, true_and, eq_self, true_or, or_true, false_or, or_false, Option.toList, List.cons_append, List.nil_append, List.length_nil, List.length_cons, Nat.not_lt_zero, bX3_findBetter_108]
      refine Wp.fog 3 (hP τ C F hC eC (BST_congr hB (fun f' w c => ?_)))
      exact ⟨fun ⟨S', o, q1, q2⟩ => ⟨S', o, q1, by omega⟩, fun ⟨S', o, q1, q2⟩ => ⟨S', o, q1, by
        have := q1.2.1
        omega⟩⟩
    · exact ⟨fun ⟨S', o, q1, q2⟩ => ⟨S', o, q1, by omega⟩, fun ⟨S', o, q1, q2⟩ => ⟨S', o, q1, by omega⟩⟩
  have one := wfor (fun f => ∀ τ C, FrB σ1 τ → C ≤ 30 → gI τ 151 4 = nI C → BST (fun f' w c => ∃ S o, KS V N O cT f' S o w c ∧ f' < f) (cT (wsh V N)) (gI τ 151 2) (gI τ 151 3) C → Wp X mX3_findBetter (rmo (d + 4) 0 0) (d + 4) Q 0 0 34 [some (.ref 151), some (.ref 1), some (.int (nI f)), none, none] [] τ) N (fun f hf hP τ C F hC eC hB => by
    obtain ⟨st, rt, b154, b20, b21, b4, b1520, b1527, b153, bfa⟩ := base τ F
    refine wp_blk kX3_findBetter_34 ?_
    simp (disch := first | decide | omega) only [mxa, vxa, vxb, vxc, vnd, vne, Nat.reduceAdd, Nat.reduceSub, Nat.reduceLeDiff, Nat.reduceLT, Int32.reduceLT, Int32.reduceLE, Int32.reduceAdd, Int32.reduceSub, Int32.reduceMul, Int32.reduceToNatClampNeg, not_false_eq_true, not_true_eq_false, false_implies, true_implies, Nat.zero_add, reduceIte, Nat.reduceMul, Nat.reduceEqDiff, nxa, nxc, lgn, nL_of, swx, Int.reduceAdd, gI_a, gI_k, gL_a, gL_k, gI_r, gL_r, nI_and, nI_or, nI_xor, nI_ndf, nI_shl, nI_shr, ne_eq, and_true, true_and, eq_self, true_or, or_true, false_or, or_false, Option.toList, List.cons_append, List.nil_append, List.length_nil, List.length_cons, Nat.not_lt_zero, bX3_findBetter_34, kdx st, b20, show ¬ N ≤ f by omega]
    exact two f hf hP τ C F hC eC hB) (fun τ C F hC eC hB => by
    obtain ⟨st, rt, b154, b20, b21, b4, b1520, b1527, b153, bfa⟩ := base τ F
    have q := hQ τ cT C (sig.tr (F.1.mono (fun c q => Or.inl q))) (fun s q => (hcT s q).2) hC eC (BST_congr hB (fun f' w c => ⟨fun ⟨S', o, q1, q2⟩ => ⟨S', o, q1⟩, fun ⟨S', o, q1⟩ => ⟨S', o, q1, q1.1⟩⟩))
    refine wp_blk kX3_findBetter_34 ?_
    simp (disch := first | decide | omega) only [mxa, vxa, vxb, vxc, vnd, vne, Nat.reduceAdd, Nat.reduceSub, Nat.reduceLeDiff, Nat.reduceLT, Int32.reduceLT, Int32.reduceLE, Int32.reduceAdd, Int32.reduceSub, Int32.reduceMul, Int32.reduceToNatClampNeg, not_false_eq_true, not_true_eq_false, false_implies, true_implies, Nat.zero_add, reduceIte, Nat.reduceMul, Nat.reduceEqDiff, nxa, nxc, lgn, nL_of, swx, Int.reduceAdd, gI_a, gI_k, gL_a, gL_k, gI_r, gL_r, nI_and, nI_or, nI_xor, nI_ndf, nI_shl, nI_shr, ne_eq, and_true, true_and, eq_self, true_or, or_true, false_or, or_false, Option.toList, List.cons_append, List.nil_append, List.length_nil, List.length_cons, Nat.not_lt_zero, bX3_findBetter_34, kdx st, b20, Nat.le_refl]
    refine wp_blk kX3_findBetter_114 ?_
    simp (disch := first | decide | omega) only [mxa, vxa, vxb, vxc, vnd, vne, Nat.reduceAdd, Nat.reduceSub, Nat.reduceLeDiff, Nat.reduceLT, Int32.reduceLT, Int32.reduceLE, Int32.reduceAdd, Int32.reduceSub, Int32.reduceMul, Int32.reduceToNatClampNeg, not_false_eq_true, not_true_eq_false, false_implies, true_implies, Nat.zero_add, reduceIte, Nat.reduceMul, Nat.reduceEqDiff, nxa, nxc, lgn, nL_of, swx, Int.reduceAdd, gI_a, gI_k, gL_a, gL_k, gI_r, gL_r, nI_and, nI_or, nI_xor, nI_ndf, nI_shl, nI_shr, ne_eq, and_true, true_and, eq_self, true_or, or_true, false_or, or_false, Option.toList, List.cons_append, List.nil_append, List.length_nil, List.length_cons, Nat.not_lt_zero, bX3_findBetter_114]
    exact q)
  refine one _ (cT (wsh V N)) ⟨((Fr.sI (S := fun c => c = 151) rfl).tr (Fr.sI rfl)).tr (Fr.sI rfl), fun j j1 j2 j3 => (gI_k j3).trans ((gI_k j2).trans (gI_k j1))⟩ (by omega) (gI_same _ _ _ _) ?_
  rw [gI_k (by decide), gI_k (by decide), gI_same, gI_k (by decide), gI_same]
  exact BST_nil (fun f w c ⟨S, o, q1, q2⟩ => by omega)
