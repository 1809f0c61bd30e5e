/-! a family, a village becomes another -/
set_option maxRecDepth 20000
theorem cpy0 {α : Type} (f g : Nat → α) (n k : Nat) : va_cpy f g 0 0 n k = if k < n then f k else g k := by
  unfold va_cpy
  by_cases h : k < n
  · simp [h]
  · simp [h]
theorem gI_aF {σ : Mm} {a k b : Nat} {v : Int32} (h : b ≠ a) : gI (sI σ a k v) b = gI σ b := funext fun _ => gI_a h
theorem gI_rF {σ : Mm} {a b : Nat} {f : Nat → Int32} (h : b ≠ a) : gI (rI σ a f) b = gI σ b := funext fun _ => gI_r h
theorem gI_rS (σ : Mm) (a : Nat) (f : Nat → Int32) : gI (rI σ a f) a = f := funext fun j => mxa.2.2.2.2.2.2.2.2.2.2.2.2.2.2.2.2.2.2.1 σ a f j
theorem gL_aF {σ : Mm} {a k b : Nat} {v : Int64} (h : b ≠ a) : gL (sL σ a k v) b = gL σ b := funext fun _ => gL_a h
theorem gL_rF {σ : Mm} {a b : Nat} {f : Nat → Int64} (h : b ≠ a) : gL (rL σ a f) b = gL σ b := funext fun _ => gL_r h
theorem c_fbecome (X : Cx) (d : Nat) (σ : Mm) (a b : Nat) (ha : Fm σ a) (hb : Fm σ b) (hab : a + 3 ≤ b ∨ b + 3 ≤ a) (Q : Po) (hQ : ∀ σ' : Mm, Fr (fun c => c = a ∨ c = a + 1 ∨ c = a + 2) σ σ' → (∀ j, j < 7 → gI σ' a j = gI σ b j) → (∀ j, j < 5 → gI σ' (a + 1) j = gI σ (b + 1) j) → (∀ j, j < 10 → gI σ' (a + 2) j = gI σ (b + 2) j) → Q none σ') : Call X (d + 1) 0 0 mX2_become [.ref a, .ref b] σ Q := by
  obtain ⟨a1, a2, a3, a4, a5⟩ := ha
  obtain ⟨b1, b2, b3, b4, b5⟩ := hb
  refine call_of eX2_become rfl ?_
  refine wp_blk kX2_become_0 ?_
  simp (disch := first | decide | omega) only [mxa, vxa, vxb, vxc, vnd, vne, Nat.reduceAdd, Nat.reduceSub, Nat.reduceLeDiff, Nat.reduceLT, Int32.reduceLT, Int32.reduceLE, Int32.reduceAdd, Int32.reduceSub, Int32.reduceMul, Int32.reduceToNatClampNeg, not_false_eq_true, not_true_eq_false, false_implies, true_implies, Nat.zero_add, reduceIte, Nat.reduceMul, Nat.reduceEqDiff, nxa, nxc, lgn, nL_of, swx, Int.reduceAdd, gI_a, gI_k, gL_a, gL_k, gI_r, gL_r, nI_and, nI_or, nI_xor, nI_ndf, nI_shl, nI_shr, ne_eq, and_true, true_and, eq_self, true_or, or_true, false_or, or_false, Option.toList, List.cons_append, List.nil_append, List.length_nil, List.length_cons, Nat.not_lt_zero, bX2_become_0, a1, a2, a3, a4, a5, b1, b2, b3, b4, b5, gI_aF, gI_rF]
  refine ⟨5, 5, rfl, rfl, ⟨by omega, by omega⟩, 10, 10, rfl, rfl, ⟨by omega, by omega⟩, ?_⟩
  refine hQ _ ?_ (fun j hj => ?_) (fun j hj => ?_) (fun j hj => ?_)
  · refine Fr.tr (Fr.tr (Fr_wI (Fr_wI (Fr_wI (Fr_wI (Fr_wI (Fr_wI (Fr_wI Fr.rf ?_) ?_) ?_) ?_) ?_) ?_) ?_) (Fr.rI ?_)) (Fr.rI ?_) <;> omega
  · rcases (by omega : j = 0 ∨ j = 1 ∨ j = 2 ∨ j = 3 ∨ j = 4 ∨ j = 5 ∨ j = 6) with rfl | rfl | rfl | rfl | rfl | rfl | rfl <;> simp (disch := first | decide | omega) only [mxa, vxa, vxb, vxc, vnd, vne, Nat.reduceAdd, Nat.reduceSub, Nat.reduceLeDiff, Nat.reduceLT, Int32.reduceLT, Int32.reduceLE, Int32.reduceAdd, Int32.reduceSub, Int32.reduceMul, Int32.reduceToNatClampNeg, not_false_eq_true, not_true_eq_false, false_implies, true_implies, Nat.zero_add, reduceIte, Nat.reduceMul, Nat.reduceEqDiff, nxa, nxc, lgn, nL_of, swx, Int.reduceAdd, gI_a, gI_k, gL_a, gL_k, gI_r, gL_r, nI_and, nI_or, nI_xor, nI_ndf, nI_shl, nI_shr, ne_eq, and_true, true_and, eq_self, true_or, or_true, false_or, or_false, Option.toList, List.cons_append, List.nil_append, List.length_nil, List.length_cons, Nat.not_lt_zero]
  · simp (disch := first | decide | omega) only [mxa, vxa, vxb, vxc, vnd, vne, Nat.reduceAdd, Nat.reduceSub, Nat.reduceLeDiff, Nat.reduceLT, Int32.reduceLT, Int32.reduceLE, Int32.reduceAdd, Int32.reduceSub, Int32.reduceMul, Int32.reduceToNatClampNeg, not_false_eq_true, not_true_eq_false, false_implies, true_implies, Nat.zero_add, reduceIte, Nat.reduceMul, Nat.reduceEqDiff, nxa, nxc, lgn, nL_of, swx, Int.reduceAdd, gI_a, gI_k, gL_a, gL_k, gI_r, gL_r, nI_and, nI_or, nI_xor, nI_ndf, nI_shl, nI_shr, ne_eq, and_true, true_and, eq_self, true_or, or_true, false_or, or_false, Option.toList, List.cons_append, List.nil_append, List.length_nil, List.length_cons, Nat.not_lt_zero, gI_rF, gI_rS, cpy0]
    rw [if_pos hj]
  · simp (disch := first | decide | omega) only [mxa, vxa, vxb, vxc, vnd, vne, Nat.reduceAdd, Nat.reduceSub, Nat.reduceLeDiff, Nat.reduceLT, Int32.reduceLT, Int32.reduceLE, Int32.reduceAdd, Int32.reduceSub, Int32.reduceMul, Int32.reduceToNatClampNeg, not_false_eq_true, not_true_eq_false, false_implies, true_implies, Nat.zero_add, reduceIte, Nat.reduceMul, Nat.reduceEqDiff, nxa, nxc, lgn, nL_of, swx, Int.reduceAdd, gI_a, gI_k, gL_a, gL_k, gI_r, gL_r, nI_and, nI_or, nI_xor, nI_ndf, nI_shl, nI_shr, ne_eq, and_true, true_and, eq_self, true_or, or_true, false_or, or_false, Option.toList, List.cons_append, List.nil_append, List.length_nil, List.length_cons, Nat.not_lt_zero, gI_rF, gI_rS, cpy0]
    rw [if_pos hj]
theorem fa_far {σ : Mm} {v w f g : Nat} (hs : St σ) (hv : isV v) (hw : isV w) (hvw : v ≠ w) (hf : f < 10) (hg : g < 10) : fa σ v f + 3 ≤ fa σ w g ∨ fa σ w g + 3 ≤ fa σ v f := by
  obtain ⟨-, -, p, hp, ep⟩ := fa_ok hs.1 hs.2.1 hv (hs.2.2 v hv) hf
  obtain ⟨-, -, q, hq, eq⟩ := fa_ok hs.1 hs.2.1 hw (hs.2.2 w hw) hg
  rcases hv with rfl | rfl | rfl | rfl <;> rcases hw with rfl | rfl | rfl | rfl <;> omega
/-- the village at v becomes that at w -/
theorem c_vbecome (X : Cx) (d : Nat) (σ : Mm) (v w N O : Nat) (V : Nat → Int32) (hs : St σ) (hv : isV v) (hw : isV w) (hvw : v ≠ w) (hV : VR σ w V N O) (hN : V 0 = nI N) (hN10 : N ≤ 10) (hO3 : O ≤ 3) (Q : Po) (hQ : ∀ σ' : Mm, Fr (fun c => v ≤ c ∧ c ≤ v + 32) σ σ' → VR σ' v V N O → Q none σ') : Call X (d + 2) 0 0 mX8_become [.ref v, .ref w] σ Q := by
  obtain ⟨v1, v2, v3, v4, v5⟩ := vk hs.1 hs.2.1 hv
  obtain ⟨w1, w2, w3, w4, w5⟩ := vk hs.1 hs.2.1 hw
  have hvw' : v + 33 ≤ w ∨ w + 33 ≤ v := by rcases hv with rfl | rfl | rfl | rfl <;> rcases hw with rfl | rfl | rfl | rfl <;> omega
  refine call_of eX8_become rfl ?_
  refine wp_blk kX8_become_0 ?_
  simp (disch := first | decide | omega) only [mxa, vxa, vxb, vxc, vnd, vne, Nat.reduceAdd, Nat.reduceSub, Nat.reduceLeDiff, Nat.reduceLT, Int32.reduceLT, Int32.reduceLE, Int32.reduceAdd, Int32.reduceSub, Int32.reduceMul, Int32.reduceToNatClampNeg, not_false_eq_true, not_true_eq_false, false_implies, true_implies, Nat.zero_add, reduceIte, Nat.reduceMul, Nat.reduceEqDiff, nxa, nxc, lgn, nL_of, swx, Int.reduceAdd, gI_a, gI_k, gL_a, gL_k, gI_r, gL_r, nI_and, nI_or, nI_xor, nI_ndf, nI_shl, nI_shr, ne_eq, and_true, true_and, eq_self, true_or, or_true, false_or, or_false, Option.toList, List.cons_append, List.nil_append, List.length_nil, List.length_cons, Nat.not_lt_zero, bX8_become_0, v1, v2, v3, v4, v5, w1, w2, w3, w4, w5, gI_aF, gI_rF]
  refine ⟨3, 3, rfl, rfl, ⟨by omega, by omega⟩, ?_⟩
  have key := wfor (fun k => ∀ τ : Mm, Fr (fun c => v ≤ c ∧ c ≤ v + 32) σ τ → (∀ j, j < 6 → gI τ v j = gI σ w j) → (∀ o, o < 3 → gI τ (v + 2) o = gI σ (w + 2) o) → (∀ f, f < k → (∀ j, j < 7 → gI τ (fa σ v f) j = gI σ (fa σ w f) j) ∧ (∀ j, j < 5 → gI τ (fa σ v f + 1) j = gI σ (fa σ w f + 1) j) ∧ ∀ j, j < 10 → gI τ (fa σ v f + 2) j = gI σ (fa σ w f + 2) j) → Wp X mX8_become (rmo (d + 2) 0 0) (d + 2) Q 0 0 64 [some (.ref v), some (.ref w), some (.int (nI k))] [] τ) N (fun k hk hP τ hF h1 h2 h3 => by
    obtain ⟨a1, a2, p, hp, ep⟩ := fa_ok hs.1 hs.2.1 hv (hs.2.2 v hv) (show k < 10 by omega)
    obtain ⟨b1, b2, q, hq, eq⟩ := fa_ok hs.1 hs.2.1 hw (hs.2.2 w hw) (show k < 10 by omega)
    have e0 : gI τ v 0 = nI N := ((h1 0 (by omega)).trans hV.1.1).trans hN
    refine wp_blk kX8_become_64 ?_
    simp (disch := first | decide | omega) only [mxa, vxa, vxb, vxc, vnd, vne, Nat.reduceAdd, Nat.reduceSub, Nat.reduceLeDiff, Nat.reduceLT, Int32.reduceLT, Int32.reduceLE, Int32.reduceAdd, Int32.reduceSub, Int32.reduceMul, Int32.reduceToNatClampNeg, not_false_eq_true, not_true_eq_false, false_implies, true_implies, Nat.zero_add, reduceIte, Nat.reduceMul, Nat.reduceEqDiff, nxa, nxc, lgn, nL_of, swx, Int.reduceAdd, gI_a, gI_k, gL_a, gL_k, gI_r, gL_r, nI_and, nI_or, nI_xor, nI_ndf, nI_shl, nI_shr, ne_eq, and_true, true_and, eq_self, true_or, or_true, false_or, or_false, Option.toList, List.cons_append, List.nil_append, List.length_nil, List.length_cons, Nat.not_lt_zero, bX8_become_64, hF.kd, hF.gR, v1, v2, v4, w1, w2, w4, e0, a1, b1, show ¬ N ≤ k by omega, a2.1, b2.1]
    refine c_fbecome X _ _ _ _ ?_ ?_ (fa_far hs hv hw hvw (by omega) (by omega)) _ ?_
    · exact ⟨(hF.kd _).trans a2.1, (hF.kd _).trans a2.2.1, (hF.kd _).trans a2.2.2.1, (hF.gR _ _).trans a2.2.2.2.1, (hF.gR _ _).trans a2.2.2.2.2⟩
    · exact ⟨(hF.kd _).trans b2.1, (hF.kd _).trans b2.2.1, (hF.kd _).trans b2.2.2.1, (hF.gR _ _).trans b2.2.2.2.1, (hF.gR _ _).trans b2.2.2.2.2⟩
    intro τ' hF' g1 g2 g3
    simp (disch := first | decide | omega) only [mxa, vxa, vxb, vxc, vnd, vne, Nat.reduceAdd, Nat.reduceSub, Nat.reduceLeDiff, Nat.reduceLT, Int32.reduceLT, Int32.reduceLE, Int32.reduceAdd, Int32.reduceSub, Int32.reduceMul, Int32.reduceToNatClampNeg, not_false_eq_true, not_true_eq_false, false_implies, true_implies, Nat.zero_add, reduceIte, Nat.reduceMul, Nat.reduceEqDiff, nxa, nxc, lgn, nL_of, swx, Int.reduceAdd, gI_a, gI_k, gL_a, gL_k, gI_r, gL_r, nI_and, nI_or, nI_xor, nI_ndf, nI_shl, nI_shr, ne_eq, and_true, true_and, eq_self, true_or, or_true, false_or, or_false, Option.toList, List.cons_append, List.nil_append, List.length_nil, List.length_cons, Nat.not_lt_zero]
    have nb : ∀ c, c ≠ fa σ v k → c ≠ fa σ v k + 1 → c ≠ fa σ v k + 2 → ∀ j, gI τ' c j = gI τ c j := fun c q1 q2 q3 => hF'.2.2.1 c (by omega)
    have nw : ∀ c, w ≤ c → c ≤ w + 32 → ∀ j, gI τ c j = gI σ c j := fun c q1 q2 => hF.2.2.1 c (by omega)
    refine hP τ' (hF.tr (hF'.mono (fun c hc => by omega))) (fun j hj => by rw [nb v (by omega) (by omega) (by omega)]; exact h1 j hj) (fun o ho => by rw [nb (v + 2) (by omega) (by omega) (by omega)]; exact h2 o ho) (fun f hf => ?_)
    by_cases hfk : f = k
    · subst hfk
      exact ⟨fun j hj => (g1 j hj).trans (nw _ (by omega) (by omega) j), fun j hj => (g2 j hj).trans (nw _ (by omega) (by omega) j), fun j hj => (g3 j hj).trans (nw _ (by omega) (by omega) j)⟩
    · obtain ⟨-, -, p', hp', ep'⟩ := fa_ok hs.1 hs.2.1 hv (hs.2.2 v hv) (show f < 10 by omega)
      have hne : fa σ v f ≠ fa σ v k := fun q => hfk (fa_inj (hs.2.2 v hv) (by omega) (by omega) q)
      obtain ⟨c1, c2, c3⟩ := h3 f (by omega)
      exact ⟨fun j hj => by rw [nb _ (by omega) (by omega) (by omega)]; exact c1 j hj, fun j hj => by rw [nb _ (by omega) (by omega) (by omega)]; exact c2 j hj, fun j hj => by rw [nb _ (by omega) (by omega) (by omega)]; exact c3 j hj⟩) (fun τ hF h1 h2 h3 => by
    have e0 : gI τ v 0 = nI N := ((h1 0 (by omega)).trans hV.1.1).trans hN
    refine wp_blk kX8_become_64 ?_
    simp (disch := first | decide | omega) only [mxa, vxa, vxb, vxc, vnd, vne, Nat.reduceAdd, Nat.reduceSub, Nat.reduceLeDiff, Nat.reduceLT, Int32.reduceLT, Int32.reduceLE, Int32.reduceAdd, Int32.reduceSub, Int32.reduceMul, Int32.reduceToNatClampNeg, not_false_eq_true, not_true_eq_false, false_implies, true_implies, Nat.zero_add, reduceIte, Nat.reduceMul, Nat.reduceEqDiff, nxa, nxc, lgn, nL_of, swx, Int.reduceAdd, gI_a, gI_k, gL_a, gL_k, gI_r, gL_r, nI_and, nI_or, nI_xor, nI_ndf, nI_shl, nI_shr, ne_eq, and_true, true_and, eq_self, true_or, or_true, false_or, or_false, Option.toList, List.cons_append, List.nil_append, List.length_nil, List.length_cons, Nat.not_lt_zero, bX8_become_64, hF.kd, v1, e0, Nat.le_refl]
    refine wp_blk kX8_become_93 ?_
    simp (disch := first | decide | omega) only [mxa, vxa, vxb, vxc, vnd, vne, Nat.reduceAdd, Nat.reduceSub, Nat.reduceLeDiff, Nat.reduceLT, Int32.reduceLT, Int32.reduceLE, Int32.reduceAdd, Int32.reduceSub, Int32.reduceMul, Int32.reduceToNatClampNeg, not_false_eq_true, not_true_eq_false, false_implies, true_implies, Nat.zero_add, reduceIte, Nat.reduceMul, Nat.reduceEqDiff, nxa, nxc, lgn, nL_of, swx, Int.reduceAdd, gI_a, gI_k, gL_a, gL_k, gI_r, gL_r, nI_and, nI_or, nI_xor, nI_ndf, nI_shl, nI_shr, ne_eq, and_true, true_and, eq_self, true_or, or_true, false_or, or_false, Option.toList, List.cons_append, List.nil_append, List.length_nil, List.length_cons, Nat.not_lt_zero, bX8_become_93]
    obtain ⟨⟨k1, k2, k3, k4, k5, k6⟩, k7, k8⟩ := hV
    refine hQ τ hF ⟨⟨(h1 0 (by omega)).trans k1, (h1 1 (by omega)).trans k2, (h1 4 (by omega)).trans k3, (h1 2 (by omega)).trans k4, (h1 3 (by omega)).trans k5, (h1 5 (by omega)).trans k6⟩, fun o ho => (h2 o (by omega)).trans (k7 o ho), fun f hf => ?_⟩
    obtain ⟨c1, c2, c3⟩ := h3 f hf
    obtain ⟨d1, d2, d3, d4⟩ := k8 f hf
    rw [hF.fa]
    exact ⟨fun j hj => (c1 j (by omega)).trans (d1 j hj), (c1 6 (by omega)).trans d2, fun j hj => (c2 j hj).trans (d3 j hj), fun j hj => (c3 j hj).trans (d4 j hj)⟩)
  refine key _ ?_ (fun j hj => ?_) (fun o ho => ?_) (fun f hf => absurd hf (by omega))
  · refine Fr.tr (Fr_wI (Fr_wI (Fr_wI (Fr_wI (Fr_wI (Fr_wI Fr.rf ?_) ?_) ?_) ?_) ?_) ?_) (Fr.rI ?_) <;> omega
  · rcases (by omega : j = 0 ∨ j = 1 ∨ j = 2 ∨ j = 3 ∨ j = 4 ∨ j = 5) with rfl | rfl | rfl | rfl | rfl | rfl <;> simp (disch := first | decide | omega) only [mxa, vxa, vxb, vxc, vnd, vne, Nat.reduceAdd, Nat.reduceSub, Nat.reduceLeDiff, Nat.reduceLT, Int32.reduceLT, Int32.reduceLE, Int32.reduceAdd, Int32.reduceSub, Int32.reduceMul, Int32.reduceToNatClampNeg, not_false_eq_true, not_true_eq_false, false_implies, true_implies, Nat.zero_add, reduceIte, Nat.reduceMul, Nat.reduceEqDiff, nxa, nxc, lgn, nL_of, swx, Int.reduceAdd, gI_a, gI_k, gL_a, gL_k, gI_r, gL_r, nI_and, nI_or, nI_xor, nI_ndf, nI_shl, nI_shr, ne_eq, and_true, true_and, eq_self, true_or, or_true, false_or, or_false, Option.toList, List.cons_append, List.nil_append, List.length_nil, List.length_cons, Nat.not_lt_zero]
  · simp (disch := first | decide | omega) only [mxa, vxa, vxb, vxc, vnd, vne, Nat.reduceAdd, Nat.reduceSub, Nat.reduceLeDiff, Nat.reduceLT, Int32.reduceLT, Int32.reduceLE, Int32.reduceAdd, Int32.reduceSub, Int32.reduceMul, Int32.reduceToNatClampNeg, not_false_eq_true, not_true_eq_false, false_implies, true_implies, Nat.zero_add, reduceIte, Nat.reduceMul, Nat.reduceEqDiff, nxa, nxc, lgn, nL_of, swx, Int.reduceAdd, gI_a, gI_k, gL_a, gL_k, gI_r, gL_r, nI_and, nI_or, nI_xor, nI_ndf, nI_shl, nI_shr, ne_eq, and_true, true_and, eq_self, true_or, or_true, false_or, or_false, Option.toList, List.cons_append, List.nil_append, List.length_nil, List.length_cons, Nat.not_lt_zero, gI_rF, gI_rS, cpy0]
    rw [if_pos ho]
