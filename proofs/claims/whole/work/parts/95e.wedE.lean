/-! marry: the class's village -/
set_option maxRecDepth 20000
def jC (σ : Mm) (A B j : Nat) : Int32 := if j = 0 then imn (nI 30) (gI σ A 0 + gI σ B 0) else if j = 1 then imn (nI 999) (gI σ A 1 + gI σ B 1) else if j = 2 then imn (nI 99) (gI σ A 2 + gI σ B 2) else gI σ A j + gI σ B j
def pp (N g k : Nat) : Nat := if k < g then k else if k < N - 1 then k + 1 else if k = N - 1 then g else k
theorem c_unite (X : Cx) (d : Nat) (σ : Mm) (N f g : Nat) (A q : Nat → Nat) (hs : Sh σ) (hr : Rf σ) (hA : ∀ i, i < 10 → gR σ 2 i = some (A i) ∧ Fm σ (A i) ∧ 4 ≤ A i ∧ A i + 2 ≤ 33) (hD : ∀ i j, i < 10 → j < 10 → i ≠ j → A i + 2 < A j ∨ A j + 2 < A i) (e0 : gI σ 1 0 = nI N) (hN : N ≤ 10) (hfg : f < g) (hg : g < N) (hq : ∀ i, i < N → gI σ (A i) 6 = nI (q i) ∧ q i < 1024) (Q : Po) (hQ : ∀ τ : Mm, τ.1 = σ.1 → (∀ a, ¬ (1 ≤ a ∧ a ≤ 33) → ∀ k, gI τ a k = gI σ a k) → (∀ a, ¬ (1 ≤ a ∧ a ≤ 33) → ∀ k, gL τ a k = gL σ a k) → gI τ 1 0 = nI (N - 1) → (∀ j, j ≠ 0 → gI τ 1 j = gI σ 1 j) → (∀ k, gI τ 3 k = gI σ 3 k) → (∀ a k, a ≠ 2 → gR τ a k = gR σ a k) → (∀ k, k < 10 → gR τ 2 k = some (A (pp N g k))) → (∀ i, i < N → (∀ j, j < 6 → gI τ (A i) j = if i = f then jC σ (A f) (A g) j else gI σ (A i) j) ∧ gI τ (A i) 6 = nI (tq (if i = f then q f ||| q g else q i) f g) ∧ (∀ k, k < 5 → gI τ (A i + 1) k = if i = f then imn (nI 99) (gI σ (A f + 1) k + gI σ (A g + 1) k) else gI σ (A i + 1) k) ∧ ∀ l, l < 10 → gI τ (A i + 2) l = if i = f then (if l = f then 0 else tE f g (fun l => gI σ (A f + 2) l + gI σ (A g + 2) l) l) else tE f g (gI σ (A i + 2)) l) → Q none τ) : Call X (d + 2) 0 0 mX8_unite [.ref 1, .int (nI f), .int (nI g)] σ Q := by
  obtain ⟨rf1, mf, -, -⟩ := hA f (by omega)
  obtain ⟨rg1, mg, -, -⟩ := hA g (by omega)
  have kdA : ∀ τ : Mm, τ.1 = σ.1 → ∀ i, i < 10 → kd τ (A i) = some (0, 2) := fun τ h i hi => by
    have := (hA i hi).2.1.1
    unfold kd at this ⊢
    rw [h]; exact this
  refine call_of eX8_unite rfl ?_
  refine wp_blk kX8_unite_0 ?_
  simp (disch := first | decide | omega) only [mxa, vxa, vxb, vxc, vnd, vne, Nat.reduceAdd, Nat.reduceSub, Nat.reduceLeDiff, Nat.reduceLT, Int32.reduceLT, Int32.reduceLE, Int32.reduceAdd, Int32.reduceSub, Int32.reduceMul, Int32.reduceToNatClampNeg, not_false_eq_true, not_true_eq_false, false_implies, true_implies, Nat.zero_add, reduceIte, Nat.reduceMul, Nat.reduceEqDiff, nxa, nxc, lgn, nL_of, swx, Int.reduceAdd, gI_a, gI_k, gL_a, gL_k, gI_r, gL_r, nI_and, nI_or, nI_xor, nI_ndf, nI_shl, nI_shr, ne_eq, and_true, true_and, eq_self, true_or, or_true, false_or, or_false, Option.toList, List.cons_append, List.nil_append, List.length_nil, List.length_cons, Nat.not_lt_zero, bX8_unite_0, kdx hs, grx hr, rf1, rg1, mf.1]
  refine c_absorb X _ σ (A f) (A g) mf mg (hD f g (by omega) (by omega) (by omega)) _ (fun τ1 F1 h0 h1 h2 h3 h4 h5 h6 h7 h8 => ?_)
  have s1 := F1.Sh hs
  have r1 := F1.Rf hr
  have fld1 : ∀ i, i < N → (∀ j, j < 6 → gI τ1 (A i) j = if i = f then jC σ (A f) (A g) j else gI σ (A i) j) ∧ gI τ1 (A i) 6 = nI (if i = f then q f ||| q g else q i) ∧ (∀ k, k < 5 → gI τ1 (A i + 1) k = if i = f then imn (nI 99) (gI σ (A f + 1) k + gI σ (A g + 1) k) else gI σ (A i + 1) k) ∧ ∀ l, l < 10 → gI τ1 (A i + 2) l = if i = f then gI σ (A f + 2) l + gI σ (A g + 2) l else gI σ (A i + 2) l := fun i hi => by
    by_cases e : i = f
    · subst e
      refine ⟨fun j hj => ?_, ?_, fun k hk => by rw [if_pos rfl]; exact h7 k hk, fun l hl => by rw [if_pos rfl]; exact h8 l hl⟩
      · rw [if_pos rfl]
        unfold jC
        rcases (by omega : j = 0 ∨ j = 1 ∨ j = 2 ∨ j = 3 ∨ j = 4 ∨ j = 5) with rfl | rfl | rfl | rfl | rfl | rfl
        · exact h0
        · exact h1
        · exact h2
        · exact h3
        · exact h4
        · exact h5
      · rw [if_pos rfl, h6, (hq i hi).1, (hq g hg).1, nI_or]
    · have dd := hD i f (by omega) (by omega) e
      refine ⟨fun j hj => ?_, ?_, fun k hk => ?_, fun l hl => ?_⟩
      · rw [if_neg e]; exact F1.2.2.1 _ (by omega) j
      · rw [if_neg e]; exact (F1.2.2.1 _ (by omega) 6).trans (hq i hi).1
      · rw [if_neg e]; exact F1.2.2.1 _ (by omega) k
      · rw [if_neg e]; exact F1.2.2.1 _ (by omega) l
  have Q1 : ∀ i, i < N → (if i = f then q f ||| q g else q i) < 1024 := fun i hi => by
    by_cases e : i = f
    · rw [if_pos e]; exact Nat.or_lt_two_pow (n := 10) (hq f (by omega)).2 (hq g hg).2
    · rw [if_neg e]; exact (hq i hi).2
  have F1' : Fr (fun c => 4 ≤ c ∧ c ≤ 33) σ τ1 := F1.mono (fun c q => by have := hA f (by omega); omega)
  clear h0 h1 h2 h3 h4 h5 h6 h7 h8
  generalize hQn : (fun i => if i = f then q f ||| q g else q i) = Qn
  have Qe : ∀ i, (if i = f then q f ||| q g else q i) = Qn i := fun i => by rw [← hQn]
  simp only [Qe] at fld1 Q1 hQ
  clear hQn Qe
  have last : ∀ τ2 : Mm, Fr (fun c => 4 ≤ c ∧ c ≤ 33) τ1 τ2 → (∀ i, i < N → (∀ k, gI τ2 (A i + 1) k = gI τ1 (A i + 1) k) ∧ (∀ j, j ≠ 6 → gI τ2 (A i) j = gI τ1 (A i) j) ∧ gI τ2 (A i) 6 = nI (tq (Qn i) f g) ∧ ∀ l, l < 10 → gI τ2 (A i + 2) l = tE f g (gI τ1 (A i + 2)) l) → Wp X mX8_unite (rmo (d + 2) 0 0) (d + 2) Q 0 0 47 [some (.ref 1), some (.int (nI f)), some (.int (nI g)), some (.ref (A g)), some (.int (nI N))] [] τ2 := by
    intro τ2 F2 T2
    have FF := F1'.tr F2
    have s2 := FF.Sh hs
    have r2 := FF.Rf hr
    have g3 : ∀ i, i < 10 → gR τ2 2 i = some (A i) := fun i hi => (FF.gR 2 i).trans (hA i hi).1
    have m1 : kd τ2 (A f) = some (0, 2) := (FF.kd _).trans mf.1
    have m3 : kd τ2 (A f + 2) = some (1, 10) := (FF.kd _).trans mf.2.2.1
    have m5 : gR τ2 (A f) 8 = some (A f + 2) := (FF.gR _ _).trans mf.2.2.2.2
    have e0' : gI τ2 1 0 = nI N := (FF.2.2.1 1 (by omega) 0).trans e0
    have ff := hA f (by omega)
    refine wp_blk kX8_unite_47 ?_
    simp (disch := first | decide | omega) only [mxa, vxa, vxb, vxc, vnd, vne, Nat.reduceAdd, Nat.reduceSub, Nat.reduceLeDiff, Nat.reduceLT, Int32.reduceLT, Int32.reduceLE, Int32.reduceAdd, Int32.reduceSub, Int32.reduceMul, Int32.reduceToNatClampNeg, not_false_eq_true, not_true_eq_false, false_implies, true_implies, Nat.zero_add, reduceIte, Nat.reduceMul, Nat.reduceEqDiff, nxa, nxc, lgn, nL_of, swx, Int.reduceAdd, gI_a, gI_k, gL_a, gL_k, gI_r, gL_r, nI_and, nI_or, nI_xor, nI_ndf, nI_shl, nI_shr, ne_eq, and_true, true_and, eq_self, true_or, or_true, false_or, or_false, Option.toList, List.cons_append, List.nil_append, List.length_nil, List.length_cons, Nat.not_lt_zero, bX8_unite_47, kdx s2, grx r2, g3 f (by omega), m1, m3, m5]
    refine wfor (fun m => ∀ τ : Mm, τ.1 = σ.1 → (∀ a k, gI τ a k = gI (sI τ2 (A f + 2) f (nI 0)) a k) → (∀ a, ¬ (4 ≤ a ∧ a ≤ 33) → ∀ k, gL τ a k = gL σ a k) → (∀ a k, a ≠ 2 → gR τ a k = gR σ a k) → (∀ k, k < 10 → gR τ 2 k = some (A (if g ≤ k ∧ k < g + m then k + 1 else k))) → Wp X mX8_unite (rmo (d + 2) 0 0) (d + 2) Q 0 0 62 [some (.ref 1), some (.int (nI f)), some (.int (nI g)), some (.ref (A g)), some (.int (nI (g + m)))] [] τ) (N - 1 - g) (fun m hm hP τ t1 t2 t3 t4 t5 => ?_) (fun τ t1 t2 t3 t4 t5 => ?_) _ FF.1 (fun _ _ => rfl) (fun a z k => FF.2.2.2 a z k) (fun a k _ => FF.gR a k) (fun k hk => by rw [if_neg (by omega)]; exact g3 k hk)
    · have st : Sh τ := t1.trans hs
      have rt : Rf τ := fun a k q1 q2 q3 q4 => (t4 a k q1).trans (hr a k q1 q2 q3 q4)
      have e0t : gI τ 1 0 = nI N := (t2 1 0).trans ((gI_a (by omega)).trans e0')
      have v := t5 (g + m + 1) (by omega)
      rw [if_neg (by omega)] at v
      refine wp_blk kX8_unite_62 ?_
      simp (disch := first | decide | omega) only [mxa, vxa, vxb, vxc, vnd, vne, Nat.reduceAdd, Nat.reduceSub, Nat.reduceLeDiff, Nat.reduceLT, Int32.reduceLT, Int32.reduceLE, Int32.reduceAdd, Int32.reduceSub, Int32.reduceMul, Int32.reduceToNatClampNeg, not_false_eq_true, not_true_eq_false, false_implies, true_implies, Nat.zero_add, reduceIte, Nat.reduceMul, Nat.reduceEqDiff, nxa, nxc, lgn, nL_of, swx, Int.reduceAdd, gI_a, gI_k, gL_a, gL_k, gI_r, gL_r, nI_and, nI_or, nI_xor, nI_ndf, nI_shl, nI_shr, ne_eq, and_true, true_and, eq_self, true_or, or_true, false_or, or_false, Option.toList, List.cons_append, List.nil_append, List.length_nil, List.length_cons, Nat.not_lt_zero, bX8_unite_62, kdx st, grx rt, e0t, v, kdA τ t1 (g + m + 1) (by omega), nI_dec1 (show 0 < N by omega), show ¬ N - 1 ≤ g + m by omega]
      refine hP (sR τ 2 (g + m) (some (A (g + m + 1)))) t1 (fun a k => t2 a k) (fun a z k => t3 a z k) (fun a k h => (gR_a h).trans (t4 a k h)) (fun k hk => ?_)
      by_cases e : k = g + m
      · rw [e, if_pos (by omega)]
        exact mxa.2.2.2.2.2.2.2.2.2.2.2.2.2.2.2.2.2.1 _ _ _ _
      · rw [gR_k e, t5 k hk]
        congr 2
        by_cases z : g ≤ k ∧ k < g + m
        · rw [if_pos z, if_pos (by omega)]
        · rw [if_neg z, if_neg (by omega)]
    · have st : Sh τ := t1.trans hs
      have rt : Rf τ := fun a k q1 q2 q3 q4 => (t4 a k q1).trans (hr a k q1 q2 q3 q4)
      have e0t : gI τ 1 0 = nI N := (t2 1 0).trans ((gI_a (by omega)).trans e0')
      refine wp_blk kX8_unite_62 ?_
      simp (disch := first | decide | omega) only [mxa, vxa, vxb, vxc, vnd, vne, Nat.reduceAdd, Nat.reduceSub, Nat.reduceLeDiff, Nat.reduceLT, Int32.reduceLT, Int32.reduceLE, Int32.reduceAdd, Int32.reduceSub, Int32.reduceMul, Int32.reduceToNatClampNeg, not_false_eq_true, not_true_eq_false, false_implies, true_implies, Nat.zero_add, reduceIte, Nat.reduceMul, Nat.reduceEqDiff, nxa, nxc, lgn, nL_of, swx, Int.reduceAdd, gI_a, gI_k, gL_a, gL_k, gI_r, gL_r, nI_and, nI_or, nI_xor, nI_ndf, nI_shl, nI_shr, ne_eq, and_true, true_and, eq_self, true_or, or_true, false_or, or_false, Option.toList, List.cons_append, List.nil_append, List.length_nil, List.length_cons, Nat.not_lt_zero, bX8_unite_62, kdx st, e0t, nI_dec1 (show 0 < N by omega), show N - 1 ≤ g + (N - 1 - g) by omega]
      refine wp_blk kX8_unite_95 ?_
      simp (disch := first | decide | omega) only [mxa, vxa, vxb, vxc, vnd, vne, Nat.reduceAdd, Nat.reduceSub, Nat.reduceLeDiff, Nat.reduceLT, Int32.reduceLT, Int32.reduceLE, Int32.reduceAdd, Int32.reduceSub, Int32.reduceMul, Int32.reduceToNatClampNeg, not_false_eq_true, not_true_eq_false, false_implies, true_implies, Nat.zero_add, reduceIte, Nat.reduceMul, Nat.reduceEqDiff, nxa, nxc, lgn, nL_of, swx, Int.reduceAdd, gI_a, gI_k, gL_a, gL_k, gI_r, gL_r, nI_and, nI_or, nI_xor, nI_ndf, nI_shl, nI_shr, ne_eq, and_true, true_and, eq_self, true_or, or_true, false_or, or_false, Option.toList, List.cons_append, List.nil_append, List.length_nil, List.length_cons, Nat.not_lt_zero, bX8_unite_95, kdx st, grx rt, e0t, kdA τ t1 g (by omega), nI_dec1 (show 0 < N by omega)]
      refine hQ (sR (sI τ 1 0 (nI (N - 1))) 2 (N - 1) (some (A g))) t1 (fun a ha k => ?_) (fun a z k => t3 a (by omega) k) ?_ (fun j hj => ?_) (fun k => ?_) (fun a k ha => ?_) (fun k hk => ?_) (fun i hi => ?_)
      · show gI (sI τ 1 0 (nI (N - 1))) a k = _
        rw [gI_a (by omega), t2, gI_a (by omega)]
        exact FF.2.2.1 a (by omega) k
      · show gI (sI τ 1 0 (nI (N - 1))) 1 0 = _
        exact gI_same _ _ _ _
      · show gI (sI τ 1 0 (nI (N - 1))) 1 j = _
        rw [gI_k hj, t2, gI_a (by omega)]
        exact FF.2.2.1 1 (by omega) j
      · show gI (sI τ 1 0 (nI (N - 1))) 3 k = _
        rw [gI_a (by omega), t2, gI_a (by omega)]
        exact FF.2.2.1 3 (by omega) k
      · rw [gR_a ha]
        exact t4 a k ha
      · unfold pp
        by_cases e : k = N - 1
        · rw [if_neg (by omega), if_neg (by omega), if_pos e, e]
          exact mxa.2.2.2.2.2.2.2.2.2.2.2.2.2.2.2.2.2.1 _ _ _ _
        · rw [gR_k e]
          refine (t5 k hk).trans ?_
          congr 2
          by_cases z : k < g
          · rw [if_neg (by omega), if_pos z]
          · rw [if_neg z]
            by_cases y : k < N - 1
            · rw [if_pos (by omega), if_pos y]
            · rw [if_neg (by omega), if_neg y, if_neg e]
      · obtain ⟨a1, a2, a3, a4⟩ := fld1 i hi
        obtain ⟨b1, b2, b3, b4⟩ := T2 i hi
        have ai := hA i (by omega)
        have rd : ∀ c k, 4 ≤ c → gI (sR (sI τ 1 0 (nI (N - 1))) 2 (N - 1) (some (A g))) c k = gI (sI τ2 (A f + 2) f (nI 0)) c k := fun c k hc => by
          show gI (sI τ 1 0 (nI (N - 1))) c k = _
          rw [gI_a (by omega), t2]
        have dis : i ≠ f → A i + 2 < A f ∨ A f + 2 < A i := fun h => hD i f (by omega) (by omega) h
        have ne0 : A i ≠ A f + 2 := by
          by_cases z : i = f
          · rw [z]; omega
          · have := dis z
            omega
        have ne1 : A i + 1 ≠ A f + 2 := by
          by_cases z : i = f
          · rw [z]; omega
          · have := dis z
            omega
        refine ⟨fun j hj => ?_, ?_, fun k hk => ?_, fun l hl => ?_⟩
        · rw [rd _ _ (by omega), gI_a ne0, b2 j (by omega)]
          exact a1 j hj
        · rw [rd _ _ (by omega), gI_a ne0]
          exact b3
        · rw [rd _ _ (by omega), gI_a ne1, b1 k]
          exact a3 k hk
        · rw [rd _ _ (by omega)]
          by_cases e : i = f
          · subst e
            rw [if_pos rfl]
            by_cases z : l = i
            · rw [z, gI_same, if_pos rfl]; rfl
            · rw [gI_k z, if_neg z, b4 l hl]
              unfold tE
              have sl : l ≠ 9 → sk g l < 10 := fun h => by unfold sk; split <;> omega
              by_cases n9 : l = 9
              · rw [if_pos n9, if_pos n9]
              · rw [if_neg n9, if_neg n9]
                have := a4 (sk g l) (sl n9)
                rw [if_pos rfl] at this
                have p1 := a4 i (by omega)
                have p2 := a4 g (by omega)
                rw [if_pos rfl] at p1 p2
                rw [this, p1, p2]
          · have := dis e
            rw [if_neg e, gI_a (by omega), b4 l hl]
            unfold tE
            have sl : l ≠ 9 → sk g l < 10 := fun h => by unfold sk; split <;> omega
            by_cases n9 : l = 9
            · rw [if_pos n9, if_pos n9]
            · rw [if_neg n9, if_neg n9]
              have w := a4 (sk g l) (sl n9)
              have p1 := a4 f (by omega)
              have p2 := a4 g (by omega)
              rw [if_neg e] at w p1 p2
              rw [w, p1, p2]
  simp (disch := first | decide | omega) only [mxa, vxa, vxb, vxc, vnd, vne, Nat.reduceAdd, Nat.reduceSub, Nat.reduceLeDiff, Nat.reduceLT, Int32.reduceLT, Int32.reduceLE, Int32.reduceAdd, Int32.reduceSub, Int32.reduceMul, Int32.reduceToNatClampNeg, not_false_eq_true, not_true_eq_false, false_implies, true_implies, Nat.zero_add, reduceIte, Nat.reduceMul, Nat.reduceEqDiff, nxa, nxc, lgn, nL_of, swx, Int.reduceAdd, gI_a, gI_k, gL_a, gL_k, gI_r, gL_r, nI_and, nI_or, nI_xor, nI_ndf, nI_shl, nI_shr, ne_eq, and_true, true_and, eq_self, true_or, or_true, false_or, or_false, Option.toList, List.cons_append, List.nil_append, List.length_nil, List.length_cons, Nat.not_lt_zero]
  refine wfor (fun m => ∀ τ : Mm, Fr (fun c => 4 ≤ c ∧ c ≤ 33) τ1 τ → (∀ i, i < N → (∀ k, gI τ (A i + 1) k = gI τ1 (A i + 1) k) ∧ (∀ j, j ≠ 6 → gI τ (A i) j = gI τ1 (A i) j) ∧ (i < m → gI τ (A i) 6 = nI (tq (Qn i) f g) ∧ ∀ l, l < 10 → gI τ (A i + 2) l = tE f g (gI τ1 (A i + 2)) l) ∧ (m ≤ i → gI τ (A i) 6 = gI τ1 (A i) 6 ∧ gI τ (A i + 2) = gI τ1 (A i + 2))) → Wp X mX8_unite (rmo (d + 2) 0 0) (d + 2) Q 0 0 20 [some (.ref 1), some (.int (nI f)), some (.int (nI g)), some (.ref (A g)), some (.int (nI m))] [] τ) N (fun m hm hP τ F T => ?_) (fun τ F T => ?_) τ1 Fr.rf (fun i hi => ⟨fun _ => rfl, fun _ _ => rfl, fun h => absurd h (by omega), fun _ => ⟨rfl, rfl⟩⟩)
  · have FF := F1'.tr F
    have s2 := FF.Sh hs
    have r2 := FF.Rf hr
    obtain ⟨am, bm', cm1, cm2⟩ := hA m (by omega)
    have e0' : gI τ 1 0 = nI N := (FF.2.2.1 1 (by omega) 0).trans e0
    have g3 : gR τ 2 m = some (A m) := (FF.gR 2 m).trans am
    have fm : Fm τ (A m) := ⟨(FF.kd _).trans bm'.1, (FF.kd _).trans bm'.2.1, (FF.kd _).trans bm'.2.2.1, (FF.gR _ _).trans bm'.2.2.2.1, (FF.gR _ _).trans bm'.2.2.2.2⟩
    obtain ⟨t1, t2, t3, t4⟩ := T m hm
    obtain ⟨u1, u2⟩ := t4 (Nat.le_refl _)
    refine wp_blk kX8_unite_20 ?_
    simp (disch := first | decide | omega) only [mxa, vxa, vxb, vxc, vnd, vne, Nat.reduceAdd, Nat.reduceSub, Nat.reduceLeDiff, Nat.reduceLT, Int32.reduceLT, Int32.reduceLE, Int32.reduceAdd, Int32.reduceSub, Int32.reduceMul, Int32.reduceToNatClampNeg, not_false_eq_true, not_true_eq_false, false_implies, true_implies, Nat.zero_add, reduceIte, Nat.reduceMul, Nat.reduceEqDiff, nxa, nxc, lgn, nL_of, swx, Int.reduceAdd, gI_a, gI_k, gL_a, gL_k, gI_r, gL_r, nI_and, nI_or, nI_xor, nI_ndf, nI_shl, nI_shr, ne_eq, and_true, true_and, eq_self, true_or, or_true, false_or, or_false, Option.toList, List.cons_append, List.nil_append, List.length_nil, List.length_cons, Nat.not_lt_zero, bX8_unite_20, kdx s2, grx r2, e0', g3, fm.1, show ¬ N ≤ m by omega]
    refine c_turnTo X _ τ (A m) f g (Qn m) fm hfg (by omega) (u1.trans (fld1 m hm).2.1) (Q1 m hm) _ (fun τ3 F3 v1 v2 v3 => ?_)
    simp (disch := first | decide | omega) only [mxa, vxa, vxb, vxc, vnd, vne, Nat.reduceAdd, Nat.reduceSub, Nat.reduceLeDiff, Nat.reduceLT, Int32.reduceLT, Int32.reduceLE, Int32.reduceAdd, Int32.reduceSub, Int32.reduceMul, Int32.reduceToNatClampNeg, not_false_eq_true, not_true_eq_false, false_implies, true_implies, Nat.zero_add, reduceIte, Nat.reduceMul, Nat.reduceEqDiff, nxa, nxc, lgn, nL_of, swx, Int.reduceAdd, gI_a, gI_k, gL_a, gL_k, gI_r, gL_r, nI_and, nI_or, nI_xor, nI_ndf, nI_shl, nI_shr, ne_eq, and_true, true_and, eq_self, true_or, or_true, false_or, or_false, Option.toList, List.cons_append, List.nil_append, List.length_nil, List.length_cons, Nat.not_lt_zero]
    refine hP τ3 (F.tr (F3.mono (fun c q => by omega))) (fun i hi => ?_)
    obtain ⟨w1, w2, w3, w4⟩ := T i hi
    by_cases e : i = m
    · subst e
      refine ⟨fun k => (F3.2.2.1 _ (by omega) k).trans (w1 k), fun j hj => (v1 j hj).trans (w2 j hj), fun _ => ⟨v2, fun l hl => by rw [v3 l hl, u2]⟩, fun h => absurd h (by omega)⟩
    · have dd := hD i m (by omega) (by omega) e
      have o : ∀ c, c = A i ∨ c = A i + 1 ∨ c = A i + 2 → ∀ k, gI τ3 c k = gI τ c k := fun c hc k => F3.2.2.1 c (by omega) k
      refine ⟨fun k => (o _ (by omega) k).trans (w1 k), fun j hj => (o _ (by omega) j).trans (w2 j hj), fun h => ?_, fun h => ?_⟩
      · obtain ⟨x1, x2⟩ := w3 (by omega)
        exact ⟨(o _ (by omega) 6).trans x1, fun l hl => (o _ (by omega) l).trans (x2 l hl)⟩
      · obtain ⟨x1, x2⟩ := w4 (by omega)
        exact ⟨(o _ (by omega) 6).trans x1, (funext fun l => o _ (by omega) l).trans x2⟩
  · have FF := F1'.tr F
    have s2 := FF.Sh hs
    have e0' : gI τ 1 0 = nI N := (FF.2.2.1 1 (by omega) 0).trans e0
    refine wp_blk kX8_unite_20 ?_
    simp (disch := first | decide | omega) only [mxa, vxa, vxb, vxc, vnd, vne, Nat.reduceAdd, Nat.reduceSub, Nat.reduceLeDiff, Nat.reduceLT, Int32.reduceLT, Int32.reduceLE, Int32.reduceAdd, Int32.reduceSub, Int32.reduceMul, Int32.reduceToNatClampNeg, not_false_eq_true, not_true_eq_false, false_implies, true_implies, Nat.zero_add, reduceIte, Nat.reduceMul, Nat.reduceEqDiff, nxa, nxc, lgn, nL_of, swx, Int.reduceAdd, gI_a, gI_k, gL_a, gL_k, gI_r, gL_r, nI_and, nI_or, nI_xor, nI_ndf, nI_shl, nI_shr, ne_eq, and_true, true_and, eq_self, true_or, or_true, false_or, or_false, Option.toList, List.cons_append, List.nil_append, List.length_nil, List.length_cons, Nat.not_lt_zero, bX8_unite_20, kdx s2, e0', Nat.le_refl]
    exact last τ F (fun i hi => ⟨(T i hi).1, (T i hi).2.1, ((T i hi).2.2.1 hi).1, ((T i hi).2.2.1 hi).2⟩)
