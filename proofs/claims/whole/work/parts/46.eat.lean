/-! eating, ageing -/
set_option maxRecDepth 20000
theorem Wp.fog {X : Cx} {M : MI} {R : Room} {d : Nat} {Q : Po} {c0 s0 pc : Nat} {lv : Lv} {st : List Value} {σ : Mm} (i : Nat) (h : Wp X M R d Q c0 s0 pc (lv.set i none) st σ) : Wp X M R d Q c0 s0 pc lv st σ := h.locals (fun j v hv => by
  rw [List.getElem?_set] at hv
  by_cases e : i = j
  · rw [if_pos e] at hv
    split at hv <;> cases hv
  · rwa [if_neg e] at hv)
theorem dn (n : Nat) : nI (n + 1) + (-1) = nI n := by
  rw [show nI (n + 1) = nI n + nI 1 from (nI_add ..).symm, Int32.add_assoc, show nI 1 + (-1) = (0 : Int32) from by decide, Int32.add_zero]
def updN (B : Nat → Nat) (n x : Nat) : Nat → Nat := fun j => if j = n then x else B j
/-- eats e loaves of the ages below n, the oldest first: what is left, what lacks -/
def eatF : Nat → (Nat → Nat) → Nat → (Nat → Nat) × Nat
  | 0, B, e => (B, e)
  | n + 1, B, e => eatF n (updN B n (B n - min (B n) e)) (e - min (B n) e)
def agm (K : Nat) (B : Nat → Nat) (m : Nat) : Nat → Nat := fun k => if m < k ∧ k < K then B (k - 1) else B k
def ageF (K : Nat) (B : Nat → Nat) : Nat → Nat := fun k => if k = 0 then 0 else if k < K then B (k - 1) else B k
def rowB (g : Nat → Int32) (b : Nat) (B : Nat → Nat) : Nat → Int32 := fun j => if b ≤ j ∧ j < b + 5 then nI (B (j - b)) else g j
theorem rowB_at {g : Nat → Int32} {b : Nat} {B : Nat → Nat} {n : Nat} (h : n < 5) : rowB g b B (b + n) = nI (B n) := by
  unfold rowB
  rw [if_pos (by omega), Nat.add_sub_cancel_left]
theorem rowB_0 {g : Nat → Int32} {B : Nat → Nat} {n : Nat} (h : n < 5) : rowB g 0 B n = nI (B n) := by
  have := rowB_at (g := g) (b := 0) (B := B) h
  rwa [Nat.zero_add] at this
theorem rowB_off {g : Nat → Int32} {b : Nat} {B : Nat → Nat} {j : Nat} (h : j < b ∨ b + 5 ≤ j) : rowB g b B j = g j := if_neg (by omega)
theorem rowB_upd {g : Nat → Int32} {b : Nat} {B : Nat → Nat} {n x : Nat} (h : n < 5) : upd (rowB g b B) (b + n) (nI x) = rowB g b (updN B n x) := by
  funext j
  unfold upd rowB updN
  by_cases h1 : j = b + n
  · rw [if_pos h1, if_pos (by omega), if_pos (by omega)]
  · rw [if_neg h1]
    by_cases h2 : b ≤ j ∧ j < b + 5
    · rw [if_pos h2, if_pos h2, if_neg (by omega)]
    · rw [if_neg h2, if_neg h2]
theorem rowB_updb {g : Nat → Int32} {b : Nat} {B : Nat → Nat} {x : Nat} : upd (rowB g b B) b (nI x) = rowB g b (updN B 0 x) := rowB_upd (n := 0) (by omega)
theorem rowB_upd0 {g : Nat → Int32} {B : Nat → Nat} {n x : Nat} (h : n < 5) : upd (rowB g 0 B) n (nI x) = rowB g 0 (updN B n x) := by
  have := rowB_upd (g := g) (b := 0) (B := B) (x := x) h
  rwa [Nat.zero_add] at this
theorem rowB_self {g : Nat → Int32} {b : Nat} {B : Nat → Nat} (h : ∀ n, n < 5 → g (b + n) = nI (B n)) : rowB g b B = g := by
  funext j
  unfold rowB
  by_cases h2 : b ≤ j ∧ j < b + 5
  · rw [if_pos h2, ← h (j - b) (by omega), show b + (j - b) = j by omega]
  · rw [if_neg h2]
theorem rowB_congr {g : Nat → Int32} {b : Nat} {B B' : Nat → Nat} (h : ∀ n, n < 5 → B n = B' n) : rowB g b B = rowB g b B' := by
  funext j
  unfold rowB
  by_cases h2 : b ≤ j ∧ j < b + 5
  · rw [if_pos h2, if_pos h2, h _ (by omega)]
  · rw [if_neg h2, if_neg h2]
theorem eatF_le : ∀ (n : Nat) (B : Nat → Nat) (e : Nat), (∀ k, (eatF n B e).1 k ≤ B k) ∧ (eatF n B e).2 ≤ e
  | 0, B, e => ⟨fun _ => Nat.le_refl _, Nat.le_refl _⟩
  | n + 1, B, e => by
    obtain ⟨h1, h2⟩ := eatF_le n (updN B n (B n - min (B n) e)) (e - min (B n) e)
    refine ⟨fun k => Nat.le_trans (h1 k) ?_, Nat.le_trans h2 (Nat.sub_le _ _)⟩
    unfold updN
    split
    · subst k; omega
    · exact Nat.le_refl _
theorem eatF_off : ∀ (n : Nat) (B : Nat → Nat) (e k : Nat), n ≤ k → (eatF n B e).1 k = B k
  | 0, B, e, k, _ => rfl
  | n + 1, B, e, k, h => by
    rw [eatF, eatF_off n _ _ k (by omega)]
    exact if_neg (by omega)
theorem eatF_ext (B : Nat → Nat) (e K : Nat) : ∀ m, K ≤ m → (∀ k, K ≤ k → k < m → B k = 0) → eatF m B e = eatF K B e := by
  intro m
  induction m with
  | zero => intro h _; rw [show K = 0 by omega]
  | succ m ih =>
    intro h z
    by_cases hK : K = m + 1
    · rw [hK]
    · have zm := z m (by omega) (by omega)
      have e1 : updN B m (B m - min (B m) e) = B := by
        funext j
        unfold updN
        split
        · subst j; omega
        · rfl
      rw [eatF, e1, show e - min (B m) e = e by omega]
      exact ih (by omega) (fun k h1 h2 => z k h1 (by omega))
theorem agm_step {K m : Nat} {B : Nat → Nat} (h : m + 1 < K) : updN (agm K B (m + 1)) (m + 1) (B m) = agm K B m := by
  funext k
  unfold updN agm
  by_cases h1 : k = m + 1
  · subst h1
    rw [if_pos rfl, if_pos (by omega), Nat.add_sub_cancel]
  · rw [if_neg h1]
    by_cases h2 : m + 1 < k ∧ k < K
    · rw [if_pos h2, if_pos (by omega)]
    · rw [if_neg h2, if_neg (by omega)]
theorem agm_end {K : Nat} {B : Nat → Nat} : updN (agm K B 0) 0 0 = ageF K B := by
  funext k
  unfold updN agm ageF
  by_cases h1 : k = 0
  · rw [if_pos h1, if_pos h1]
  · rw [if_neg h1, if_neg h1]
    by_cases h2 : k < K
    · rw [if_pos (by omega), if_pos h2]
    · rw [if_neg (by omega), if_neg h2]
theorem agm_top {K : Nat} {B : Nat → Nat} : agm K B (K - 1) = B := by
  funext k
  unfold agm
  rw [if_neg (by omega)]
theorem agm_at {K m : Nat} {B : Nat → Nat} : agm K B (m + 1) m = B m := if_neg (by omega)
theorem eat_loop (X : Cx) (d : Nat) (σ : Mm) (a : Nat) (h : Fm σ a) (Q : Po) : ∀ n, n ≤ 5 → ∀ (B : Nat → Nat) (e : Nat), (∀ j, j < 5 → B j < 1000000000) → e < 1000000000 → Q (some (.int (nI (eatF n B e).2))) (rI σ (a + 1) (rowB (gI σ (a + 1)) 0 (eatF n B e).1)) → Wp X mX2_eat (rmo (d + 1) 0 0) (d + 1) Q 0 0 7 [some (.ref a), some (.int (nI e)), some (.int (nI n + (-1))), none] [] (rI σ (a + 1) (rowB (gI σ (a + 1)) 0 B)) := by
  intro n
  induction n with
  | zero =>
    intro _ B e _ _ hQ
    rw [show nI 0 + (-1) = (-1 : Int32) from by decide]
    refine wp_blk kX2_eat_7 ?_
    simp (disch := first | decide | omega) only [mxa, vxa, vxb, vxc, vnd, vne, Nat.reduceAdd, Nat.reduceSub, Nat.reduceLeDiff, Nat.reduceLT, Int32.reduceLT, Int32.reduceLE, Int32.reduceAdd, Int32.reduceSub, Int32.reduceMul, Int32.reduceToNatClampNeg, not_false_eq_true, not_true_eq_false, false_implies, true_implies, Nat.zero_add, reduceIte, Nat.reduceMul, Nat.reduceEqDiff, nxa, nxc, lgn, nL_of, swx, Int.reduceAdd, gI_a, gI_k, gL_a, gL_k, gI_r, gL_r, nI_and, nI_or, nI_xor, nI_ndf, nI_shl, nI_shr, ne_eq, and_true, true_and, eq_self, true_or, or_true, false_or, or_false, Option.toList, List.cons_append, List.nil_append, List.length_nil, List.length_cons, Nat.not_lt_zero, bX2_eat_7, show ((-1 : Int32) < nI 0) = True from eq_true (by decide)]
    refine wp_blk kX2_eat_42 ?_
    simp (disch := first | decide | omega) only [mxa, vxa, vxb, vxc, vnd, vne, Nat.reduceAdd, Nat.reduceSub, Nat.reduceLeDiff, Nat.reduceLT, Int32.reduceLT, Int32.reduceLE, Int32.reduceAdd, Int32.reduceSub, Int32.reduceMul, Int32.reduceToNatClampNeg, not_false_eq_true, not_true_eq_false, false_implies, true_implies, Nat.zero_add, reduceIte, Nat.reduceMul, Nat.reduceEqDiff, nxa, nxc, lgn, nL_of, swx, Int.reduceAdd, gI_a, gI_k, gL_a, gL_k, gI_r, gL_r, nI_and, nI_or, nI_xor, nI_ndf, nI_shl, nI_shr, ne_eq, and_true, true_and, eq_self, true_or, or_true, false_or, or_false, Option.toList, List.cons_append, List.nil_append, List.length_nil, List.length_cons, Nat.not_lt_zero, bX2_eat_42]
    exact hQ
  | succ n ih =>
    intro hn B e hB he hQ
    rw [eatF] at hQ
    rw [dn]
    have hBn := hB n (by omega)
    refine wp_blk kX2_eat_7 ?_
    simp (disch := first | decide | omega) only [mxa, vxa, vxb, vxc, vnd, vne, Nat.reduceAdd, Nat.reduceSub, Nat.reduceLeDiff, Nat.reduceLT, Int32.reduceLT, Int32.reduceLE, Int32.reduceAdd, Int32.reduceSub, Int32.reduceMul, Int32.reduceToNatClampNeg, not_false_eq_true, not_true_eq_false, false_implies, true_implies, Nat.zero_add, reduceIte, Nat.reduceMul, Nat.reduceEqDiff, nxa, nxc, lgn, nL_of, swx, Int.reduceAdd, gI_a, gI_k, gL_a, gL_k, gI_r, gL_r, nI_and, nI_or, nI_xor, nI_ndf, nI_shl, nI_shr, ne_eq, and_true, true_and, eq_self, true_or, or_true, false_or, or_false, Option.toList, List.cons_append, List.nil_append, List.length_nil, List.length_cons, Nat.not_lt_zero, bX2_eat_7, h.1, h.2.1, h.2.2.2.1, rowB_0, imn_n]
    rw [sI_rI, rowB_upd0 (by omega)]
    refine Wp.fog 3 ?_
    refine ih (by omega) _ _ (fun j hj => ?_) (by omega) hQ
    unfold updN
    split
    · omega
    · exact hB j hj
theorem c_eat (X : Cx) (d : Nat) (σ : Mm) (a : Nat) (B : Nat → Nat) (e : Nat) (h : Fm σ a) (hB : ∀ j, j < 5 → gI σ (a + 1) j = nI (B j)) (he : gI σ a 0 = nI e) (hb : ∀ j, j < 5 → B j < 1000000000) (he' : e < 1000000000) (Q : Po) (hQ : Q (some (.int (nI (eatF 5 B e).2))) (rI σ (a + 1) (rowB (gI σ (a + 1)) 0 (eatF 5 B e).1))) : Call X (d + 1) 0 0 mX2_eat [.ref a] σ Q := by
  have key := eat_loop X d σ a h Q 5 (by omega) B e hb he' hQ
  rw [rowB_self (fun n hn => by rw [Nat.zero_add]; exact hB n hn), rI_self, show nI 5 + (-1) = nI 4 from dn 4] at key
  refine call_of eX2_eat rfl ?_
  refine wp_blk kX2_eat_0 ?_
  simp (disch := first | decide | omega) only [mxa, vxa, vxb, vxc, vnd, vne, Nat.reduceAdd, Nat.reduceSub, Nat.reduceLeDiff, Nat.reduceLT, Int32.reduceLT, Int32.reduceLE, Int32.reduceAdd, Int32.reduceSub, Int32.reduceMul, Int32.reduceToNatClampNeg, not_false_eq_true, not_true_eq_false, false_implies, true_implies, Nat.zero_add, reduceIte, Nat.reduceMul, Nat.reduceEqDiff, nxa, nxc, lgn, nL_of, swx, Int.reduceAdd, gI_a, gI_k, gL_a, gL_k, gI_r, gL_r, nI_and, nI_or, nI_xor, nI_ndf, nI_shl, nI_shr, ne_eq, and_true, true_and, eq_self, true_or, or_true, false_or, or_false, Option.toList, List.cons_append, List.nil_append, List.length_nil, List.length_cons, Nat.not_lt_zero, bX2_eat_0, h.1, he]
  exact key
theorem lacks_loop (X : Cx) (d : Nat) (σ : Mm) (c b L : Nat) (E : Int32) (hc : kd σ c = some (1, L)) (hL : b + 5 ≤ L) (hL2 : L ≤ 1000) (Q : Po) : ∀ n, n ≤ 5 → ∀ (B : Nat → Nat) (e : Nat), (∀ j, j < 5 → B j < 1000000000) → e < 1000000000 → Q (some (.int (nI (eatF n B e).2))) (rI σ c (rowB (gI σ c) b (eatF n B e).1)) → Wp X mX10_lacks (rmo d 0 0) d Q 0 0 13 [some (.ref 190), some (.ref c), some (.int (nI b)), some (.int E), some (.int (nI e)), some (.int (nI n + (-1))), none] [] (rI σ c (rowB (gI σ c) b B)) := by
  intro n
  induction n with
  | zero =>
    intro _ B e _ _ hQ
    rw [show nI 0 + (-1) = (-1 : Int32) from by decide]
    refine wp_blk kX10_lacks_13 ?_
    simp (disch := first | decide | omega) only [mxa, vxa, vxb, vxc, vnd, vne, Nat.reduceAdd, Nat.reduceSub, Nat.reduceLeDiff, Nat.reduceLT, Int32.reduceLT, Int32.reduceLE, Int32.reduceAdd, Int32.reduceSub, Int32.reduceMul, Int32.reduceToNatClampNeg, not_false_eq_true, not_true_eq_false, false_implies, true_implies, Nat.zero_add, reduceIte, Nat.reduceMul, Nat.reduceEqDiff, nxa, nxc, lgn, nL_of, swx, Int.reduceAdd, gI_a, gI_k, gL_a, gL_k, gI_r, gL_r, nI_and, nI_or, nI_xor, nI_ndf, nI_shl, nI_shr, ne_eq, and_true, true_and, eq_self, true_or, or_true, false_or, or_false, Option.toList, List.cons_append, List.nil_append, List.length_nil, List.length_cons, Nat.not_lt_zero, bX10_lacks_13, show ((-1 : Int32) < nI 0) = True from eq_true (by decide)]
    refine wp_blk kX10_lacks_66 ?_
    simp (disch := first | decide | omega) only [mxa, vxa, vxb, vxc, vnd, vne, Nat.reduceAdd, Nat.reduceSub, Nat.reduceLeDiff, Nat.reduceLT, Int32.reduceLT, Int32.reduceLE, Int32.reduceAdd, Int32.reduceSub, Int32.reduceMul, Int32.reduceToNatClampNeg, not_false_eq_true, not_true_eq_false, false_implies, true_implies, Nat.zero_add, reduceIte, Nat.reduceMul, Nat.reduceEqDiff, nxa, nxc, lgn, nL_of, swx, Int.reduceAdd, gI_a, gI_k, gL_a, gL_k, gI_r, gL_r, nI_and, nI_or, nI_xor, nI_ndf, nI_shl, nI_shr, ne_eq, and_true, true_and, eq_self, true_or, or_true, false_or, or_false, Option.toList, List.cons_append, List.nil_append, List.length_nil, List.length_cons, Nat.not_lt_zero, bX10_lacks_66]
    exact hQ
  | succ n ih =>
    intro hn B e hB he hQ
    rw [eatF] at hQ
    rw [dn]
    have hBn := hB n (by omega)
    by_cases hle : e ≤ B n
    · have hm : min (B n) e = e := by omega
      rw [hm] at hQ
      refine wp_blk kX10_lacks_13 ?_
      simp (disch := first | decide | omega) only [mxa, vxa, vxb, vxc, vnd, vne, Nat.reduceAdd, Nat.reduceSub, Nat.reduceLeDiff, Nat.reduceLT, Int32.reduceLT, Int32.reduceLE, Int32.reduceAdd, Int32.reduceSub, Int32.reduceMul, Int32.reduceToNatClampNeg, not_false_eq_true, not_true_eq_false, false_implies, true_implies, Nat.zero_add, reduceIte, Nat.reduceMul, Nat.reduceEqDiff, nxa, nxc, lgn, nL_of, swx, Int.reduceAdd, gI_a, gI_k, gL_a, gL_k, gI_r, gL_r, nI_and, nI_or, nI_xor, nI_ndf, nI_shl, nI_shr, ne_eq, and_true, true_and, eq_self, true_or, or_true, false_or, or_false, Option.toList, List.cons_append, List.nil_append, List.length_nil, List.length_cons, Nat.not_lt_zero, bX10_lacks_13, hc, rowB_at, hle]
      refine wp_blk kX10_lacks_38 ?_
      simp (disch := first | decide | omega) only [mxa, vxa, vxb, vxc, vnd, vne, Nat.reduceAdd, Nat.reduceSub, Nat.reduceLeDiff, Nat.reduceLT, Int32.reduceLT, Int32.reduceLE, Int32.reduceAdd, Int32.reduceSub, Int32.reduceMul, Int32.reduceToNatClampNeg, not_false_eq_true, not_true_eq_false, false_implies, true_implies, Nat.zero_add, reduceIte, Nat.reduceMul, Nat.reduceEqDiff, nxa, nxc, lgn, nL_of, swx, Int.reduceAdd, gI_a, gI_k, gL_a, gL_k, gI_r, gL_r, nI_and, nI_or, nI_xor, nI_ndf, nI_shl, nI_shr, ne_eq, and_true, true_and, eq_self, true_or, or_true, false_or, or_false, Option.toList, List.cons_append, List.nil_append, List.length_nil, List.length_cons, Nat.not_lt_zero, bX10_lacks_38]
      refine wp_blk kX10_lacks_40 ?_
      simp (disch := first | decide | omega) only [mxa, vxa, vxb, vxc, vnd, vne, Nat.reduceAdd, Nat.reduceSub, Nat.reduceLeDiff, Nat.reduceLT, Int32.reduceLT, Int32.reduceLE, Int32.reduceAdd, Int32.reduceSub, Int32.reduceMul, Int32.reduceToNatClampNeg, not_false_eq_true, not_true_eq_false, false_implies, true_implies, Nat.zero_add, reduceIte, Nat.reduceMul, Nat.reduceEqDiff, nxa, nxc, lgn, nL_of, swx, Int.reduceAdd, gI_a, gI_k, gL_a, gL_k, gI_r, gL_r, nI_and, nI_or, nI_xor, nI_ndf, nI_shl, nI_shr, ne_eq, and_true, true_and, eq_self, true_or, or_true, false_or, or_false, Option.toList, List.cons_append, List.nil_append, List.length_nil, List.length_cons, Nat.not_lt_zero, bX10_lacks_40, hc, rowB_at]
      rw [sI_rI, rowB_upd (by omega)]
      refine Wp.fog 6 ?_
      refine ih (by omega) _ _ (fun j hj => ?_) (by omega) hQ
      unfold updN
      split
      · omega
      · exact hB j hj
    · have hm : min (B n) e = B n := by omega
      rw [hm] at hQ
      refine wp_blk kX10_lacks_13 ?_
      simp (disch := first | decide | omega) only [mxa, vxa, vxb, vxc, vnd, vne, Nat.reduceAdd, Nat.reduceSub, Nat.reduceLeDiff, Nat.reduceLT, Int32.reduceLT, Int32.reduceLE, Int32.reduceAdd, Int32.reduceSub, Int32.reduceMul, Int32.reduceToNatClampNeg, not_false_eq_true, not_true_eq_false, false_implies, true_implies, Nat.zero_add, reduceIte, Nat.reduceMul, Nat.reduceEqDiff, nxa, nxc, lgn, nL_of, swx, Int.reduceAdd, gI_a, gI_k, gL_a, gL_k, gI_r, gL_r, nI_and, nI_or, nI_xor, nI_ndf, nI_shl, nI_shr, ne_eq, and_true, true_and, eq_self, true_or, or_true, false_or, or_false, Option.toList, List.cons_append, List.nil_append, List.length_nil, List.length_cons, Nat.not_lt_zero, bX10_lacks_13, hc, rowB_at, hle]
      refine wp_blk kX10_lacks_40 ?_
      simp (disch := first | decide | omega) only [mxa, vxa, vxb, vxc, vnd, vne, Nat.reduceAdd, Nat.reduceSub, Nat.reduceLeDiff, Nat.reduceLT, Int32.reduceLT, Int32.reduceLE, Int32.reduceAdd, Int32.reduceSub, Int32.reduceMul, Int32.reduceToNatClampNeg, not_false_eq_true, not_true_eq_false, false_implies, true_implies, Nat.zero_add, reduceIte, Nat.reduceMul, Nat.reduceEqDiff, nxa, nxc, lgn, nL_of, swx, Int.reduceAdd, gI_a, gI_k, gL_a, gL_k, gI_r, gL_r, nI_and, nI_or, nI_xor, nI_ndf, nI_shl, nI_shr, ne_eq, and_true, true_and, eq_self, true_or, or_true, false_or, or_false, Option.toList, List.cons_append, List.nil_append, List.length_nil, List.length_cons, Nat.not_lt_zero, bX10_lacks_40, hc, rowB_at]
      rw [sI_rI, rowB_upd (by omega)]
      refine Wp.fog 6 ?_
      refine ih (by omega) _ _ (fun j hj => ?_) (by omega) hQ
      unfold updN
      split
      · omega
      · exact hB j hj
theorem c_lacks (X : Cx) (d : Nat) (σ : Mm) (c b K L : Nat) (B : Nat → Nat) (e : Nat) (hs : Sh σ) (hr : Rf σ) (hK : gI σ 191 3 = nI K) (hK1 : 1 ≤ K) (hK5 : K ≤ 5) (hc : kd σ c = some (1, L)) (hL : b + 5 ≤ L) (hL2 : L ≤ 1000) (hB : ∀ j, j < 5 → gI σ c (b + j) = nI (B j)) (hb : ∀ j, j < 5 → B j < 1000000000) (he' : e < 1000000000) (Q : Po) (hQ : Q (some (.int (nI (eatF K B e).2))) (rI σ c (rowB (gI σ c) b (eatF K B e).1))) : Call X d 0 0 mX10_lacks [.ref 190, .ref c, .int (nI b), .int (nI e)] σ Q := by
  have key := lacks_loop X d σ c b L (nI e) hc hL hL2 Q K hK5 B e hb he' hQ
  rw [rowB_self hB, rI_self, show nI K + (-1) = nI (K - 1) from by rw [show K = K - 1 + 1 by omega, dn, Nat.add_sub_cancel]] at key
  refine call_of eX10_lacks rfl ?_
  refine wp_blk kX10_lacks_0 ?_
  simp (disch := first | decide | omega) only [mxa, vxa, vxb, vxc, vnd, vne, Nat.reduceAdd, Nat.reduceSub, Nat.reduceLeDiff, Nat.reduceLT, Int32.reduceLT, Int32.reduceLE, Int32.reduceAdd, Int32.reduceSub, Int32.reduceMul, Int32.reduceToNatClampNeg, not_false_eq_true, not_true_eq_false, false_implies, true_implies, Nat.zero_add, reduceIte, Nat.reduceMul, Nat.reduceEqDiff, nxa, nxc, lgn, nL_of, swx, Int.reduceAdd, gI_a, gI_k, gL_a, gL_k, gI_r, gL_r, nI_and, nI_or, nI_xor, nI_ndf, nI_shl, nI_shr, ne_eq, and_true, true_and, eq_self, true_or, or_true, false_or, or_false, Option.toList, List.cons_append, List.nil_append, List.length_nil, List.length_cons, Nat.not_lt_zero, bX10_lacks_0, kdx hs, grx hr, hK]
  exact key
theorem ages_loop (X : Cx) (d : Nat) (σ : Mm) (c b K L : Nat) (S : Int32) (B : Nat → Nat) (hK5 : K ≤ 5) (hc : kd σ c = some (1, L)) (hL : b + 5 ≤ L) (hL2 : L ≤ 1000) (Q : Po) (hQ : ∀ τ, τ = rI σ c (rowB (gI σ c) b (ageF K B)) → Wp X mX10_ages (rmo d 0 0) d Q 0 0 48 [some (.ref 190), some (.ref c), some (.int (nI b)), some (.int S), none] [] (rI σ c (rowB (gI σ c) b (agm K B 0)))) : ∀ m, m < K → Wp X mX10_ages (rmo d 0 0) d Q 0 0 23 [some (.ref 190), some (.ref c), some (.int (nI b)), some (.int S), some (.int (nI m))] [] (rI σ c (rowB (gI σ c) b (agm K B m))) := by
  intro m
  induction m with
  | zero =>
    intro _
    refine wp_blk kX10_ages_23 ?_
    simp (disch := first | decide | omega) only [mxa, vxa, vxb, vxc, vnd, vne, Nat.reduceAdd, Nat.reduceSub, Nat.reduceLeDiff, Nat.reduceLT, Int32.reduceLT, Int32.reduceLE, Int32.reduceAdd, Int32.reduceSub, Int32.reduceMul, Int32.reduceToNatClampNeg, not_false_eq_true, not_true_eq_false, false_implies, true_implies, Nat.zero_add, reduceIte, Nat.reduceMul, Nat.reduceEqDiff, nxa, nxc, lgn, nL_of, swx, Int.reduceAdd, gI_a, gI_k, gL_a, gL_k, gI_r, gL_r, nI_and, nI_or, nI_xor, nI_ndf, nI_shl, nI_shr, ne_eq, and_true, true_and, eq_self, true_or, or_true, false_or, or_false, Option.toList, List.cons_append, List.nil_append, List.length_nil, List.length_cons, Nat.not_lt_zero, bX10_ages_23]
    refine Wp.fog 4 ?_
    exact hQ _ rfl
  | succ m ih =>
    intro hm
    refine wp_blk kX10_ages_23 ?_
    simp (disch := first | decide | omega) only [mxa, vxa, vxb, vxc, vnd, vne, Nat.reduceAdd, Nat.reduceSub, Nat.reduceLeDiff, Nat.reduceLT, Int32.reduceLT, Int32.reduceLE, Int32.reduceAdd, Int32.reduceSub, Int32.reduceMul, Int32.reduceToNatClampNeg, not_false_eq_true, not_true_eq_false, false_implies, true_implies, Nat.zero_add, reduceIte, Nat.reduceMul, Nat.reduceEqDiff, nxa, nxc, lgn, nL_of, swx, Int.reduceAdd, gI_a, gI_k, gL_a, gL_k, gI_r, gL_r, nI_and, nI_or, nI_xor, nI_ndf, nI_shl, nI_shr, ne_eq, and_true, true_and, eq_self, true_or, or_true, false_or, or_false, Option.toList, List.cons_append, List.nil_append, List.length_nil, List.length_cons, Nat.not_lt_zero, bX10_ages_23, hc, show ¬ (m + 1 ≤ 0) by omega, show b + (m + 1) - 1 = b + m by omega, rowB_at, agm_at, dn]
    rw [sI_rI, rowB_upd (by omega), agm_step hm]
    exact ih (by omega)
theorem c_ages (X : Cx) (d : Nat) (σ : Mm) (c b K L : Nat) (B : Nat → Nat) (hs : Sh σ) (hr : Rf σ) (hK : gI σ 191 3 = nI K) (hK1 : 1 ≤ K) (hK5 : K ≤ 5) (hc : kd σ c = some (1, L)) (hL : b + 5 ≤ L) (hL2 : L ≤ 1000) (hB : ∀ j, j < 5 → gI σ c (b + j) = nI (B j)) (Q : Po) (hQ : Q (some (.int (nI (B (K - 1))))) (rI σ c (rowB (gI σ c) b (ageF K B)))) : Call X d 0 0 mX10_ages [.ref 190, .ref c, .int (nI b)] σ Q := by
  have key := ages_loop X d σ c b K L (nI (B (K - 1))) B hK5 hc hL hL2 Q (fun τ _ => by
    refine wp_blk kX10_ages_48 ?_
    simp (disch := first | decide | omega) only [mxa, vxa, vxb, vxc, vnd, vne, Nat.reduceAdd, Nat.reduceSub, Nat.reduceLeDiff, Nat.reduceLT, Int32.reduceLT, Int32.reduceLE, Int32.reduceAdd, Int32.reduceSub, Int32.reduceMul, Int32.reduceToNatClampNeg, not_false_eq_true, not_true_eq_false, false_implies, true_implies, Nat.zero_add, reduceIte, Nat.reduceMul, Nat.reduceEqDiff, nxa, nxc, lgn, nL_of, swx, Int.reduceAdd, gI_a, gI_k, gL_a, gL_k, gI_r, gL_r, nI_and, nI_or, nI_xor, nI_ndf, nI_shl, nI_shr, ne_eq, and_true, true_and, eq_self, true_or, or_true, false_or, or_false, Option.toList, List.cons_append, List.nil_append, List.length_nil, List.length_cons, Nat.not_lt_zero, bX10_ages_48, hc]
    rw [sI_rI, rowB_updb, agm_end]
    exact hQ) (K - 1) (by omega)
  rw [agm_top, rowB_self hB, rI_self] at key
  refine call_of eX10_ages rfl ?_
  refine wp_blk kX10_ages_0 ?_
  simp (disch := first | decide | omega) only [mxa, vxa, vxb, vxc, vnd, vne, Nat.reduceAdd, Nat.reduceSub, Nat.reduceLeDiff, Nat.reduceLT, Int32.reduceLT, Int32.reduceLE, Int32.reduceAdd, Int32.reduceSub, Int32.reduceMul, Int32.reduceToNatClampNeg, not_false_eq_true, not_true_eq_false, false_implies, true_implies, Nat.zero_add, reduceIte, Nat.reduceMul, Nat.reduceEqDiff, nxa, nxc, lgn, nL_of, swx, Int.reduceAdd, gI_a, gI_k, gL_a, gL_k, gI_r, gL_r, nI_and, nI_or, nI_xor, nI_ndf, nI_shl, nI_shr, ne_eq, and_true, true_and, eq_self, true_or, or_true, false_or, or_false, Option.toList, List.cons_append, List.nil_append, List.length_nil, List.length_cons, Nat.not_lt_zero, bX10_ages_0, kdx hs, grx hr, hK, hc, show b + K - 1 = b + (K - 1) by omega, hB (K - 1) (by omega)]
  exact key
theorem ageB_loop (X : Cx) (d : Nat) (σ : Mm) (a K : Nat) (kk S o : Int32) (B : Nat → Nat) (hK5 : K ≤ 5) (h : Fm σ a) (Q : Po) (hQ : Wp X mX2_ageBread (rmo d 0 0) d Q 0 0 49 [some (.ref a), some (.int kk), some (.int o), some (.int S), none] [] (rI σ (a + 1) (rowB (gI σ (a + 1)) 0 (agm K B 0)))) : ∀ m, m < K → Wp X mX2_ageBread (rmo d 0 0) d Q 0 0 22 [some (.ref a), some (.int kk), some (.int o), some (.int S), some (.int (nI m))] [] (rI σ (a + 1) (rowB (gI σ (a + 1)) 0 (agm K B m))) := by
  intro m
  induction m with
  | zero =>
    intro _
    refine wp_blk kX2_ageBread_22 ?_
    simp (disch := first | decide | omega) only [mxa, vxa, vxb, vxc, vnd, vne, Nat.reduceAdd, Nat.reduceSub, Nat.reduceLeDiff, Nat.reduceLT, Int32.reduceLT, Int32.reduceLE, Int32.reduceAdd, Int32.reduceSub, Int32.reduceMul, Int32.reduceToNatClampNeg, not_false_eq_true, not_true_eq_false, false_implies, true_implies, Nat.zero_add, reduceIte, Nat.reduceMul, Nat.reduceEqDiff, nxa, nxc, lgn, nL_of, swx, Int.reduceAdd, gI_a, gI_k, gL_a, gL_k, gI_r, gL_r, nI_and, nI_or, nI_xor, nI_ndf, nI_shl, nI_shr, ne_eq, and_true, true_and, eq_self, true_or, or_true, false_or, or_false, Option.toList, List.cons_append, List.nil_append, List.length_nil, List.length_cons, Nat.not_lt_zero, bX2_ageBread_22]
    refine Wp.fog 4 ?_
    exact hQ
  | succ m ih =>
    intro hm
    refine wp_blk kX2_ageBread_22 ?_
    simp (disch := first | decide | omega) only [mxa, vxa, vxb, vxc, vnd, vne, Nat.reduceAdd, Nat.reduceSub, Nat.reduceLeDiff, Nat.reduceLT, Int32.reduceLT, Int32.reduceLE, Int32.reduceAdd, Int32.reduceSub, Int32.reduceMul, Int32.reduceToNatClampNeg, not_false_eq_true, not_true_eq_false, false_implies, true_implies, Nat.zero_add, reduceIte, Nat.reduceMul, Nat.reduceEqDiff, nxa, nxc, lgn, nL_of, swx, Int.reduceAdd, gI_a, gI_k, gL_a, gL_k, gI_r, gL_r, nI_and, nI_or, nI_xor, nI_ndf, nI_shl, nI_shr, ne_eq, and_true, true_and, eq_self, true_or, or_true, false_or, or_false, Option.toList, List.cons_append, List.nil_append, List.length_nil, List.length_cons, Nat.not_lt_zero, bX2_ageBread_22, h.1, h.2.1, h.2.2.2.1, show ¬ (m + 1 ≤ 0) by omega, Nat.add_sub_cancel, rowB_0, agm_at, dn]
    rw [sI_rI, rowB_upd0 (by omega), agm_step hm]
    exact ih (by omega)
theorem c_ageBread (X : Cx) (d : Nat) (σ : Mm) (a K : Nat) (B : Nat → Nat) (hK1 : 1 ≤ K) (hK5 : K ≤ 5) (h : Fm σ a) (hB : ∀ j, j < 5 → gI σ (a + 1) j = nI (B j)) (Q : Po) (hQ : Q (some (.int (nI (B (K - 1))))) (rI σ (a + 1) (rowB (gI σ (a + 1)) 0 (ageF K B)))) : Call X (d + 1) 0 0 mX2_ageBread [.ref a, .int (nI K)] σ Q := by
  have key := ageB_loop X (d + 1) σ a K (nI K) (nI (B (K - 1))) (nI (K - 1)) B hK5 h Q (by
    refine wp_blk kX2_ageBread_49 ?_
    simp (disch := first | decide | omega) only [mxa, vxa, vxb, vxc, vnd, vne, Nat.reduceAdd, Nat.reduceSub, Nat.reduceLeDiff, Nat.reduceLT, Int32.reduceLT, Int32.reduceLE, Int32.reduceAdd, Int32.reduceSub, Int32.reduceMul, Int32.reduceToNatClampNeg, not_false_eq_true, not_true_eq_false, false_implies, true_implies, Nat.zero_add, reduceIte, Nat.reduceMul, Nat.reduceEqDiff, nxa, nxc, lgn, nL_of, swx, Int.reduceAdd, gI_a, gI_k, gL_a, gL_k, gI_r, gL_r, nI_and, nI_or, nI_xor, nI_ndf, nI_shl, nI_shr, ne_eq, and_true, true_and, eq_self, true_or, or_true, false_or, or_false, Option.toList, List.cons_append, List.nil_append, List.length_nil, List.length_cons, Nat.not_lt_zero, bX2_ageBread_49, h.1, h.2.1, h.2.2.2.1]
    rw [sI_rI, rowB_updb, agm_end]
    exact hQ) (K - 1) (by omega)
  rw [agm_top, rowB_self (fun n hn => by rw [Nat.zero_add]; exact hB n hn), rI_self] at key
  refine call_of eX2_ageBread rfl ?_
  refine wp_blk kX2_ageBread_0 ?_
  simp (disch := first | decide | omega) only [mxa, vxa, vxb, vxc, vnd, vne, Nat.reduceAdd, Nat.reduceSub, Nat.reduceLeDiff, Nat.reduceLT, Int32.reduceLT, Int32.reduceLE, Int32.reduceAdd, Int32.reduceSub, Int32.reduceMul, Int32.reduceToNatClampNeg, not_false_eq_true, not_true_eq_false, false_implies, true_implies, Nat.zero_add, reduceIte, Nat.reduceMul, Nat.reduceEqDiff, nxa, nxc, lgn, nL_of, swx, Int.reduceAdd, gI_a, gI_k, gL_a, gL_k, gI_r, gL_r, nI_and, nI_or, nI_xor, nI_ndf, nI_shl, nI_shr, ne_eq, and_true, true_and, eq_self, true_or, or_true, false_or, or_false, Option.toList, List.cons_append, List.nil_append, List.length_nil, List.length_cons, Nat.not_lt_zero, bX2_ageBread_0, h.1, h.2.1, h.2.2.2.1, imn_n, imx_n, show max 0 (min K 5 - 1) = K - 1 by omega, hB (K - 1) (by omega)]
  exact key
