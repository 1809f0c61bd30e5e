/-! marry: what the model's steps make of its row -/
set_option maxRecDepth 20000
def jv (l s : Int32) : Int32 := if l = -1 then s else if s ≤ l then s else l
theorem jv_m {s : Int32} : jv (-1) s = s := if_pos rfl
theorem jv_n {n : Nat} {s : Int32} (h : n < 2147483648) : jv (nI n) s = imn (nI n) s := by
  unfold jv imn
  rw [if_neg (nI_m1 h)]
  by_cases a : s < nI n
  · rw [if_pos a, if_pos]
    rw [Int32.lt_iff_toInt_lt] at a
    rw [Int32.le_iff_toInt_le]; omega
  · rw [if_neg a]
    by_cases b : s ≤ nI n
    · rw [if_pos b]
      rw [Int32.lt_iff_toInt_lt] at a
      rw [Int32.le_iff_toInt_le] at b
      exact Int32.toInt_inj.mp (by omega)
    · rw [if_neg b]
theorem c_joins (X : Cx) (d : Nat) (σ : Mm) (b f g : Nat) (l : Int32) (hs : Sh σ) (hr : Rf σ) (hf : b + f < 900) (hg : b + g < 900) (Q : Po) (hQ : Q none (sI σ 191 (b + f) (jv l (gI σ 191 (b + f) + gI σ 191 (b + g))))) : Call X d 0 0 mX10_joins [.ref 190, .int (nI b), .int (nI f), .int (nI g), .int l] σ Q := by
  have fin : ∀ z, z = jv l (gI σ 191 (b + f) + gI σ 191 (b + g)) → Wp X mX10_joins (rmo d 0 0) d Q 0 0 46 [some (.ref 190), some (.int (nI b)), some (.int (nI f)), some (.int (nI g)), some (.int l), some (.int (gI σ 191 (b + f) + gI σ 191 (b + g)))] [.int z, .int (nI (b + f)), .ref 191] σ := fun z hz => by
    rw [← hz] at hQ
    refine wp_blk kX10_joins_46 ?_
    simp (disch := first | decide | omega) only [mxa, vxa, vxb, vxc, vnd, vne, Nat.reduceAdd, Nat.reduceSub, Nat.reduceLeDiff, Nat.reduceLT, Int32.reduceLT, Int32.reduceLE, Int32.reduceAdd, Int32.reduceSub, Int32.reduceMul, Int32.reduceToNatClampNeg, not_false_eq_true, not_true_eq_false, false_implies, true_implies, Nat.zero_add, reduceIte, Nat.reduceMul, Nat.reduceEqDiff, nxa, nxc, lgn, nL_of, swx, Int.reduceAdd, gI_a, gI_k, gL_a, gL_k, gI_r, gL_r, nI_and, nI_or, nI_xor, nI_ndf, nI_shl, nI_shr, ne_eq, and_true, true_and, eq_self, true_or, or_true, false_or, or_false, Option.toList, List.cons_append, List.nil_append, List.length_nil, List.length_cons, Nat.not_lt_zero, bX10_joins_46, kdx hs, grx hr]
    exact hQ
  by_cases h : l = -1
  · refine call_of eX10_joins rfl ?_
    refine wp_blk kX10_joins_0 ?_
    simp (disch := first | decide | omega) only [mxa, vxa, vxb, vxc, vnd, vne, Nat.reduceAdd, Nat.reduceSub, Nat.reduceLeDiff, Nat.reduceLT, Int32.reduceLT, Int32.reduceLE, Int32.reduceAdd, Int32.reduceSub, Int32.reduceMul, Int32.reduceToNatClampNeg, not_false_eq_true, not_true_eq_false, false_implies, true_implies, Nat.zero_add, reduceIte, Nat.reduceMul, Nat.reduceEqDiff, nxa, nxc, lgn, nL_of, swx, Int.reduceAdd, gI_a, gI_k, gL_a, gL_k, gI_r, gL_r, nI_and, nI_or, nI_xor, nI_ndf, nI_shl, nI_shr, ne_eq, and_true, true_and, eq_self, true_or, or_true, false_or, or_false, Option.toList, List.cons_append, List.nil_append, List.length_nil, List.length_cons, Nat.not_lt_zero, bX10_joins_0, kdx hs, grx hr, h]
    rw [h] at fin
    refine wp_blk kX10_joins_44 ?_
    simp (disch := first | decide | omega) only [mxa, vxa, vxb, vxc, vnd, vne, Nat.reduceAdd, Nat.reduceSub, Nat.reduceLeDiff, Nat.reduceLT, Int32.reduceLT, Int32.reduceLE, Int32.reduceAdd, Int32.reduceSub, Int32.reduceMul, Int32.reduceToNatClampNeg, not_false_eq_true, not_true_eq_false, false_implies, true_implies, Nat.zero_add, reduceIte, Nat.reduceMul, Nat.reduceEqDiff, nxa, nxc, lgn, nL_of, swx, Int.reduceAdd, gI_a, gI_k, gL_a, gL_k, gI_r, gL_r, nI_and, nI_or, nI_xor, nI_ndf, nI_shl, nI_shr, ne_eq, and_true, true_and, eq_self, true_or, or_true, false_or, or_false, Option.toList, List.cons_append, List.nil_append, List.length_nil, List.length_cons, Nat.not_lt_zero, bX10_joins_44]
    exact fin _ jv_m.symm
  · unfold jv at fin
    rw [if_neg h] at fin
    by_cases h2 : gI σ 191 (b + f) + gI σ 191 (b + g) ≤ l
    · rw [if_pos h2] at fin
      refine call_of eX10_joins rfl ?_
      refine wp_blk kX10_joins_0 ?_
      simp (disch := first | decide | omega) only [mxa, vxa, vxb, vxc, vnd, vne, Nat.reduceAdd, Nat.reduceSub, Nat.reduceLeDiff, Nat.reduceLT, Int32.reduceLT, Int32.reduceLE, Int32.reduceAdd, Int32.reduceSub, Int32.reduceMul, Int32.reduceToNatClampNeg, not_false_eq_true, not_true_eq_false, false_implies, true_implies, Nat.zero_add, reduceIte, Nat.reduceMul, Nat.reduceEqDiff, nxa, nxc, lgn, nL_of, swx, Int.reduceAdd, gI_a, gI_k, gL_a, gL_k, gI_r, gL_r, nI_and, nI_or, nI_xor, nI_ndf, nI_shl, nI_shr, ne_eq, and_true, true_and, eq_self, true_or, or_true, false_or, or_false, Option.toList, List.cons_append, List.nil_append, List.length_nil, List.length_cons, Nat.not_lt_zero, bX10_joins_0, kdx hs, grx hr, h, h2]
      refine wp_blk kX10_joins_44 ?_
      simp (disch := first | decide | omega) only [mxa, vxa, vxb, vxc, vnd, vne, Nat.reduceAdd, Nat.reduceSub, Nat.reduceLeDiff, Nat.reduceLT, Int32.reduceLT, Int32.reduceLE, Int32.reduceAdd, Int32.reduceSub, Int32.reduceMul, Int32.reduceToNatClampNeg, not_false_eq_true, not_true_eq_false, false_implies, true_implies, Nat.zero_add, reduceIte, Nat.reduceMul, Nat.reduceEqDiff, nxa, nxc, lgn, nL_of, swx, Int.reduceAdd, gI_a, gI_k, gL_a, gL_k, gI_r, gL_r, nI_and, nI_or, nI_xor, nI_ndf, nI_shl, nI_shr, ne_eq, and_true, true_and, eq_self, true_or, or_true, false_or, or_false, Option.toList, List.cons_append, List.nil_append, List.length_nil, List.length_cons, Nat.not_lt_zero, bX10_joins_44]
      exact fin _ rfl
    · rw [if_neg h2] at fin
      refine call_of eX10_joins rfl ?_
      refine wp_blk kX10_joins_0 ?_
      simp (disch := first | decide | omega) only [mxa, vxa, vxb, vxc, vnd, vne, Nat.reduceAdd, Nat.reduceSub, Nat.reduceLeDiff, Nat.reduceLT, Int32.reduceLT, Int32.reduceLE, Int32.reduceAdd, Int32.reduceSub, Int32.reduceMul, Int32.reduceToNatClampNeg, not_false_eq_true, not_true_eq_false, false_implies, true_implies, Nat.zero_add, reduceIte, Nat.reduceMul, Nat.reduceEqDiff, nxa, nxc, lgn, nL_of, swx, Int.reduceAdd, gI_a, gI_k, gL_a, gL_k, gI_r, gL_r, nI_and, nI_or, nI_xor, nI_ndf, nI_shl, nI_shr, ne_eq, and_true, true_and, eq_self, true_or, or_true, false_or, or_false, Option.toList, List.cons_append, List.nil_append, List.length_nil, List.length_cons, Nat.not_lt_zero, bX10_joins_0, kdx hs, grx hr, h, h2]
      exact fin _ rfl
/-- one row closed behind g -/
def clo (b g : Nat) (R : Nat → Int32) (i : Nat) : Int32 := if b + g ≤ i ∧ i < b + 9 then R (i + 1) else if i = b + 9 then 0 else R i
theorem c_closes (X : Cx) (d : Nat) (σ : Mm) (b g : Nat) (hs : Sh σ) (hr : Rf σ) (hb : b + 10 < 900) (hg : g ≤ 9) (Q : Po) (hQ : Q none (rI σ 191 (clo b g (gI σ 191)))) : Call X d 0 0 mX10_closes [.ref 190, .int (nI b), .int (nI g)] σ Q := by
  have go := wfor (fun m => Wp X mX10_closes (rmo d 0 0) d Q 0 0 2 [some (.ref 190), some (.int (nI b)), some (.int (nI g)), some (.int (nI (g + m)))] [] (rI σ 191 (fun i => if b + g ≤ i ∧ i < b + (g + m) then gI σ 191 (i + 1) else gI σ 191 i))) (9 - g) (fun m hm hP => by
    have e : upd (fun i => if b + g ≤ i ∧ i < b + (g + m) then gI σ 191 (i + 1) else gI σ 191 i) (b + (g + m)) (gI σ 191 (b + (g + m) + 1)) = (fun i => if b + g ≤ i ∧ i < b + (g + (m + 1)) then gI σ 191 (i + 1) else gI σ 191 i) := funext fun i => by
      by_cases q : i = b + (g + m)
      · rw [q, upd_s, if_pos (by omega)]
      · rw [upd_n q]
        by_cases z : b + g ≤ i ∧ i < b + (g + m)
        · rw [if_pos z, if_pos (by omega)]
        · rw [if_neg z, if_neg (by omega)]
    rw [← e, ← sI_rI] at hP
    refine wp_blk kX10_closes_2 ?_
    simp (disch := first | decide | omega) only [mxa, vxa, vxb, vxc, vnd, vne, Nat.reduceAdd, Nat.reduceSub, Nat.reduceLeDiff, Nat.reduceLT, Int32.reduceLT, Int32.reduceLE, Int32.reduceAdd, Int32.reduceSub, Int32.reduceMul, Int32.reduceToNatClampNeg, not_false_eq_true, not_true_eq_false, false_implies, true_implies, Nat.zero_add, reduceIte, Nat.reduceMul, Nat.reduceEqDiff, nxa, nxc, lgn, nL_of, swx, Int.reduceAdd, gI_a, gI_k, gL_a, gL_k, gI_r, gL_r, nI_and, nI_or, nI_xor, nI_ndf, nI_shl, nI_shr, ne_eq, and_true, true_and, eq_self, true_or, or_true, false_or, or_false, Option.toList, List.cons_append, List.nil_append, List.length_nil, List.length_cons, Nat.not_lt_zero, bX10_closes_2, kdx hs, grx hr, show ¬ 9 ≤ g + m by omega, show ¬ (b + g ≤ b + (g + m) + 1 ∧ b + (g + m) + 1 < b + (g + m)) by omega]
    exact hP) (by
    have e : upd (fun i => if b + g ≤ i ∧ i < b + (g + (9 - g)) then gI σ 191 (i + 1) else gI σ 191 i) (b + 9) (nI 0) = clo b g (gI σ 191) := funext fun i => by
      unfold clo
      by_cases q : i = b + 9
      · rw [q, upd_s, if_neg (by omega), if_pos rfl]; rfl
      · rw [upd_n q]
        by_cases z : b + g ≤ i ∧ i < b + 9
        · rw [if_pos (by omega), if_pos z]
        · rw [if_neg (by omega), if_neg z, if_neg q]
    rw [← e, ← sI_rI] at hQ
    refine wp_blk kX10_closes_2 ?_
    simp (disch := first | decide | omega) only [mxa, vxa, vxb, vxc, vnd, vne, Nat.reduceAdd, Nat.reduceSub, Nat.reduceLeDiff, Nat.reduceLT, Int32.reduceLT, Int32.reduceLE, Int32.reduceAdd, Int32.reduceSub, Int32.reduceMul, Int32.reduceToNatClampNeg, not_false_eq_true, not_true_eq_false, false_implies, true_implies, Nat.zero_add, reduceIte, Nat.reduceMul, Nat.reduceEqDiff, nxa, nxc, lgn, nL_of, swx, Int.reduceAdd, gI_a, gI_k, gL_a, gL_k, gI_r, gL_r, nI_and, nI_or, nI_xor, nI_ndf, nI_shl, nI_shr, ne_eq, and_true, true_and, eq_self, true_or, or_true, false_or, or_false, Option.toList, List.cons_append, List.nil_append, List.length_nil, List.length_cons, Nat.not_lt_zero, bX10_closes_2, show 9 ≤ g + (9 - g) by omega]
    refine wp_blk kX10_closes_32 ?_
    simp (disch := first | decide | omega) only [mxa, vxa, vxb, vxc, vnd, vne, Nat.reduceAdd, Nat.reduceSub, Nat.reduceLeDiff, Nat.reduceLT, Int32.reduceLT, Int32.reduceLE, Int32.reduceAdd, Int32.reduceSub, Int32.reduceMul, Int32.reduceToNatClampNeg, not_false_eq_true, not_true_eq_false, false_implies, true_implies, Nat.zero_add, reduceIte, Nat.reduceMul, Nat.reduceEqDiff, nxa, nxc, lgn, nL_of, swx, Int.reduceAdd, gI_a, gI_k, gL_a, gL_k, gI_r, gL_r, nI_and, nI_or, nI_xor, nI_ndf, nI_shl, nI_shr, ne_eq, and_true, true_and, eq_self, true_or, or_true, false_or, or_false, Option.toList, List.cons_append, List.nil_append, List.length_nil, List.length_cons, Nat.not_lt_zero, bX10_closes_32, kdx hs, grx hr, nI_dec1 (show 0 < b + 10 by omega), show b + 10 - 1 = b + 9 by omega]
    exact hQ)
  have e0 : (fun i => if b + g ≤ i ∧ i < b + (g + 0) then gI σ 191 (i + 1) else gI σ 191 i) = gI σ 191 := funext fun i => if_neg (by omega)
  rw [e0, rI_self] at go
  refine call_of eX10_closes rfl ?_
  refine wp_blk kX10_closes_0 ?_
  simp (disch := first | decide | omega) only [mxa, vxa, vxb, vxc, vnd, vne, Nat.reduceAdd, Nat.reduceSub, Nat.reduceLeDiff, Nat.reduceLT, Int32.reduceLT, Int32.reduceLE, Int32.reduceAdd, Int32.reduceSub, Int32.reduceMul, Int32.reduceToNatClampNeg, not_false_eq_true, not_true_eq_false, false_implies, true_implies, Nat.zero_add, reduceIte, Nat.reduceMul, Nat.reduceEqDiff, nxa, nxc, lgn, nL_of, swx, Int.reduceAdd, gI_a, gI_k, gL_a, gL_k, gI_r, gL_r, nI_and, nI_or, nI_xor, nI_ndf, nI_shl, nI_shr, ne_eq, and_true, true_and, eq_self, true_or, or_true, false_or, or_false, Option.toList, List.cons_append, List.nil_append, List.length_nil, List.length_cons, Nat.not_lt_zero, bX10_closes_0]
  exact go
/-- a square of ten rows closed behind g -/
def clT (b g : Nat) (R : Nat → Int32) (i : Nat) : Int32 := if b ≤ i ∧ i < b + 100 then (if (i - b) % 10 = 9 ∨ b + 90 ≤ i then 0 else R (i + (if g ≤ (i - b) % 10 then 1 else 0) + (if b + 10 * g ≤ i then 10 else 0))) else R i
def cl1 (b g n : Nat) (R : Nat → Int32) (i : Nat) : Int32 := if b ≤ i ∧ i < b + 10 * n then (if (i - b) % 10 = 9 then 0 else R (i + (if g ≤ (i - b) % 10 then 1 else 0))) else R i
theorem cl1_s {b g n : Nat} {R : Nat → Int32} (hg : g ≤ 9) : clo (b + 10 * n) g (cl1 b g n R) = cl1 b g (n + 1) R := funext fun i => by
  unfold clo
  by_cases q : b + 10 * n + g ≤ i ∧ i < b + 10 * n + 9
  · rw [if_pos q]
    unfold cl1
    rw [if_neg (by omega), if_pos (by omega), if_neg (by omega), if_pos (by omega)]
  · rw [if_neg q]
    by_cases z : i = b + 10 * n + 9
    · rw [if_pos z]
      unfold cl1
      rw [if_pos (by omega), if_pos (by omega)]
    · rw [if_neg z]
      unfold cl1
      by_cases y : b ≤ i ∧ i < b + 10 * n
      · rw [if_pos y, if_pos (show b ≤ i ∧ i < b + 10 * (n + 1) by omega)]
      · rw [if_neg y]
        by_cases x : b ≤ i ∧ i < b + 10 * (n + 1)
        · rw [if_pos x, if_neg (by omega), if_neg (by omega), Nat.add_zero]
        · rw [if_neg x]
theorem clT_eq {b g i : Nat} {R : Nat → Int32} (hg : g ≤ 9) : (if b + 10 * g ≤ i ∧ i < b + 100 then (if i < b + 90 then cl1 b g 10 R (i + 10) else nI 0) else cl1 b g 10 R i) = clT b g R i := by
  unfold clT
  have c1 : ∀ j, b ≤ j → j < b + 100 → cl1 b g 10 R j = if (j - b) % 10 = 9 then 0 else R (j + (if g ≤ (j - b) % 10 then 1 else 0)) := fun j h1 h2 => by
    unfold cl1
    rw [if_pos (show b ≤ j ∧ j < b + 10 * 10 by omega)]
  by_cases x : b ≤ i ∧ i < b + 100
  · rw [if_pos x]
    by_cases y : b + 10 * g ≤ i
    · rw [if_pos (show b + 10 * g ≤ i ∧ i < b + 100 by omega)]
      by_cases z : i < b + 90
      · rw [if_pos z, c1 (i + 10) (by omega) (by omega), show (i + 10 - b) % 10 = (i - b) % 10 by omega]
        by_cases u : (i - b) % 10 = 9
        · rw [if_pos u, if_pos (show (i - b) % 10 = 9 ∨ b + 90 ≤ i from Or.inl u)]
        · rw [if_neg u, if_neg (show ¬ ((i - b) % 10 = 9 ∨ b + 90 ≤ i) by omega), if_pos y]
          congr 1
          generalize (if g ≤ (i - b) % 10 then 1 else 0) = e
          omega
      · rw [if_neg z, if_pos (show (i - b) % 10 = 9 ∨ b + 90 ≤ i by omega)]; rfl
    · rw [if_neg (show ¬ (b + 10 * g ≤ i ∧ i < b + 100) by omega), c1 i x.1 x.2]
      by_cases u : (i - b) % 10 = 9
      · rw [if_pos u, if_pos (show (i - b) % 10 = 9 ∨ b + 90 ≤ i from Or.inl u)]
      · rw [if_neg u, if_neg (show ¬ ((i - b) % 10 = 9 ∨ b + 90 ≤ i) by omega), if_neg y, Nat.add_zero]
  · rw [if_neg x, if_neg (show ¬ (b + 10 * g ≤ i ∧ i < b + 100) by omega)]
    unfold cl1
    rw [if_neg (show ¬ (b ≤ i ∧ i < b + 10 * 10) by omega)]
theorem c_closesTwice (X : Cx) (d : Nat) (σ : Mm) (b g : Nat) (hs : Sh σ) (hr : Rf σ) (hb : b + 110 < 900) (hg : g ≤ 9) (Q : Po) (hQ : Q none (rI σ 191 (clT b g (gI σ 191)))) : Call X (d + 1) 0 0 mX10_closesTwice [.ref 190, .int (nI b), .int (nI g)] σ Q := by
  have two : ∀ R : Nat → Int32, R = cl1 b g 10 (gI σ 191) → Wp X mX10_closesTwice (rmo (d + 1) 0 0) (d + 1) Q 0 0 27 [some (.ref 190), some (.int (nI b)), some (.int (nI g)), some (.int (nI g)), none] [] (rI σ 191 R) := by
    intro R hR
    have fe : ∀ m, b + 10 * g ≤ m → m < b + 100 → upd (fun i => if b + 10 * g ≤ i ∧ i < m then (if i < b + 90 then R (i + 10) else nI 0) else R i) m (if m < b + 90 then R (m + 10) else nI 0) = (fun i => if b + 10 * g ≤ i ∧ i < m + 1 then (if i < b + 90 then R (i + 10) else nI 0) else R i) := fun m h1 h2 => funext fun i => by
      by_cases q : i = m
      · rw [q, upd_s, if_pos (show b + 10 * g ≤ m ∧ m < m + 1 by omega)]
      · rw [upd_n q]
        by_cases z : b + 10 * g ≤ i ∧ i < m
        · rw [if_pos z, if_pos (show b + 10 * g ≤ i ∧ i < m + 1 by omega)]
        · rw [if_neg z, if_neg (show ¬ (b + 10 * g ≤ i ∧ i < m + 1) by omega)]
    have go := wfor (fun k => Wp X mX10_closesTwice (rmo (d + 1) 0 0) (d + 1) Q 0 0 27 [some (.ref 190), some (.int (nI b)), some (.int (nI g)), some (.int (nI (g + k))), none] [] (rI σ 191 (fun i => if b + 10 * g ≤ i ∧ i < b + 10 * (g + k) then (if i < b + 90 then R (i + 10) else nI 0) else R i))) (10 - g) (fun k hk hP => by
      refine wp_blk kX10_closesTwice_27 ?_
      simp (disch := first | decide | omega) only [mxa, vxa, vxb, vxc, vnd, vne, Nat.reduceAdd, Nat.reduceSub, Nat.reduceLeDiff, Nat.reduceLT, Int32.reduceLT, Int32.reduceLE, Int32.reduceAdd, Int32.reduceSub, Int32.reduceMul, Int32.reduceToNatClampNeg, not_false_eq_true, not_true_eq_false, false_implies, true_implies, Nat.zero_add, reduceIte, Nat.reduceMul, Nat.reduceEqDiff, nxa, nxc, lgn, nL_of, swx, Int.reduceAdd, gI_a, gI_k, gL_a, gL_k, gI_r, gL_r, nI_and, nI_or, nI_xor, nI_ndf, nI_shl, nI_shr, ne_eq, and_true, true_and, eq_self, true_or, or_true, false_or, or_false, Option.toList, List.cons_append, List.nil_append, List.length_nil, List.length_cons, Nat.not_lt_zero, bX10_closesTwice_27, show ¬ 10 ≤ g + k by omega]
      refine wfor (fun j => Wp X mX10_closesTwice (rmo (d + 1) 0 0) (d + 1) Q 0 0 36 [some (.ref 190), some (.int (nI b)), some (.int (nI g)), some (.int (nI (g + k))), some (.int (nI j))] [] (rI σ 191 (fun i => if b + 10 * g ≤ i ∧ i < b + 10 * (g + k) + j then (if i < b + 90 then R (i + 10) else nI 0) else R i))) 10 (fun j hj hP2 => ?_) ?_
      · rw [show b + 10 * (g + k) + (j + 1) = b + 10 * (g + k) + j + 1 by omega, ← fe _ (by omega) (by omega), ← sI_rI] at hP2
        have fin : ∀ z, z = (if b + 10 * (g + k) + j < b + 90 then R (b + 10 * (g + k) + j + 10) else nI 0) → Wp X mX10_closesTwice (rmo (d + 1) 0 0) (d + 1) Q 0 0 83 [some (.ref 190), some (.int (nI b)), some (.int (nI g)), some (.int (nI (g + k))), some (.int (nI j))] [.int z, .int (nI (b + 10 * (g + k) + j)), .ref 191] (rI σ 191 (fun i => if b + 10 * g ≤ i ∧ i < b + 10 * (g + k) + j then (if i < b + 90 then R (i + 10) else nI 0) else R i)) := fun z hz => by
          rw [← hz] at hP2
          refine wp_blk kX10_closesTwice_83 ?_
          simp (disch := first | decide | omega) only [mxa, vxa, vxb, vxc, vnd, vne, Nat.reduceAdd, Nat.reduceSub, Nat.reduceLeDiff, Nat.reduceLT, Int32.reduceLT, Int32.reduceLE, Int32.reduceAdd, Int32.reduceSub, Int32.reduceMul, Int32.reduceToNatClampNeg, not_false_eq_true, not_true_eq_false, false_implies, true_implies, Nat.zero_add, reduceIte, Nat.reduceMul, Nat.reduceEqDiff, nxa, nxc, lgn, nL_of, swx, Int.reduceAdd, gI_a, gI_k, gL_a, gL_k, gI_r, gL_r, nI_and, nI_or, nI_xor, nI_ndf, nI_shl, nI_shr, ne_eq, and_true, true_and, eq_self, true_or, or_true, false_or, or_false, Option.toList, List.cons_append, List.nil_append, List.length_nil, List.length_cons, Nat.not_lt_zero, bX10_closesTwice_83, kdx hs, grx hr]
          exact hP2
        by_cases c : 9 ≤ g + k
        · refine wp_blk kX10_closesTwice_36 ?_
          simp (disch := first | decide | omega) only [mxa, vxa, vxb, vxc, vnd, vne, Nat.reduceAdd, Nat.reduceSub, Nat.reduceLeDiff, Nat.reduceLT, Int32.reduceLT, Int32.reduceLE, Int32.reduceAdd, Int32.reduceSub, Int32.reduceMul, Int32.reduceToNatClampNeg, not_false_eq_true, not_true_eq_false, false_implies, true_implies, Nat.zero_add, reduceIte, Nat.reduceMul, Nat.reduceEqDiff, nxa, nxc, lgn, nL_of, swx, Int.reduceAdd, gI_a, gI_k, gL_a, gL_k, gI_r, gL_r, nI_and, nI_or, nI_xor, nI_ndf, nI_shl, nI_shr, ne_eq, and_true, true_and, eq_self, true_or, or_true, false_or, or_false, Option.toList, List.cons_append, List.nil_append, List.length_nil, List.length_cons, Nat.not_lt_zero, bX10_closesTwice_36, kdx hs, grx hr, c, show ¬ 10 ≤ j by omega]
          refine wp_blk kX10_closesTwice_82 ?_
          simp (disch := first | decide | omega) only [mxa, vxa, vxb, vxc, vnd, vne, Nat.reduceAdd, Nat.reduceSub, Nat.reduceLeDiff, Nat.reduceLT, Int32.reduceLT, Int32.reduceLE, Int32.reduceAdd, Int32.reduceSub, Int32.reduceMul, Int32.reduceToNatClampNeg, not_false_eq_true, not_true_eq_false, false_implies, true_implies, Nat.zero_add, reduceIte, Nat.reduceMul, Nat.reduceEqDiff, nxa, nxc, lgn, nL_of, swx, Int.reduceAdd, gI_a, gI_k, gL_a, gL_k, gI_r, gL_r, nI_and, nI_or, nI_xor, nI_ndf, nI_shl, nI_shr, ne_eq, and_true, true_and, eq_self, true_or, or_true, false_or, or_false, Option.toList, List.cons_append, List.nil_append, List.length_nil, List.length_cons, Nat.not_lt_zero, bX10_closesTwice_82]
          exact fin _ (by rw [if_neg (by omega)])
        · refine wp_blk kX10_closesTwice_36 ?_
          simp (disch := first | decide | omega) only [mxa, vxa, vxb, vxc, vnd, vne, Nat.reduceAdd, Nat.reduceSub, Nat.reduceLeDiff, Nat.reduceLT, Int32.reduceLT, Int32.reduceLE, Int32.reduceAdd, Int32.reduceSub, Int32.reduceMul, Int32.reduceToNatClampNeg, not_false_eq_true, not_true_eq_false, false_implies, true_implies, Nat.zero_add, reduceIte, Nat.reduceMul, Nat.reduceEqDiff, nxa, nxc, lgn, nL_of, swx, Int.reduceAdd, gI_a, gI_k, gL_a, gL_k, gI_r, gL_r, nI_and, nI_or, nI_xor, nI_ndf, nI_shl, nI_shr, ne_eq, and_true, true_and, eq_self, true_or, or_true, false_or, or_false, Option.toList, List.cons_append, List.nil_append, List.length_nil, List.length_cons, Nat.not_lt_zero, bX10_closesTwice_36, kdx hs, grx hr, c, show ¬ 10 ≤ j by omega, show ¬ (b + 10 * g ≤ b + 10 * (g + k) + 10 + j ∧ b + 10 * (g + k) + 10 + j < b + 10 * (g + k) + j) by omega]
          exact fin _ (by rw [if_pos (by omega)]; congr 1; omega)
      · refine wp_blk kX10_closesTwice_36 ?_
        simp (disch := first | decide | omega) only [mxa, vxa, vxb, vxc, vnd, vne, Nat.reduceAdd, Nat.reduceSub, Nat.reduceLeDiff, Nat.reduceLT, Int32.reduceLT, Int32.reduceLE, Int32.reduceAdd, Int32.reduceSub, Int32.reduceMul, Int32.reduceToNatClampNeg, not_false_eq_true, not_true_eq_false, false_implies, true_implies, Nat.zero_add, reduceIte, Nat.reduceMul, Nat.reduceEqDiff, nxa, nxc, lgn, nL_of, swx, Int.reduceAdd, gI_a, gI_k, gL_a, gL_k, gI_r, gL_r, nI_and, nI_or, nI_xor, nI_ndf, nI_shl, nI_shr, ne_eq, and_true, true_and, eq_self, true_or, or_true, false_or, or_false, Option.toList, List.cons_append, List.nil_append, List.length_nil, List.length_cons, Nat.not_lt_zero, bX10_closesTwice_36]
        refine wp_blk kX10_closesTwice_90 ?_
        simp (disch := first | decide | omega) only [mxa, vxa, vxb, vxc, vnd, vne, Nat.reduceAdd, Nat.reduceSub, Nat.reduceLeDiff, Nat.reduceLT, Int32.reduceLT, Int32.reduceLE, Int32.reduceAdd, Int32.reduceSub, Int32.reduceMul, Int32.reduceToNatClampNeg, not_false_eq_true, not_true_eq_false, false_implies, true_implies, Nat.zero_add, reduceIte, Nat.reduceMul, Nat.reduceEqDiff, nxa, nxc, lgn, nL_of, swx, Int.reduceAdd, gI_a, gI_k, gL_a, gL_k, gI_r, gL_r, nI_and, nI_or, nI_xor, nI_ndf, nI_shl, nI_shr, ne_eq, and_true, true_and, eq_self, true_or, or_true, false_or, or_false, Option.toList, List.cons_append, List.nil_append, List.length_nil, List.length_cons, Nat.not_lt_zero, bX10_closesTwice_90]
        exact Wp.fog 4 hP) (by
      have e : (fun i => if b + 10 * g ≤ i ∧ i < b + 10 * (g + (10 - g)) then (if i < b + 90 then R (i + 10) else nI 0) else R i) = clT b g (gI σ 191) := funext fun i => by
        rw [show b + 10 * (g + (10 - g)) = b + 100 by omega, hR]
        exact clT_eq hg
      rw [← e] at hQ
      refine wp_blk kX10_closesTwice_27 ?_
      simp (disch := first | decide | omega) only [mxa, vxa, vxb, vxc, vnd, vne, Nat.reduceAdd, Nat.reduceSub, Nat.reduceLeDiff, Nat.reduceLT, Int32.reduceLT, Int32.reduceLE, Int32.reduceAdd, Int32.reduceSub, Int32.reduceMul, Int32.reduceToNatClampNeg, not_false_eq_true, not_true_eq_false, false_implies, true_implies, Nat.zero_add, reduceIte, Nat.reduceMul, Nat.reduceEqDiff, nxa, nxc, lgn, nL_of, swx, Int.reduceAdd, gI_a, gI_k, gL_a, gL_k, gI_r, gL_r, nI_and, nI_or, nI_xor, nI_ndf, nI_shl, nI_shr, ne_eq, and_true, true_and, eq_self, true_or, or_true, false_or, or_false, Option.toList, List.cons_append, List.nil_append, List.length_nil, List.length_cons, Nat.not_lt_zero, bX10_closesTwice_27, show 10 ≤ g + (10 - g) by omega]
      refine wp_blk kX10_closesTwice_96 ?_
      simp (disch := first | decide | omega) only [mxa, vxa, vxb, vxc, vnd, vne, Nat.reduceAdd, Nat.reduceSub, Nat.reduceLeDiff, Nat.reduceLT, Int32.reduceLT, Int32.reduceLE, Int32.reduceAdd, Int32.reduceSub, Int32.reduceMul, Int32.reduceToNatClampNeg, not_false_eq_true, not_true_eq_false, false_implies, true_implies, Nat.zero_add, reduceIte, Nat.reduceMul, Nat.reduceEqDiff, nxa, nxc, lgn, nL_of, swx, Int.reduceAdd, gI_a, gI_k, gL_a, gL_k, gI_r, gL_r, nI_and, nI_or, nI_xor, nI_ndf, nI_shl, nI_shr, ne_eq, and_true, true_and, eq_self, true_or, or_true, false_or, or_false, Option.toList, List.cons_append, List.nil_append, List.length_nil, List.length_cons, Nat.not_lt_zero, bX10_closesTwice_96]
      exact hQ)
    have e0 : (fun i => if b + 10 * g ≤ i ∧ i < b + 10 * (g + 0) then (if i < b + 90 then R (i + 10) else nI 0) else R i) = R := funext fun i => if_neg (by omega)
    rw [e0] at go
    exact go
  have one := wfor (fun n => Wp X mX10_closesTwice (rmo (d + 1) 0 0) (d + 1) Q 0 0 2 [some (.ref 190), some (.int (nI b)), some (.int (nI g)), some (.int (nI n)), none] [] (rI σ 191 (cl1 b g n (gI σ 191)))) 10 (fun n hn hP => by
    refine wp_blk kX10_closesTwice_2 ?_
    simp (disch := first | decide | omega) only [mxa, vxa, vxb, vxc, vnd, vne, Nat.reduceAdd, Nat.reduceSub, Nat.reduceLeDiff, Nat.reduceLT, Int32.reduceLT, Int32.reduceLE, Int32.reduceAdd, Int32.reduceSub, Int32.reduceMul, Int32.reduceToNatClampNeg, not_false_eq_true, not_true_eq_false, false_implies, true_implies, Nat.zero_add, reduceIte, Nat.reduceMul, Nat.reduceEqDiff, nxa, nxc, lgn, nL_of, swx, Int.reduceAdd, gI_a, gI_k, gL_a, gL_k, gI_r, gL_r, nI_and, nI_or, nI_xor, nI_ndf, nI_shl, nI_shr, ne_eq, and_true, true_and, eq_self, true_or, or_true, false_or, or_false, Option.toList, List.cons_append, List.nil_append, List.length_nil, List.length_cons, Nat.not_lt_zero, bX10_closesTwice_2, kdx hs, grx hr, show ¬ 10 ≤ n by omega]
    refine c_closes X _ _ (b + 10 * n) g (by exact hs) (by exact hr) (by omega) hg _ ?_
    rw [gI_rS, rI_rI, cl1_s hg]
    simp (disch := first | decide | omega) only [mxa, vxa, vxb, vxc, vnd, vne, Nat.reduceAdd, Nat.reduceSub, Nat.reduceLeDiff, Nat.reduceLT, Int32.reduceLT, Int32.reduceLE, Int32.reduceAdd, Int32.reduceSub, Int32.reduceMul, Int32.reduceToNatClampNeg, not_false_eq_true, not_true_eq_false, false_implies, true_implies, Nat.zero_add, reduceIte, Nat.reduceMul, Nat.reduceEqDiff, nxa, nxc, lgn, nL_of, swx, Int.reduceAdd, gI_a, gI_k, gL_a, gL_k, gI_r, gL_r, nI_and, nI_or, nI_xor, nI_ndf, nI_shl, nI_shr, ne_eq, and_true, true_and, eq_self, true_or, or_true, false_or, or_false, Option.toList, List.cons_append, List.nil_append, List.length_nil, List.length_cons, Nat.not_lt_zero]
    exact hP) (by
    refine wp_blk kX10_closesTwice_2 ?_
    simp (disch := first | decide | omega) only [mxa, vxa, vxb, vxc, vnd, vne, Nat.reduceAdd, Nat.reduceSub, Nat.reduceLeDiff, Nat.reduceLT, Int32.reduceLT, Int32.reduceLE, Int32.reduceAdd, Int32.reduceSub, Int32.reduceMul, Int32.reduceToNatClampNeg, not_false_eq_true, not_true_eq_false, false_implies, true_implies, Nat.zero_add, reduceIte, Nat.reduceMul, Nat.reduceEqDiff, nxa, nxc, lgn, nL_of, swx, Int.reduceAdd, gI_a, gI_k, gL_a, gL_k, gI_r, gL_r, nI_and, nI_or, nI_xor, nI_ndf, nI_shl, nI_shr, ne_eq, and_true, true_and, eq_self, true_or, or_true, false_or, or_false, Option.toList, List.cons_append, List.nil_append, List.length_nil, List.length_cons, Nat.not_lt_zero, bX10_closesTwice_2]
    refine wp_blk kX10_closesTwice_25 ?_
    simp (disch := first | decide | omega) only [mxa, vxa, vxb, vxc, vnd, vne, Nat.reduceAdd, Nat.reduceSub, Nat.reduceLeDiff, Nat.reduceLT, Int32.reduceLT, Int32.reduceLE, Int32.reduceAdd, Int32.reduceSub, Int32.reduceMul, Int32.reduceToNatClampNeg, not_false_eq_true, not_true_eq_false, false_implies, true_implies, Nat.zero_add, reduceIte, Nat.reduceMul, Nat.reduceEqDiff, nxa, nxc, lgn, nL_of, swx, Int.reduceAdd, gI_a, gI_k, gL_a, gL_k, gI_r, gL_r, nI_and, nI_or, nI_xor, nI_ndf, nI_shl, nI_shr, ne_eq, and_true, true_and, eq_self, true_or, or_true, false_or, or_false, Option.toList, List.cons_append, List.nil_append, List.length_nil, List.length_cons, Nat.not_lt_zero, bX10_closesTwice_25]
    exact two _ rfl)
  have e0 : cl1 b g 0 (gI σ 191) = gI σ 191 := funext fun i => if_neg (by omega)
  rw [e0, rI_self] at one
  refine call_of eX10_closesTwice rfl ?_
  refine wp_blk kX10_closesTwice_0 ?_
  simp (disch := first | decide | omega) only [mxa, vxa, vxb, vxc, vnd, vne, Nat.reduceAdd, Nat.reduceSub, Nat.reduceLeDiff, Nat.reduceLT, Int32.reduceLT, Int32.reduceLE, Int32.reduceAdd, Int32.reduceSub, Int32.reduceMul, Int32.reduceToNatClampNeg, not_false_eq_true, not_true_eq_false, false_implies, true_implies, Nat.zero_add, reduceIte, Nat.reduceMul, Nat.reduceEqDiff, nxa, nxc, lgn, nL_of, swx, Int.reduceAdd, gI_a, gI_k, gL_a, gL_k, gI_r, gL_r, nI_and, nI_or, nI_xor, nI_ndf, nI_shl, nI_shr, ne_eq, and_true, true_and, eq_self, true_or, or_true, false_or, or_false, Option.toList, List.cons_append, List.nil_append, List.length_nil, List.length_cons, Nat.not_lt_zero, bX10_closesTwice_0]
  exact one
