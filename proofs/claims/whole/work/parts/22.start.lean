/-! rows as functions -/
theorem rI_self (σ : Mm) (a : Nat) : rI σ a (gI σ a) = σ := by
  obtain ⟨k, i, l, r⟩ := σ
  simp only [rI, gI, Prod.mk.injEq, true_and, and_true]
  funext b j
  by_cases h : b = a
  · subst h; simp
  · simp [h]
theorem sI_rI (σ : Mm) (a k : Nat) (f : Nat → Int32) (v : Int32) : sI (rI σ a f) a k v = rI σ a (upd f k v) := by
  simp only [rI, sI, Prod.mk.injEq, true_and, and_true]
  funext b j
  by_cases h : b = a
  · subst h; by_cases hj : j = k <;> simp [upd, hj]
  · simp [h]
theorem sI_row (σ : Mm) (a k : Nat) (v : Int32) : sI σ a k v = rI σ a (upd (gI σ a) k v) := by rw [← sI_rI, rI_self]
theorem rI_rI (σ : Mm) (a : Nat) (f g : Nat → Int32) : rI (rI σ a f) a g = rI σ a g := by
  simp only [rI, Prod.mk.injEq, true_and, and_true]
  funext b j
  by_cases h : b = a <;> simp [h]
def plainF (f : Nat → Int32) (k : Nat) : Int32 := if k < 319 then (if k = 3 then 3 else if k = 4 then 20 else 0) else f k
theorem c_plain (X : Cx) (d : Nat) (σ : Mm) (a n : Nat) (hk : kd σ a = some (1, n)) (hn : 319 ≤ n) (hn2 : n < 2147483648) (Q : Po) (hQ : Q none (rI σ a (plainF (gI σ a)))) : Call X d 0 0 mX10_plain [.ref a] σ Q := by
  refine call_of eX10_plain rfl ?_
  refine wp_blk kX10_plain_0 ?_
  simp only [mxa, vxa, vxb, vxc, vxd, vxe, Nat.reduceAdd, Nat.reduceSub, Nat.reduceLeDiff, Nat.reduceLT, Int32.reduceLT, Int32.reduceLE, Int32.reduceAdd, Int32.reduceSub, Int32.reduceMul, Int32.reduceToNatClampNeg, not_false_eq_true, not_true_eq_false, false_implies, true_implies, Nat.zero_add, reduceIte, Nat.reduceMul, Nat.reduceEqDiff, bX10_plain_0]
  have e0 : σ = rI σ a (fun j => if j < 0 then 0 else gI σ a j) := by simp only [Nat.not_lt_zero, if_false]; exact (rI_self σ a).symm
  rw [e0]
  refine wfor (fun k => Wp X mX10_plain (rmo d 0 0) d Q 0 0 2 [some (.ref a), some (.int (nI k))] [] (rI σ a (fun j => if j < k then 0 else gI σ a j))) 319 (fun k hk9 ih => ?_) ?_
  · refine wp_blk kX10_plain_2 ?_
    simp only [mxa, vxa, vxb, vxc, vxd, vxe, Nat.reduceAdd, Nat.reduceSub, Nat.reduceLeDiff, Nat.reduceLT, Int32.reduceLT, Int32.reduceLE, Int32.reduceAdd, Int32.reduceSub, Int32.reduceMul, Int32.reduceToNatClampNeg, not_false_eq_true, not_true_eq_false, false_implies, true_implies, Nat.zero_add, reduceIte, Nat.reduceMul, Nat.reduceEqDiff, bX10_plain_2, hk]
    refine ⟨fun q => absurd q (nI_ge (a := k) (b := 319) hk9 (by omega)), fun _ => ⟨vp_lt (by omega) hn2, ?_⟩⟩
    rw [nI_clamp (by omega), ← nI_succ, sI_rI]
    have : upd (fun j => if j < k then 0 else gI σ a j) k 0 = fun j => if j < k + 1 then 0 else gI σ a j := by
      funext j
      by_cases h1 : j = k
      · simp [upd, h1]
      · by_cases h2 : j < k
        · simp [upd, h1, h2, show j < k + 1 by omega]
        · simp [upd, h1, h2, show ¬ j < k + 1 by omega]
    rw [this]
    exact ih
  · refine wp_blk kX10_plain_2 ?_
    simp only [mxa, vxa, vxb, vxc, vxd, vxe, Nat.reduceAdd, Nat.reduceSub, Nat.reduceLeDiff, Nat.reduceLT, Int32.reduceLT, Int32.reduceLE, Int32.reduceAdd, Int32.reduceSub, Int32.reduceMul, Int32.reduceToNatClampNeg, not_false_eq_true, not_true_eq_false, false_implies, true_implies, Nat.zero_add, reduceIte, Nat.reduceMul, Nat.reduceEqDiff, bX10_plain_2, hk]
    refine ⟨fun _ => ?_, fun q => absurd (by decide) q⟩
    refine wp_blk kX10_plain_19 ?_
    simp only [mxa, vxa, vxb, vxc, vxd, vxe, Nat.reduceAdd, Nat.reduceSub, Nat.reduceLeDiff, Nat.reduceLT, Int32.reduceLT, Int32.reduceLE, Int32.reduceAdd, Int32.reduceSub, Int32.reduceMul, Int32.reduceToNatClampNeg, not_false_eq_true, not_true_eq_false, false_implies, true_implies, Nat.zero_add, reduceIte, Nat.reduceMul, Nat.reduceEqDiff, bX10_plain_19, hk]
    refine ⟨vp_in_nI (n := 3) (by omega) hn2, vp_in_nI (n := 4) (by omega) hn2, ?_⟩
    rw [sI_rI, sI_rI]
    have : upd (upd (fun j => if j < 319 then 0 else gI σ a j) 3 3) 4 20 = plainF (gI σ a) := by
      funext j
      by_cases h4 : j = 4
      · simp [upd, plainF, h4]
      · by_cases h3 : j = 3
        · simp [upd, plainF, h3]
        · by_cases h : j < 319 <;> simp [upd, plainF, h3, h4, h]
    rw [this]
    exact hQ
def e0 : Mm := ([], fun _ _ => 0, fun _ _ => 0, fun _ _ => none)
def nh0 : Mm := nw e0 (0, 9)
def nh2 : Mm := sR (vilM (nw nh0 (0, 8)) 1) 0 0 (some 1)
def nh3 : Mm := sR (vilM (nw nh2 (0, 8)) 34) 0 1 (some 34)
def nh4 : Mm := sR (nw nh3 (7, 2)) 0 2 (some 67)
def nh5 : Mm := sR (nw nh4 (4, 2)) 0 3 (some 68)
def nh6 : Mm := sR (vilM (nw nh5 (0, 8)) 69) 67 0 (some 69)
def nh7 : Mm := sR (vilM (nw nh6 (0, 8)) 102) 67 1 (some 102)
def nh8 : Mm := sR (nw nh7 (6, 4)) 0 4 (some 135)
def nh9 : Mm := sR (oneM (nw nh8 (0, 6)) 136 3 (2, 40)) 135 0 (some 136)
def nh10 : Mm := sR (oneM (nw nh9 (0, 6)) 138 3 (2, 40)) 135 1 (some 138)
def nh11 : Mm := sR (oneM (nw nh10 (0, 6)) 140 3 (2, 40)) 135 2 (some 140)
def nh12 : Mm := sR (oneM (nw nh11 (0, 6)) 142 3 (2, 40)) 135 3 (some 142)
def nh13 : Mm := sR (oneM (sI (nw nh12 (0, 5)) 144 2 (-1)) 144 3 (3, 900)) 0 5 (some 144)
def nh14 : Mm := sR (oneM (nw nh13 (0, 0)) 146 3 (2, 10)) 0 6 (some 146)
def nh15 : Mm := sR (oneM (oneM (nw nh14 (0, 7)) 148 0 (1, 60)) 148 2 (1, 2001)) 0 7 (some 148)
def nh16 : Mm := sR (oneM (oneM (oneM (oneM (nw nh15 (0, 3)) 151 5 (1, 1024)) 151 6 (1, 1024)) 151 8 (1, 1024)) 151 10 (4, 1024)) 0 8 (some 151)
def nh17 : Mm := sR (oneM (oneM (oneM (oneM (oneM (nw nh16 (0, 1)) 156 1 (1, 10)) 156 2 (1, 10)) 156 3 (1, 10)) 156 4 (1, 1024)) 156 5 (1, 1024)) 0 9 (some 156)
def nh18 : Mm := sR (outM (nw nh17 (0, 4)) 162) 0 10 (some 162)
theorem nhl0 : nh0.1.length = 1 := by decide +kernel
theorem nhl2 : nh2.1.length = 34 := by decide +kernel
theorem nhl3 : nh3.1.length = 67 := by decide +kernel
theorem nhl4 : nh4.1.length = 68 := by decide +kernel
theorem nhl5 : nh5.1.length = 69 := by decide +kernel
theorem nhl6 : nh6.1.length = 102 := by decide +kernel
theorem nhl7 : nh7.1.length = 135 := by decide +kernel
theorem nhl8 : nh8.1.length = 136 := by decide +kernel
theorem nhl9 : nh9.1.length = 138 := by decide +kernel
theorem nhl10 : nh10.1.length = 140 := by decide +kernel
theorem nhl11 : nh11.1.length = 142 := by decide +kernel
theorem nhl12 : nh12.1.length = 144 := by decide +kernel
theorem nhl13 : nh13.1.length = 146 := by decide +kernel
theorem nhl14 : nh14.1.length = 148 := by decide +kernel
theorem nhl15 : nh15.1.length = 151 := by decide +kernel
theorem nhl16 : nh16.1.length = 156 := by decide +kernel
theorem nhl17 : nh17.1.length = 162 := by decide +kernel
theorem nhl18 : nh18.1.length = 190 := by decide +kernel
theorem vls : (vilM (nw nh0 (0, 8)) 1).1.length = 34 ∧ (vilM (nw nh2 (0, 8)) 34).1.length = 67 ∧ (vilM (nw nh5 (0, 8)) 69).1.length = 102 ∧ (vilM (nw nh6 (0, 8)) 102).1.length = 135 ∧ (oneM (nw nh8 (0, 6)) 136 3 (2, 40)).1.length = 138 ∧ (oneM (nw nh9 (0, 6)) 138 3 (2, 40)).1.length = 140 ∧ (oneM (nw nh10 (0, 6)) 140 3 (2, 40)).1.length = 142 ∧ (oneM (nw nh11 (0, 6)) 142 3 (2, 40)).1.length = 144 ∧ (oneM (sI (nw nh12 (0, 5)) 144 2 (-1)) 144 3 (3, 900)).1.length = 146 ∧ (oneM (nw nh13 (0, 0)) 146 3 (2, 10)).1.length = 148 ∧ (oneM (oneM (nw nh14 (0, 7)) 148 0 (1, 60)) 148 2 (1, 2001)).1.length = 151 ∧ (oneM (oneM (oneM (oneM (nw nh15 (0, 3)) 151 5 (1, 1024)) 151 6 (1, 1024)) 151 8 (1, 1024)) 151 10 (4, 1024)).1.length = 156 ∧ (oneM (oneM (oneM (oneM (oneM (nw nh16 (0, 1)) 156 1 (1, 10)) 156 2 (1, 10)) 156 3 (1, 10)) 156 4 (1, 1024)) 156 5 (1, 1024)).1.length = 162 := by decide +kernel
theorem i_x (X : Cx) (d : Nat) (Q : Po) (hQ : Q none nh18) : Call X (d + 3) 189 10628 mX9_init [.ref 0] nh0 Q := by
  have q1 : kd nh0 0 = some (0, 9) := by decide +kernel
  refine call_of eX9_init rfl ?_
  refine wp_blk kX9_init_0 ?_
  simp only [mxa, vxa, vxb, vxc, vxd, vxe, Nat.reduceAdd, Nat.reduceSub, Nat.reduceLeDiff, Nat.reduceLT, Int32.reduceLT, Int32.reduceLE, Int32.reduceAdd, Int32.reduceSub, Int32.reduceMul, Int32.reduceToNatClampNeg, not_false_eq_true, not_true_eq_false, false_implies, true_implies, Nat.zero_add, reduceIte, Nat.reduceMul, Nat.reduceEqDiff, bX9_init_0, nhl0, q1]
  refine i_vil X d _ 1 (by decide +kernel) (by decide +kernel) _ ?_
  have f2 : sR (vilM (nw nh0 (0, 8)) 1) 0 0 (some 1) = nh2 := rfl
  have q2 : kd (vilM (nw nh0 (0, 8)) 1) 0 = some (0, 9) := by decide +kernel
  simp only [mxa, vxa, vxb, vxc, vxd, vxe, Nat.reduceAdd, Nat.reduceSub, Nat.reduceLeDiff, Nat.reduceLT, Int32.reduceLT, Int32.reduceLE, Int32.reduceAdd, Int32.reduceSub, Int32.reduceMul, Int32.reduceToNatClampNeg, not_false_eq_true, not_true_eq_false, false_implies, true_implies, Nat.zero_add, reduceIte, Nat.reduceMul, Nat.reduceEqDiff, vls, q2, f2, nhl2]
  refine i_vil X d _ 34 (by decide +kernel) (by decide +kernel) _ ?_
  have f3 : sR (vilM (nw nh2 (0, 8)) 34) 0 1 (some 34) = nh3 := rfl
  have q3 : kd (vilM (nw nh2 (0, 8)) 34) 0 = some (0, 9) := by decide +kernel
  have f4 : sR (nw nh3 (7, 2)) 0 2 (some 67) = nh4 := rfl
  have q4 : kd (nw nh3 (7, 2)) 0 = some (0, 9) := by decide +kernel
  have f5 : sR (nw nh4 (4, 2)) 0 3 (some 68) = nh5 := rfl
  have q5 : kd (nw nh4 (4, 2)) 0 = some (0, 9) := by decide +kernel
  simp only [mxa, vxa, vxb, vxc, vxd, vxe, Nat.reduceAdd, Nat.reduceSub, Nat.reduceLeDiff, Nat.reduceLT, Int32.reduceLT, Int32.reduceLE, Int32.reduceAdd, Int32.reduceSub, Int32.reduceMul, Int32.reduceToNatClampNeg, not_false_eq_true, not_true_eq_false, false_implies, true_implies, Nat.zero_add, reduceIte, Nat.reduceMul, Nat.reduceEqDiff, vls, q3, f3, nhl3, q4, f4, nhl4, q5, f5]
  have p0 : kd nh5 0 = some (0, 9) := by decide +kernel
  have r0 : gR nh5 0 2 = some 67 := by decide +kernel
  refine wp_blk kX9_init_43 ?_
  simp only [mxa, vxa, vxb, vxc, vxd, vxe, Nat.reduceAdd, Nat.reduceSub, Nat.reduceLeDiff, Nat.reduceLT, Int32.reduceLT, Int32.reduceLE, Int32.reduceAdd, Int32.reduceSub, Int32.reduceMul, Int32.reduceToNatClampNeg, not_false_eq_true, not_true_eq_false, false_implies, true_implies, Nat.zero_add, reduceIte, Nat.reduceMul, Nat.reduceEqDiff, bX9_init_43, p0, r0, nhl5]
  refine i_vil X d _ 69 (by decide +kernel) (by decide +kernel) _ ?_
  have s0 : kd (vilM (nw nh5 (0, 8)) 69) 67 = some (7, 2) := by decide +kernel
  have t0 : kd (vilM (nw nh5 (0, 8)) 69) 69 = some (0, 8) := by decide +kernel
  have u0 : sR (vilM (nw nh5 (0, 8)) 69) 67 0 (some 69) = nh6 := rfl
  simp only [mxa, vxa, vxb, vxc, vxd, vxe, Nat.reduceAdd, Nat.reduceSub, Nat.reduceLeDiff, Nat.reduceLT, Int32.reduceLT, Int32.reduceLE, Int32.reduceAdd, Int32.reduceSub, Int32.reduceMul, Int32.reduceToNatClampNeg, not_false_eq_true, not_true_eq_false, false_implies, true_implies, Nat.zero_add, reduceIte, Nat.reduceMul, Nat.reduceEqDiff, vls, s0, t0, u0]
  refine ⟨vpd (by decide), ?_⟩
  have p1 : kd nh6 0 = some (0, 9) := by decide +kernel
  have r1 : gR nh6 0 2 = some 67 := by decide +kernel
  refine wp_blk kX9_init_43 ?_
  simp only [mxa, vxa, vxb, vxc, vxd, vxe, Nat.reduceAdd, Nat.reduceSub, Nat.reduceLeDiff, Nat.reduceLT, Int32.reduceLT, Int32.reduceLE, Int32.reduceAdd, Int32.reduceSub, Int32.reduceMul, Int32.reduceToNatClampNeg, not_false_eq_true, not_true_eq_false, false_implies, true_implies, Nat.zero_add, reduceIte, Nat.reduceMul, Nat.reduceEqDiff, bX9_init_43, p1, r1, nhl6]
  refine i_vil X d _ 102 (by decide +kernel) (by decide +kernel) _ ?_
  have s1 : kd (vilM (nw nh6 (0, 8)) 102) 67 = some (7, 2) := by decide +kernel
  have t1 : kd (vilM (nw nh6 (0, 8)) 102) 102 = some (0, 8) := by decide +kernel
  have u1 : sR (vilM (nw nh6 (0, 8)) 102) 67 1 (some 102) = nh7 := rfl
  simp only [mxa, vxa, vxb, vxc, vxd, vxe, Nat.reduceAdd, Nat.reduceSub, Nat.reduceLeDiff, Nat.reduceLT, Int32.reduceLT, Int32.reduceLE, Int32.reduceAdd, Int32.reduceSub, Int32.reduceMul, Int32.reduceToNatClampNeg, not_false_eq_true, not_true_eq_false, false_implies, true_implies, Nat.zero_add, reduceIte, Nat.reduceMul, Nat.reduceEqDiff, vls, s1, t1, u1]
  refine ⟨vpd (by decide), ?_⟩
  refine wp_blk kX9_init_43 ?_
  simp only [mxa, vxa, vxb, vxc, vxd, vxe, Nat.reduceAdd, Nat.reduceSub, Nat.reduceLeDiff, Nat.reduceLT, Int32.reduceLT, Int32.reduceLE, Int32.reduceAdd, Int32.reduceSub, Int32.reduceMul, Int32.reduceToNatClampNeg, not_false_eq_true, not_true_eq_false, false_implies, true_implies, Nat.zero_add, reduceIte, Nat.reduceMul, Nat.reduceEqDiff, bX9_init_43]
  have f8 : sR (nw nh7 (6, 4)) 0 4 (some 135) = nh8 := rfl
  have q8 : kd (nw nh7 (6, 4)) 0 = some (0, 9) := by decide +kernel
  refine wp_blk kX9_init_67 ?_
  simp only [mxa, vxa, vxb, vxc, vxd, vxe, Nat.reduceAdd, Nat.reduceSub, Nat.reduceLeDiff, Nat.reduceLT, Int32.reduceLT, Int32.reduceLE, Int32.reduceAdd, Int32.reduceSub, Int32.reduceMul, Int32.reduceToNatClampNeg, not_false_eq_true, not_true_eq_false, false_implies, true_implies, Nat.zero_add, reduceIte, Nat.reduceMul, Nat.reduceEqDiff, bX9_init_67, q8, nhl7, f8]
  have pr0 : kd nh8 0 = some (0, 9) := by decide +kernel
  have rr0 : gR nh8 0 4 = some 135 := by decide +kernel
  refine wp_blk kX9_init_77 ?_
  simp only [mxa, vxa, vxb, vxc, vxd, vxe, Nat.reduceAdd, Nat.reduceSub, Nat.reduceLeDiff, Nat.reduceLT, Int32.reduceLT, Int32.reduceLE, Int32.reduceAdd, Int32.reduceSub, Int32.reduceMul, Int32.reduceToNatClampNeg, not_false_eq_true, not_true_eq_false, false_implies, true_implies, Nat.zero_add, reduceIte, Nat.reduceMul, Nat.reduceEqDiff, bX9_init_77, pr0, rr0, nhl8]
  refine i_row X (d + 1) _ 136 (by decide +kernel) (by decide +kernel) _ ?_
  have sr0 : kd (oneM (nw nh8 (0, 6)) 136 3 (2, 40)) 135 = some (6, 4) := by decide +kernel
  have tr0 : kd (oneM (nw nh8 (0, 6)) 136 3 (2, 40)) 136 = some (0, 6) := by decide +kernel
  have ur0 : sR (oneM (nw nh8 (0, 6)) 136 3 (2, 40)) 135 0 (some 136) = nh9 := rfl
  simp only [mxa, vxa, vxb, vxc, vxd, vxe, Nat.reduceAdd, Nat.reduceSub, Nat.reduceLeDiff, Nat.reduceLT, Int32.reduceLT, Int32.reduceLE, Int32.reduceAdd, Int32.reduceSub, Int32.reduceMul, Int32.reduceToNatClampNeg, not_false_eq_true, not_true_eq_false, false_implies, true_implies, Nat.zero_add, reduceIte, Nat.reduceMul, Nat.reduceEqDiff, vls, sr0, tr0, ur0]
  refine ⟨vpd (by decide), ?_⟩
  have pr1 : kd nh9 0 = some (0, 9) := by decide +kernel
  have rr1 : gR nh9 0 4 = some 135 := by decide +kernel
  refine wp_blk kX9_init_77 ?_
  simp only [mxa, vxa, vxb, vxc, vxd, vxe, Nat.reduceAdd, Nat.reduceSub, Nat.reduceLeDiff, Nat.reduceLT, Int32.reduceLT, Int32.reduceLE, Int32.reduceAdd, Int32.reduceSub, Int32.reduceMul, Int32.reduceToNatClampNeg, not_false_eq_true, not_true_eq_false, false_implies, true_implies, Nat.zero_add, reduceIte, Nat.reduceMul, Nat.reduceEqDiff, bX9_init_77, pr1, rr1, nhl9]
  refine i_row X (d + 1) _ 138 (by decide +kernel) (by decide +kernel) _ ?_
  have sr1 : kd (oneM (nw nh9 (0, 6)) 138 3 (2, 40)) 135 = some (6, 4) := by decide +kernel
  have tr1 : kd (oneM (nw nh9 (0, 6)) 138 3 (2, 40)) 138 = some (0, 6) := by decide +kernel
  have ur1 : sR (oneM (nw nh9 (0, 6)) 138 3 (2, 40)) 135 1 (some 138) = nh10 := rfl
  simp only [mxa, vxa, vxb, vxc, vxd, vxe, Nat.reduceAdd, Nat.reduceSub, Nat.reduceLeDiff, Nat.reduceLT, Int32.reduceLT, Int32.reduceLE, Int32.reduceAdd, Int32.reduceSub, Int32.reduceMul, Int32.reduceToNatClampNeg, not_false_eq_true, not_true_eq_false, false_implies, true_implies, Nat.zero_add, reduceIte, Nat.reduceMul, Nat.reduceEqDiff, vls, sr1, tr1, ur1]
  refine ⟨vpd (by decide), ?_⟩
  have pr2 : kd nh10 0 = some (0, 9) := by decide +kernel
  have rr2 : gR nh10 0 4 = some 135 := by decide +kernel
  refine wp_blk kX9_init_77 ?_
  simp only [mxa, vxa, vxb, vxc, vxd, vxe, Nat.reduceAdd, Nat.reduceSub, Nat.reduceLeDiff, Nat.reduceLT, Int32.reduceLT, Int32.reduceLE, Int32.reduceAdd, Int32.reduceSub, Int32.reduceMul, Int32.reduceToNatClampNeg, not_false_eq_true, not_true_eq_false, false_implies, true_implies, Nat.zero_add, reduceIte, Nat.reduceMul, Nat.reduceEqDiff, bX9_init_77, pr2, rr2, nhl10]
  refine i_row X (d + 1) _ 140 (by decide +kernel) (by decide +kernel) _ ?_
  have sr2 : kd (oneM (nw nh10 (0, 6)) 140 3 (2, 40)) 135 = some (6, 4) := by decide +kernel
  have tr2 : kd (oneM (nw nh10 (0, 6)) 140 3 (2, 40)) 140 = some (0, 6) := by decide +kernel
  have ur2 : sR (oneM (nw nh10 (0, 6)) 140 3 (2, 40)) 135 2 (some 140) = nh11 := rfl
  simp only [mxa, vxa, vxb, vxc, vxd, vxe, Nat.reduceAdd, Nat.reduceSub, Nat.reduceLeDiff, Nat.reduceLT, Int32.reduceLT, Int32.reduceLE, Int32.reduceAdd, Int32.reduceSub, Int32.reduceMul, Int32.reduceToNatClampNeg, not_false_eq_true, not_true_eq_false, false_implies, true_implies, Nat.zero_add, reduceIte, Nat.reduceMul, Nat.reduceEqDiff, vls, sr2, tr2, ur2]
  refine ⟨vpd (by decide), ?_⟩
  have pr3 : kd nh11 0 = some (0, 9) := by decide +kernel
  have rr3 : gR nh11 0 4 = some 135 := by decide +kernel
  refine wp_blk kX9_init_77 ?_
  simp only [mxa, vxa, vxb, vxc, vxd, vxe, Nat.reduceAdd, Nat.reduceSub, Nat.reduceLeDiff, Nat.reduceLT, Int32.reduceLT, Int32.reduceLE, Int32.reduceAdd, Int32.reduceSub, Int32.reduceMul, Int32.reduceToNatClampNeg, not_false_eq_true, not_true_eq_false, false_implies, true_implies, Nat.zero_add, reduceIte, Nat.reduceMul, Nat.reduceEqDiff, bX9_init_77, pr3, rr3, nhl11]
  refine i_row X (d + 1) _ 142 (by decide +kernel) (by decide +kernel) _ ?_
  have sr3 : kd (oneM (nw nh11 (0, 6)) 142 3 (2, 40)) 135 = some (6, 4) := by decide +kernel
  have tr3 : kd (oneM (nw nh11 (0, 6)) 142 3 (2, 40)) 142 = some (0, 6) := by decide +kernel
  have ur3 : sR (oneM (nw nh11 (0, 6)) 142 3 (2, 40)) 135 3 (some 142) = nh12 := rfl
  simp only [mxa, vxa, vxb, vxc, vxd, vxe, Nat.reduceAdd, Nat.reduceSub, Nat.reduceLeDiff, Nat.reduceLT, Int32.reduceLT, Int32.reduceLE, Int32.reduceAdd, Int32.reduceSub, Int32.reduceMul, Int32.reduceToNatClampNeg, not_false_eq_true, not_true_eq_false, false_implies, true_implies, Nat.zero_add, reduceIte, Nat.reduceMul, Nat.reduceEqDiff, vls, sr3, tr3, ur3]
  refine ⟨vpd (by decide), ?_⟩
  refine wp_blk kX9_init_77 ?_
  simp only [mxa, vxa, vxb, vxc, vxd, vxe, Nat.reduceAdd, Nat.reduceSub, Nat.reduceLeDiff, Nat.reduceLT, Int32.reduceLT, Int32.reduceLE, Int32.reduceAdd, Int32.reduceSub, Int32.reduceMul, Int32.reduceToNatClampNeg, not_false_eq_true, not_true_eq_false, false_implies, true_implies, Nat.zero_add, reduceIte, Nat.reduceMul, Nat.reduceEqDiff, bX9_init_77]
  refine wp_blk kX9_init_101 ?_
  simp only [mxa, vxa, vxb, vxc, vxd, vxe, Nat.reduceAdd, Nat.reduceSub, Nat.reduceLeDiff, Nat.reduceLT, Int32.reduceLT, Int32.reduceLE, Int32.reduceAdd, Int32.reduceSub, Int32.reduceMul, Int32.reduceToNatClampNeg, not_false_eq_true, not_true_eq_false, false_implies, true_implies, Nat.zero_add, reduceIte, Nat.reduceMul, Nat.reduceEqDiff, bX9_init_101, nhl12]
  refine i_reader X (d + 1) _ 144 (by decide +kernel) (by decide +kernel) _ ?_
  have vreader : kd (oneM (sI (nw nh12 (0, 5)) 144 2 (-1)) 144 3 (3, 900)) 0 = some (0, 9) := by decide +kernel
  have wreader : sR (oneM (sI (nw nh12 (0, 5)) 144 2 (-1)) 144 3 (3, 900)) 0 5 (some 144) = nh13 := rfl
  simp only [mxa, vxa, vxb, vxc, vxd, vxe, Nat.reduceAdd, Nat.reduceSub, Nat.reduceLeDiff, Nat.reduceLT, Int32.reduceLT, Int32.reduceLE, Int32.reduceAdd, Int32.reduceSub, Int32.reduceMul, Int32.reduceToNatClampNeg, not_false_eq_true, not_true_eq_false, false_implies, true_implies, Nat.zero_add, reduceIte, Nat.reduceMul, Nat.reduceEqDiff, vls, vreader, wreader, nhl13]
  refine i_bakery X (d + 1) _ 146 (by decide +kernel) (by decide +kernel) _ ?_
  have vbakery : kd (oneM (nw nh13 (0, 0)) 146 3 (2, 10)) 0 = some (0, 9) := by decide +kernel
  have wbakery : sR (oneM (nw nh13 (0, 0)) 146 3 (2, 10)) 0 6 (some 146) = nh14 := rfl
  simp only [mxa, vxa, vxb, vxc, vxd, vxe, Nat.reduceAdd, Nat.reduceSub, Nat.reduceLeDiff, Nat.reduceLT, Int32.reduceLT, Int32.reduceLE, Int32.reduceAdd, Int32.reduceSub, Int32.reduceMul, Int32.reduceToNatClampNeg, not_false_eq_true, not_true_eq_false, false_implies, true_implies, Nat.zero_add, reduceIte, Nat.reduceMul, Nat.reduceEqDiff, vls, vbakery, wbakery, nhl14]
  refine i_sums X (d + 1) _ 148 (by decide +kernel) (by decide +kernel) _ ?_
  have vsums : kd (oneM (oneM (nw nh14 (0, 7)) 148 0 (1, 60)) 148 2 (1, 2001)) 0 = some (0, 9) := by decide +kernel
  have wsums : sR (oneM (oneM (nw nh14 (0, 7)) 148 0 (1, 60)) 148 2 (1, 2001)) 0 7 (some 148) = nh15 := rfl
  simp only [mxa, vxa, vxb, vxc, vxd, vxe, Nat.reduceAdd, Nat.reduceSub, Nat.reduceLeDiff, Nat.reduceLT, Int32.reduceLT, Int32.reduceLE, Int32.reduceAdd, Int32.reduceSub, Int32.reduceMul, Int32.reduceToNatClampNeg, not_false_eq_true, not_true_eq_false, false_implies, true_implies, Nat.zero_add, reduceIte, Nat.reduceMul, Nat.reduceEqDiff, vls, vsums, wsums, nhl15]
  refine i_groups X (d + 1) _ 151 (by decide +kernel) (by decide +kernel) _ ?_
  have vgroups : kd (oneM (oneM (oneM (oneM (nw nh15 (0, 3)) 151 5 (1, 1024)) 151 6 (1, 1024)) 151 8 (1, 1024)) 151 10 (4, 1024)) 0 = some (0, 9) := by decide +kernel
  have wgroups : sR (oneM (oneM (oneM (oneM (nw nh15 (0, 3)) 151 5 (1, 1024)) 151 6 (1, 1024)) 151 8 (1, 1024)) 151 10 (4, 1024)) 0 8 (some 151) = nh16 := rfl
  simp only [mxa, vxa, vxb, vxc, vxd, vxe, Nat.reduceAdd, Nat.reduceSub, Nat.reduceLeDiff, Nat.reduceLT, Int32.reduceLT, Int32.reduceLE, Int32.reduceAdd, Int32.reduceSub, Int32.reduceMul, Int32.reduceToNatClampNeg, not_false_eq_true, not_true_eq_false, false_implies, true_implies, Nat.zero_add, reduceIte, Nat.reduceMul, Nat.reduceEqDiff, vls, vgroups, wgroups, nhl16]
  refine i_debts X (d + 1) _ 156 (by decide +kernel) (by decide +kernel) _ ?_
  have vdebts : kd (oneM (oneM (oneM (oneM (oneM (nw nh16 (0, 1)) 156 1 (1, 10)) 156 2 (1, 10)) 156 3 (1, 10)) 156 4 (1, 1024)) 156 5 (1, 1024)) 0 = some (0, 9) := by decide +kernel
  have wdebts : sR (oneM (oneM (oneM (oneM (oneM (nw nh16 (0, 1)) 156 1 (1, 10)) 156 2 (1, 10)) 156 3 (1, 10)) 156 4 (1, 1024)) 156 5 (1, 1024)) 0 9 (some 156) = nh17 := rfl
  simp only [mxa, vxa, vxb, vxc, vxd, vxe, Nat.reduceAdd, Nat.reduceSub, Nat.reduceLeDiff, Nat.reduceLT, Int32.reduceLT, Int32.reduceLE, Int32.reduceAdd, Int32.reduceSub, Int32.reduceMul, Int32.reduceToNatClampNeg, not_false_eq_true, not_true_eq_false, false_implies, true_implies, Nat.zero_add, reduceIte, Nat.reduceMul, Nat.reduceEqDiff, vls, vdebts, wdebts, nhl17]
  refine i_out X (d) _ 162 (by decide +kernel) (by decide +kernel) _ ?_
  have vout : kd (outM (nw nh17 (0, 4)) 162) 0 = some (0, 9) := by decide +kernel
  have wout : sR (outM (nw nh17 (0, 4)) 162) 0 10 (some 162) = nh18 := rfl
  simp only [mxa, vxa, vxb, vxc, vxd, vxe, Nat.reduceAdd, Nat.reduceSub, Nat.reduceLeDiff, Nat.reduceLT, Int32.reduceLT, Int32.reduceLE, Int32.reduceAdd, Int32.reduceSub, Int32.reduceMul, Int32.reduceToNatClampNeg, not_false_eq_true, not_true_eq_false, false_implies, true_implies, Nat.zero_add, reduceIte, Nat.reduceMul, Nat.reduceEqDiff, vls, vout, wout]
  exact hQ
def md0 : Mm := nw nh18 (0, 10)
theorem mdl0 : md0.1.length = 191 := by decide +kernel
def md1 : Mm := sR (nw md0 (1, 957)) 190 1 (some 191)
theorem mdl1 : md1.1.length = 192 := by decide +kernel
theorem mdf0 : sR (nw md0 (1, 957)) 190 1 (some 191) = md1 := rfl
theorem mdk0 : kd (nw md0 (1, 957)) 190 = some (0, 10) := by decide +kernel
def md2 : Mm := sR (nw md1 (4, 2)) 190 2 (some 192)
theorem mdl2 : md2.1.length = 193 := by decide +kernel
theorem mdf1 : sR (nw md1 (4, 2)) 190 2 (some 192) = md2 := rfl
theorem mdk1 : kd (nw md1 (4, 2)) 190 = some (0, 10) := by decide +kernel
def md3 : Mm := sR (nw md2 (1, 900)) 190 3 (some 193)
theorem mdl3 : md3.1.length = 194 := by decide +kernel
theorem mdf2 : sR (nw md2 (1, 900)) 190 3 (some 193) = md3 := rfl
theorem mdk2 : kd (nw md2 (1, 900)) 190 = some (0, 10) := by decide +kernel
def md4 : Mm := sI (sR (nw md3 (1, 319)) 190 4 (some 194)) 190 14 (-1)
theorem mdl4 : md4.1.length = 195 := by decide +kernel
theorem mdf3 : sI (sR (nw md3 (1, 319)) 190 4 (some 194)) 190 14 (-1) = md4 := rfl
theorem mdk3 : kd (nw md3 (1, 319)) 190 = some (0, 10) := by decide +kernel
def md5 : Mm := sR (nw md4 (2, 10)) 190 15 (some 195)
theorem mdl5 : md5.1.length = 196 := by decide +kernel
theorem mdf4 : sR (nw md4 (2, 10)) 190 15 (some 195) = md5 := rfl
theorem mdk4 : kd (nw md4 (2, 10)) 190 = some (0, 10) := by decide +kernel
def md6 : Mm := sR (nw md5 (1, 319)) 190 16 (some 196)
theorem mdl6 : md6.1.length = 197 := by decide +kernel
theorem mdf5 : sR (nw md5 (1, 319)) 190 16 (some 196) = md6 := rfl
theorem mdk5 : kd (nw md5 (1, 319)) 190 = some (0, 10) := by decide +kernel
def md7 : Mm := sR (nw md6 (1, 5)) 190 19 (some 197)
theorem mdl7 : md7.1.length = 198 := by decide +kernel
theorem mdf6 : sR (nw md6 (1, 5)) 190 19 (some 197) = md7 := rfl
theorem mdk6 : kd (nw md6 (1, 5)) 190 = some (0, 10) := by decide +kernel
def md8 : Mm := sR (nw md7 (1, 4001)) 190 20 (some 198)
theorem mdl8 : md8.1.length = 199 := by decide +kernel
theorem mdf7 : sR (nw md7 (1, 4001)) 190 20 (some 198) = md8 := rfl
theorem mdk7 : kd (nw md7 (1, 4001)) 190 = some (0, 10) := by decide +kernel
def md9 : Mm := sR (nw md8 (1, 4001)) 190 21 (some 199)
theorem mdl9 : md9.1.length = 200 := by decide +kernel
theorem mdf8 : sR (nw md8 (1, 4001)) 190 21 (some 199) = md9 := rfl
theorem mdk8 : kd (nw md8 (1, 4001)) 190 = some (0, 10) := by decide +kernel
def md10 : Mm := sR (nw md9 (1, 1024)) 190 22 (some 200)
theorem mdl10 : md10.1.length = 201 := by decide +kernel
theorem mdf9 : sR (nw md9 (1, 1024)) 190 22 (some 200) = md10 := rfl
theorem mdk9 : kd (nw md9 (1, 1024)) 190 = some (0, 10) := by decide +kernel
def md11 : Mm := sR (nw md10 (1, 1024)) 190 23 (some 201)
theorem mdl11 : md11.1.length = 202 := by decide +kernel
theorem mdf10 : sR (nw md10 (1, 1024)) 190 23 (some 201) = md11 := rfl
theorem mdk10 : kd (nw md10 (1, 1024)) 190 = some (0, 10) := by decide +kernel
def md12 : Mm := sR (nw md11 (4, 1024)) 190 24 (some 202)
theorem mdl12 : md12.1.length = 203 := by decide +kernel
theorem mdf11 : sR (nw md11 (4, 1024)) 190 24 (some 202) = md12 := rfl
theorem mdk11 : kd (nw md11 (4, 1024)) 190 = some (0, 10) := by decide +kernel
def md13 : Mm := sR (nw md12 (1, 1024)) 190 25 (some 203)
theorem mdl13 : md13.1.length = 204 := by decide +kernel
theorem mdf12 : sR (nw md12 (1, 1024)) 190 25 (some 203) = md13 := rfl
theorem mdk12 : kd (nw md12 (1, 1024)) 190 = some (0, 10) := by decide +kernel
def md14 : Mm := sR (nw md13 (1, 8)) 190 27 (some 204)
theorem mdl14 : md14.1.length = 205 := by decide +kernel
theorem mdf13 : sR (nw md13 (1, 8)) 190 27 (some 204) = md14 := rfl
theorem mdk13 : kd (nw md13 (1, 8)) 190 = some (0, 10) := by decide +kernel
def md15 : Mm := sR (nw md14 (1, 10)) 190 28 (some 205)
theorem mdl15 : md15.1.length = 206 := by decide +kernel
theorem mdf14 : sR (nw md14 (1, 10)) 190 28 (some 205) = md15 := rfl
theorem mdk14 : kd (nw md14 (1, 10)) 190 = some (0, 10) := by decide +kernel
def md16 : Mm := sR (nw md15 (1, 10)) 190 30 (some 206)
theorem mdl16 : md16.1.length = 207 := by decide +kernel
theorem mdf15 : sR (nw md15 (1, 10)) 190 30 (some 206) = md16 := rfl
theorem mdk15 : kd (nw md15 (1, 10)) 190 = some (0, 10) := by decide +kernel
def md17 : Mm := sR (nw md16 (1, 10)) 190 31 (some 207)
theorem mdl17 : md17.1.length = 208 := by decide +kernel
theorem mdf16 : sR (nw md16 (1, 10)) 190 31 (some 207) = md17 := rfl
theorem mdk16 : kd (nw md16 (1, 10)) 190 = some (0, 10) := by decide +kernel
def md18 : Mm := sR (nw md17 (1, 7)) 190 33 (some 208)
theorem mdl18 : md18.1.length = 209 := by decide +kernel
theorem mdf17 : sR (nw md17 (1, 7)) 190 33 (some 208) = md18 := rfl
theorem mdk17 : kd (nw md17 (1, 7)) 190 = some (0, 10) := by decide +kernel
def md19 : Mm := sR (nw md18 (1, 7)) 190 34 (some 209)
theorem mdl19 : md19.1.length = 210 := by decide +kernel
theorem mdf18 : sR (nw md18 (1, 7)) 190 34 (some 209) = md19 := rfl
theorem mdk18 : kd (nw md18 (1, 7)) 190 = some (0, 10) := by decide +kernel
def md20 : Mm := sR (sI (sI (sI (sI (nw md19 (1, 4)) 210 0 (-1)) 210 1 (-1)) 210 2 (-1)) 210 3 (-1)) 190 40 (some 210)
theorem mdl20 : md20.1.length = 211 := by decide +kernel
theorem mdf19 : sR (sI (sI (sI (sI (nw md19 (1, 4)) 210 0 (-1)) 210 1 (-1)) 210 2 (-1)) 210 3 (-1)) 190 40 (some 210) = md20 := rfl
theorem mdk19 : kd (nw md19 (1, 4)) 190 = some (0, 10) := by decide +kernel
def md21 : Mm := sR (nw md20 (1, 4)) 190 41 (some 211)
theorem mdl21 : md21.1.length = 212 := by decide +kernel
theorem mdf20 : sR (nw md20 (1, 4)) 190 41 (some 211) = md21 := rfl
theorem mdk20 : kd (nw md20 (1, 4)) 190 = some (0, 10) := by decide +kernel
def md22 : Mm := sR (nw md21 (2, 160)) 190 42 (some 212)
theorem mdl22 : md22.1.length = 213 := by decide +kernel
theorem mdf21 : sR (nw md21 (2, 160)) 190 42 (some 212) = md22 := rfl
theorem mdk21 : kd (nw md21 (2, 160)) 190 = some (0, 10) := by decide +kernel
theorem mdk40 : kd (nw md19 (1, 4)) 210 = some (1, 4) := by decide +kernel
theorem mdk50 : kd md22 190 = some (0, 10) := by decide +kernel
theorem mdk51 : gR md22 190 1 = some 191 := by decide +kernel
def mF : Mm := rI md22 191 (plainF (gI md22 191))
set_option maxRecDepth 100000 in
theorem i_m (X : Cx) (d : Nat) (Q : Po) (hQ : Q none mF) : Call X (d + 1) 22 14830 mX10_init [.ref 190] md0 Q := by
  refine call_of eX10_init rfl ?_
  refine wp_blk kX10_init_0 ?_
  simp only [mxa, vxa, vxb, vxc, vxd, vxe, Nat.reduceAdd, Nat.reduceSub, Nat.reduceLeDiff, Nat.reduceLT, Int32.reduceLT, Int32.reduceLE, Int32.reduceAdd, Int32.reduceSub, Int32.reduceMul, Int32.reduceToNatClampNeg, not_false_eq_true, not_true_eq_false, false_implies, true_implies, Nat.zero_add, reduceIte, Nat.reduceMul, Nat.reduceEqDiff, bX10_init_0, mdl0, mdl1, mdl2, mdl3, mdl4, mdl5, mdl6, mdl7, mdl8, mdl9, mdl10, mdl11, mdl12, mdl13, mdl14, mdl15, mdl16, mdl17, mdl18, mdl19, mdl20, mdl21, mdl22, mdf0, mdf1, mdf2, mdf3, mdf4, mdf5, mdf6, mdf7, mdf8, mdf9, mdf10, mdf11, mdf12, mdf13, mdf14, mdf15, mdf16, mdf17, mdf18, mdf19, mdf20, mdf21, mdk0, mdk1, mdk2, mdk3, mdk4, mdk5, mdk6, mdk7, mdk8, mdk9, mdk10, mdk11, mdk12, mdk13, mdk14, mdk15, mdk16, mdk17, mdk18, mdk19, mdk20, mdk21, mdk40, mdk50, mdk51]
  refine ⟨vpd (by decide), vpd (by decide), vpd (by decide), vpd (by decide), ?_⟩
  refine c_plain X d md22 191 957 (by decide +kernel) (by omega) (by omega) _ ?_
  simp only [mxa, vxa, vxb, vxc, vxd, vxe, Nat.reduceAdd, Nat.reduceSub, Nat.reduceLeDiff, Nat.reduceLT, Int32.reduceLT, Int32.reduceLE, Int32.reduceAdd, Int32.reduceSub, Int32.reduceMul, Int32.reduceToNatClampNeg, not_false_eq_true, not_true_eq_false, false_implies, true_implies, Nat.zero_add, reduceIte, Nat.reduceMul, Nat.reduceEqDiff]
  exact hQ
