/-! constructors -/
def famM (σ : Mm) (a : Nat) : Mm := sR (nw (sR (nw σ (1, 5)) a 7 (some σ.1.length)) (1, 10)) a 8 (some (σ.1.length + 1))
theorem i_fam (X : Cx) (d : Nat) (σ : Mm) (a : Nat) (hk : kd σ a = some (0, 2)) (hl : σ.1.length < 990000) (Q : Po) (hQ : Q none (famM σ a)) : Call X (d + 1) 2 15 mX2_init [.ref a] σ Q := by
  have k1 : kd (nw σ (1, 5)) a = some (0, 2) := kd_nw hk
  have k2 : kd (nw (sR (nw σ (1, 5)) a 7 (some σ.1.length)) (1, 10)) a = some (0, 2) := kd_nw (by rw [mxa.2.2.1]; exact k1)
  refine call_of eX2_init rfl ?_
  refine wp_blk kX2_init_0 ?_
  simp only [mxa, vxa, vxb, vxc, vxd, vxe, Nat.reduceAdd, Nat.reduceSub, Nat.reduceLeDiff, Nat.reduceLT, Int32.reduceLT, Int32.reduceLE, Int32.reduceAdd, Int32.reduceSub, Int32.reduceMul, Int32.reduceToNatClampNeg, not_false_eq_true, not_true_eq_false, false_implies, true_implies, Nat.zero_add, reduceIte, Nat.reduceMul, Nat.reduceEqDiff, bX2_init_0, k1, k2]
  exact ⟨by omega, by omega, hQ⟩
def oneM (σ : Mm) (a k : Nat) (q : Nat × Nat) : Mm := sR (nw σ q) a k (some σ.1.length)
theorem kd_one {σ : Mm} {a k b : Nat} {p q : Nat × Nat} (h : kd σ b = some p) : kd (oneM σ a k q) b = some p := by
  unfold oneM
  rw [mxa.2.2.1]
  exact kd_nw h
theorem len_one (σ : Mm) (a k : Nat) (q : Nat × Nat) : (oneM σ a k q).1.length = σ.1.length + 1 := by simp [oneM, mxa]
theorem i_row (X : Cx) (d : Nat) (σ : Mm) (a : Nat) (hk : kd σ a = some (0, 6)) (hl : σ.1.length < 900000) (Q : Po) (hQ : Q none (oneM σ a 3 (2, 40))) : Call X (d + 1) 1 40 mX6_init [.ref a] σ Q := by
  have k1 : kd (nw σ (2, 40)) a = some (0, 6) := kd_nw hk
  refine call_of eX6_init rfl ?_
  refine wp_blk kX6_init_0 ?_
  simp only [mxa, vxa, vxb, vxc, vxd, vxe, Nat.reduceAdd, Nat.reduceSub, Nat.reduceLeDiff, Nat.reduceLT, Int32.reduceLT, Int32.reduceLE, Int32.reduceAdd, Int32.reduceSub, Int32.reduceMul, Int32.reduceToNatClampNeg, not_false_eq_true, not_true_eq_false, false_implies, true_implies, Nat.zero_add, reduceIte, Nat.reduceMul, Nat.reduceEqDiff, bX6_init_0, k1]
  exact ⟨by omega, hQ⟩
theorem i_reader (X : Cx) (d : Nat) (σ : Mm) (a : Nat) (hk : kd σ a = some (0, 5)) (hl : σ.1.length < 900000) (Q : Po) (hQ : Q none (oneM (sI σ a 2 (-1)) a 3 (3, 900))) : Call X (d + 1) 1 900 mX5_init [.ref a] σ Q := by
  have k1 : kd (nw (sI σ a 2 (-1)) (3, 900)) a = some (0, 5) := kd_nw hk
  refine call_of eX5_init rfl ?_
  refine wp_blk kX5_init_0 ?_
  simp only [mxa, vxa, vxb, vxc, vxd, vxe, Nat.reduceAdd, Nat.reduceSub, Nat.reduceLeDiff, Nat.reduceLT, Int32.reduceLT, Int32.reduceLE, Int32.reduceAdd, Int32.reduceSub, Int32.reduceMul, Int32.reduceToNatClampNeg, not_false_eq_true, not_true_eq_false, false_implies, true_implies, Nat.zero_add, reduceIte, Nat.reduceMul, Nat.reduceEqDiff, bX5_init_0, hk, k1]
  exact ⟨by omega, by simpa only [oneM, mxa] using hQ⟩
theorem i_bakery (X : Cx) (d : Nat) (σ : Mm) (a : Nat) (hk : kd σ a = some (0, 0)) (hl : σ.1.length < 900000) (Q : Po) (hQ : Q none (oneM σ a 3 (2, 10))) : Call X (d + 1) 1 10 mX0_init [.ref a] σ Q := by
  have k1 : kd (nw σ (2, 10)) a = some (0, 0) := kd_nw hk
  refine call_of eX0_init rfl ?_
  refine wp_blk kX0_init_0 ?_
  simp only [mxa, vxa, vxb, vxc, vxd, vxe, Nat.reduceAdd, Nat.reduceSub, Nat.reduceLeDiff, Nat.reduceLT, Int32.reduceLT, Int32.reduceLE, Int32.reduceAdd, Int32.reduceSub, Int32.reduceMul, Int32.reduceToNatClampNeg, not_false_eq_true, not_true_eq_false, false_implies, true_implies, Nat.zero_add, reduceIte, Nat.reduceMul, Nat.reduceEqDiff, bX0_init_0, k1]
  exact ⟨by omega, hQ⟩
theorem i_sums (X : Cx) (d : Nat) (σ : Mm) (a : Nat) (hk : kd σ a = some (0, 7)) (hl : σ.1.length < 900000) (Q : Po) (hQ : Q none (oneM (oneM σ a 0 (1, 60)) a 2 (1, 2001))) : Call X (d + 1) 2 2061 mX7_init [.ref a] σ Q := by
  have k1 : kd (nw σ (1, 60)) a = some (0, 7) := kd_nw hk
  have k2 : kd (nw (sR (nw σ (1, 60)) a 0 (some σ.1.length)) (1, 2001)) a = some (0, 7) := kd_nw (kd_one hk)
  refine call_of eX7_init rfl ?_
  refine wp_blk kX7_init_0 ?_
  simp only [mxa, vxa, vxb, vxc, vxd, vxe, Nat.reduceAdd, Nat.reduceSub, Nat.reduceLeDiff, Nat.reduceLT, Int32.reduceLT, Int32.reduceLE, Int32.reduceAdd, Int32.reduceSub, Int32.reduceMul, Int32.reduceToNatClampNeg, not_false_eq_true, not_true_eq_false, false_implies, true_implies, Nat.zero_add, reduceIte, Nat.reduceMul, Nat.reduceEqDiff, bX7_init_0, k1, k2]
  exact ⟨by omega, by omega, by simpa only [oneM, mxa] using hQ⟩
theorem i_groups (X : Cx) (d : Nat) (σ : Mm) (a : Nat) (hk : kd σ a = some (0, 3)) (hl : σ.1.length < 900000) (Q : Po) (hQ : Q none (oneM (oneM (oneM (oneM σ a 5 (1, 1024)) a 6 (1, 1024)) a 8 (1, 1024)) a 10 (4, 1024))) : Call X (d + 1) 4 4096 mX3_init [.ref a] σ Q := by
  have k1 := kd_nw (q := (1, 1024)) hk
  have k2 := kd_nw (q := (1, 1024)) (kd_one (a := a) (k := 5) (q := (1, 1024)) hk)
  have k3 := kd_nw (q := (1, 1024)) (kd_one (a := a) (k := 6) (q := (1, 1024)) (kd_one (a := a) (k := 5) (q := (1, 1024)) hk))
  have k4 := kd_nw (q := (4, 1024)) (kd_one (a := a) (k := 8) (q := (1, 1024)) (kd_one (a := a) (k := 6) (q := (1, 1024)) (kd_one (a := a) (k := 5) (q := (1, 1024)) hk)))
  simp only [oneM, mxa] at k2 k3 k4 hQ
  refine call_of eX3_init rfl ?_
  refine wp_blk kX3_init_0 ?_
  simp only [mxa, vxa, vxb, vxc, vxd, vxe, Nat.reduceAdd, Nat.reduceSub, Nat.reduceLeDiff, Nat.reduceLT, Int32.reduceLT, Int32.reduceLE, Int32.reduceAdd, Int32.reduceSub, Int32.reduceMul, Int32.reduceToNatClampNeg, not_false_eq_true, not_true_eq_false, false_implies, true_implies, Nat.zero_add, reduceIte, Nat.reduceMul, Nat.reduceEqDiff, bX3_init_0, k1, k2, k3, k4]
  exact ⟨by omega, by omega, by omega, by omega, hQ⟩
theorem i_debts (X : Cx) (d : Nat) (σ : Mm) (a : Nat) (hk : kd σ a = some (0, 1)) (hl : σ.1.length < 900000) (Q : Po) (hQ : Q none (oneM (oneM (oneM (oneM (oneM σ a 1 (1, 10)) a 2 (1, 10)) a 3 (1, 10)) a 4 (1, 1024)) a 5 (1, 1024))) : Call X (d + 1) 5 2078 mX1_init [.ref a] σ Q := by
  have h2 := kd_one (a := a) (k := 1) (q := (1, 10)) hk
  have h3 := kd_one (a := a) (k := 2) (q := (1, 10)) h2
  have h4 := kd_one (a := a) (k := 3) (q := (1, 10)) h3
  have h5 := kd_one (a := a) (k := 4) (q := (1, 1024)) h4
  have k1 := kd_nw (q := (1, 10)) hk
  have k2 := kd_nw (q := (1, 10)) h2
  have k3 := kd_nw (q := (1, 10)) h3
  have k4 := kd_nw (q := (1, 1024)) h4
  have k5 := kd_nw (q := (1, 1024)) h5
  simp only [oneM, mxa] at k2 k3 k4 k5 hQ
  refine call_of eX1_init rfl ?_
  refine wp_blk kX1_init_0 ?_
  simp only [mxa, vxa, vxb, vxc, vxd, vxe, Nat.reduceAdd, Nat.reduceSub, Nat.reduceLeDiff, Nat.reduceLT, Int32.reduceLT, Int32.reduceLE, Int32.reduceAdd, Int32.reduceSub, Int32.reduceMul, Int32.reduceToNatClampNeg, not_false_eq_true, not_true_eq_false, false_implies, true_implies, Nat.zero_add, reduceIte, Nat.reduceMul, Nat.reduceEqDiff, bX1_init_0, k1, k2, k3, k4, k5]
  exact ⟨by omega, by omega, by omega, by omega, by omega, hQ⟩
/-- k families made and laid into the row at m -/
def famsM (σ : Mm) (m : Nat) : Nat → Mm
  | 0 => σ
  | k + 1 => sR (famM (nw (famsM σ m k) (0, 2)) (famsM σ m k).1.length) m k (some (famsM σ m k).1.length)
theorem len_fam (σ : Mm) (a : Nat) : (famM σ a).1.length = σ.1.length + 2 := by simp [famM, mxa]
theorem len_fams (σ : Mm) (m : Nat) : ∀ k, (famsM σ m k).1.length = σ.1.length + 3 * k
  | 0 => rfl
  | k + 1 => by
    have := len_fams σ m k
    simp only [famsM, mxa, len_fam]
    omega
theorem kd_fam {σ : Mm} {a b : Nat} {p : Nat × Nat} (h : kd σ b = some p) : kd (famM σ a) b = some p := by
  unfold famM
  rw [mxa.2.2.1]
  refine kd_nw ?_
  rw [mxa.2.2.1]
  exact kd_nw h
theorem kd_fams {σ : Mm} {m b : Nat} {p : Nat × Nat} (h : kd σ b = some p) : ∀ k, kd (famsM σ m k) b = some p
  | 0 => h
  | k + 1 => by
    unfold famsM
    rw [mxa.2.2.1]
    exact kd_fam (kd_nw (kd_fams h k))
theorem gR_nw {σ : Mm} {q : Nat × Nat} {b j : Nat} (h : b < σ.1.length) : gR (nw σ q) b j = gR σ b j := by simp [gR, nw, Nat.ne_of_lt h]
theorem gI_nw {σ : Mm} {q : Nat × Nat} {b j : Nat} (h : b < σ.1.length) : gI (nw σ q) b j = gI σ b j := by simp [gI, nw, Nat.ne_of_lt h]
theorem gR_fams {σ : Mm} {m b j : Nat} (hm : b ≠ m) (hb : b < σ.1.length) : ∀ k, gR (famsM σ m k) b j = gR σ b j
  | 0 => rfl
  | k + 1 => by
    have hl := len_fams σ m k
    have hl2 : (nw (famsM σ m k) (0, 2)).1.length = (famsM σ m k).1.length + 1 := by simp only [mxa]
    unfold famsM
    rw [gR_a hm]
    unfold famM
    rw [gR_a (by omega), gR_nw (by simp only [mxa]; omega), gR_a (by omega), gR_nw (by omega), gR_nw (by omega)]
    exact gR_fams hm hb k
def vilM (σ : Mm) (a : Nat) : Mm := sI (sI (famsM (oneM (oneM σ a 6 (5, 10)) a 7 (1, 3)) σ.1.length 10) a 2 3) a 3 20
theorem vp_lt {k n : Nat} (h : k < n) (hn : n < 2147483648) : vp_in (nI k) n := vp_in_nI h hn
theorem i_vil (X : Cx) (d : Nat) (σ : Mm) (a : Nat) (hk : kd σ a = some (0, 8)) (hl : σ.1.length < 900000) (Q : Po) (hQ : Q none (vilM σ a)) : Call X (d + 2) 32 253 mX8_init [.ref a] σ Q := by
  have h1 := kd_one (a := a) (k := 6) (q := (5, 10)) hk
  have k1 := kd_nw (q := (5, 10)) hk
  have k2 := kd_nw (q := (1, 3)) h1
  simp only [oneM, mxa] at k2
  refine call_of eX8_init rfl ?_
  refine wp_blk kX8_init_0 ?_
  simp only [mxa, vxa, vxb, vxc, vxd, vxe, Nat.reduceAdd, Nat.reduceSub, Nat.reduceLeDiff, Nat.reduceLT, Int32.reduceLT, Int32.reduceLE, Int32.reduceAdd, Int32.reduceSub, Int32.reduceMul, Int32.reduceToNatClampNeg, not_false_eq_true, not_true_eq_false, false_implies, true_implies, Nat.zero_add, reduceIte, Nat.reduceMul, Nat.reduceEqDiff, bX8_init_0, k1, k2]
  refine ⟨by omega, by omega, ?_⟩
  generalize hb : sR (nw (sR (nw σ (5, 10)) a 6 (some σ.1.length)) (1, 3)) a 7 (some (σ.1.length + 1)) = σ0
  have hQ' : Q none (sI (sI (famsM σ0 σ.1.length 10) a 2 3) a 3 20) := by
    have e : oneM (oneM σ a 6 (5, 10)) a 7 (1, 3) = σ0 := by rw [← hb]; simp only [oneM, mxa]
    rw [← e]
    exact hQ
  have hal : a < σ.1.length := kd_lt hk
  have l0 : σ0.1.length = σ.1.length + 2 := by rw [← hb]; simp only [mxa]
  have ka : kd σ0 a = some (0, 8) := by rw [← hb]; simp only [mxa]; exact k2
  have km : kd σ0 σ.1.length = some (5, 10) := by
    rw [← hb]
    simp only [mxa]
    refine kd_nw ?_
    simp only [mxa]
    exact kd_nw_new
  have ra : gR σ0 a 6 = some σ.1.length := by
    rw [← hb, gR_k (by omega), gR_nw (by simp only [mxa]; omega)]
    simp only [mxa]
  refine wfor (fun k => Wp X mX8_init (rmo (d + 2) 32 253) (d + 2) Q (2 + 3 * k) (13 + 24 * k) 22 [some (.ref a), some (.int (nI k))] [] (famsM σ0 σ.1.length k)) 10 (fun k hk10 ih => ?_) ?_
  · have e1 := kd_fams (m := σ.1.length) ka k
    have e2 := kd_fams (m := σ.1.length) km k
    have e3 := gR_fams (m := σ.1.length) (j := 6) (Nat.ne_of_lt hal) (by omega : a < σ0.1.length) k
    rw [ra] at e3
    have e4 := kd_nw (q := (0, 2)) e2
    have hlk := len_fams σ0 σ.1.length k
    refine wp_blk kX8_init_22 ?_
    simp only [mxa, vxa, vxb, vxc, vxd, vxe, Nat.reduceAdd, Nat.reduceSub, Nat.reduceLeDiff, Nat.reduceLT, Int32.reduceLT, Int32.reduceLE, Int32.reduceAdd, Int32.reduceSub, Int32.reduceMul, Int32.reduceToNatClampNeg, not_false_eq_true, not_true_eq_false, false_implies, true_implies, Nat.zero_add, reduceIte, Nat.reduceMul, Nat.reduceEqDiff, bX8_init_22, e1, e2, e3]
    refine ⟨fun q => absurd q (nI_ge (a := k) (b := 10) (by omega) (by omega)), fun _ => ⟨by omega, by omega, by omega, by omega, by omega, ?_⟩⟩
    refine i_fam X d _ _ kd_nw_new (by simp only [mxa]; omega) _ ?_
    have e5 : kd (famM (nw (famsM σ0 σ.1.length k) (0, 2)) (famsM σ0 σ.1.length k).1.length) σ.1.length = some (5, 10) := kd_fam e4
    have e6 : kd (famM (nw (famsM σ0 σ.1.length k) (0, 2)) (famsM σ0 σ.1.length k).1.length) (famsM σ0 σ.1.length k).1.length = some (0, 2) := kd_fam kd_nw_new
    simp only [mxa, vxa, vxb, vxc, vxd, vxe, Nat.reduceAdd, Nat.reduceSub, Nat.reduceLeDiff, Nat.reduceLT, Int32.reduceLT, Int32.reduceLE, Int32.reduceAdd, Int32.reduceSub, Int32.reduceMul, Int32.reduceToNatClampNeg, not_false_eq_true, not_true_eq_false, false_implies, true_implies, Nat.zero_add, reduceIte, Nat.reduceMul, Nat.reduceEqDiff, e5, e6]
    refine ⟨vp_lt hk10 (by omega), ?_⟩
    rw [nI_clamp (by omega), ← nI_succ, show 2 + 3 * k + 1 + 2 = 2 + 3 * (k + 1) by omega, show 13 + 24 * k + 9 + 15 = 13 + 24 * (k + 1) by omega]
    exact ih
  · have e1 := kd_fams (m := σ.1.length) ka 10
    refine wp_blk kX8_init_22 ?_
    simp only [mxa, vxa, vxb, vxc, vxd, vxe, Nat.reduceAdd, Nat.reduceSub, Nat.reduceLeDiff, Nat.reduceLT, Int32.reduceLT, Int32.reduceLE, Int32.reduceAdd, Int32.reduceSub, Int32.reduceMul, Int32.reduceToNatClampNeg, not_false_eq_true, not_true_eq_false, false_implies, true_implies, Nat.zero_add, reduceIte, Nat.reduceMul, Nat.reduceEqDiff, bX8_init_22, e1]
    refine ⟨fun _ => ?_, fun q => absurd (by decide) q⟩
    refine wp_blk kX8_init_47 ?_
    simp only [mxa, vxa, vxb, vxc, vxd, vxe, Nat.reduceAdd, Nat.reduceSub, Nat.reduceLeDiff, Nat.reduceLT, Int32.reduceLT, Int32.reduceLE, Int32.reduceAdd, Int32.reduceSub, Int32.reduceMul, Int32.reduceToNatClampNeg, not_false_eq_true, not_true_eq_false, false_implies, true_implies, Nat.zero_add, reduceIte, Nat.reduceMul, Nat.reduceEqDiff, bX8_init_47, e1]
    exact hQ'
def outM (σ : Mm) (a : Nat) : Mm := famsM (oneM (oneM (oneM σ a 0 (1, 7)) a 1 (1, 7)) a 2 (5, 8)) (σ.1.length + 2) 8
theorem i_out (X : Cx) (d : Nat) (σ : Mm) (a : Nat) (hk : kd σ a = some (0, 4)) (hl : σ.1.length < 900000) (Q : Po) (hQ : Q none (outM σ a)) : Call X (d + 2) 27 214 mX4_init [.ref a] σ Q := by
  have h1 := kd_one (a := a) (k := 0) (q := (1, 7)) hk
  have h2 := kd_one (a := a) (k := 1) (q := (1, 7)) h1
  have k1 := kd_nw (q := (1, 7)) hk
  have k2 := kd_nw (q := (1, 7)) h1
  have k3 := kd_nw (q := (5, 8)) h2
  simp only [oneM, mxa] at k2 k3
  refine call_of eX4_init rfl ?_
  refine wp_blk kX4_init_0 ?_
  simp only [mxa, vxa, vxb, vxc, vxd, vxe, Nat.reduceAdd, Nat.reduceSub, Nat.reduceLeDiff, Nat.reduceLT, Int32.reduceLT, Int32.reduceLE, Int32.reduceAdd, Int32.reduceSub, Int32.reduceMul, Int32.reduceToNatClampNeg, not_false_eq_true, not_true_eq_false, false_implies, true_implies, Nat.zero_add, reduceIte, Nat.reduceMul, Nat.reduceEqDiff, bX4_init_0, k1, k2, k3]
  refine ⟨by omega, by omega, by omega, ?_⟩
  have e : sR (nw (sR (nw (sR (nw σ (1, 7)) a 0 (some σ.1.length)) (1, 7)) a 1 (some (σ.1.length + 1))) (5, 8)) a 2 (some (σ.1.length + 1 + 1)) = oneM (oneM (oneM σ a 0 (1, 7)) a 1 (1, 7)) a 2 (5, 8) := by simp only [oneM, mxa]
  rw [e]
  have hal : a < σ.1.length := kd_lt hk
  have ka : kd (oneM (oneM (oneM σ a 0 (1, 7)) a 1 (1, 7)) a 2 (5, 8)) a = some (0, 4) := kd_one h2
  have l0 : (oneM (oneM (oneM σ a 0 (1, 7)) a 1 (1, 7)) a 2 (5, 8)).1.length = σ.1.length + 3 := by simp only [len_one]
  have km : kd (oneM (oneM (oneM σ a 0 (1, 7)) a 1 (1, 7)) a 2 (5, 8)) (σ.1.length + 2) = some (5, 8) := by
    have := kd_nw_new (σ := oneM (oneM σ a 0 (1, 7)) a 1 (1, 7)) (q := (5, 8))
    rw [len_one, len_one] at this
    rw [show oneM (oneM (oneM σ a 0 (1, 7)) a 1 (1, 7)) a 2 (5, 8) = sR (nw (oneM (oneM σ a 0 (1, 7)) a 1 (1, 7)) (5, 8)) a 2 (some (oneM (oneM σ a 0 (1, 7)) a 1 (1, 7)).1.length) from rfl, mxa.2.2.1]
    exact this
  have ra : gR (oneM (oneM (oneM σ a 0 (1, 7)) a 1 (1, 7)) a 2 (5, 8)) a 2 = some (σ.1.length + 2) := by
    rw [show oneM (oneM (oneM σ a 0 (1, 7)) a 1 (1, 7)) a 2 (5, 8) = sR (nw (oneM (oneM σ a 0 (1, 7)) a 1 (1, 7)) (5, 8)) a 2 (some (oneM (oneM σ a 0 (1, 7)) a 1 (1, 7)).1.length) from rfl]
    simp only [mxa, len_one]
  have hQ' : Q none (famsM (oneM (oneM (oneM σ a 0 (1, 7)) a 1 (1, 7)) a 2 (5, 8)) (σ.1.length + 2) 8) := hQ
  clear e hQ
  generalize oneM (oneM (oneM σ a 0 (1, 7)) a 1 (1, 7)) a 2 (5, 8) = σ0 at *
  refine wfor (fun k => Wp X mX4_init (rmo (d + 2) 27 214) (d + 2) Q (3 + 3 * k) (22 + 24 * k) 31 [some (.ref a), some (.int (nI k))] [] (famsM σ0 (σ.1.length + 2) k)) 8 (fun k hk10 ih => ?_) ?_
  · have e1 := kd_fams (m := σ.1.length + 2) ka k
    have e2 := kd_fams (m := σ.1.length + 2) km k
    have e3 := gR_fams (m := σ.1.length + 2) (j := 2) (by omega) (by omega : a < σ0.1.length) k
    rw [ra] at e3
    have e4 := kd_nw (q := (0, 2)) e2
    have hlk := len_fams σ0 (σ.1.length + 2) k
    refine wp_blk kX4_init_31 ?_
    simp only [mxa, vxa, vxb, vxc, vxd, vxe, Nat.reduceAdd, Nat.reduceSub, Nat.reduceLeDiff, Nat.reduceLT, Int32.reduceLT, Int32.reduceLE, Int32.reduceAdd, Int32.reduceSub, Int32.reduceMul, Int32.reduceToNatClampNeg, not_false_eq_true, not_true_eq_false, false_implies, true_implies, Nat.zero_add, reduceIte, Nat.reduceMul, Nat.reduceEqDiff, bX4_init_31, e1, e2, e3]
    refine ⟨fun q => absurd q (nI_nlt (a := 7) (b := k) (by omega) (by omega)), fun _ => ⟨by omega, by omega, by omega, by omega, by omega, ?_⟩⟩
    refine i_fam X d _ _ kd_nw_new (by simp only [mxa]; omega) _ ?_
    have e5 : kd (famM (nw (famsM σ0 (σ.1.length + 2) k) (0, 2)) (famsM σ0 (σ.1.length + 2) k).1.length) (σ.1.length + 2) = some (5, 8) := kd_fam e4
    have e6 : kd (famM (nw (famsM σ0 (σ.1.length + 2) k) (0, 2)) (famsM σ0 (σ.1.length + 2) k).1.length) (famsM σ0 (σ.1.length + 2) k).1.length = some (0, 2) := kd_fam kd_nw_new
    simp only [mxa, vxa, vxb, vxc, vxd, vxe, Nat.reduceAdd, Nat.reduceSub, Nat.reduceLeDiff, Nat.reduceLT, Int32.reduceLT, Int32.reduceLE, Int32.reduceAdd, Int32.reduceSub, Int32.reduceMul, Int32.reduceToNatClampNeg, not_false_eq_true, not_true_eq_false, false_implies, true_implies, Nat.zero_add, reduceIte, Nat.reduceMul, Nat.reduceEqDiff, e5, e6]
    refine ⟨vp_lt hk10 (by omega), ?_⟩
    rw [nI_clamp (by omega), ← nI_succ, show 3 + 3 * k + 1 + 2 = 3 + 3 * (k + 1) by omega, show 22 + 24 * k + 9 + 15 = 22 + 24 * (k + 1) by omega]
    exact ih
  · refine wp_blk kX4_init_31 ?_
    simp only [mxa, vxa, vxb, vxc, vxd, vxe, Nat.reduceAdd, Nat.reduceSub, Nat.reduceLeDiff, Nat.reduceLT, Int32.reduceLT, Int32.reduceLE, Int32.reduceAdd, Int32.reduceSub, Int32.reduceMul, Int32.reduceToNatClampNeg, not_false_eq_true, not_true_eq_false, false_implies, true_implies, Nat.zero_add, reduceIte, Nat.reduceMul, Nat.reduceEqDiff, bX4_init_31]
    refine ⟨fun _ => ?_, fun q => absurd (by decide) q⟩
    refine wp_blk kX4_init_56 ?_
    simp only [mxa, vxa, vxb, vxc, vxd, vxe, Nat.reduceAdd, Nat.reduceSub, Nat.reduceLeDiff, Nat.reduceLT, Int32.reduceLT, Int32.reduceLE, Int32.reduceAdd, Int32.reduceSub, Int32.reduceMul, Int32.reduceToNatClampNeg, not_false_eq_true, not_true_eq_false, false_implies, true_implies, Nat.zero_add, reduceIte, Nat.reduceMul, Nat.reduceEqDiff, bX4_init_56]
    exact hQ'
