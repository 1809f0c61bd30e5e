/-! pairs: wish, mill -/
/-- the model's object is told that nothing was thrown -/
abbrev thr (σ : Mm) : Mm := sI σ 190 0 0
theorem thr_192 (σ : Mm) (k : Nat) : gI (thr σ) 191 k = gI σ 191 k := gI_a (by decide)
theorem Fr_thr (σ : Mm) : Fr S1 σ (thr σ) := Fr.sI (Or.inr (Or.inl (by decide)))
theorem h191_thr (σ : Mm) : gI (thr σ) 190 5 = gI σ 190 5 ∧ gI (thr σ) 190 13 = gI σ 190 13 ∧ gI (thr σ) 190 14 = gI σ 190 14 := ⟨gI_k (by decide), gI_k (by decide), gI_k (by decide)⟩
theorem Inv.thr {t : Nat} {σ : Mm} (h : Inv t σ) (ht : t < 512) : Inv (t + 1) (Jvm.Pilot.@@N@@.thr σ) := h.read ht (Fr_thr σ) (h191_thr σ)
theorem ix_cases (f : Int32) (N : Nat) (hN : N ≤ 1000000) : (f < 0 ∨ nI N ≤ f) ∨ ∃ j, j < N ∧ f = nI j := by
  rcases pk_ix f (n := N) (by omega) with h | h | h
  · exact Or.inl (Or.inl h)
  · exact Or.inl (Or.inr h)
  · exact Or.inr h
theorem no_ix {j N : Nat} (hj : j < N) (hN : N ≤ 1000000) : ¬ (nI j < 0 ∨ nI N ≤ nI j) := fun q => q.elim (nI_pos (by omega)) (nI_ge hj (by omega))
theorem rg_cases (n M : Int32) (b : Nat) (hM : M.toInt = b) : n < 0 ∨ (¬ n < 0 ∧ ¬ n ≤ M) ∨ ∃ m : Nat, m ≤ b ∧ n = nI m := by
  by_cases h1 : n < 0
  · exact Or.inl h1
  · by_cases h2 : n ≤ M
    · exact Or.inr (Or.inr (nI_of2 hM h1 h2))
    · exact Or.inr (Or.inl ⟨h1, h2⟩)
theorem wi_r (f : Int32) (z : Int64) (b : Nat) (hb : b ≤ 1000000) (hz : z.toInt = b) : wi f.toInt64 0 z = if f < 0 ∨ ¬ f ≤ nI b then 0 else 1 := by
  simp only [wi, lz]
  have e2 : (nI b).toInt = (b : Int) := nI_toInt (by omega)
  have e3 : f.toInt64 ≤ z ↔ f ≤ nI b := by
    rw [Int64.le_iff_toInt_le, Int32.le_iff_toInt_le, hz, e2]
    simp
  by_cases h : f < 0 ∨ ¬ f ≤ nI b
  · rw [if_pos h, if_neg]
    rintro ⟨h1, h2⟩
    exact h.elim h1 (fun q => q (e3.mp h2))
  · rw [if_neg h, if_pos]
    refine ⟨fun q => h (Or.inl q), e3.mpr (Classical.not_not.mp (fun q => h (Or.inr q)))⟩
/-- a family of the village: its cell, and what the class and the model find there -/
theorem fam_pack {t N O K j : Nat} {σ : Mm} (hI : Inv t σ) (hN : N ≤ 10) (hj : j < N) : (nI j).toNatClampNeg = j ∧ vp_in (nI j) 10 ∧ gR σ 2 j = some (fa σ 1 j) ∧ Fm σ (fa σ 1 j) ∧ (∃ p, p < 10 ∧ fa σ 1 j = 4 + 3 * p) := by
  obtain ⟨g1, g2, p, hp, ep⟩ := fa_ok hI.2.1.1 hI.2.1.2.1 (Or.inl rfl) (hI.2.1.2.2 1 (Or.inl rfl)) (show j < 10 by omega)
  exact ⟨nI_clamp (by omega), vp_lt (by omega) (by omega), g1, g2, p, hp, ep⟩
theorem ofx (c j : Nat) (h : c + j < 2147483648) : (nI c + nI j).toNatClampNeg = c + j := by rw [nI_add]; exact nI_clamp h
theorem vpx {c j n : Nat} (h : c + j < n) (hn : n < 2147483648) : vp_in (nI c + nI j) n := by rw [nI_add]; exact vp_lt h hn
/-- one number of a family is set on both sides -/
theorem Inv.fld {t N O K j jj : Nat} {σ : Mm} {x : Int32} (hI : Inv t σ) (ht : t < 512) (hG : Gd (gI σ 191) t N O K) (hV : VR σ 1 (gI σ 191) N O) (hj : j < N) (hjj : jj < 6) (hb : (jj = 0 → bd x 30) ∧ (jj = 1 → bd x 999) ∧ (jj = 2 → bd x 99)) : Inv (t + 1) (sI (Jvm.Pilot.@@N@@.thr (sI σ (fa σ 1 j) jj x)) 191 (9 + 10 * jj + j) x) := by
  have hN := hG.1.2
  obtain ⟨-, -, -, -, p, hp, ep⟩ := fam_pack (O := O) (K := K) hI hN hj
  have hF : Fr S0 σ (sI (Jvm.Pilot.@@N@@.thr (sI σ (fa σ 1 j) jj x)) 191 (9 + 10 * jj + j) x) := (Fr.tr (Fr.sI (Or.inl (by omega))) (Fr.sI (Or.inr (Or.inl (by decide))))).tr (Fr.sI (Or.inr (Or.inl (by decide))))
  have eV : gI (sI (Jvm.Pilot.@@N@@.thr (sI σ (fa σ 1 j) jj x)) 191 (9 + 10 * jj + j) x) 191 = upd (gI σ 191) (9 + 10 * jj + j) x := by
    rw [gI_sI_192]
    congr 1
    funext k
    rw [thr_192, gI_a (by omega)]
  have e191 : ∀ k, k ≠ 0 → gI (sI (Jvm.Pilot.@@N@@.thr (sI σ (fa σ 1 j) jj x)) 191 (9 + 10 * jj + j) x) 190 k = gI σ 190 k := fun k hk => by rw [gI_a (by decide), gI_k hk, gI_a (by omega)]
  refine hI.step ht hF ⟨e191 _ (by decide), e191 _ (by decide), e191 _ (by decide)⟩ (fun k hk => by rw [eV, upd_n (by omega)]) ⟨N, O, K, ?_, ?_⟩
  · rw [eV]
    exact (hG.fld hjj (by omega) hb).mono (by omega)
  · rw [eV]
    have h1 := hV.fld (x := x) hI.2.1 (Or.inl rfl) hN hG.2.1.2 hjj hj
    refine h1.keep hN ((Fr.sI (S := fun _ => True) trivial).St hI.2.1) (Or.inl rfl) (fun _ _ => rfl) (fun a h2 h3 k => ?_)
    rw [gI_a (by omega), gI_a (by omega)]
theorem pr_mill (X : Cx) (d t : Nat) (σ : Mm) (f n : Int32) (hI : Inv t σ) (ht : t < 512) : Call X (d + 9) 0 0 mX9_mill [.ref 0, .int f, .int n] σ (Eq2 (t + 1) X (d + 9) mX10_mill [.ref 190, .int f, .int n]) := by
  obtain ⟨N, O, K, hG, hV⟩ := hI.2.2.2.1
  have hs := hI.2.1.1
  have hr := hI.2.1.2.1
  have hN := hG.1.1
  have hN10 := hG.1.2
  have e0 : gI σ 1 0 = nI N := hV.1.1.trans hN
  rcases ix_cases f N (by omega) with hf | ⟨j, hj, rfl⟩
  · refine call_of eX9_mill rfl ?_
    refine wp_blk kX9_mill_0 ?_
    simp only [mxa, vxa, vxb, vxc, vxd, vxe, Nat.reduceAdd, Nat.reduceSub, Nat.reduceLeDiff, Nat.reduceLT, Int32.reduceLT, Int32.reduceLE, Int32.reduceAdd, Int32.reduceSub, Int32.reduceMul, Int32.reduceToNatClampNeg, not_false_eq_true, not_true_eq_false, false_implies, true_implies, Nat.zero_add, reduceIte, Nat.reduceMul, Nat.reduceEqDiff, iqx, bX9_mill_0, kdx hs, grx hr]
    refine c_hasFamily_n X _ σ 1 N f (kdx hs).2.2.1 e0 hf _ ?_
    simp only [mxa, vxa, vxb, vxc, vxd, vxe, Nat.reduceAdd, Nat.reduceSub, Nat.reduceLeDiff, Nat.reduceLT, Int32.reduceLT, Int32.reduceLE, Int32.reduceAdd, Int32.reduceSub, Int32.reduceMul, Int32.reduceToNatClampNeg, not_false_eq_true, not_true_eq_false, false_implies, true_implies, Nat.zero_add, reduceIte, Nat.reduceMul, Nat.reduceEqDiff, iqx]
    unfold Eq2
    refine call_of eX10_mill rfl ?_
    refine wp_blk kX10_mill_0 ?_
    simp only [mxa, vxa, vxb, vxc, vxd, vxe, Nat.reduceAdd, Nat.reduceSub, Nat.reduceLeDiff, Nat.reduceLT, Int32.reduceLT, Int32.reduceLE, Int32.reduceAdd, Int32.reduceSub, Int32.reduceMul, Int32.reduceToNatClampNeg, not_false_eq_true, not_true_eq_false, false_implies, true_implies, Nat.zero_add, reduceIte, Nat.reduceMul, Nat.reduceEqDiff, iqx, bX10_mill_0, kdx hs, grx hr]
    refine c_isFamily X _ (thr σ) N f hs hr ((thr_192 σ 0).trans hN) hN10 _ ?_
    rw [if_pos hf]
    simp only [mxa, vxa, vxb, vxc, vxd, vxe, Nat.reduceAdd, Nat.reduceSub, Nat.reduceLeDiff, Nat.reduceLT, Int32.reduceLT, Int32.reduceLE, Int32.reduceAdd, Int32.reduceSub, Int32.reduceMul, Int32.reduceToNatClampNeg, not_false_eq_true, not_true_eq_false, false_implies, true_implies, Nat.zero_add, reduceIte, Nat.reduceMul, Nat.reduceEqDiff, iqx]
    exact ⟨⟨_, rfl, rfl⟩, hI.thr ht⟩
  · obtain ⟨cj, vj, g1, g2, p, hp, ep⟩ := fam_pack (O := O) (K := K) hI hN10 hj
    have fl : gI σ (fa σ 1 j) 1 = gI σ 191 (19 + j) := (hV.2.2 j hj).1 1 (by omega)
    have nj := no_ix hj (by omega)
    refine call_of eX9_mill rfl ?_
    refine wp_blk kX9_mill_0 ?_
    simp only [mxa, vxa, vxb, vxc, vxd, vxe, Nat.reduceAdd, Nat.reduceSub, Nat.reduceLeDiff, Nat.reduceLT, Int32.reduceLT, Int32.reduceLE, Int32.reduceAdd, Int32.reduceSub, Int32.reduceMul, Int32.reduceToNatClampNeg, not_false_eq_true, not_true_eq_false, false_implies, true_implies, Nat.zero_add, reduceIte, Nat.reduceMul, Nat.reduceEqDiff, iqx, bX9_mill_0, kdx hs, grx hr]
    refine c_hasFamily_y X _ σ 1 N j (kdx hs).2.2.1 e0 hj hN10 _ ?_
    simp only [mxa, vxa, vxb, vxc, vxd, vxe, Nat.reduceAdd, Nat.reduceSub, Nat.reduceLeDiff, Nat.reduceLT, Int32.reduceLT, Int32.reduceLE, Int32.reduceAdd, Int32.reduceSub, Int32.reduceMul, Int32.reduceToNatClampNeg, not_false_eq_true, not_true_eq_false, false_implies, true_implies, Nat.zero_add, reduceIte, Nat.reduceMul, Nat.reduceEqDiff, iqx]
    rcases rg_cases n 999 999 rfl with hn | hn | ⟨m, hm, rfl⟩
    · refine wp_blk kX9_mill_14 ?_
      simp only [mxa, vxa, vxb, vxc, vxd, vxe, Nat.reduceAdd, Nat.reduceSub, Nat.reduceLeDiff, Nat.reduceLT, Int32.reduceLT, Int32.reduceLE, Int32.reduceAdd, Int32.reduceSub, Int32.reduceMul, Int32.reduceToNatClampNeg, not_false_eq_true, not_true_eq_false, false_implies, true_implies, Nat.zero_add, reduceIte, Nat.reduceMul, Nat.reduceEqDiff, iqx, bX9_mill_14, hn]
      refine wp_blk kX9_mill_25 ?_
      simp only [mxa, vxa, vxb, vxc, vxd, vxe, Nat.reduceAdd, Nat.reduceSub, Nat.reduceLeDiff, Nat.reduceLT, Int32.reduceLT, Int32.reduceLE, Int32.reduceAdd, Int32.reduceSub, Int32.reduceMul, Int32.reduceToNatClampNeg, not_false_eq_true, not_true_eq_false, false_implies, true_implies, Nat.zero_add, reduceIte, Nat.reduceMul, Nat.reduceEqDiff, iqx, bX9_mill_25]
      unfold Eq2
      refine call_of eX10_mill rfl ?_
      refine wp_blk kX10_mill_0 ?_
      simp only [mxa, vxa, vxb, vxc, vxd, vxe, Nat.reduceAdd, Nat.reduceSub, Nat.reduceLeDiff, Nat.reduceLT, Int32.reduceLT, Int32.reduceLE, Int32.reduceAdd, Int32.reduceSub, Int32.reduceMul, Int32.reduceToNatClampNeg, not_false_eq_true, not_true_eq_false, false_implies, true_implies, Nat.zero_add, reduceIte, Nat.reduceMul, Nat.reduceEqDiff, iqx, bX10_mill_0, kdx hs, grx hr]
      refine c_isFamily X _ (thr σ) N _ hs hr ((thr_192 σ 0).trans hN) hN10 _ ?_
      rw [if_neg nj]
      simp only [mxa, vxa, vxb, vxc, vxd, vxe, Nat.reduceAdd, Nat.reduceSub, Nat.reduceLeDiff, Nat.reduceLT, Int32.reduceLT, Int32.reduceLE, Int32.reduceAdd, Int32.reduceSub, Int32.reduceMul, Int32.reduceToNatClampNeg, not_false_eq_true, not_true_eq_false, false_implies, true_implies, Nat.zero_add, reduceIte, Nat.reduceMul, Nat.reduceEqDiff, iqx]
      refine wp_blk kX10_mill_16 ?_
      simp only [mxa, vxa, vxb, vxc, vxd, vxe, Nat.reduceAdd, Nat.reduceSub, Nat.reduceLeDiff, Nat.reduceLT, Int32.reduceLT, Int32.reduceLE, Int32.reduceAdd, Int32.reduceSub, Int32.reduceMul, Int32.reduceToNatClampNeg, not_false_eq_true, not_true_eq_false, false_implies, true_implies, Nat.zero_add, reduceIte, Nat.reduceMul, Nat.reduceEqDiff, iqx, bX10_mill_16]
      refine c_within X _ _ _ _ _ _ ?_
      rw [wi_r n 999 999 (by omega) rfl, if_pos (Or.inl hn)]
      simp only [mxa, vxa, vxb, vxc, vxd, vxe, Nat.reduceAdd, Nat.reduceSub, Nat.reduceLeDiff, Nat.reduceLT, Int32.reduceLT, Int32.reduceLE, Int32.reduceAdd, Int32.reduceSub, Int32.reduceMul, Int32.reduceToNatClampNeg, not_false_eq_true, not_true_eq_false, false_implies, true_implies, Nat.zero_add, reduceIte, Nat.reduceMul, Nat.reduceEqDiff, iqx]
      exact ⟨⟨_, rfl, rfl⟩, hI.thr ht⟩
    · refine wp_blk kX9_mill_14 ?_
      simp only [mxa, vxa, vxb, vxc, vxd, vxe, Nat.reduceAdd, Nat.reduceSub, Nat.reduceLeDiff, Nat.reduceLT, Int32.reduceLT, Int32.reduceLE, Int32.reduceAdd, Int32.reduceSub, Int32.reduceMul, Int32.reduceToNatClampNeg, not_false_eq_true, not_true_eq_false, false_implies, true_implies, Nat.zero_add, reduceIte, Nat.reduceMul, Nat.reduceEqDiff, iqx, bX9_mill_14, hn.1, hn.2]
      refine wp_blk kX9_mill_25 ?_
      simp only [mxa, vxa, vxb, vxc, vxd, vxe, Nat.reduceAdd, Nat.reduceSub, Nat.reduceLeDiff, Nat.reduceLT, Int32.reduceLT, Int32.reduceLE, Int32.reduceAdd, Int32.reduceSub, Int32.reduceMul, Int32.reduceToNatClampNeg, not_false_eq_true, not_true_eq_false, false_implies, true_implies, Nat.zero_add, reduceIte, Nat.reduceMul, Nat.reduceEqDiff, iqx, bX9_mill_25]
      unfold Eq2
      refine call_of eX10_mill rfl ?_
      refine wp_blk kX10_mill_0 ?_
      simp only [mxa, vxa, vxb, vxc, vxd, vxe, Nat.reduceAdd, Nat.reduceSub, Nat.reduceLeDiff, Nat.reduceLT, Int32.reduceLT, Int32.reduceLE, Int32.reduceAdd, Int32.reduceSub, Int32.reduceMul, Int32.reduceToNatClampNeg, not_false_eq_true, not_true_eq_false, false_implies, true_implies, Nat.zero_add, reduceIte, Nat.reduceMul, Nat.reduceEqDiff, iqx, bX10_mill_0, kdx hs, grx hr]
      refine c_isFamily X _ (thr σ) N _ hs hr ((thr_192 σ 0).trans hN) hN10 _ ?_
      rw [if_neg nj]
      simp only [mxa, vxa, vxb, vxc, vxd, vxe, Nat.reduceAdd, Nat.reduceSub, Nat.reduceLeDiff, Nat.reduceLT, Int32.reduceLT, Int32.reduceLE, Int32.reduceAdd, Int32.reduceSub, Int32.reduceMul, Int32.reduceToNatClampNeg, not_false_eq_true, not_true_eq_false, false_implies, true_implies, Nat.zero_add, reduceIte, Nat.reduceMul, Nat.reduceEqDiff, iqx]
      refine wp_blk kX10_mill_16 ?_
      simp only [mxa, vxa, vxb, vxc, vxd, vxe, Nat.reduceAdd, Nat.reduceSub, Nat.reduceLeDiff, Nat.reduceLT, Int32.reduceLT, Int32.reduceLE, Int32.reduceAdd, Int32.reduceSub, Int32.reduceMul, Int32.reduceToNatClampNeg, not_false_eq_true, not_true_eq_false, false_implies, true_implies, Nat.zero_add, reduceIte, Nat.reduceMul, Nat.reduceEqDiff, iqx, bX10_mill_16]
      refine c_within X _ _ _ _ _ _ ?_
      rw [wi_r n 999 999 (by omega) rfl, if_pos (show n < 0 ∨ ¬ n ≤ nI 999 from Or.inr hn.2)]
      simp only [mxa, vxa, vxb, vxc, vxd, vxe, Nat.reduceAdd, Nat.reduceSub, Nat.reduceLeDiff, Nat.reduceLT, Int32.reduceLT, Int32.reduceLE, Int32.reduceAdd, Int32.reduceSub, Int32.reduceMul, Int32.reduceToNatClampNeg, not_false_eq_true, not_true_eq_false, false_implies, true_implies, Nat.zero_add, reduceIte, Nat.reduceMul, Nat.reduceEqDiff, iqx]
      exact ⟨⟨_, rfl, rfl⟩, hI.thr ht⟩
    · have n1 : ¬ nI m < 0 := nI_pos (by omega)
      have n2 : nI m ≤ 999 := nI_le (b := 999) hm (by omega)
      refine wp_blk kX9_mill_14 ?_
      simp only [mxa, vxa, vxb, vxc, vxd, vxe, Nat.reduceAdd, Nat.reduceSub, Nat.reduceLeDiff, Nat.reduceLT, Int32.reduceLT, Int32.reduceLE, Int32.reduceAdd, Int32.reduceSub, Int32.reduceMul, Int32.reduceToNatClampNeg, not_false_eq_true, not_true_eq_false, false_implies, true_implies, Nat.zero_add, reduceIte, Nat.reduceMul, Nat.reduceEqDiff, iqx, bX9_mill_14, n1, n2]
      refine wp_blk kX9_mill_28 ?_
      simp only [mxa, vxa, vxb, vxc, vxd, vxe, Nat.reduceAdd, Nat.reduceSub, Nat.reduceLeDiff, Nat.reduceLT, Int32.reduceLT, Int32.reduceLE, Int32.reduceAdd, Int32.reduceSub, Int32.reduceMul, Int32.reduceToNatClampNeg, not_false_eq_true, not_true_eq_false, false_implies, true_implies, Nat.zero_add, reduceIte, Nat.reduceMul, Nat.reduceEqDiff, iqx, bX9_mill_28, kdx hs, grx hr, cj, g1, g2.1, fl]
      refine ⟨vj, ?_⟩
      obtain ⟨u, hu, eu⟩ := (hG.2.2.2.2.2.2.1 j hj).2.1
      have ex : ∃ w, w ≤ 999 ∧ imn 999 (gI σ 191 (19 + j) + nI m) = nI w ∧ (¬ gI σ 191 (19 + j) + nI m ≤ 999 → (999 : Int32) = nI w) ∧ (gI σ 191 (19 + j) + nI m ≤ 999 → gI σ 191 (19 + j) + nI m = nI w) := by
        rw [eu, nI_add]
        by_cases hw : u + m < 999
        · exact ⟨u + m, by omega, if_pos (nI_lt (b := 999) hw (by omega)), fun q => absurd (nI_le (b := 999) (by omega) (by omega)) q, fun _ => rfl⟩
        · refine ⟨999, by omega, if_neg (nI_nlt (b := 999) (by omega) (by omega)), fun _ => rfl, fun q => ?_⟩
          have : u + m ≤ 999 := (nI_leI (b := 999) (by omega) (by omega)).mp q
          rw [show u + m = 999 by omega]
      obtain ⟨w, hw, ew, ew1, ew2⟩ := ex
      rw [ew]
      unfold Eq2
      have c192 : ∀ k, gI (thr (sI σ (fa σ 1 j) 1 (nI w))) 191 k = gI σ 191 k := fun k => by rw [thr_192, gI_a (by omega)]
      refine call_of eX10_mill rfl ?_
      refine wp_blk kX10_mill_0 ?_
      simp only [mxa, vxa, vxb, vxc, vxd, vxe, Nat.reduceAdd, Nat.reduceSub, Nat.reduceLeDiff, Nat.reduceLT, Int32.reduceLT, Int32.reduceLE, Int32.reduceAdd, Int32.reduceSub, Int32.reduceMul, Int32.reduceToNatClampNeg, not_false_eq_true, not_true_eq_false, false_implies, true_implies, Nat.zero_add, reduceIte, Nat.reduceMul, Nat.reduceEqDiff, iqx, bX10_mill_0, kdx hs, grx hr]
      refine c_isFamily X _ (thr (sI σ (fa σ 1 j) 1 (nI w))) N _ hs hr ((c192 0).trans hN) hN10 _ ?_
      rw [if_neg nj]
      simp only [mxa, vxa, vxb, vxc, vxd, vxe, Nat.reduceAdd, Nat.reduceSub, Nat.reduceLeDiff, Nat.reduceLT, Int32.reduceLT, Int32.reduceLE, Int32.reduceAdd, Int32.reduceSub, Int32.reduceMul, Int32.reduceToNatClampNeg, not_false_eq_true, not_true_eq_false, false_implies, true_implies, Nat.zero_add, reduceIte, Nat.reduceMul, Nat.reduceEqDiff, iqx]
      refine wp_blk kX10_mill_16 ?_
      simp only [mxa, vxa, vxb, vxc, vxd, vxe, Nat.reduceAdd, Nat.reduceSub, Nat.reduceLeDiff, Nat.reduceLT, Int32.reduceLT, Int32.reduceLE, Int32.reduceAdd, Int32.reduceSub, Int32.reduceMul, Int32.reduceToNatClampNeg, not_false_eq_true, not_true_eq_false, false_implies, true_implies, Nat.zero_add, reduceIte, Nat.reduceMul, Nat.reduceEqDiff, iqx, bX10_mill_16]
      refine c_within X _ _ _ _ _ _ ?_
      rw [wi_r _ 999 999 (by omega) rfl, if_neg (fun q => q.elim n1 (fun z => z n2))]
      simp only [mxa, vxa, vxb, vxc, vxd, vxe, Nat.reduceAdd, Nat.reduceSub, Nat.reduceLeDiff, Nat.reduceLT, Int32.reduceLT, Int32.reduceLE, Int32.reduceAdd, Int32.reduceSub, Int32.reduceMul, Int32.reduceToNatClampNeg, not_false_eq_true, not_true_eq_false, false_implies, true_implies, Nat.zero_add, reduceIte, Nat.reduceMul, Nat.reduceEqDiff, iqx]
      have ix : ((19 : Int32) + nI j).toNatClampNeg = 19 + j := ofx 19 j (by omega)
      have vx : vp_in ((19 : Int32) + nI j) 957 := vpx (c := 19) (by omega) (by omega)
      have fin : Inv (t + 1) (sI (thr (sI σ (fa σ 1 j) 1 (nI w))) 191 (19 + j) (nI w)) := hI.fld ht hG hV hj (jj := 1) (by omega) ⟨by omega, fun _ => ⟨w, hw, rfl⟩, by omega⟩
      refine wp_blk kX10_mill_31 ?_
      simp only [mxa, vxa, vxb, vxc, vxd, vxe, Nat.reduceAdd, Nat.reduceSub, Nat.reduceLeDiff, Nat.reduceLT, Int32.reduceLT, Int32.reduceLE, Int32.reduceAdd, Int32.reduceSub, Int32.reduceMul, Int32.reduceToNatClampNeg, not_false_eq_true, not_true_eq_false, false_implies, true_implies, Nat.zero_add, reduceIte, Nat.reduceMul, Nat.reduceEqDiff, iqx, bX10_mill_31, kdx hs, grx hr, ix, c192]
      refine ⟨vx, fun h62 => ?_, fun h62 => ?_⟩
      · refine wp_blk kX10_mill_62 ?_
        simp only [mxa, vxa, vxb, vxc, vxd, vxe, Nat.reduceAdd, Nat.reduceSub, Nat.reduceLeDiff, Nat.reduceLT, Int32.reduceLT, Int32.reduceLE, Int32.reduceAdd, Int32.reduceSub, Int32.reduceMul, Int32.reduceToNatClampNeg, not_false_eq_true, not_true_eq_false, false_implies, true_implies, Nat.zero_add, reduceIte, Nat.reduceMul, Nat.reduceEqDiff, iqx, bX10_mill_62, kdx hs, grx hr, ix, c192]
        refine ⟨vx, ?_⟩
        rw [ew2 h62]
        refine wp_blk kX10_mill_73 ?_
        simp only [mxa, vxa, vxb, vxc, vxd, vxe, Nat.reduceAdd, Nat.reduceSub, Nat.reduceLeDiff, Nat.reduceLT, Int32.reduceLT, Int32.reduceLE, Int32.reduceAdd, Int32.reduceSub, Int32.reduceMul, Int32.reduceToNatClampNeg, not_false_eq_true, not_true_eq_false, false_implies, true_implies, Nat.zero_add, reduceIte, Nat.reduceMul, Nat.reduceEqDiff, iqx, bX10_mill_73, kdx hs, grx hr, ix]
        exact ⟨vx, vx, ⟨_, rfl, rfl⟩, fin⟩
      · rw [ew1 h62]
        refine wp_blk kX10_mill_73 ?_
        simp only [mxa, vxa, vxb, vxc, vxd, vxe, Nat.reduceAdd, Nat.reduceSub, Nat.reduceLeDiff, Nat.reduceLT, Int32.reduceLT, Int32.reduceLE, Int32.reduceAdd, Int32.reduceSub, Int32.reduceMul, Int32.reduceToNatClampNeg, not_false_eq_true, not_true_eq_false, false_implies, true_implies, Nat.zero_add, reduceIte, Nat.reduceMul, Nat.reduceEqDiff, iqx, bX10_mill_73, kdx hs, grx hr, ix]
        exact ⟨vx, vx, ⟨_, rfl, rfl⟩, fin⟩
