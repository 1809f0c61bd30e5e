/-! how calls keep the invariant; small methods -/
def S0 (a : Nat) : Prop := (1 ≤ a ∧ a ≤ 66) ∨ (146 ≤ a ∧ a ≤ 191) ∨ (194 ≤ a ∧ a ≤ 209)
def S1 (a : Nat) : Prop := (34 ≤ a ∧ a ≤ 66) ∨ (146 ≤ a ∧ a ≤ 190) ∨ (194 ≤ a ∧ a ≤ 209)
theorem S1_S0 (a : Nat) (h : S1 a) : S0 a := by
  unfold S1 at h
  unfold S0
  omega
theorem Inv.step {t : Nat} {σ σ' : Mm} (h : Inv t σ) (ht : t < 512) (hF : Fr S0 σ σ') (h191 : gI σ' 190 5 = gI σ 190 5 ∧ gI σ' 190 13 = gI σ 190 13 ∧ gI σ' 190 14 = gI σ 190 14) (hV : ∀ k, 319 ≤ k → gI σ' 191 k = gI σ 191 k) (hG : ∃ N O K, Gd (gI σ' 191) (t + 1) N O K ∧ VR σ' 1 (gI σ' 191) N O) : Inv (t + 1) σ' := by
  obtain ⟨-, hS, ⟨⟨T, t1, t2, t3, t4⟩, t5, t6, t7⟩, -, hI, hR⟩ := h
  have n : ∀ a, (a < 1 ∨ (67 ≤ a ∧ a ≤ 145) ∨ a = 192 ∨ a = 193 ∨ 210 ≤ a) → ∀ k, gI σ' a k = gI σ a k := fun a ha => hF.2.2.1 a (by unfold S0; omega)
  have nL : ∀ a, (a < 1 ∨ (67 ≤ a ∧ a ≤ 145) ∨ a = 192 ∨ a = 193 ∨ 210 ≤ a) → ∀ k, gL σ' a k = gL σ a k := fun a ha => hF.2.2.2 a (by unfold S0; omega)
  refine ⟨by omega, hF.St hS, ⟨⟨T, t1, by rw [n 144 (by omega)]; exact t2, by rw [h191.1]; exact t3, fun k hk => by rw [n 193 (by omega), n 145 (by omega)]; exact t4 k hk⟩, fun k => by rw [n 145 (by omega)]; exact t5 k, by rw [n 144 (by omega), h191.2.1]; exact t6, by rw [n 144 (by omega), h191.2.2]; exact t7⟩, hG, fun i hi => ?_, fun r hr => ?_⟩
  · have e : (fun k => gI σ' 191 (319 * (i + 1) + k)) = fun k => gI σ 191 (319 * (i + 1) + k) := funext fun k => hV _ (by omega)
    rcases hI i hi with ⟨a, b⟩ | ⟨a, b, N, O, K, g1, g2⟩
    · exact Or.inl ⟨by rw [n 68 (by omega)]; exact a, by rw [n 192 (by omega)]; exact b⟩
    · refine Or.inr ⟨by rw [n 68 (by omega)]; exact a, by rw [n 192 (by omega)]; exact b, N, O, K, by rw [e]; exact g1.mono (by omega), ?_⟩
      rw [e]
      exact g2.keep g1.1.2 hS (by rcases (by omega : i = 0 ∨ i = 1) with rfl | rfl <;> simp [isV]) (hF.gR) (fun a h1 h2 => n a (by omega))
  · rcases hR r hr with ⟨a, b⟩ | ⟨a, ⟨q, q1, q2, q3⟩, m, m1, m2, m3, m4⟩
    · exact Or.inl ⟨by rw [n _ (by omega)]; exact a, by rw [n 210 (by omega)]; exact b⟩
    · exact Or.inr ⟨by rw [n _ (by omega)]; exact a, ⟨q, q1, by rw [n _ (by omega)]; exact q2, by rw [n 210 (by omega)]; exact q3⟩, m, m1, by rw [n _ (by omega)]; exact m2, by rw [n 211 (by omega)]; exact m3, fun k hk => by rw [nL _ (by omega), nL 212 (by omega)]; exact m4 k hk⟩
/-- a call that changes nothing that is seen -/
theorem Inv.read {t : Nat} {σ σ' : Mm} (h : Inv t σ) (ht : t < 512) (hF : Fr S1 σ σ') (h191 : gI σ' 190 5 = gI σ 190 5 ∧ gI σ' 190 13 = gI σ 190 13 ∧ gI σ' 190 14 = gI σ 190 14) : Inv (t + 1) σ' := by
  have n : ∀ a, (1 ≤ a ∧ a ≤ 33) ∨ a = 191 → ∀ k, gI σ' a k = gI σ a k := fun a ha => hF.2.2.1 a (by unfold S1; omega)
  obtain ⟨N, O, K, g1, g2⟩ := h.2.2.2.1
  have e : gI σ' 191 = gI σ 191 := funext fun k => n 191 (by omega) k
  refine h.step ht (hF.mono S1_S0) h191 (fun k _ => n 191 (by omega) k) ⟨N, O, K, by rw [e]; exact g1.mono (by omega), ?_⟩
  rw [e]
  exact g2.keep g1.1.2 h.2.1 (Or.inl rfl) hF.gR (fun a h1 h2 => n a (by omega))
/-- both sides answer the same, the invariant holds -/
def Eq2 (t : Nat) (X : Cx) (d : Nat) (M : MI) (av : List Value) : Po := fun r σ1 => Call X d 0 0 M av σ1 (fun r' σ2 => (∃ z : Int32, r = some (.int z) ∧ r' = some (.int z)) ∧ Inv t σ2)
theorem c_hasFamily_y (X : Cx) (d : Nat) (σ : Mm) (v N j : Nat) (hk : kd σ v = some (0, 8)) (hN : gI σ v 0 = nI N) (hj : j < N) (hN2 : N ≤ 10) (Q : Po) (hQ : Q (some (.int 1)) σ) : Call X d 0 0 mX8_hasFamily [.ref v, .int (nI j)] σ Q := by
  have h1 : ¬ nI j < 0 := nI_pos (by omega)
  have h2 : ¬ nI N ≤ nI j := nI_ge hj (by omega)
  refine call_of eX8_hasFamily rfl ?_
  refine wp_blk kX8_hasFamily_0 ?_
  simp only [mxa, vxa, vxb, vxc, vxd, vxe, Nat.reduceAdd, Nat.reduceSub, Nat.reduceLeDiff, Nat.reduceLT, Int32.reduceLT, Int32.reduceLE, Int32.reduceAdd, Int32.reduceSub, Int32.reduceMul, Int32.reduceToNatClampNeg, not_false_eq_true, not_true_eq_false, false_implies, true_implies, Nat.zero_add, reduceIte, Nat.reduceMul, Nat.reduceEqDiff, bX8_hasFamily_0, hk, hN, h1, h2]
  refine wp_blk kX8_hasFamily_17 ?_
  simp only [mxa, vxa, vxb, vxc, vxd, vxe, Nat.reduceAdd, Nat.reduceSub, Nat.reduceLeDiff, Nat.reduceLT, Int32.reduceLT, Int32.reduceLE, Int32.reduceAdd, Int32.reduceSub, Int32.reduceMul, Int32.reduceToNatClampNeg, not_false_eq_true, not_true_eq_false, false_implies, true_implies, Nat.zero_add, reduceIte, Nat.reduceMul, Nat.reduceEqDiff, bX8_hasFamily_17]
  exact ⟨Or.inr trivial, hQ⟩
theorem c_hasFamily_n (X : Cx) (d : Nat) (σ : Mm) (v N : Nat) (f : Int32) (hk : kd σ v = some (0, 8)) (hN : gI σ v 0 = nI N) (hf : f < 0 ∨ nI N ≤ f) (Q : Po) (hQ : Q (some (.int 0)) σ) : Call X d 0 0 mX8_hasFamily [.ref v, .int f] σ Q := by
  have key : Wp X mX8_hasFamily (rmo d 0 0) d Q 0 0 16 [some (.ref v), some (.int f)] [] σ := by
    refine wp_blk kX8_hasFamily_16 ?_
    simp only [mxa, vxa, vxb, vxc, vxd, vxe, Nat.reduceAdd, Nat.reduceSub, Nat.reduceLeDiff, Nat.reduceLT, Int32.reduceLT, Int32.reduceLE, Int32.reduceAdd, Int32.reduceSub, Int32.reduceMul, Int32.reduceToNatClampNeg, not_false_eq_true, not_true_eq_false, false_implies, true_implies, Nat.zero_add, reduceIte, Nat.reduceMul, Nat.reduceEqDiff, bX8_hasFamily_16]
    refine wp_blk kX8_hasFamily_17 ?_
    simp only [mxa, vxa, vxb, vxc, vxd, vxe, Nat.reduceAdd, Nat.reduceSub, Nat.reduceLeDiff, Nat.reduceLT, Int32.reduceLT, Int32.reduceLE, Int32.reduceAdd, Int32.reduceSub, Int32.reduceMul, Int32.reduceToNatClampNeg, not_false_eq_true, not_true_eq_false, false_implies, true_implies, Nat.zero_add, reduceIte, Nat.reduceMul, Nat.reduceEqDiff, bX8_hasFamily_17]
    exact ⟨Or.inl trivial, hQ⟩
  refine call_of eX8_hasFamily rfl ?_
  refine wp_blk kX8_hasFamily_0 ?_
  simp only [mxa, vxa, vxb, vxc, vxd, vxe, Nat.reduceAdd, Nat.reduceSub, Nat.reduceLeDiff, Nat.reduceLT, Int32.reduceLT, Int32.reduceLE, Int32.reduceAdd, Int32.reduceSub, Int32.reduceMul, Int32.reduceToNatClampNeg, not_false_eq_true, not_true_eq_false, false_implies, true_implies, Nat.zero_add, reduceIte, Nat.reduceMul, Nat.reduceEqDiff, bX8_hasFamily_0, hk, hN]
  exact ⟨fun _ => key, fun h0 => ⟨fun _ => key, fun h1 => absurd hf (fun q => q.elim h0 h1)⟩⟩
def wi (a b c : Int64) : Int32 := if b ≤ a ∧ a ≤ c then 1 else 0
theorem lgc_lt (a b : Int64) : lg_cmp a b < 0 ↔ a < b := by
  unfold lg_cmp
  by_cases h1 : b < a
  · simp [h1, Int64.not_lt.mpr (Int64.le_of_lt h1)]
  · by_cases h2 : a = b
    · simp [h2]
    · have : a < b := Int64.lt_of_le_of_ne (Int64.not_lt.mp h1) h2
      simp [h1, h2, this]
theorem lgc_gt (a b : Int64) : 0 < lg_cmp a b ↔ b < a := by
  unfold lg_cmp
  by_cases h1 : b < a
  · simp [h1]
  · by_cases h2 : a = b
    · simp [h2]
    · simp [h1, h2]
theorem c_within (X : Cx) (d : Nat) (σ : Mm) (a b c : Int64) (Q : Po) (hQ : Q (some (.int (wi a b c))) σ) : Call X d 0 0 mX10_within [.long a, .long b, .long c] σ Q := by
  have key : ¬ (b ≤ a ∧ a ≤ c) → Wp X mX10_within (rmo d 0 0) d Q 0 0 17 [some (.long a), none, some (.long b), none, some (.long c), none] [] σ := by
    intro h
    have e : wi a b c = 0 := if_neg h
    rw [e] at hQ
    refine wp_blk kX10_within_17 ?_
    simp only [mxa, vxa, vxb, vxc, vxd, vxe, Nat.reduceAdd, Nat.reduceSub, Nat.reduceLeDiff, Nat.reduceLT, Int32.reduceLT, Int32.reduceLE, Int32.reduceAdd, Int32.reduceSub, Int32.reduceMul, Int32.reduceToNatClampNeg, not_false_eq_true, not_true_eq_false, false_implies, true_implies, Nat.zero_add, reduceIte, Nat.reduceMul, Nat.reduceEqDiff, bX10_within_17]
    refine wp_blk kX10_within_18 ?_
    simp only [mxa, vxa, vxb, vxc, vxd, vxe, Nat.reduceAdd, Nat.reduceSub, Nat.reduceLeDiff, Nat.reduceLT, Int32.reduceLT, Int32.reduceLE, Int32.reduceAdd, Int32.reduceSub, Int32.reduceMul, Int32.reduceToNatClampNeg, not_false_eq_true, not_true_eq_false, false_implies, true_implies, Nat.zero_add, reduceIte, Nat.reduceMul, Nat.reduceEqDiff, bX10_within_18]
    exact ⟨Or.inl trivial, hQ⟩
  refine call_of eX10_within rfl ?_
  refine wp_blk kX10_within_0 ?_
  simp only [mxa, vxa, vxb, vxc, vxd, vxe, Nat.reduceAdd, Nat.reduceSub, Nat.reduceLeDiff, Nat.reduceLT, Int32.reduceLT, Int32.reduceLE, Int32.reduceAdd, Int32.reduceSub, Int32.reduceMul, Int32.reduceToNatClampNeg, not_false_eq_true, not_true_eq_false, false_implies, true_implies, Nat.zero_add, reduceIte, Nat.reduceMul, Nat.reduceEqDiff, bX10_within_0, lgc_lt, lgc_gt]
  refine ⟨fun h => key (fun q => absurd h (Int64.not_lt.mpr q.1)), fun h => ⟨fun h2 => key (fun q => absurd h2 (Int64.not_lt.mpr q.2)), fun h2 => ?_⟩⟩
  have e : wi a b c = 1 := if_pos ⟨Int64.not_lt.mp h, Int64.not_lt.mp h2⟩
  rw [e] at hQ
  refine wp_blk kX10_within_18 ?_
  simp only [mxa, vxa, vxb, vxc, vxd, vxe, Nat.reduceAdd, Nat.reduceSub, Nat.reduceLeDiff, Nat.reduceLT, Int32.reduceLT, Int32.reduceLE, Int32.reduceAdd, Int32.reduceSub, Int32.reduceMul, Int32.reduceToNatClampNeg, not_false_eq_true, not_true_eq_false, false_implies, true_implies, Nat.zero_add, reduceIte, Nat.reduceMul, Nat.reduceEqDiff, bX10_within_18]
  exact ⟨Or.inr trivial, hQ⟩
theorem lz (f : Int32) : (0 : Int64) ≤ f.toInt64 ↔ ¬ f < 0 := by
  rw [Int64.le_iff_toInt_le, Int32.lt_iff_toInt_lt]
  simp
theorem ll (f g : Int32) : f.toInt64 ≤ g.toInt64 ↔ f ≤ g := by
  rw [Int64.le_iff_toInt_le, Int32.le_iff_toInt_le]
  simp
theorem wi_n (f : Int32) (N : Nat) (hN : N ≤ 1000000) : wi f.toInt64 0 (nI N - 1).toInt64 = if f < 0 ∨ nI N ≤ f then 0 else 1 := by
  simp only [wi, lz, ll]
  have e1 : (nI N - 1).toInt = (N : Int) - 1 := by
    have := pk_sub_toInt (a := N) (b := 1) (by omega) (by omega)
    exact this
  have e2 : (nI N).toInt = (N : Int) := nI_toInt (by omega)
  by_cases h : f < 0 ∨ nI N ≤ f
  · rw [if_pos h, if_neg]
    rintro ⟨h1, h2⟩
    rcases h with h | h
    · exact h1 h
    · rw [Int32.le_iff_toInt_le] at h h2
      omega
  · rw [if_neg h, if_pos]
    refine ⟨fun q => h (Or.inl q), ?_⟩
    have h3 : ¬ nI N ≤ f := fun q => h (Or.inr q)
    rw [Int32.le_iff_toInt_le] at h3 ⊢
    omega
theorem c_isFamily (X : Cx) (d : Nat) (σ : Mm) (N : Nat) (f : Int32) (hs : Sh σ) (hr : Rf σ) (hN : gI σ 191 0 = nI N) (hN2 : N ≤ 10) (Q : Po) (hQ : Q (some (.int (if f < 0 ∨ nI N ≤ f then 0 else 1))) σ) : Call X (d + 1) 0 0 mX10_isFamily [.ref 190, .int f] σ Q := by
  refine call_of eX10_isFamily rfl ?_
  refine wp_blk kX10_isFamily_0 ?_
  simp only [mxa, vxa, vxb, vxc, vxd, vxe, Nat.reduceAdd, Nat.reduceSub, Nat.reduceLeDiff, Nat.reduceLT, Int32.reduceLT, Int32.reduceLE, Int32.reduceAdd, Int32.reduceSub, Int32.reduceMul, Int32.reduceToNatClampNeg, not_false_eq_true, not_true_eq_false, false_implies, true_implies, Nat.zero_add, reduceIte, Nat.reduceMul, Nat.reduceEqDiff, bX10_isFamily_0, kdx hs, grx hr, hN]
  refine ⟨vpd (by decide), ?_⟩
  refine c_within X d σ _ _ _ _ ?_
  simp only [mxa, vxa, vxb, vxc, vxd, vxe, Nat.reduceAdd, Nat.reduceSub, Nat.reduceLeDiff, Nat.reduceLT, Int32.reduceLT, Int32.reduceLE, Int32.reduceAdd, Int32.reduceSub, Int32.reduceMul, Int32.reduceToNatClampNeg, not_false_eq_true, not_true_eq_false, false_implies, true_implies, Nat.zero_add, reduceIte, Nat.reduceMul, Nat.reduceEqDiff]
  rw [wi_n f N (by omega)]
  exact ⟨by split <;> simp, hQ⟩
