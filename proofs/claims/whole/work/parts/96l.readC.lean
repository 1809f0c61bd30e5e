/-! the text: the class -/
set_option maxRecDepth 20000
theorem adv_le {n b : Nat} {B : Nat → Nat} (h : b ≤ n) : b ≤ tD n B b ∧ tD n B b ≤ n := ⟨Nat.le_trans (tP_le (B := B) h).1 (tE_le (B := B) h).1, (tE_le (B := B) h).2.1⟩
theorem optN_mo {n b k lo H v v' b' : Nat} {B : Nat → Nat} (hb : b ≤ n) (h : optN n B b k lo H v = .inr (v', b')) : b ≤ b' := by
  classical
  by_cases c : tK n B b = k
  · by_cases o : okNum n B (tD n B b) lo H
    · rw [optN_y c o] at h
      cases h
      have a := adv_le (B := B) hb
      have := adv_le (B := B) a.2
      omega
    · rw [optN_f c o] at h; cases h
  · rw [optN_n c] at h
    cases h
    exact Nat.le_refl _
theorem brS_mo {n K : Nat} {B : Nat → Nat} : ∀ f a b m b', b ≤ n → brS n B K f a b = .inr (m, b') → b ≤ b'
  | 0, a, b, m, b', _, h => by cases h
  | f + 1, a, b, m, b', hb, h => by
    classical
    by_cases z : a ≠ 0 ∧ tK n B b ≠ 9
    · rw [brS_e z] at h; cases h; exact Nat.le_refl _
    · by_cases o : okNum n B b 0 100
      · by_cases e : a = K
        · rw [brS_k z o e] at h; cases h
        · rw [brS_y z o e] at h
          have a := adv_le (B := B) hb
          have := brS_mo f _ _ _ _ a.2 h
          omega
      · rw [brS_n z o] at h; cases h
theorem brS_n' {n K : Nat} {B : Nat → Nat} : ∀ f a b m b', b ≤ n → brS n B K f a b = .inr (m, b') → b' ≤ n
  | 0, a, b, m, b', _, h => by cases h
  | f + 1, a, b, m, b', hb, h => by
    classical
    by_cases z : a ≠ 0 ∧ tK n B b ≠ 9
    · rw [brS_e z] at h; cases h; exact hb
    · by_cases o : okNum n B b 0 100
      · by_cases e : a = K
        · rw [brS_k z o e] at h; cases h
        · rw [brS_y z o e] at h
          exact brS_n' f _ _ _ _ (adv_le (B := B) hb).2 h
      · rw [brS_n z o] at h; cases h
theorem optN_n' {n b k lo H v v' b' : Nat} {B : Nat → Nat} (hb : b ≤ n) (h : optN n B b k lo H v = .inr (v', b')) : b' ≤ n := by
  classical
  by_cases c : tK n B b = k
  · by_cases o : okNum n B (tD n B b) lo H
    · rw [optN_y c o] at h
      cases h
      exact (adv_le (B := B) (adv_le (B := B) hb).2).2
    · rw [optN_f c o] at h; cases h
  · rw [optN_n c] at h
    cases h
    exact hb
theorem optB_mo {n K b m b' : Nat} {B : Nat → Nat} (hb : b ≤ n) (h : optB n B K b = .inr (m, b')) : b ≤ b' ∧ b' ≤ n := by
  classical
  unfold optB at h
  by_cases c : tK n B b = 2
  · rw [if_pos c] at h
    have a := adv_le (B := B) hb
    have := brS_mo _ _ _ _ _ a.2 h
    exact ⟨by omega, brS_n' _ _ _ _ _ a.2 h⟩
  · rw [if_neg c] at h
    cases h
    exact ⟨Nat.le_refl _, hb⟩
theorem stS_mo {n N O K b b' : Nat} {B : Nat → Nat} {W W' : Nat → Int32} (hb : b ≤ n) (h : stS n B W N O K b = .inr (W', b')) : tD n B b ≤ b' := by
  classical
  have a := adv_le (B := B) hb
  have a2 := adv_le (B := B) a.2
  have a3 := adv_le (B := B) a2.2
  unfold stS at h
  by_cases k0 : tK n B b = 0
  · rw [if_pos k0] at h
    unfold famS at h
    by_cases c : N = 10
    · rw [if_pos c] at h; cases h
    · rw [if_neg c] at h
      by_cases o : okNum n B (tD n B b) 0 31
      · rw [if_pos o] at h
        cases h1 : optN n B (tD n B (tD n B b)) 1 0 1000 50 with
        | inl e => rw [h1] at h; cases h
        | inr x =>
          obtain ⟨fl, b4⟩ := x
          rw [h1] at h
          have m1 := optN_mo a2.2 h1
          have m1' := optN_n' a2.2 h1
          cases h2 : optB n B K b4 with
          | inl e => simp only [h2] at h; cases h
          | inr x =>
            obtain ⟨m, b6⟩ := x
            simp only [h2] at h
            have m2 := optB_mo m1' h2
            cases h3 : optN n B b6 3 0 100 0 with
            | inl e => simp only [h3] at h; cases h
            | inr x =>
              obtain ⟨w, b8⟩ := x
              simp only [h3] at h
              have m3 := optN_mo m2.2 h3
              cases h
              omega
      · rw [if_neg o] at h; cases h
  · rw [if_neg k0] at h
    by_cases k4 : tK n B b = 4
    · rw [if_pos k4] at h
      unfold ovS at h
      by_cases c : O = 3
      · rw [if_pos c] at h; cases h
      · rw [if_neg c] at h
        by_cases o : okNum n B (tD n B b) 1 61
        · rw [if_pos o] at h; cases h; exact a2.1
        · rw [if_neg o] at h; cases h
    · rw [if_neg k4] at h
      by_cases k5 : tK n B b = 5
      · rw [if_pos k5] at h
        unfold quS at h
        by_cases o : okNum n B (tD n B b) 0 N
        · rw [if_pos o] at h
          by_cases s : tK n B (tD n B (tD n B b)) = 9 ∧ vN n B (tD n B (tD n B b)) = vN n B (tD n B b)
          · rw [if_pos s] at h; cases h
          · rw [if_neg s] at h
            by_cases o2 : okNum n B (tD n B (tD n B b)) 0 N
            · rw [if_pos o2] at h; cases h; omega
            · rw [if_neg o2] at h; cases h
        · rw [if_neg o] at h; cases h
      · rw [if_neg k5] at h
        by_cases k6 : tK n B b = 6
        · rw [if_pos k6] at h
          unfold keS at h
          by_cases c : N = 0
          · rw [if_pos c] at h
            by_cases o : okNum n B (tD n B b) 1 6
            · rw [if_pos o] at h; cases h; exact a2.1
            · rw [if_neg o] at h; cases h
          · rw [if_neg c] at h; cases h
        · rw [if_neg k6] at h
          by_cases k7 : tK n B b = 7
          · rw [if_pos k7] at h
            unfold fuS at h
            by_cases o : okNum n B (tD n B b) 0 1000
            · rw [if_pos o] at h; cases h; exact a2.1
            · rw [if_neg o] at h; cases h
          · rw [if_neg k7] at h; cases h
/-- a village of which nothing is told -/
def plV (i : Nat) : Int32 := if i = 3 then nI 3 else if i = 4 then nI 20 else nI 0
theorem pl_FV : FV plV 0 0 3 := by
  have z : ∀ i, i ≠ 3 → i ≠ 4 → plV i = nI 0 := fun i h1 h2 => by unfold plV; rw [if_neg h1, if_neg h2]
  refine ⟨⟨⟨z 0 (by omega) (by omega), by omega⟩, ⟨z 1 (by omega) (by omega), by omega⟩, ⟨rfl, by omega, by omega⟩, ⟨20, by omega, rfl⟩, ⟨0, by omega, z 2 (by omega) (by omega)⟩, fun o ho => absurd ho (by omega), fun f hf => absurd hf (by omega), fun f hf => absurd hf (by omega), ⟨fun f g hf hg => ?_, fun f hf => ?_, fun f g hf hg _ => ?_⟩, fun f g hf hg => ?_⟩, fun j f hj _ hf => ?_, fun f a _ hf ha => ?_⟩
  · rw [z _ (by omega) (by omega), z _ (by omega) (by omega)]; exact ⟨Or.inl rfl, rfl⟩
  · exact z _ (by omega) (by omega)
  · exact z _ (by omega) (by omega)
  · rw [z _ (by omega) (by omega)]; exact ⟨⟨0, by omega, rfl⟩, fun _ => rfl⟩
  · exact z _ (by omega) (by omega)
  · exact z _ (by omega) (by omega)
theorem c_vreset (X : Cx) (d : Nat) (σ : Mm) (hs : Sh σ) (Q : Po) (hQ : ∀ τ : Mm, Fr (fun c => c = 34) σ τ → gI τ 34 0 = nI 0 → gI τ 34 1 = nI 0 → gI τ 34 2 = nI 3 → gI τ 34 3 = nI 20 → gI τ 34 4 = nI 0 → gI τ 34 5 = nI 0 → Q none τ) : Call X d 0 0 mX8_reset [.ref 34] σ Q := by
  refine call_of eX8_reset rfl ?_
  refine wp_blk kX8_reset_0 ?_
  simp (disch := first | decide | omega) only [mxa, vxa, vxb, vxc, vnd, vne, Nat.reduceAdd, Nat.reduceSub, Nat.reduceLeDiff, Nat.reduceLT, Int32.reduceLT, Int32.reduceLE, Int32.reduceAdd, Int32.reduceSub, Int32.reduceMul, Int32.reduceToNatClampNeg, not_false_eq_true, not_true_eq_false, false_implies, true_implies, Nat.zero_add, reduceIte, Nat.reduceMul, Nat.reduceEqDiff, nxa, nxc, lgn, nL_of, swx, Int.reduceAdd, gI_a, gI_k, gL_a, gL_k, gI_r, gL_r, nI_and, nI_or, nI_xor, nI_ndf, nI_shl, nI_shr, ne_eq, and_true, true_and, eq_self, true_or, or_true, false_or, or_false, Option.toList, List.cons_append, List.nil_append, List.length_nil, List.length_cons, Nat.not_lt_zero, bX8_reset_0, kdx hs]
  refine hQ _ ((((((Fr.sI (S := fun c => c = 34) rfl).tr (Fr.sI rfl)).tr (Fr.sI rfl)).tr (Fr.sI rfl)).tr (Fr.sI rfl)).tr (Fr.sI rfl)) ?_ ?_ ?_ ?_ ?_ ?_ <;> simp (disch := first | decide | omega) only [mxa, vxa, vxb, vxc, vnd, vne, Nat.reduceAdd, Nat.reduceSub, Nat.reduceLeDiff, Nat.reduceLT, Int32.reduceLT, Int32.reduceLE, Int32.reduceAdd, Int32.reduceSub, Int32.reduceMul, Int32.reduceToNatClampNeg, not_false_eq_true, not_true_eq_false, false_implies, true_implies, Nat.zero_add, reduceIte, Nat.reduceMul, Nat.reduceEqDiff, nxa, nxc, lgn, nL_of, swx, Int.reduceAdd, gI_a, gI_k, gL_a, gL_k, gI_r, gL_r, nI_and, nI_or, nI_xor, nI_ndf, nI_shl, nI_shr, ne_eq, and_true, true_and, eq_self, true_or, or_true, false_or, or_false, Option.toList, List.cons_append, List.nil_append, List.length_nil, List.length_cons, Nat.not_lt_zero]
theorem sb_fit : ∀ m, m < 256 → fits .byte (.int (sb m)) = true := by decide
def FrX (σ τ : Mm) : Prop := Fr (fun c => (34 ≤ c ∧ c ≤ 66) ∨ c = 144) σ τ
theorem VR.line {σ : Mm} {W : Nat → Int32} {N O : Nat} {x : Int32} (hst : St σ) (hN : N ≤ 10) (hO : O ≤ 3) (h : VR σ 34 W N O) : VR (sI σ 34 5 x) 34 (upd W 5 x) N O := by
  obtain ⟨⟨v1, v2, v3, v4, v5, v6⟩, v7, -⟩ := id h
  refine VR.mid hst hN h (fun _ _ => rfl) (fun a z1 z2 k => gI_a (by omega)) (fun i hi => upd_n (by omega)) ⟨?_, ?_, ?_, ?_, ?_, ?_⟩ (fun z hz => ?_)
  · rw [gI_k (by decide), upd_n (by omega)]; exact v1
  · rw [gI_k (by decide), upd_n (by omega)]; exact v2
  · rw [gI_k (by decide), upd_n (by omega)]; exact v3
  · rw [gI_k (by decide), upd_n (by omega)]; exact v4
  · rw [gI_k (by decide), upd_n (by omega)]; exact v5
  · rw [gI_same, upd_s]
  · rw [gI_a (by omega), upd_n (by omega)]; exact v7 z hz
theorem c_readC (X : Cx) (d : Nat) (σ : Mm) (n T : Nat) (B : Nat → Nat) (hst : St σ) (hn : n ≤ 900) (hnT : n ≤ T) (hT9 : T ≤ 900) (hT1 : gI σ 144 0 = nI T) (hB : ∀ i, B i < 256) (ht : ∀ i, i < n → gI σ 145 i = sb (B i)) (Q : Po) (hf : ∀ k p, rdS n B (n + 2) plV 0 = .inl (k, p) → ∀ τ : Mm, FrX σ τ → gI τ 144 0 = nI 0 → gI τ 144 1 = nI k → gI τ 144 2 = nI p → 1 ≤ k → k ≤ 4 → Q none τ) (hy : ∀ W N O K, rdS n B (n + 2) plV 0 = .inr W → ∀ τ : Mm, FrX σ τ → gI τ 144 0 = nI 0 → gI τ 144 1 = nI 0 → gI τ 144 2 = -1 → VR τ 34 W N O → FV W N O K → Q none τ) : Call X (d + 12) 0 0 mX5_read [.ref 144, .int (nI n), .ref 34] σ Q := by
  have hs := hst.1
  have hr := hst.2.1
  have i2 : imn (nI n) (nI T) = nI n := by
    rw [imn_nn (by omega) (by omega)]
    split
    · congr 1; omega
    · rfl
  have i3 : imx (nI 0) (nI n) = nI n := by
    rw [imx_nn (by omega) (by omega)]
    split
    · rfl
    · congr 1; omega
  have exit : ∀ (i : Nat) (τ : Mm), Q none τ → Wp X mX5_read (rmo (d + 12) 0 0) (d + 12) Q 0 0 89 [some (.ref 144), some (.int (nI n)), some (.ref 34), some (.int (nI i))] [] τ := fun i τ q => by
    refine wp_blk kX5_read_89 ?_
    simp (disch := first | decide | omega) only [mxa, vxa, vxb, vxc, vnd, vne, Nat.reduceAdd, Nat.reduceSub, Nat.reduceLeDiff, Nat.reduceLT, Int32.reduceLT, Int32.reduceLE, Int32.reduceAdd, Int32.reduceSub, Int32.reduceMul, Int32.reduceToNatClampNeg, not_false_eq_true, not_true_eq_false, false_implies, true_implies, Nat.zero_add, reduceIte, Nat.reduceMul, Nat.reduceEqDiff, nxa, nxc, lgn, nL_of, swx, Int.reduceAdd, gI_a, gI_k, gL_a, gL_k, gI_r, gL_r, nI_and, nI_or, nI_xor, nI_ndf, nI_shl, nI_shr, ne_eq, and_true, true_and, eq_self, true_or, or_true, false_or, or_false, Option.toList, List.cons_append, List.nil_append, List.length_nil, List.length_cons, Nat.not_lt_zero, bX5_read_89]
    exact q
  have loop : ∀ σ1 : Mm, FrX σ σ1 → TX σ1 n B → gI σ1 144 2 = -1 → gI σ1 144 0 = nI 0 → ∀ f i b W N O K, rdS n B f W b = rdS n B (n + 2) plV 0 → n + 2 ≤ f + b → i ≤ b → b ≤ n → ∀ τ : Mm, UCs σ1 τ n B b W N O K → Wp X mX5_read (rmo (d + 12) 0 0) (d + 12) Q 0 0 46 [some (.ref 144), some (.int (nI n)), some (.ref 34), some (.int (nI i))] [] τ := by
    intro σ1 F1 T1 p1 p0 f
    have st1 := F1.St hst
    induction f with
    | zero => intro i b W N O K _ h1 h2 h3; omega
    | succ f ih =>
      intro i b W N O K hr1 hfb hib hbn τ h
      obtain ⟨F, hb, hC, h0, hV, hF⟩ := id h
      have sF := F.1.St st1
      have st := sF.1
      have tT := T1.keepR F
      obtain ⟨kl, -, -, k11⟩ := tK_le (n := n) (B := B) (b := b)
      have cl := cc_le _ kl
      have FX : FrX σ τ := Fr.tr F1 (F.1.mono (fun c q => by omega))
      by_cases e : tK n B b = 11
      · have c0 : cc (tK n B b) = 0 := by rw [e]; rfl
        have q := hy W N O K (hr1.symm.trans (rdS_e e)) τ FX (F.2.1.2.trans p0) h0 ((F.2.2 h0).2.trans p1) hV hF
        refine wp_blk kX5_read_46 ?_
        simp (disch := first | decide | omega) only [mxa, vxa, vxb, vxc, vnd, vne, Nat.reduceAdd, Nat.reduceSub, Nat.reduceLeDiff, Nat.reduceLT, Int32.reduceLT, Int32.reduceLE, Int32.reduceAdd, Int32.reduceSub, Int32.reduceMul, Int32.reduceToNatClampNeg, not_false_eq_true, not_true_eq_false, false_implies, true_implies, Nat.zero_add, reduceIte, Nat.reduceMul, Nat.reduceEqDiff, nxa, nxc, lgn, nL_of, swx, Int.reduceAdd, gI_a, gI_k, gL_a, gL_k, gI_r, gL_r, nI_and, nI_or, nI_xor, nI_ndf, nI_shl, nI_shr, ne_eq, and_true, true_and, eq_self, true_or, or_true, false_or, or_false, Option.toList, List.cons_append, List.nil_append, List.length_nil, List.length_cons, Nat.not_lt_zero, bX5_read_46, kdx st, tT.1, hC.2.2.1, c0, show ¬ n < i by omega]
        exact exit i τ q
      · have c0 : ¬ cc (tK n B b) = 0 := fun z => e ((cc_is kl (show 9 ≤ 11 ∧ 11 ≤ 12 by omega)).mp (z.trans rfl))
        obtain ⟨n0, n1, n3⟩ := hF.nums
        have pn : tP n B b < n := Classical.byContradiction (fun z => e (k11.mpr z))
        refine wp_blk kX5_read_46 ?_
        simp (disch := first | decide | omega) only [mxa, vxa, vxb, vxc, vnd, vne, Nat.reduceAdd, Nat.reduceSub, Nat.reduceLeDiff, Nat.reduceLT, Int32.reduceLT, Int32.reduceLE, Int32.reduceAdd, Int32.reduceSub, Int32.reduceMul, Int32.reduceToNatClampNeg, not_false_eq_true, not_true_eq_false, false_implies, true_implies, Nat.zero_add, reduceIte, Nat.reduceMul, Nat.reduceEqDiff, nxa, nxc, lgn, nL_of, swx, Int.reduceAdd, gI_a, gI_k, gL_a, gL_k, gI_r, gL_r, nI_and, nI_or, nI_xor, nI_ndf, nI_shl, nI_shr, ne_eq, and_true, true_and, eq_self, true_or, or_true, false_or, or_false, Option.toList, List.cons_append, List.nil_append, List.length_nil, List.length_cons, Nat.not_lt_zero, bX5_read_46, kdx st, tT.1, hC.2.2.1, c0, h0, show ¬ n < i by omega]
        refine c_readLineC X _ τ n b N O K B W sF tT hb hC h0 hV hF _ (fun k p hl τ2 h2 => ?_) (fun W0 b0 N' O' K' hs0 h10 τ2 hb0 h2 => ?_)
        · obtain ⟨G, ⟨b2, hb2, C2⟩, u0, u1, uk⟩ := id h2
          have s2 := G.1.Sh st
          have T2 := tT.keepR G
          have cl2 := cc_le _ (tK_le (n := n) (B := B) (b := b2)).1
          have q := hf k p (hr1.symm.trans (rdS_f e (by rw [n0, n1, n3]; exact hl))) (sI τ2 34 5 (gI τ2 34 5 + nI 1)) ((Fr.tr FX (G.1.mono (fun c q => by omega))).tr (Fr.sI (by omega))) ((gI_a (by omega)).trans (G.2.1.2.trans (F.2.1.2.trans p0))) ((gI_a (by omega)).trans u0) ((gI_a (by omega)).trans u1) uk.1 uk.2
          simp (disch := first | decide | omega) only [mxa, vxa, vxb, vxc, vnd, vne, Nat.reduceAdd, Nat.reduceSub, Nat.reduceLeDiff, Nat.reduceLT, Int32.reduceLT, Int32.reduceLE, Int32.reduceAdd, Int32.reduceSub, Int32.reduceMul, Int32.reduceToNatClampNeg, not_false_eq_true, not_true_eq_false, false_implies, true_implies, Nat.zero_add, reduceIte, Nat.reduceMul, Nat.reduceEqDiff, nxa, nxc, lgn, nL_of, swx, Int.reduceAdd, gI_a, gI_k, gL_a, gL_k, gI_r, gL_r, nI_and, nI_or, nI_xor, nI_ndf, nI_shl, nI_shr, ne_eq, and_true, true_and, eq_self, true_or, or_true, false_or, or_false, Option.toList, List.cons_append, List.nil_append, List.length_nil, List.length_cons, Nat.not_lt_zero, kdx s2]
          by_cases y : n < i + 1
          · refine wp_blk kX5_read_46 ?_
            simp (disch := first | decide | omega) only [mxa, vxa, vxb, vxc, vnd, vne, Nat.reduceAdd, Nat.reduceSub, Nat.reduceLeDiff, Nat.reduceLT, Int32.reduceLT, Int32.reduceLE, Int32.reduceAdd, Int32.reduceSub, Int32.reduceMul, Int32.reduceToNatClampNeg, not_false_eq_true, not_true_eq_false, false_implies, true_implies, Nat.zero_add, reduceIte, Nat.reduceMul, Nat.reduceEqDiff, nxa, nxc, lgn, nL_of, swx, Int.reduceAdd, gI_a, gI_k, gL_a, gL_k, gI_r, gL_r, nI_and, nI_or, nI_xor, nI_ndf, nI_shl, nI_shr, ne_eq, and_true, true_and, eq_self, true_or, or_true, false_or, or_false, Option.toList, List.cons_append, List.nil_append, List.length_nil, List.length_cons, Nat.not_lt_zero, bX5_read_46, kdx s2, T2.1, y]
            exact exit _ _ q
          · by_cases z : cc (tK n B b2) = 0
            · refine wp_blk kX5_read_46 ?_
              simp (disch := first | decide | omega) only [mxa, vxa, vxb, vxc, vnd, vne, Nat.reduceAdd, Nat.reduceSub, Nat.reduceLeDiff, Nat.reduceLT, Int32.reduceLT, Int32.reduceLE, Int32.reduceAdd, Int32.reduceSub, Int32.reduceMul, Int32.reduceToNatClampNeg, not_false_eq_true, not_true_eq_false, false_implies, true_implies, Nat.zero_add, reduceIte, Nat.reduceMul, Nat.reduceEqDiff, nxa, nxc, lgn, nL_of, swx, Int.reduceAdd, gI_a, gI_k, gL_a, gL_k, gI_r, gL_r, nI_and, nI_or, nI_xor, nI_ndf, nI_shl, nI_shr, ne_eq, and_true, true_and, eq_self, true_or, or_true, false_or, or_false, Option.toList, List.cons_append, List.nil_append, List.length_nil, List.length_cons, Nat.not_lt_zero, bX5_read_46, kdx s2, T2.1, C2.2.2.1, y, z]
              exact exit _ _ q
            · refine wp_blk kX5_read_46 ?_
              simp (disch := first | decide | omega) only [mxa, vxa, vxb, vxc, vnd, vne, Nat.reduceAdd, Nat.reduceSub, Nat.reduceLeDiff, Nat.reduceLT, Int32.reduceLT, Int32.reduceLE, Int32.reduceAdd, Int32.reduceSub, Int32.reduceMul, Int32.reduceToNatClampNeg, not_false_eq_true, not_true_eq_false, false_implies, true_implies, Nat.zero_add, reduceIte, Nat.reduceMul, Nat.reduceEqDiff, nxa, nxc, lgn, nL_of, swx, Int.reduceAdd, gI_a, gI_k, gL_a, gL_k, gI_r, gL_r, nI_and, nI_or, nI_xor, nI_ndf, nI_shl, nI_shr, ne_eq, and_true, true_and, eq_self, true_or, or_true, false_or, or_false, Option.toList, List.cons_append, List.nil_append, List.length_nil, List.length_cons, Nat.not_lt_zero, bX5_read_46, kdx s2, T2.1, C2.2.2.1, y, z, u0, show ¬ k = 0 by omega]
              exact exit _ _ q
        · obtain ⟨G, hb2, C2, u0, V2, F2⟩ := id h2
          have s2 := G.1.St sF
          have mo := stS_mo hb hs0
          have g1 := (tE_le (B := B) hb).2.2 pn
          have g2 := adv_le (B := B) hb0
          have g3 := (tP_le (B := B) hb).1
          have w5 : gI τ2 34 5 = W0 5 := V2.1.2.2.2.2.2
          simp (disch := first | decide | omega) only [mxa, vxa, vxb, vxc, vnd, vne, Nat.reduceAdd, Nat.reduceSub, Nat.reduceLeDiff, Nat.reduceLT, Int32.reduceLT, Int32.reduceLE, Int32.reduceAdd, Int32.reduceSub, Int32.reduceMul, Int32.reduceToNatClampNeg, not_false_eq_true, not_true_eq_false, false_implies, true_implies, Nat.zero_add, reduceIte, Nat.reduceMul, Nat.reduceEqDiff, nxa, nxc, lgn, nL_of, swx, Int.reduceAdd, gI_a, gI_k, gL_a, gL_k, gI_r, gL_r, nI_and, nI_or, nI_xor, nI_ndf, nI_shl, nI_shr, ne_eq, and_true, true_and, eq_self, true_or, or_true, false_or, or_false, Option.toList, List.cons_append, List.nil_append, List.length_nil, List.length_cons, Nat.not_lt_zero, kdx s2.1, w5]
          refine ih (i + 1) (tD n B b0) (upd W0 5 (W0 5 + nI 1)) N' O' K' ?_ (by omega) (by omega) hb2 _ ⟨(F.tr G).tr (FrR.sI (by omega) (by omega)), hb2, C2.mv (fun j _ => gI_a (by omega)), (gI_a (by omega)).trans u0, VR.line s2 F2.1.1.2 F2.1.2.1.2 V2, F2.line _⟩
          rw [← rdS_y e (by rw [n0, n1, n3]; exact liS_y hs0 h10)]
          exact hr1
  refine call_of eX5_read rfl ?_
  refine wp_blk kX5_read_0 ?_
  simp (disch := first | decide | omega) only [mxa, vxa, vxb, vxc, vnd, vne, Nat.reduceAdd, Nat.reduceSub, Nat.reduceLeDiff, Nat.reduceLT, Int32.reduceLT, Int32.reduceLE, Int32.reduceAdd, Int32.reduceSub, Int32.reduceMul, Int32.reduceToNatClampNeg, not_false_eq_true, not_true_eq_false, false_implies, true_implies, Nat.zero_add, reduceIte, Nat.reduceMul, Nat.reduceEqDiff, nxa, nxc, lgn, nL_of, swx, Int.reduceAdd, gI_a, gI_k, gL_a, gL_k, gI_r, gL_r, nI_and, nI_or, nI_xor, nI_ndf, nI_shl, nI_shr, ne_eq, and_true, true_and, eq_self, true_or, or_true, false_or, or_false, Option.toList, List.cons_append, List.nil_append, List.length_nil, List.length_cons, Nat.not_lt_zero, bX5_read_0, kdx hs, grx hr, hT1, i2, i3]
  have m3 : gI (sI (sI (sI (sI (sI σ 144 4 (nI n)) 144 0 (nI 0)) 144 1 (nI 0)) 144 2 (-1)) 144 8 (nI 0)) 144 4 = nI n := by
    rw [gI_k (by decide), gI_k (by decide), gI_k (by decide), gI_k (by decide), gI_same]
  have mz : gI (sI (sI (sI (sI (sI σ 144 4 (nI n)) 144 0 (nI 0)) 144 1 (nI 0)) 144 2 (-1)) 144 8 (nI 0)) 144 0 = nI 0 := by
    rw [gI_k (by decide), gI_k (by decide), gI_k (by decide), gI_same]
  have m0 : gI (sI (sI (sI (sI (sI σ 144 4 (nI n)) 144 0 (nI 0)) 144 1 (nI 0)) 144 2 (-1)) 144 8 (nI 0)) 144 1 = nI 0 := by
    rw [gI_k (by decide), gI_k (by decide), gI_same]
  have m1 : gI (sI (sI (sI (sI (sI σ 144 4 (nI n)) 144 0 (nI 0)) 144 1 (nI 0)) 144 2 (-1)) 144 8 (nI 0)) 144 2 = -1 := by
    rw [gI_k (by decide), gI_same]
  have m7 : gI (sI (sI (sI (sI (sI σ 144 4 (nI n)) 144 0 (nI 0)) 144 1 (nI 0)) 144 2 (-1)) 144 8 (nI 0)) 144 8 = nI 0 := gI_same _ _ _ _
  have mx : ∀ i, i < n → gI (sI (sI (sI (sI (sI σ 144 4 (nI n)) 144 0 (nI 0)) 144 1 (nI 0)) 144 2 (-1)) 144 8 (nI 0)) 145 i = sb (B i) := fun i hi => by
    rw [gI_a (by decide), gI_a (by decide), gI_a (by decide), gI_a (by decide), gI_a (by decide)]
    exact ht i hi
  have mF : FrX σ (sI (sI (sI (sI (sI σ 144 4 (nI n)) 144 0 (nI 0)) 144 1 (nI 0)) 144 2 (-1)) 144 8 (nI 0)) := ((((Fr.sI (by omega)).tr (Fr.sI (by omega))).tr (Fr.sI (by omega))).tr (Fr.sI (by omega))).tr (Fr.sI (by omega))
  generalize sI (sI (sI (sI (sI σ 144 4 (nI n)) 144 0 (nI 0)) 144 1 (nI 0)) 144 2 (-1)) 144 8 (nI 0) = μ at *
  refine c_vreset X _ μ (mF.Sh hs) _ (fun τ1 R1 r0 r1 r2 r3 r4 r5 => ?_)
  have F1 : FrX σ τ1 := Fr.tr mF (R1.mono (fun c q => by omega))
  have s1 := F1.Sh hs
  have o1 : ∀ j, gI τ1 144 j = gI μ 144 j := fun j => R1.2.2.1 144 (by omega) j
  have T1 : TX τ1 n B := ⟨(o1 4).trans m3, hn, hB, fun i hi => (R1.2.2.1 145 (by omega) i).trans (mx i hi)⟩
  simp (disch := first | decide | omega) only [mxa, vxa, vxb, vxc, vnd, vne, Nat.reduceAdd, Nat.reduceSub, Nat.reduceLeDiff, Nat.reduceLT, Int32.reduceLT, Int32.reduceLE, Int32.reduceAdd, Int32.reduceSub, Int32.reduceMul, Int32.reduceToNatClampNeg, not_false_eq_true, not_true_eq_false, false_implies, true_implies, Nat.zero_add, reduceIte, Nat.reduceMul, Nat.reduceEqDiff, nxa, nxc, lgn, nL_of, swx, Int.reduceAdd, gI_a, gI_k, gL_a, gL_k, gI_r, gL_r, nI_and, nI_or, nI_xor, nI_ndf, nI_shl, nI_shr, ne_eq, and_true, true_and, eq_self, true_or, or_true, false_or, or_false, Option.toList, List.cons_append, List.nil_append, List.length_nil, List.length_cons, Nat.not_lt_zero, kdx s1]
  refine c_advance X _ τ1 n 0 B s1 (F1.Rf hr) T1 (Nat.zero_le _) ((o1 8).trans m7) _ (fun τ2 F2 C2 => ?_)
  simp (disch := first | decide | omega) only [mxa, vxa, vxb, vxc, vnd, vne, Nat.reduceAdd, Nat.reduceSub, Nat.reduceLeDiff, Nat.reduceLT, Int32.reduceLT, Int32.reduceLE, Int32.reduceAdd, Int32.reduceSub, Int32.reduceMul, Int32.reduceToNatClampNeg, not_false_eq_true, not_true_eq_false, false_implies, true_implies, Nat.zero_add, reduceIte, Nat.reduceMul, Nat.reduceEqDiff, nxa, nxc, lgn, nL_of, swx, Int.reduceAdd, gI_a, gI_k, gL_a, gL_k, gI_r, gL_r, nI_and, nI_or, nI_xor, nI_ndf, nI_shl, nI_shr, ne_eq, and_true, true_and, eq_self, true_or, or_true, false_or, or_false, Option.toList, List.cons_append, List.nil_append, List.length_nil, List.length_cons, Nat.not_lt_zero]
  have o2 : ∀ j, gI τ2 34 j = gI τ1 34 j := fun j => F2.1.2.2.1 34 (by omega) j
  refine loop τ1 F1 T1 ((o1 2).trans m1) ((o1 0).trans mz) (n + 2) 0 0 plV 0 0 3 rfl (by omega) (by omega) (Nat.zero_le _) τ2 ⟨F2.R, Nat.zero_le _, C2, (F2.2 1 (by omega)).trans ((o1 1).trans m0), ⟨⟨(o2 0).trans r0, (o2 1).trans r1, (o2 4).trans r4, (o2 2).trans r2, (o2 3).trans r3, (o2 5).trans r5⟩, fun o ho => absurd ho (by omega), fun f hf => absurd hf (by omega)⟩, pl_FV⟩
