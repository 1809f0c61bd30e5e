/-! fires: baking -/
set_option maxRecDepth 20000
theorem nL_i (n : Nat) : (nL n).toInt32 = nI n := by
  first
  | exact lN_i n
  | (apply Int32.toBitVec_inj.mp; simp [nL, nI])
theorem nL_and (a b : Nat) : nL a &&& nL b = nL (a &&& b) := by
  apply Int64.toBitVec_inj.mp
  simp only [Int64.toBitVec_and, nL_bv]
  apply BitVec.eq_of_getLsbD_eq
  intro i hi
  simp [BitVec.getLsbD_ofNat, hi]
theorem sh_al (g : Nat) (h : g < 64) : (nL g &&& 63).toBitVec.smod 64 = BitVec.ofNat 64 g := by
  have : ∀ g, g < 64 → (nL g &&& 63).toBitVec.smod 64 = BitVec.ofNat 64 g := by decide +kernel
  exact this g h
theorem nL_shl (a g : Nat) (h : g < 64) : nL a <<< (nL g &&& 63) = nL (a * 2 ^ g) := by
  apply Int64.toBitVec_inj.mp
  rw [Int64.toBitVec_shiftLeft, sh_al g h, nL_bv, nL_bv]
  apply BitVec.eq_of_toNat_eq
  simp only [BitVec.shiftLeft_eq', BitVec.toNat_shiftLeft, BitVec.toNat_ofNat, Nat.shiftLeft_eq]
  rw [Nat.mod_eq_of_lt (show g < 2 ^ 64 by omega)]
  simp [Nat.mul_mod]
theorem nL_shr (a g : Nat) (ha : a < 9223372036854775808) (h : g < 64) : nL a >>> (nL g &&& 63) = nL (a / 2 ^ g) := by
  apply Int64.toBitVec_inj.mp
  rw [Int64.toBitVec_shiftRight, sh_al g h, nL_bv, nL_bv]
  have hm : (BitVec.ofNat 64 a).msb = false := by
    rw [BitVec.msb_eq_decide]
    simp only [BitVec.toNat_ofNat]
    rw [Nat.mod_eq_of_lt (by omega)]
    simp
    omega
  rw [BitVec.sshiftRight_eq', BitVec.sshiftRight_eq_of_msb_false hm]
  apply BitVec.eq_of_toNat_eq
  simp only [BitVec.toNat_ushiftRight, BitVec.toNat_ofNat, Nat.shiftRight_eq_div_pow]
  rw [Nat.mod_eq_of_lt (show g < 2 ^ 64 by omega), Nat.mod_eq_of_lt (show a < 2 ^ 64 by omega), Nat.mod_eq_of_lt]
  exact Nat.lt_of_le_of_lt (Nat.div_le_self _ _) (by omega)
theorem c_isIn (X : Cx) (d : Nat) (σ : Mm) (s k : Nat) (hs : s < 2147483648) (hk : k < 32) (Q : Po) (hQ : Q (some (.int (nI (if s.testBit k then 1 else 0)))) σ) : Call X d 0 0 mX10_isIn [.long (nL s), .int (nI k)] σ Q := by
  by_cases h : s.testBit k = true
  · rw [if_pos h] at hQ
    refine call_of eX10_isIn rfl ?_
    refine wp_blk kX10_isIn_0 ?_
    simp (disch := first | decide | omega) only [mxa, vxa, vxb, vxc, vnd, vne, Nat.reduceAdd, Nat.reduceSub, Nat.reduceLeDiff, Nat.reduceLT, Int32.reduceLT, Int32.reduceLE, Int32.reduceAdd, Int32.reduceSub, Int32.reduceMul, Int32.reduceToNatClampNeg, not_false_eq_true, not_true_eq_false, false_implies, true_implies, Nat.zero_add, reduceIte, Nat.reduceMul, Nat.reduceEqDiff, nxa, nxc, lgn, nL_of, swx, Int.reduceAdd, gI_a, gI_k, gL_a, gL_k, gI_r, gL_r, nI_and, nI_or, nI_xor, nI_ndf, nI_shl, nI_shr, ne_eq, and_true, true_and, eq_self, true_or, or_true, false_or, or_false, Option.toList, List.cons_append, List.nil_append, List.length_nil, List.length_cons, Nat.not_lt_zero, bX10_isIn_0, nL_shr, nL_and, and_one_bit, h, Bool.false_eq_true]
    repeat (first | ((with_reducible refine wp_blk kX10_isIn_0 ?_); simp (disch := first | decide | omega) only [mxa, vxa, vxb, vxc, vnd, vne, Nat.reduceAdd, Nat.reduceSub, Nat.reduceLeDiff, Nat.reduceLT, Int32.reduceLT, Int32.reduceLE, Int32.reduceAdd, Int32.reduceSub, Int32.reduceMul, Int32.reduceToNatClampNeg, not_false_eq_true, not_true_eq_false, false_implies, true_implies, Nat.zero_add, reduceIte, Nat.reduceMul, Nat.reduceEqDiff, nxa, nxc, lgn, nL_of, swx, Int.reduceAdd, gI_a, gI_k, gL_a, gL_k, gI_r, gL_r, nI_and, nI_or, nI_xor, nI_ndf, nI_shl, nI_shr, ne_eq, and_true, true_and, eq_self, true_or, or_true, false_or, or_false, Option.toList, List.cons_append, List.nil_append, List.length_nil, List.length_cons, Nat.not_lt_zero, bX10_isIn_0]) | ((with_reducible refine wp_blk kX10_isIn_14 ?_); simp (disch := first | decide | omega) only [mxa, vxa, vxb, vxc, vnd, vne, Nat.reduceAdd, Nat.reduceSub, Nat.reduceLeDiff, Nat.reduceLT, Int32.reduceLT, Int32.reduceLE, Int32.reduceAdd, Int32.reduceSub, Int32.reduceMul, Int32.reduceToNatClampNeg, not_false_eq_true, not_true_eq_false, false_implies, true_implies, Nat.zero_add, reduceIte, Nat.reduceMul, Nat.reduceEqDiff, nxa, nxc, lgn, nL_of, swx, Int.reduceAdd, gI_a, gI_k, gL_a, gL_k, gI_r, gL_r, nI_and, nI_or, nI_xor, nI_ndf, nI_shl, nI_shr, ne_eq, and_true, true_and, eq_self, true_or, or_true, false_or, or_false, Option.toList, List.cons_append, List.nil_append, List.length_nil, List.length_cons, Nat.not_lt_zero, bX10_isIn_14]) | ((with_reducible refine wp_blk kX10_isIn_15 ?_); simp (disch := first | decide | omega) only [mxa, vxa, vxb, vxc, vnd, vne, Nat.reduceAdd, Nat.reduceSub, Nat.reduceLeDiff, Nat.reduceLT, Int32.reduceLT, Int32.reduceLE, Int32.reduceAdd, Int32.reduceSub, Int32.reduceMul, Int32.reduceToNatClampNeg, not_false_eq_true, not_true_eq_false, false_implies, true_implies, Nat.zero_add, reduceIte, Nat.reduceMul, Nat.reduceEqDiff, nxa, nxc, lgn, nL_of, swx, Int.reduceAdd, gI_a, gI_k, gL_a, gL_k, gI_r, gL_r, nI_and, nI_or, nI_xor, nI_ndf, nI_shl, nI_shr, ne_eq, and_true, true_and, eq_self, true_or, or_true, false_or, or_false, Option.toList, List.cons_append, List.nil_append, List.length_nil, List.length_cons, Nat.not_lt_zero, bX10_isIn_15]))
    exact hQ
  · rw [if_neg h] at hQ
    refine call_of eX10_isIn rfl ?_
    refine wp_blk kX10_isIn_0 ?_
    simp (disch := first | decide | omega) only [mxa, vxa, vxb, vxc, vnd, vne, Nat.reduceAdd, Nat.reduceSub, Nat.reduceLeDiff, Nat.reduceLT, Int32.reduceLT, Int32.reduceLE, Int32.reduceAdd, Int32.reduceSub, Int32.reduceMul, Int32.reduceToNatClampNeg, not_false_eq_true, not_true_eq_false, false_implies, true_implies, Nat.zero_add, reduceIte, Nat.reduceMul, Nat.reduceEqDiff, nxa, nxc, lgn, nL_of, swx, Int.reduceAdd, gI_a, gI_k, gL_a, gL_k, gI_r, gL_r, nI_and, nI_or, nI_xor, nI_ndf, nI_shl, nI_shr, ne_eq, and_true, true_and, eq_self, true_or, or_true, false_or, or_false, Option.toList, List.cons_append, List.nil_append, List.length_nil, List.length_cons, Nat.not_lt_zero, bX10_isIn_0, nL_shr, nL_and, and_one_bit, h, Bool.false_eq_true]
    repeat (first | ((with_reducible refine wp_blk kX10_isIn_0 ?_); simp (disch := first | decide | omega) only [mxa, vxa, vxb, vxc, vnd, vne, Nat.reduceAdd, Nat.reduceSub, Nat.reduceLeDiff, Nat.reduceLT, Int32.reduceLT, Int32.reduceLE, Int32.reduceAdd, Int32.reduceSub, Int32.reduceMul, Int32.reduceToNatClampNeg, not_false_eq_true, not_true_eq_false, false_implies, true_implies, Nat.zero_add, reduceIte, Nat.reduceMul, Nat.reduceEqDiff, nxa, nxc, lgn, nL_of, swx, Int.reduceAdd, gI_a, gI_k, gL_a, gL_k, gI_r, gL_r, nI_and, nI_or, nI_xor, nI_ndf, nI_shl, nI_shr, ne_eq, and_true, true_and, eq_self, true_or, or_true, false_or, or_false, Option.toList, List.cons_append, List.nil_append, List.length_nil, List.length_cons, Nat.not_lt_zero, bX10_isIn_0]) | ((with_reducible refine wp_blk kX10_isIn_14 ?_); simp (disch := first | decide | omega) only [mxa, vxa, vxb, vxc, vnd, vne, Nat.reduceAdd, Nat.reduceSub, Nat.reduceLeDiff, Nat.reduceLT, Int32.reduceLT, Int32.reduceLE, Int32.reduceAdd, Int32.reduceSub, Int32.reduceMul, Int32.reduceToNatClampNeg, not_false_eq_true, not_true_eq_false, false_implies, true_implies, Nat.zero_add, reduceIte, Nat.reduceMul, Nat.reduceEqDiff, nxa, nxc, lgn, nL_of, swx, Int.reduceAdd, gI_a, gI_k, gL_a, gL_k, gI_r, gL_r, nI_and, nI_or, nI_xor, nI_ndf, nI_shl, nI_shr, ne_eq, and_true, true_and, eq_self, true_or, or_true, false_or, or_false, Option.toList, List.cons_append, List.nil_append, List.length_nil, List.length_cons, Nat.not_lt_zero, bX10_isIn_14]) | ((with_reducible refine wp_blk kX10_isIn_15 ?_); simp (disch := first | decide | omega) only [mxa, vxa, vxb, vxc, vnd, vne, Nat.reduceAdd, Nat.reduceSub, Nat.reduceLeDiff, Nat.reduceLT, Int32.reduceLT, Int32.reduceLE, Int32.reduceAdd, Int32.reduceSub, Int32.reduceMul, Int32.reduceToNatClampNeg, not_false_eq_true, not_true_eq_false, false_implies, true_implies, Nat.zero_add, reduceIte, Nat.reduceMul, Nat.reduceEqDiff, nxa, nxc, lgn, nL_of, swx, Int.reduceAdd, gI_a, gI_k, gL_a, gL_k, gI_r, gL_r, nI_and, nI_or, nI_xor, nI_ndf, nI_shl, nI_shr, ne_eq, and_true, true_and, eq_self, true_or, or_true, false_or, or_false, Option.toList, List.cons_append, List.nil_append, List.length_nil, List.length_cons, Nat.not_lt_zero, bX10_isIn_15]))
    exact hQ
theorem c_fuelFor (X : Cx) (d : Nat) (σ : Mm) (v F l z o : Nat) (hv : kd σ v = some (0, 8)) (hv3 : kd σ (v + 2) = some (1, 3)) (hv5 : gR σ v 7 = some (v + 2)) (ho : o < 3) (hz : gI σ (v + 2) o = nI z) (hF : gI σ v 3 = nI F) (z1 : 1 ≤ z) (z2 : z ≤ 60) (hb : F ≤ 999) (hl : l ≤ 999) (Q : Po) (hQ : Q (some (.int (nI (F * l / z)))) σ) : Call X d 0 0 mX8_fuelFor [.ref v, .int (nI l), .int (nI o)] σ Q := by
  have : F * l ≤ 999 * 999 := Nat.mul_le_mul hb hl
  refine call_of eX8_fuelFor rfl ?_
  refine wp_blk kX8_fuelFor_0 ?_
  simp (disch := first | decide | omega) only [mxa, vxa, vxb, vxc, vnd, vne, Nat.reduceAdd, Nat.reduceSub, Nat.reduceLeDiff, Nat.reduceLT, Int32.reduceLT, Int32.reduceLE, Int32.reduceAdd, Int32.reduceSub, Int32.reduceMul, Int32.reduceToNatClampNeg, not_false_eq_true, not_true_eq_false, false_implies, true_implies, Nat.zero_add, reduceIte, Nat.reduceMul, Nat.reduceEqDiff, nxa, nxc, lgn, nL_of, swx, Int.reduceAdd, gI_a, gI_k, gL_a, gL_k, gI_r, gL_r, nI_and, nI_or, nI_xor, nI_ndf, nI_shl, nI_shr, ne_eq, and_true, true_and, eq_self, true_or, or_true, false_or, or_false, Option.toList, List.cons_append, List.nil_append, List.length_nil, List.length_cons, Nat.not_lt_zero, bX8_fuelFor_0, hv, hv3, hv5, hz, z1]
  refine wp_blk kX8_fuelFor_16 ?_
  simp (disch := first | decide | omega) only [mxa, vxa, vxb, vxc, vnd, vne, Nat.reduceAdd, Nat.reduceSub, Nat.reduceLeDiff, Nat.reduceLT, Int32.reduceLT, Int32.reduceLE, Int32.reduceAdd, Int32.reduceSub, Int32.reduceMul, Int32.reduceToNatClampNeg, not_false_eq_true, not_true_eq_false, false_implies, true_implies, Nat.zero_add, reduceIte, Nat.reduceMul, Nat.reduceEqDiff, nxa, nxc, lgn, nL_of, swx, Int.reduceAdd, gI_a, gI_k, gL_a, gL_k, gI_r, gL_r, nI_and, nI_or, nI_xor, nI_ndf, nI_shl, nI_shr, ne_eq, and_true, true_and, eq_self, true_or, or_true, false_or, or_false, Option.toList, List.cons_append, List.nil_append, List.length_nil, List.length_cons, Nat.not_lt_zero, bX8_fuelFor_16, hv, hF, pk_div, show ¬ z = 0 by omega]
  refine wp_blk kX8_fuelFor_24 ?_
  simp (disch := first | decide | omega) only [mxa, vxa, vxb, vxc, vnd, vne, Nat.reduceAdd, Nat.reduceSub, Nat.reduceLeDiff, Nat.reduceLT, Int32.reduceLT, Int32.reduceLE, Int32.reduceAdd, Int32.reduceSub, Int32.reduceMul, Int32.reduceToNatClampNeg, not_false_eq_true, not_true_eq_false, false_implies, true_implies, Nat.zero_add, reduceIte, Nat.reduceMul, Nat.reduceEqDiff, nxa, nxc, lgn, nL_of, swx, Int.reduceAdd, gI_a, gI_k, gL_a, gL_k, gI_r, gL_r, nI_and, nI_or, nI_xor, nI_ndf, nI_shl, nI_shr, ne_eq, and_true, true_and, eq_self, true_or, or_true, false_or, or_false, Option.toList, List.cons_append, List.nil_append, List.length_nil, List.length_cons, Nat.not_lt_zero, bX8_fuelFor_24]
  exact hQ
def bkS (F z : Nat) (l : Nat → Nat) (V : Nat → Int32) (f : Nat) : Nat → Int32 := upd (upd (upd V (19 + f) (nI (flN V f - l f))) (69 + 5 * f) (V (69 + 5 * f) + nI (l f))) (39 + f) (V (39 + f) + nI (F * l f / z))
def bkV (F z : Nat) (l : Nat → Nat) (V : Nat → Int32) : Nat → Nat → Int32
  | 0 => V
  | n + 1 => bkS F z l (bkV F z l V n) n
theorem bkV_off {F z j : Nat} {l : Nat → Nat} {V : Nat → Int32} : ∀ n, (∀ f, f < n → j ≠ 19 + f ∧ j ≠ 69 + 5 * f ∧ j ≠ 39 + f) → bkV F z l V n j = V j
  | 0, _ => rfl
  | n + 1, h => by
    obtain ⟨h1, h2, h3⟩ := h n (by omega)
    show bkS F z l (bkV F z l V n) n j = V j
    unfold bkS
    rw [upd_n h3, upd_n h2, upd_n h1]
    exact bkV_off n (fun f hf => h f (by omega))
/-- the numbers of one family -/
theorem bkV_own {F z j f : Nat} {l : Nat → Nat} {V : Nat → Int32} (n : Nat) (hn : n ≤ f) (hf : f < 10) (hj : j = 19 + f ∨ j = 39 + f ∨ j = 69 + 5 * f) : bkV F z l V n j = V j := bkV_off n (fun g hg => by omega)
theorem bkV_VR {τ : Mm} {V : Nat → Int32} {v N O f : Nat} {x y z : Int32} (hs : St τ) (hv : isV v) (hV : VR τ v V N O) (hN : N ≤ 10) (hO : O ≤ 3) (hf : f < N) : VR (sI (sI (sI τ (fa τ v f) 1 x) (fa τ v f + 1) 0 y) (fa τ v f) 3 z) v (upd (upd (upd V (19 + f) x) (69 + 5 * f) y) (39 + f) z) N O := by
  have v1 := hV.fld (jj := 1) (f := f) (x := x) hs hv hN hO (by omega) hf
  have s1 := (Fr.sI (S := fun _ => True) (a := fa τ v f) (k := 1) (v := x) trivial).St hs
  have v2 := v1.brd (f := f) (g := 0) (x := y) s1 hv hN hO (by omega) hf
  have s2 := (Fr.sI (S := fun _ => True) (a := fa τ v f + 1) (k := 0) (v := y) trivial).St s1
  exact v2.fld (jj := 3) (f := f) (x := z) s2 hv hN hO (by omega) hf
theorem c_bake (X : Cx) (d : Nat) (σ : Mm) (v : Nat) (V : Nat → Int32) (t N O K o : Nat) (L : Nat → Int64) (hs : St σ) (hv : isV v) (hG : Gd V t N O K) (hV : VR σ v V N O) (hL : ∀ f, f < N → gL σ 147 f = L f) (ho : o < O) (hok : ∀ f, f < N → okL V L f) (Q : Po) (hQ : ∀ σ' : Mm, Fr (fun c => v ≤ c ∧ c ≤ v + 32) σ σ' → VR σ' v (bkV (fuN V) (zN V o) (lnN L) V N) N O → Q (some (.int (nI (sumN (fun f => fuN V * lnN L f / zN V o) N)))) σ') : Call X (d + 1) 0 0 mX8_bake [.ref v, .int (nI o), .ref 147] σ Q := by
  have hN10 := hG.1.2
  have hO3 := hG.2.1.2
  obtain ⟨z1, z2, z3⟩ := zN_ok hG ho
  obtain ⟨u1, u2⟩ := fuN_ok hG
  have hvb : v < 144 := by rcases hv with rfl | rfl | rfl | rfl <;> omega
  have hv148 : ¬ (v ≤ 147 ∧ 147 ≤ v + 32) := by rcases hv with rfl | rfl | rfl | rfl <;> omega
  refine call_of eX8_bake rfl ?_
  refine wp_blk kX8_bake_0 ?_
  simp (disch := first | decide | omega) only [mxa, vxa, vxb, vxc, vnd, vne, Nat.reduceAdd, Nat.reduceSub, Nat.reduceLeDiff, Nat.reduceLT, Int32.reduceLT, Int32.reduceLE, Int32.reduceAdd, Int32.reduceSub, Int32.reduceMul, Int32.reduceToNatClampNeg, not_false_eq_true, not_true_eq_false, false_implies, true_implies, Nat.zero_add, reduceIte, Nat.reduceMul, Nat.reduceEqDiff, nxa, nxc, lgn, nL_of, swx, Int.reduceAdd, gI_a, gI_k, gL_a, gL_k, gI_r, gL_r, nI_and, nI_or, nI_xor, nI_ndf, nI_shl, nI_shr, ne_eq, and_true, true_and, eq_self, true_or, or_true, false_or, or_false, Option.toList, List.cons_append, List.nil_append, List.length_nil, List.length_cons, Nat.not_lt_zero, bX8_bake_0]
  refine wfor (fun k => ∀ τ : Mm, Fr (fun c => v ≤ c ∧ c ≤ v + 32) σ τ → VR τ v (bkV (fuN V) (zN V o) (lnN L) V k) N O → Wp X mX8_bake (rmo (d + 1) 0 0) (d + 1) Q 0 0 5 [some (.ref v), some (.int (nI o)), some (.ref 147), some (.int (nI (sumN (fun f => fuN V * lnN L f / zN V o) k))), some (.int (nI k)), none, none] [] τ) N (fun k hk hP τ hF hVk => ?_) (fun τ hF hVk => ?_) σ Fr.rf hV
  · have hsτ := hF.St hs
    have hst := hsτ.1
    have hrt := hsτ.2.1
    obtain ⟨v1, v2, v3, v4, v5⟩ := vk hst hrt hv
    obtain ⟨a1, a2, p, hp, ep⟩ := fa_ok hst hrt hv (hsτ.2.2 v hv) (show k < 10 by omega)
    obtain ⟨l1, l2⟩ := okL_n hG hk (hok k hk)
    obtain ⟨g1, g2⟩ := flN_ok hG hk
    have l0 : gL τ 147 k = nL (lnN L k) := ((hF.2.2.2 147 hv148 k).trans (hL k hk)).trans l1
    have e0 : gI τ v 0 = nI N := (hVk.1.1.trans (bkV_off k (fun f hf => by omega))).trans hG.1.1
    have e3 : gI τ v 3 = nI (fuN V) := (hVk.1.2.2.2.2.1.trans (bkV_off k (fun f hf => by omega))).trans u1
    have ez : gI τ (v + 2) o = nI (zN V o) := ((hVk.2.1 o ho).trans (bkV_off k (fun f hf => by omega))).trans z1
    have w1 : bkV (fuN V) (zN V o) (lnN L) V k (19 + k) = V (19 + k) := bkV_own k (Nat.le_refl _) (by omega) (by omega)
    have fe : flN (bkV (fuN V) (zN V o) (lnN L) V k) k = flN V k := by unfold flN; rw [w1]
    have f1 : gI τ (fa τ v k) 1 = nI (flN V k) := (((hVk.2.2 k hk).1 1 (by omega)).trans w1).trans g1
    have f3 : gI τ (fa τ v k) 3 = bkV (fuN V) (zN V o) (lnN L) V k (39 + k) := (hVk.2.2 k hk).1 3 (by omega)
    have fb : gI τ (fa τ v k + 1) 0 = bkV (fuN V) (zN V o) (lnN L) V k (69 + 5 * k) := (hVk.2.2 k hk).2.2.1 0 (by omega)
    refine wp_blk kX8_bake_5 ?_
    simp (disch := first | decide | omega) only [mxa, vxa, vxb, vxc, vnd, vne, Nat.reduceAdd, Nat.reduceSub, Nat.reduceLeDiff, Nat.reduceLT, Int32.reduceLT, Int32.reduceLE, Int32.reduceAdd, Int32.reduceSub, Int32.reduceMul, Int32.reduceToNatClampNeg, not_false_eq_true, not_true_eq_false, false_implies, true_implies, Nat.zero_add, reduceIte, Nat.reduceMul, Nat.reduceEqDiff, nxa, nxc, lgn, nL_of, swx, Int.reduceAdd, gI_a, gI_k, gL_a, gL_k, gI_r, gL_r, nI_and, nI_or, nI_xor, nI_ndf, nI_shl, nI_shr, ne_eq, and_true, true_and, eq_self, true_or, or_true, false_or, or_false, Option.toList, List.cons_append, List.nil_append, List.length_nil, List.length_cons, Nat.not_lt_zero, bX8_bake_5, kdx hst, v1, v2, v4, e0, l0, nL_i, show ¬ N ≤ k by omega]
    refine c_fuelFor X _ _ v (fuN V) (lnN L k) (zN V o) o v1 v3 v5 (by omega) ez e3 z2 z3 u2 (by omega) _ ?_
    simp (disch := first | decide | omega) only [mxa, vxa, vxb, vxc, vnd, vne, Nat.reduceAdd, Nat.reduceSub, Nat.reduceLeDiff, Nat.reduceLT, Int32.reduceLT, Int32.reduceLE, Int32.reduceAdd, Int32.reduceSub, Int32.reduceMul, Int32.reduceToNatClampNeg, not_false_eq_true, not_true_eq_false, false_implies, true_implies, Nat.zero_add, reduceIte, Nat.reduceMul, Nat.reduceEqDiff, nxa, nxc, lgn, nL_of, swx, Int.reduceAdd, gI_a, gI_k, gL_a, gL_k, gI_r, gL_r, nI_and, nI_or, nI_xor, nI_ndf, nI_shl, nI_shr, ne_eq, and_true, true_and, eq_self, true_or, or_true, false_or, or_false, Option.toList, List.cons_append, List.nil_append, List.length_nil, List.length_cons, Nat.not_lt_zero, v1, v2, v4, a1, a2.1, a2.2.1, a2.2.2.2.1, f1, f3, fb]
    refine Wp.fog 5 (Wp.fog 6 ?_)
    refine hP _ (hF.tr (Fr.tr (Fr.tr (Fr.sI ?_) (Fr.sI ?_)) (Fr.sI ?_))) ?_
    · omega
    · omega
    · omega
    · have := bkV_VR (x := nI (flN V k - lnN L k)) (y := bkV (fuN V) (zN V o) (lnN L) V k (69 + 5 * k) + nI (lnN L k)) (z := bkV (fuN V) (zN V o) (lnN L) V k (39 + k) + nI (fuN V * lnN L k / zN V o)) hsτ hv hVk hN10 hO3 hk
      rw [← fe] at this
      rw [← fe]
      exact this
  · have hst := (hF.St hs).1
    have hrt := (hF.St hs).2.1
    obtain ⟨v1, v2, v3, v4, v5⟩ := vk hst hrt hv
    have e0 : gI τ v 0 = nI N := (hVk.1.1.trans (bkV_off N (fun f hf => by omega))).trans hG.1.1
    refine wp_blk kX8_bake_5 ?_
    simp (disch := first | decide | omega) only [mxa, vxa, vxb, vxc, vnd, vne, Nat.reduceAdd, Nat.reduceSub, Nat.reduceLeDiff, Nat.reduceLT, Int32.reduceLT, Int32.reduceLE, Int32.reduceAdd, Int32.reduceSub, Int32.reduceMul, Int32.reduceToNatClampNeg, not_false_eq_true, not_true_eq_false, false_implies, true_implies, Nat.zero_add, reduceIte, Nat.reduceMul, Nat.reduceEqDiff, nxa, nxc, lgn, nL_of, swx, Int.reduceAdd, gI_a, gI_k, gL_a, gL_k, gI_r, gL_r, nI_and, nI_or, nI_xor, nI_ndf, nI_shl, nI_shr, ne_eq, and_true, true_and, eq_self, true_or, or_true, false_or, or_false, Option.toList, List.cons_append, List.nil_append, List.length_nil, List.length_cons, Nat.not_lt_zero, bX8_bake_5, v1, e0, Nat.le_refl]
    refine wp_blk kX8_bake_92 ?_
    simp (disch := first | decide | omega) only [mxa, vxa, vxb, vxc, vnd, vne, Nat.reduceAdd, Nat.reduceSub, Nat.reduceLeDiff, Nat.reduceLT, Int32.reduceLT, Int32.reduceLE, Int32.reduceAdd, Int32.reduceSub, Int32.reduceMul, Int32.reduceToNatClampNeg, not_false_eq_true, not_true_eq_false, false_implies, true_implies, Nat.zero_add, reduceIte, Nat.reduceMul, Nat.reduceEqDiff, nxa, nxc, lgn, nL_of, swx, Int.reduceAdd, gI_a, gI_k, gL_a, gL_k, gI_r, gL_r, nI_and, nI_or, nI_xor, nI_ndf, nI_shl, nI_shr, ne_eq, and_true, true_and, eq_self, true_or, or_true, false_or, or_false, Option.toList, List.cons_append, List.nil_append, List.length_nil, List.length_cons, Nat.not_lt_zero, bX8_bake_92]
    exact hQ τ hF hVk
theorem c_bakes (X : Cx) (d : Nat) (σ : Mm) (V : Nat → Int32) (t N O K o : Nat) (L : Nat → Int64) (hs : Sh σ) (hr : Rf σ) (hV : gI σ 191 = V) (hG : Gd V t N O K) (hL : ∀ f, f < N → gL σ 195 f = L f) (ho : o < O) (hok : ∀ f, f < N → okL V L f) (Q : Po) (hQ : Q (some (.int (nI (sumN (fun f => fuN V * lnN L f / zN V o) N)))) (rI σ 191 (bkV (fuN V) (zN V o) (lnN L) V N))) : Call X d 0 0 mX10_bakes [.ref 190, .int (nI o)] σ Q := by
  have hN10 := hG.1.2
  have hO3 := hG.2.1.2
  obtain ⟨z1, z2, z3⟩ := zN_ok hG ho
  obtain ⟨u1, u2⟩ := fuN_ok hG
  have key := wfor (fun k => Wp X mX10_bakes (rmo d 0 0) d Q 0 0 4 [some (.ref 190), some (.int (nI o)), some (.int (nI (sumN (fun f => fuN V * lnN L f / zN V o) k))), some (.int (nI k)), none, none] [] (rI σ 191 (bkV (fuN V) (zN V o) (lnN L) V k))) N (fun k hk hP => by
    obtain ⟨l1, l2⟩ := okL_n hG hk (hok k hk)
    obtain ⟨g1, g2⟩ := flN_ok hG hk
    have l0 := (hL k hk).trans l1
    have e0 : bkV (fuN V) (zN V o) (lnN L) V k 0 = nI N := (bkV_off k (fun f hf => by omega)).trans hG.1.1
    have e3 : bkV (fuN V) (zN V o) (lnN L) V k 4 = nI (fuN V) := (bkV_off k (fun f hf => by omega)).trans u1
    have ez : bkV (fuN V) (zN V o) (lnN L) V k (6 + o) = nI (zN V o) := (bkV_off k (fun f hf => by omega)).trans z1
    have w1 : bkV (fuN V) (zN V o) (lnN L) V k (19 + k) = V (19 + k) := bkV_own k (Nat.le_refl _) (by omega) (by omega)
    have fe : flN (bkV (fuN V) (zN V o) (lnN L) V k) k = flN V k := by unfold flN; rw [w1]
    have f1 := w1.trans g1
    have : fuN V * lnN L k ≤ 999 * 999 := Nat.mul_le_mul u2 (by omega)
    refine wp_blk kX10_bakes_4 ?_
    simp (disch := first | decide | omega) only [mxa, vxa, vxb, vxc, vnd, vne, Nat.reduceAdd, Nat.reduceSub, Nat.reduceLeDiff, Nat.reduceLT, Int32.reduceLT, Int32.reduceLE, Int32.reduceAdd, Int32.reduceSub, Int32.reduceMul, Int32.reduceToNatClampNeg, not_false_eq_true, not_true_eq_false, false_implies, true_implies, Nat.zero_add, reduceIte, Nat.reduceMul, Nat.reduceEqDiff, nxa, nxc, lgn, nL_of, swx, Int.reduceAdd, gI_a, gI_k, gL_a, gL_k, gI_r, gL_r, nI_and, nI_or, nI_xor, nI_ndf, nI_shl, nI_shr, ne_eq, and_true, true_and, eq_self, true_or, or_true, false_or, or_false, Option.toList, List.cons_append, List.nil_append, List.length_nil, List.length_cons, Nat.not_lt_zero, bX10_bakes_4, kdx hs, grx hr, e0, l0, nL_i, e3, ez, f1, pk_div, show ¬ zN V o = 0 by omega, show ¬ N ≤ k by omega, sI_rI, upd_n]
    refine Wp.fog 4 (Wp.fog 5 ?_)
    rw [← fe]
    exact hP) (by
    have e0 : bkV (fuN V) (zN V o) (lnN L) V N 0 = nI N := (bkV_off N (fun f hf => by omega)).trans hG.1.1
    refine wp_blk kX10_bakes_4 ?_
    simp (disch := first | decide | omega) only [mxa, vxa, vxb, vxc, vnd, vne, Nat.reduceAdd, Nat.reduceSub, Nat.reduceLeDiff, Nat.reduceLT, Int32.reduceLT, Int32.reduceLE, Int32.reduceAdd, Int32.reduceSub, Int32.reduceMul, Int32.reduceToNatClampNeg, not_false_eq_true, not_true_eq_false, false_implies, true_implies, Nat.zero_add, reduceIte, Nat.reduceMul, Nat.reduceEqDiff, nxa, nxc, lgn, nL_of, swx, Int.reduceAdd, gI_a, gI_k, gL_a, gL_k, gI_r, gL_r, nI_and, nI_or, nI_xor, nI_ndf, nI_shl, nI_shr, ne_eq, and_true, true_and, eq_self, true_or, or_true, false_or, or_false, Option.toList, List.cons_append, List.nil_append, List.length_nil, List.length_cons, Nat.not_lt_zero, bX10_bakes_4, kdx hs, grx hr, e0, Nat.le_refl]
    refine wp_blk kX10_bakes_99 ?_
    simp (disch := first | decide | omega) only [mxa, vxa, vxb, vxc, vnd, vne, Nat.reduceAdd, Nat.reduceSub, Nat.reduceLeDiff, Nat.reduceLT, Int32.reduceLT, Int32.reduceLE, Int32.reduceAdd, Int32.reduceSub, Int32.reduceMul, Int32.reduceToNatClampNeg, not_false_eq_true, not_true_eq_false, false_implies, true_implies, Nat.zero_add, reduceIte, Nat.reduceMul, Nat.reduceEqDiff, nxa, nxc, lgn, nL_of, swx, Int.reduceAdd, gI_a, gI_k, gL_a, gL_k, gI_r, gL_r, nI_and, nI_or, nI_xor, nI_ndf, nI_shl, nI_shr, ne_eq, and_true, true_and, eq_self, true_or, or_true, false_or, or_false, Option.toList, List.cons_append, List.nil_append, List.length_nil, List.length_cons, Nat.not_lt_zero, bX10_bakes_99]
    exact hQ)
  rw [show bkV (fuN V) (zN V o) (lnN L) V 0 = gI σ 191 from hV.symm, rI_self] at key
  refine call_of eX10_bakes rfl ?_
  refine wp_blk kX10_bakes_0 ?_
  simp (disch := first | decide | omega) only [mxa, vxa, vxb, vxc, vnd, vne, Nat.reduceAdd, Nat.reduceSub, Nat.reduceLeDiff, Nat.reduceLT, Int32.reduceLT, Int32.reduceLE, Int32.reduceAdd, Int32.reduceSub, Int32.reduceMul, Int32.reduceToNatClampNeg, not_false_eq_true, not_true_eq_false, false_implies, true_implies, Nat.zero_add, reduceIte, Nat.reduceMul, Nat.reduceEqDiff, nxa, nxc, lgn, nL_of, swx, Int.reduceAdd, gI_a, gI_k, gL_a, gL_k, gI_r, gL_r, nI_and, nI_or, nI_xor, nI_ndf, nI_shl, nI_shr, ne_eq, and_true, true_and, eq_self, true_or, or_true, false_or, or_false, Option.toList, List.cons_append, List.nil_append, List.length_nil, List.length_cons, Nat.not_lt_zero, bX10_bakes_0]
  exact key
/-- wishes of a set are dropped -/
def dwV (s : Nat) (V : Nat → Int32) : Nat → Nat → Int32
  | 0 => V
  | n + 1 => if s.testBit n = true then upd (dwV s V n) (29 + n) (nI 0) else dwV s V n
theorem dwV_off {s j : Nat} {V : Nat → Int32} : ∀ n, (∀ f, f < n → j ≠ 29 + f) → dwV s V n j = V j
  | 0, _ => rfl
  | n + 1, h => by
    have h1 := h n (by omega)
    have ih := dwV_off (s := s) (V := V) n (fun f hf => h f (by omega))
    show (if s.testBit n = true then upd (dwV s V n) (29 + n) (nI 0) else dwV s V n) j = V j
    split
    · rw [upd_n h1]; exact ih
    · exact ih
theorem dwV_Gd {V : Nat → Int32} {t N O K s : Nat} (hG : Gd V t N O K) : ∀ n, n ≤ N → Gd (dwV s V n) t N O K
  | 0, _ => hG
  | n + 1, h => by
    have ih := dwV_Gd (s := s) hG n (by omega)
    have hN10 := hG.1.2
    show Gd (if s.testBit n = true then upd (dwV s V n) (29 + n) (nI 0) else dwV s V n) t N O K
    split
    · exact ih.fld (jj := 2) (f := n) (by omega) (by omega) ⟨by omega, by omega, fun _ => ⟨0, by omega, rfl⟩⟩
    · exact ih
theorem c_dropWishes (X : Cx) (d : Nat) (σ : Mm) (v : Nat) (V : Nat → Int32) (t N O K s : Nat) (hs : St σ) (hv : isV v) (hG : Gd V t N O K) (hV : VR σ v V N O) (hs10 : s < 1024) (Q : Po) (hQ : ∀ σ' : Mm, Fr (fun c => v ≤ c ∧ c ≤ v + 32) σ σ' → VR σ' v (dwV s V N) N O → Q none σ') : Call X d 0 0 mX8_dropWishes [.ref v, .int (nI s)] σ Q := by
  have hN10 := hG.1.2
  have hO3 := hG.2.1.2
  refine call_of eX8_dropWishes rfl ?_
  refine wp_blk kX8_dropWishes_0 ?_
  simp (disch := first | decide | omega) only [mxa, vxa, vxb, vxc, vnd, vne, Nat.reduceAdd, Nat.reduceSub, Nat.reduceLeDiff, Nat.reduceLT, Int32.reduceLT, Int32.reduceLE, Int32.reduceAdd, Int32.reduceSub, Int32.reduceMul, Int32.reduceToNatClampNeg, not_false_eq_true, not_true_eq_false, false_implies, true_implies, Nat.zero_add, reduceIte, Nat.reduceMul, Nat.reduceEqDiff, nxa, nxc, lgn, nL_of, swx, Int.reduceAdd, gI_a, gI_k, gL_a, gL_k, gI_r, gL_r, nI_and, nI_or, nI_xor, nI_ndf, nI_shl, nI_shr, ne_eq, and_true, true_and, eq_self, true_or, or_true, false_or, or_false, Option.toList, List.cons_append, List.nil_append, List.length_nil, List.length_cons, Nat.not_lt_zero, bX8_dropWishes_0]
  refine wfor (fun k => ∀ τ : Mm, Fr (fun c => v ≤ c ∧ c ≤ v + 32) σ τ → VR τ v (dwV s V k) N O → Wp X mX8_dropWishes (rmo d 0 0) d Q 0 0 2 [some (.ref v), some (.int (nI s)), some (.int (nI k))] [] τ) N (fun k hk hP τ hF hVk => ?_) (fun τ hF hVk => ?_) σ Fr.rf hV
  · have hsτ := hF.St hs
    have hst := hsτ.1
    have hrt := hsτ.2.1
    obtain ⟨v1, v2, v3, v4, v5⟩ := vk hst hrt hv
    obtain ⟨a1, a2, p, hp, ep⟩ := fa_ok hst hrt hv (hsτ.2.2 v hv) (show k < 10 by omega)
    have e0 : gI τ v 0 = nI N := (hVk.1.1.trans (dwV_off k (fun f hf => by omega))).trans hG.1.1
    by_cases hb : s.testBit k = true
    · refine wp_blk kX8_dropWishes_2 ?_
      simp (disch := first | decide | omega) only [mxa, vxa, vxb, vxc, vnd, vne, Nat.reduceAdd, Nat.reduceSub, Nat.reduceLeDiff, Nat.reduceLT, Int32.reduceLT, Int32.reduceLE, Int32.reduceAdd, Int32.reduceSub, Int32.reduceMul, Int32.reduceToNatClampNeg, not_false_eq_true, not_true_eq_false, false_implies, true_implies, Nat.zero_add, reduceIte, Nat.reduceMul, Nat.reduceEqDiff, nxa, nxc, lgn, nL_of, swx, Int.reduceAdd, gI_a, gI_k, gL_a, gL_k, gI_r, gL_r, nI_and, nI_or, nI_xor, nI_ndf, nI_shl, nI_shr, ne_eq, and_true, true_and, eq_self, true_or, or_true, false_or, or_false, Option.toList, List.cons_append, List.nil_append, List.length_nil, List.length_cons, Nat.not_lt_zero, bX8_dropWishes_2, v1, v2, v4, e0, a1, a2.1, show ¬ N ≤ k by omega, and_one_bit, hb, Bool.false_eq_true]
      refine wp_blk kX8_dropWishes_28 ?_
      simp (disch := first | decide | omega) only [mxa, vxa, vxb, vxc, vnd, vne, Nat.reduceAdd, Nat.reduceSub, Nat.reduceLeDiff, Nat.reduceLT, Int32.reduceLT, Int32.reduceLE, Int32.reduceAdd, Int32.reduceSub, Int32.reduceMul, Int32.reduceToNatClampNeg, not_false_eq_true, not_true_eq_false, false_implies, true_implies, Nat.zero_add, reduceIte, Nat.reduceMul, Nat.reduceEqDiff, nxa, nxc, lgn, nL_of, swx, Int.reduceAdd, gI_a, gI_k, gL_a, gL_k, gI_r, gL_r, nI_and, nI_or, nI_xor, nI_ndf, nI_shl, nI_shr, ne_eq, and_true, true_and, eq_self, true_or, or_true, false_or, or_false, Option.toList, List.cons_append, List.nil_append, List.length_nil, List.length_cons, Nat.not_lt_zero, bX8_dropWishes_28]
      refine hP _ (hF.tr (Fr.sI (by omega))) ?_
      rw [show dwV s V (k + 1) = upd (dwV s V k) (29 + k) (nI 0) from if_pos hb]
      exact hVk.fld (jj := 2) hsτ hv hN10 hO3 (by omega) hk
    · refine wp_blk kX8_dropWishes_2 ?_
      simp (disch := first | decide | omega) only [mxa, vxa, vxb, vxc, vnd, vne, Nat.reduceAdd, Nat.reduceSub, Nat.reduceLeDiff, Nat.reduceLT, Int32.reduceLT, Int32.reduceLE, Int32.reduceAdd, Int32.reduceSub, Int32.reduceMul, Int32.reduceToNatClampNeg, not_false_eq_true, not_true_eq_false, false_implies, true_implies, Nat.zero_add, reduceIte, Nat.reduceMul, Nat.reduceEqDiff, nxa, nxc, lgn, nL_of, swx, Int.reduceAdd, gI_a, gI_k, gL_a, gL_k, gI_r, gL_r, nI_and, nI_or, nI_xor, nI_ndf, nI_shl, nI_shr, ne_eq, and_true, true_and, eq_self, true_or, or_true, false_or, or_false, Option.toList, List.cons_append, List.nil_append, List.length_nil, List.length_cons, Nat.not_lt_zero, bX8_dropWishes_2, v1, e0, show ¬ N ≤ k by omega, and_one_bit, hb, Bool.false_eq_true]
      refine wp_blk kX8_dropWishes_28 ?_
      simp (disch := first | decide | omega) only [mxa, vxa, vxb, vxc, vnd, vne, Nat.reduceAdd, Nat.reduceSub, Nat.reduceLeDiff, Nat.reduceLT, Int32.reduceLT, Int32.reduceLE, Int32.reduceAdd, Int32.reduceSub, Int32.reduceMul, Int32.reduceToNatClampNeg, not_false_eq_true, not_true_eq_false, false_implies, true_implies, Nat.zero_add, reduceIte, Nat.reduceMul, Nat.reduceEqDiff, nxa, nxc, lgn, nL_of, swx, Int.reduceAdd, gI_a, gI_k, gL_a, gL_k, gI_r, gL_r, nI_and, nI_or, nI_xor, nI_ndf, nI_shl, nI_shr, ne_eq, and_true, true_and, eq_self, true_or, or_true, false_or, or_false, Option.toList, List.cons_append, List.nil_append, List.length_nil, List.length_cons, Nat.not_lt_zero, bX8_dropWishes_28]
      refine hP _ hF ?_
      rw [show dwV s V (k + 1) = dwV s V k from if_neg hb]
      exact hVk
  · have hst := (hF.St hs).1
    have hrt := (hF.St hs).2.1
    obtain ⟨v1, v2, v3, v4, v5⟩ := vk hst hrt hv
    have e0 : gI τ v 0 = nI N := (hVk.1.1.trans (dwV_off N (fun f hf => by omega))).trans hG.1.1
    refine wp_blk kX8_dropWishes_2 ?_
    simp (disch := first | decide | omega) only [mxa, vxa, vxb, vxc, vnd, vne, Nat.reduceAdd, Nat.reduceSub, Nat.reduceLeDiff, Nat.reduceLT, Int32.reduceLT, Int32.reduceLE, Int32.reduceAdd, Int32.reduceSub, Int32.reduceMul, Int32.reduceToNatClampNeg, not_false_eq_true, not_true_eq_false, false_implies, true_implies, Nat.zero_add, reduceIte, Nat.reduceMul, Nat.reduceEqDiff, nxa, nxc, lgn, nL_of, swx, Int.reduceAdd, gI_a, gI_k, gL_a, gL_k, gI_r, gL_r, nI_and, nI_or, nI_xor, nI_ndf, nI_shl, nI_shr, ne_eq, and_true, true_and, eq_self, true_or, or_true, false_or, or_false, Option.toList, List.cons_append, List.nil_append, List.length_nil, List.length_cons, Nat.not_lt_zero, bX8_dropWishes_2, v1, e0, Nat.le_refl]
    refine wp_blk kX8_dropWishes_34 ?_
    simp (disch := first | decide | omega) only [mxa, vxa, vxb, vxc, vnd, vne, Nat.reduceAdd, Nat.reduceSub, Nat.reduceLeDiff, Nat.reduceLT, Int32.reduceLT, Int32.reduceLE, Int32.reduceAdd, Int32.reduceSub, Int32.reduceMul, Int32.reduceToNatClampNeg, not_false_eq_true, not_true_eq_false, false_implies, true_implies, Nat.zero_add, reduceIte, Nat.reduceMul, Nat.reduceEqDiff, nxa, nxc, lgn, nL_of, swx, Int.reduceAdd, gI_a, gI_k, gL_a, gL_k, gI_r, gL_r, nI_and, nI_or, nI_xor, nI_ndf, nI_shl, nI_shr, ne_eq, and_true, true_and, eq_self, true_or, or_true, false_or, or_false, Option.toList, List.cons_append, List.nil_append, List.length_nil, List.length_cons, Nat.not_lt_zero, bX8_dropWishes_34]
    exact hQ τ hF hVk
/-- the loaves that a set wishes -/
def wL (V : Nat → Int32) (s f : Nat) : Int64 := nL (if s.testBit f = true then wsN V f else 0)
theorem wL_n {V : Nat → Int32} {s f : Nat} (h : wsN V f ≤ 99) : lnN (wL V s) f = if s.testBit f = true then wsN V f else 0 := by
  unfold lnN wL
  rw [nL_toInt (by split <;> omega)]
  rfl
def bwV (V : Nat → Int32) (N o s : Nat) : Nat → Int32 := bkV (fuN V) (zN V o) (lnN (wL V s)) (dwV s V N) N
def bwT (V : Nat → Int32) (N o s : Nat) : Nat := sumN (fun f => fuN V * lnN (wL V s) f / zN V o) N
theorem dwV_same {V : Nat → Int32} {N s : Nat} : fuN (dwV s V N) = fuN V ∧ (∀ o, o < 3 → zN (dwV s V N) o = zN V o) ∧ ∀ L f, f < 10 → (okL (dwV s V N) L f ↔ okL V L f) := by
  refine ⟨?_, fun o ho => ?_, fun L f hf => ?_⟩
  · unfold fuN; rw [dwV_off N (fun f hf => by omega)]
  · unfold zN; rw [dwV_off N (fun f hf => by omega)]
  · unfold okL; rw [dwV_off N (fun g hg => by omega)]
theorem c_bakeWishes (X : Cx) (d : Nat) (σ : Mm) (v : Nat) (V : Nat → Int32) (t N O K o s : Nat) (hs : St σ) (hv : isV v) (hG : Gd V t N O K) (hV : VR σ v V N O) (ho : o < O) (hs10 : s < 1024) (Q : Po) (hno : ∀ σ' : Mm, Fr (fun c => c = 147) σ σ' → VR σ' v V N O → hnF V N o (wL V s) ≠ 0 → Q (some (.int (-10 - nI (hnF V N o (wL V s))))) σ') (hyes : ∀ σ' : Mm, Fr (fun c => (v ≤ c ∧ c ≤ v + 32) ∨ c = 147) σ σ' → VR σ' v (bwV V N o s) N O → hnF V N o (wL V s) = 0 → Q (some (.int (nI (bwT V N o s)))) σ') : Call X (d + 2) 0 0 mX0_bakeWishes [.ref 146, .ref v, .int (nI o), .int (nI s)] σ Q := by
  have hN10 := hG.1.2
  have hO3 := hG.2.1.2
  have hv148 : v ≠ 147 ∧ (∀ c, v ≤ c → c ≤ v + 32 → c ≠ 147) := by rcases hv with rfl | rfl | rfl | rfl <;> exact ⟨by omega, fun c _ _ => by omega⟩
  refine call_of eX0_bakeWishes rfl ?_
  refine wp_blk kX0_bakeWishes_0 ?_
  simp (disch := first | decide | omega) only [mxa, vxa, vxb, vxc, vnd, vne, Nat.reduceAdd, Nat.reduceSub, Nat.reduceLeDiff, Nat.reduceLT, Int32.reduceLT, Int32.reduceLE, Int32.reduceAdd, Int32.reduceSub, Int32.reduceMul, Int32.reduceToNatClampNeg, not_false_eq_true, not_true_eq_false, false_implies, true_implies, Nat.zero_add, reduceIte, Nat.reduceMul, Nat.reduceEqDiff, nxa, nxc, lgn, nL_of, swx, Int.reduceAdd, gI_a, gI_k, gL_a, gL_k, gI_r, gL_r, nI_and, nI_or, nI_xor, nI_ndf, nI_shl, nI_shr, ne_eq, and_true, true_and, eq_self, true_or, or_true, false_or, or_false, Option.toList, List.cons_append, List.nil_append, List.length_nil, List.length_cons, Nat.not_lt_zero, bX0_bakeWishes_0]
  refine wfor (fun k => ∀ τ : Mm, Fr (fun c => c = 147) σ τ → (∀ f, f < k → gL τ 147 f = wL V s f) → Wp X mX0_bakeWishes (rmo (d + 2) 0 0) (d + 2) Q 0 0 3 [some (.ref 146), some (.ref v), some (.int (nI o)), some (.int (nI s)), some (.int (nI k))] [] τ) N (fun k hk hP τ hF hLk => ?_) (fun τ hF hLk => ?_) σ Fr.rf (fun f hf => absurd hf (by omega))
  · have hsτ := hF.St hs
    have hst := hsτ.1
    have hrt := hsτ.2.1
    have nI' : ∀ c, c ≠ 147 → ∀ j, gI τ c j = gI σ c j := fun c hc => hF.2.2.1 c hc
    have hVk := hV.keep hN10 hs hv hF.gR (fun a q1 q2 => nI' a (hv148.2 a q1 q2))
    obtain ⟨v1, v2, v3, v4, v5⟩ := vk hst hrt hv
    obtain ⟨a1, a2, p, hp, ep⟩ := fa_ok hst hrt hv (hsτ.2.2 v hv) (show k < 10 by omega)
    have e0 : gI τ v 0 = nI N := hVk.1.1.trans hG.1.1
    obtain ⟨g1, g2⟩ := wsN_ok hG hk
    have f2 : gI τ (fa τ v k) 2 = nI (wsN V k) := ((hVk.2.2 k hk).1 2 (by omega)).trans g1
    have fin : ∀ x, x = wL V s k → Wp X mX0_bakeWishes (rmo (d + 2) 0 0) (d + 2) Q 0 0 42 [some (.ref 146), some (.ref v), some (.int (nI o)), some (.int (nI s)), some (.int (nI k))] [.long x, .int (nI k), .ref 147] τ := by
      intro x hx
      refine wp_blk kX0_bakeWishes_42 ?_
      simp (disch := first | decide | omega) only [mxa, vxa, vxb, vxc, vnd, vne, Nat.reduceAdd, Nat.reduceSub, Nat.reduceLeDiff, Nat.reduceLT, Int32.reduceLT, Int32.reduceLE, Int32.reduceAdd, Int32.reduceSub, Int32.reduceMul, Int32.reduceToNatClampNeg, not_false_eq_true, not_true_eq_false, false_implies, true_implies, Nat.zero_add, reduceIte, Nat.reduceMul, Nat.reduceEqDiff, nxa, nxc, lgn, nL_of, swx, Int.reduceAdd, gI_a, gI_k, gL_a, gL_k, gI_r, gL_r, nI_and, nI_or, nI_xor, nI_ndf, nI_shl, nI_shr, ne_eq, and_true, true_and, eq_self, true_or, or_true, false_or, or_false, Option.toList, List.cons_append, List.nil_append, List.length_nil, List.length_cons, Nat.not_lt_zero, bX0_bakeWishes_42, kdx hst]
      refine hP _ (hF.tr (Fr.sL rfl)) (fun f hf => ?_)
      by_cases e : f = k
      · subst e
        simp (disch := first | decide | omega) only [mxa, vxa, vxb, vxc, vnd, vne, Nat.reduceAdd, Nat.reduceSub, Nat.reduceLeDiff, Nat.reduceLT, Int32.reduceLT, Int32.reduceLE, Int32.reduceAdd, Int32.reduceSub, Int32.reduceMul, Int32.reduceToNatClampNeg, not_false_eq_true, not_true_eq_false, false_implies, true_implies, Nat.zero_add, reduceIte, Nat.reduceMul, Nat.reduceEqDiff, nxa, nxc, lgn, nL_of, swx, Int.reduceAdd, gI_a, gI_k, gL_a, gL_k, gI_r, gL_r, nI_and, nI_or, nI_xor, nI_ndf, nI_shl, nI_shr, ne_eq, and_true, true_and, eq_self, true_or, or_true, false_or, or_false, Option.toList, List.cons_append, List.nil_append, List.length_nil, List.length_cons, Nat.not_lt_zero]
        exact hx
      · simp (disch := first | decide | omega) only [mxa, vxa, vxb, vxc, vnd, vne, Nat.reduceAdd, Nat.reduceSub, Nat.reduceLeDiff, Nat.reduceLT, Int32.reduceLT, Int32.reduceLE, Int32.reduceAdd, Int32.reduceSub, Int32.reduceMul, Int32.reduceToNatClampNeg, not_false_eq_true, not_true_eq_false, false_implies, true_implies, Nat.zero_add, reduceIte, Nat.reduceMul, Nat.reduceEqDiff, nxa, nxc, lgn, nL_of, swx, Int.reduceAdd, gI_a, gI_k, gL_a, gL_k, gI_r, gL_r, nI_and, nI_or, nI_xor, nI_ndf, nI_shl, nI_shr, ne_eq, and_true, true_and, eq_self, true_or, or_true, false_or, or_false, Option.toList, List.cons_append, List.nil_append, List.length_nil, List.length_cons, Nat.not_lt_zero]
        exact hLk f (by omega)
    by_cases hb : s.testBit k = true
    · refine wp_blk kX0_bakeWishes_3 ?_
      simp (disch := first | decide | omega) only [mxa, vxa, vxb, vxc, vnd, vne, Nat.reduceAdd, Nat.reduceSub, Nat.reduceLeDiff, Nat.reduceLT, Int32.reduceLT, Int32.reduceLE, Int32.reduceAdd, Int32.reduceSub, Int32.reduceMul, Int32.reduceToNatClampNeg, not_false_eq_true, not_true_eq_false, false_implies, true_implies, Nat.zero_add, reduceIte, Nat.reduceMul, Nat.reduceEqDiff, nxa, nxc, lgn, nL_of, swx, Int.reduceAdd, gI_a, gI_k, gL_a, gL_k, gI_r, gL_r, nI_and, nI_or, nI_xor, nI_ndf, nI_shl, nI_shr, ne_eq, and_true, true_and, eq_self, true_or, or_true, false_or, or_false, Option.toList, List.cons_append, List.nil_append, List.length_nil, List.length_cons, Nat.not_lt_zero, bX0_bakeWishes_3, kdx hst, grx hrt, v1, v2, v4, e0, a1, a2.1, f2, show ¬ N ≤ k by omega, and_one_bit, hb, Bool.false_eq_true]
      refine fin _ ?_
      unfold wL
      rw [if_pos hb]
    · refine wp_blk kX0_bakeWishes_3 ?_
      simp (disch := first | decide | omega) only [mxa, vxa, vxb, vxc, vnd, vne, Nat.reduceAdd, Nat.reduceSub, Nat.reduceLeDiff, Nat.reduceLT, Int32.reduceLT, Int32.reduceLE, Int32.reduceAdd, Int32.reduceSub, Int32.reduceMul, Int32.reduceToNatClampNeg, not_false_eq_true, not_true_eq_false, false_implies, true_implies, Nat.zero_add, reduceIte, Nat.reduceMul, Nat.reduceEqDiff, nxa, nxc, lgn, nL_of, swx, Int.reduceAdd, gI_a, gI_k, gL_a, gL_k, gI_r, gL_r, nI_and, nI_or, nI_xor, nI_ndf, nI_shl, nI_shr, ne_eq, and_true, true_and, eq_self, true_or, or_true, false_or, or_false, Option.toList, List.cons_append, List.nil_append, List.length_nil, List.length_cons, Nat.not_lt_zero, bX0_bakeWishes_3, kdx hst, grx hrt, v1, e0, show ¬ N ≤ k by omega, and_one_bit, hb, Bool.false_eq_true]
      refine wp_blk kX0_bakeWishes_41 ?_
      simp (disch := first | decide | omega) only [mxa, vxa, vxb, vxc, vnd, vne, Nat.reduceAdd, Nat.reduceSub, Nat.reduceLeDiff, Nat.reduceLT, Int32.reduceLT, Int32.reduceLE, Int32.reduceAdd, Int32.reduceSub, Int32.reduceMul, Int32.reduceToNatClampNeg, not_false_eq_true, not_true_eq_false, false_implies, true_implies, Nat.zero_add, reduceIte, Nat.reduceMul, Nat.reduceEqDiff, nxa, nxc, lgn, nL_of, swx, Int.reduceAdd, gI_a, gI_k, gL_a, gL_k, gI_r, gL_r, nI_and, nI_or, nI_xor, nI_ndf, nI_shl, nI_shr, ne_eq, and_true, true_and, eq_self, true_or, or_true, false_or, or_false, Option.toList, List.cons_append, List.nil_append, List.length_nil, List.length_cons, Nat.not_lt_zero, bX0_bakeWishes_41]
      refine fin _ ?_
      unfold wL
      rw [if_neg hb]
  · have hsτ := hF.St hs
    have hst := hsτ.1
    have hrt := hsτ.2.1
    have nI' : ∀ c, c ≠ 147 → ∀ j, gI τ c j = gI σ c j := fun c hc => hF.2.2.1 c hc
    have hVk := hV.keep hN10 hs hv hF.gR (fun a q1 q2 => nI' a (hv148.2 a q1 q2))
    obtain ⟨v1, v2, v3, v4, v5⟩ := vk hst hrt hv
    have e0 : gI τ v 0 = nI N := hVk.1.1.trans hG.1.1
    have hle := hnF_le (V := V) (N := N) (o := o) (L := wL V s)
    refine wp_blk kX0_bakeWishes_3 ?_
    simp (disch := first | decide | omega) only [mxa, vxa, vxb, vxc, vnd, vne, Nat.reduceAdd, Nat.reduceSub, Nat.reduceLeDiff, Nat.reduceLT, Int32.reduceLT, Int32.reduceLE, Int32.reduceAdd, Int32.reduceSub, Int32.reduceMul, Int32.reduceToNatClampNeg, not_false_eq_true, not_true_eq_false, false_implies, true_implies, Nat.zero_add, reduceIte, Nat.reduceMul, Nat.reduceEqDiff, nxa, nxc, lgn, nL_of, swx, Int.reduceAdd, gI_a, gI_k, gL_a, gL_k, gI_r, gL_r, nI_and, nI_or, nI_xor, nI_ndf, nI_shl, nI_shr, ne_eq, and_true, true_and, eq_self, true_or, or_true, false_or, or_false, Option.toList, List.cons_append, List.nil_append, List.length_nil, List.length_cons, Nat.not_lt_zero, bX0_bakeWishes_3, v1, e0, Nat.le_refl]
    refine wp_blk kX0_bakeWishes_49 ?_
    simp (disch := first | decide | omega) only [mxa, vxa, vxb, vxc, vnd, vne, Nat.reduceAdd, Nat.reduceSub, Nat.reduceLeDiff, Nat.reduceLT, Int32.reduceLT, Int32.reduceLE, Int32.reduceAdd, Int32.reduceSub, Int32.reduceMul, Int32.reduceToNatClampNeg, not_false_eq_true, not_true_eq_false, false_implies, true_implies, Nat.zero_add, reduceIte, Nat.reduceMul, Nat.reduceEqDiff, nxa, nxc, lgn, nL_of, swx, Int.reduceAdd, gI_a, gI_k, gL_a, gL_k, gI_r, gL_r, nI_and, nI_or, nI_xor, nI_ndf, nI_shl, nI_shr, ne_eq, and_true, true_and, eq_self, true_or, or_true, false_or, or_false, Option.toList, List.cons_append, List.nil_append, List.length_nil, List.length_cons, Nat.not_lt_zero, bX0_bakeWishes_49, kdx hst, grx hrt, v1]
    refine c_hind X _ _ v V t N O K o (wL V s) hsτ hv hG hVk hLk ho _ ?_
    by_cases h0 : hnF V N o (wL V s) = 0
    · simp (disch := first | decide | omega) only [mxa, vxa, vxb, vxc, vnd, vne, Nat.reduceAdd, Nat.reduceSub, Nat.reduceLeDiff, Nat.reduceLT, Int32.reduceLT, Int32.reduceLE, Int32.reduceAdd, Int32.reduceSub, Int32.reduceMul, Int32.reduceToNatClampNeg, not_false_eq_true, not_true_eq_false, false_implies, true_implies, Nat.zero_add, reduceIte, Nat.reduceMul, Nat.reduceEqDiff, nxa, nxc, lgn, nL_of, swx, Int.reduceAdd, gI_a, gI_k, gL_a, gL_k, gI_r, gL_r, nI_and, nI_or, nI_xor, nI_ndf, nI_shl, nI_shr, ne_eq, and_true, true_and, eq_self, true_or, or_true, false_or, or_false, Option.toList, List.cons_append, List.nil_append, List.length_nil, List.length_cons, Nat.not_lt_zero, h0]
      refine wp_blk kX0_bakeWishes_71 ?_
      simp (disch := first | decide | omega) only [mxa, vxa, vxb, vxc, vnd, vne, Nat.reduceAdd, Nat.reduceSub, Nat.reduceLeDiff, Nat.reduceLT, Int32.reduceLT, Int32.reduceLE, Int32.reduceAdd, Int32.reduceSub, Int32.reduceMul, Int32.reduceToNatClampNeg, not_false_eq_true, not_true_eq_false, false_implies, true_implies, Nat.zero_add, reduceIte, Nat.reduceMul, Nat.reduceEqDiff, nxa, nxc, lgn, nL_of, swx, Int.reduceAdd, gI_a, gI_k, gL_a, gL_k, gI_r, gL_r, nI_and, nI_or, nI_xor, nI_ndf, nI_shl, nI_shr, ne_eq, and_true, true_and, eq_self, true_or, or_true, false_or, or_false, Option.toList, List.cons_append, List.nil_append, List.length_nil, List.length_cons, Nat.not_lt_zero, bX0_bakeWishes_71, v1]
      refine c_dropWishes X _ _ v V t N O K s hsτ hv hG hVk hs10 _ (fun σ1 F1 V1 => ?_)
      have s1 := F1.St hsτ
      obtain ⟨w1, w2, w3, w4, w5⟩ := vk s1.1 s1.2.1 hv
      simp (disch := first | decide | omega) only [mxa, vxa, vxb, vxc, vnd, vne, Nat.reduceAdd, Nat.reduceSub, Nat.reduceLeDiff, Nat.reduceLT, Int32.reduceLT, Int32.reduceLE, Int32.reduceAdd, Int32.reduceSub, Int32.reduceMul, Int32.reduceToNatClampNeg, not_false_eq_true, not_true_eq_false, false_implies, true_implies, Nat.zero_add, reduceIte, Nat.reduceMul, Nat.reduceEqDiff, nxa, nxc, lgn, nL_of, swx, Int.reduceAdd, gI_a, gI_k, gL_a, gL_k, gI_r, gL_r, nI_and, nI_or, nI_xor, nI_ndf, nI_shl, nI_shr, ne_eq, and_true, true_and, eq_self, true_or, or_true, false_or, or_false, Option.toList, List.cons_append, List.nil_append, List.length_nil, List.length_cons, Nat.not_lt_zero, kdx s1.1, grx s1.2.1, w1]
      obtain ⟨m1, m2, m3⟩ := dwV_same (V := V) (N := N) (s := s)
      refine c_bake X _ σ1 v (dwV s V N) t N O K o (wL V s) s1 hv (dwV_Gd hG N (Nat.le_refl _)) V1 (fun f hf => (F1.2.2.2 147 (fun q => hv148.2 147 q.1 q.2 rfl) f).trans (hLk f hf)) ho (fun f hf => (m3 _ f (by omega)).mpr ((hnF_0 h0).1 f hf)) _ (fun σ2 F2 V2 => ?_)
      rw [m1, m2 o (by omega)] at V2 ⊢
      simp (disch := first | decide | omega) only [mxa, vxa, vxb, vxc, vnd, vne, Nat.reduceAdd, Nat.reduceSub, Nat.reduceLeDiff, Nat.reduceLT, Int32.reduceLT, Int32.reduceLE, Int32.reduceAdd, Int32.reduceSub, Int32.reduceMul, Int32.reduceToNatClampNeg, not_false_eq_true, not_true_eq_false, false_implies, true_implies, Nat.zero_add, reduceIte, Nat.reduceMul, Nat.reduceEqDiff, nxa, nxc, lgn, nL_of, swx, Int.reduceAdd, gI_a, gI_k, gL_a, gL_k, gI_r, gL_r, nI_and, nI_or, nI_xor, nI_ndf, nI_shl, nI_shr, ne_eq, and_true, true_and, eq_self, true_or, or_true, false_or, or_false, Option.toList, List.cons_append, List.nil_append, List.length_nil, List.length_cons, Nat.not_lt_zero]
      exact hyes σ2 ((hF.mono (fun c h => Or.inr h)).tr ((F1.tr F2).mono (fun c h => Or.inl h))) V2 h0
    · simp (disch := first | decide | omega) only [mxa, vxa, vxb, vxc, vnd, vne, Nat.reduceAdd, Nat.reduceSub, Nat.reduceLeDiff, Nat.reduceLT, Int32.reduceLT, Int32.reduceLE, Int32.reduceAdd, Int32.reduceSub, Int32.reduceMul, Int32.reduceToNatClampNeg, not_false_eq_true, not_true_eq_false, false_implies, true_implies, Nat.zero_add, reduceIte, Nat.reduceMul, Nat.reduceEqDiff, nxa, nxc, lgn, nL_of, swx, Int.reduceAdd, gI_a, gI_k, gL_a, gL_k, gI_r, gL_r, nI_and, nI_or, nI_xor, nI_ndf, nI_shl, nI_shr, ne_eq, and_true, true_and, eq_self, true_or, or_true, false_or, or_false, Option.toList, List.cons_append, List.nil_append, List.length_nil, List.length_cons, Nat.not_lt_zero, h0]
      exact hno τ hF hVk h0
theorem c_refusesWishes (X : Cx) (d : Nat) (σ : Mm) (V : Nat → Int32) (t N O K o s : Nat) (hs : Sh σ) (hr : Rf σ) (hV : gI σ 191 = V) (hG : Gd V t N O K) (ho : o < O) (hs10 : s < 1024) (Q : Po) (hQ : ∀ σ' : Mm, Fr (fun c => c = 195) σ σ' → (∀ c j, gI σ' c j = gI σ c j) → (∀ f, f < N → gL σ' 195 f = wL V s f) → Q (some (.int (nI (hnF V N o (wL V s))))) σ') : Call X (d + 2) 0 0 mX10_refusesWishes [.ref 190, .int (nI o), .int (nI s)] σ Q := by
  have hN10 := hG.1.2
  refine call_of eX10_refusesWishes rfl ?_
  refine wp_blk kX10_refusesWishes_0 ?_
  simp (disch := first | decide | omega) only [mxa, vxa, vxb, vxc, vnd, vne, Nat.reduceAdd, Nat.reduceSub, Nat.reduceLeDiff, Nat.reduceLT, Int32.reduceLT, Int32.reduceLE, Int32.reduceAdd, Int32.reduceSub, Int32.reduceMul, Int32.reduceToNatClampNeg, not_false_eq_true, not_true_eq_false, false_implies, true_implies, Nat.zero_add, reduceIte, Nat.reduceMul, Nat.reduceEqDiff, nxa, nxc, lgn, nL_of, swx, Int.reduceAdd, gI_a, gI_k, gL_a, gL_k, gI_r, gL_r, nI_and, nI_or, nI_xor, nI_ndf, nI_shl, nI_shr, ne_eq, and_true, true_and, eq_self, true_or, or_true, false_or, or_false, Option.toList, List.cons_append, List.nil_append, List.length_nil, List.length_cons, Nat.not_lt_zero, bX10_refusesWishes_0]
  refine wfor (fun k => ∀ τ : Mm, Fr (fun c => c = 195) σ τ → (∀ c j, gI τ c j = gI σ c j) → (∀ f, f < k → gL τ 195 f = wL V s f) → Wp X mX10_refusesWishes (rmo (d + 2) 0 0) (d + 2) Q 0 0 2 [some (.ref 190), some (.int (nI o)), some (.int (nI s)), some (.int (nI k))] [] τ) N (fun k hk hP τ hF hI' hLk => ?_) (fun τ hF hI' hLk => ?_) σ Fr.rf (fun _ _ => rfl) (fun f hf => absurd hf (by omega))
  · have hst : Sh τ := hF.1.trans hs
    have hrt : Rf τ := fun a k q1 q2 q3 q4 => (hF.gR a k).trans (hr a k q1 q2 q3 q4)
    have n0 : gI τ 191 0 = nI N := by rw [hI', hV]; exact hG.1.1
    obtain ⟨g1, g2⟩ := wsN_ok hG hk
    have f2 : gI τ 191 (29 + k) = nI (wsN V k) := by rw [hI', hV]; exact g1
    have fin : ∀ x, x = wL V s k → Wp X mX10_refusesWishes (rmo (d + 2) 0 0) (d + 2) Q 0 0 40 [some (.ref 190), some (.int (nI o)), some (.int (nI s)), some (.int (nI k))] [.long x, .int (nI k), .ref 195] τ := by
      intro x hx
      refine wp_blk kX10_refusesWishes_40 ?_
      simp (disch := first | decide | omega) only [mxa, vxa, vxb, vxc, vnd, vne, Nat.reduceAdd, Nat.reduceSub, Nat.reduceLeDiff, Nat.reduceLT, Int32.reduceLT, Int32.reduceLE, Int32.reduceAdd, Int32.reduceSub, Int32.reduceMul, Int32.reduceToNatClampNeg, not_false_eq_true, not_true_eq_false, false_implies, true_implies, Nat.zero_add, reduceIte, Nat.reduceMul, Nat.reduceEqDiff, nxa, nxc, lgn, nL_of, swx, Int.reduceAdd, gI_a, gI_k, gL_a, gL_k, gI_r, gL_r, nI_and, nI_or, nI_xor, nI_ndf, nI_shl, nI_shr, ne_eq, and_true, true_and, eq_self, true_or, or_true, false_or, or_false, Option.toList, List.cons_append, List.nil_append, List.length_nil, List.length_cons, Nat.not_lt_zero, bX10_refusesWishes_40, kdx hst]
      refine hP _ (hF.tr (Fr.sL rfl)) (fun c j => hI' c j) (fun f hf => ?_)
      by_cases e : f = k
      · subst e
        simp (disch := first | decide | omega) only [mxa, vxa, vxb, vxc, vnd, vne, Nat.reduceAdd, Nat.reduceSub, Nat.reduceLeDiff, Nat.reduceLT, Int32.reduceLT, Int32.reduceLE, Int32.reduceAdd, Int32.reduceSub, Int32.reduceMul, Int32.reduceToNatClampNeg, not_false_eq_true, not_true_eq_false, false_implies, true_implies, Nat.zero_add, reduceIte, Nat.reduceMul, Nat.reduceEqDiff, nxa, nxc, lgn, nL_of, swx, Int.reduceAdd, gI_a, gI_k, gL_a, gL_k, gI_r, gL_r, nI_and, nI_or, nI_xor, nI_ndf, nI_shl, nI_shr, ne_eq, and_true, true_and, eq_self, true_or, or_true, false_or, or_false, Option.toList, List.cons_append, List.nil_append, List.length_nil, List.length_cons, Nat.not_lt_zero]
        exact hx
      · simp (disch := first | decide | omega) only [mxa, vxa, vxb, vxc, vnd, vne, Nat.reduceAdd, Nat.reduceSub, Nat.reduceLeDiff, Nat.reduceLT, Int32.reduceLT, Int32.reduceLE, Int32.reduceAdd, Int32.reduceSub, Int32.reduceMul, Int32.reduceToNatClampNeg, not_false_eq_true, not_true_eq_false, false_implies, true_implies, Nat.zero_add, reduceIte, Nat.reduceMul, Nat.reduceEqDiff, nxa, nxc, lgn, nL_of, swx, Int.reduceAdd, gI_a, gI_k, gL_a, gL_k, gI_r, gL_r, nI_and, nI_or, nI_xor, nI_ndf, nI_shl, nI_shr, ne_eq, and_true, true_and, eq_self, true_or, or_true, false_or, or_false, Option.toList, List.cons_append, List.nil_append, List.length_nil, List.length_cons, Nat.not_lt_zero]
        exact hLk f (by omega)
    refine wp_blk kX10_refusesWishes_2 ?_
    simp (disch := first | decide | omega) only [mxa, vxa, vxb, vxc, vnd, vne, Nat.reduceAdd, Nat.reduceSub, Nat.reduceLeDiff, Nat.reduceLT, Int32.reduceLT, Int32.reduceLE, Int32.reduceAdd, Int32.reduceSub, Int32.reduceMul, Int32.reduceToNatClampNeg, not_false_eq_true, not_true_eq_false, false_implies, true_implies, Nat.zero_add, reduceIte, Nat.reduceMul, Nat.reduceEqDiff, nxa, nxc, lgn, nL_of, swx, Int.reduceAdd, gI_a, gI_k, gL_a, gL_k, gI_r, gL_r, nI_and, nI_or, nI_xor, nI_ndf, nI_shl, nI_shr, ne_eq, and_true, true_and, eq_self, true_or, or_true, false_or, or_false, Option.toList, List.cons_append, List.nil_append, List.length_nil, List.length_cons, Nat.not_lt_zero, bX10_refusesWishes_2, kdx hst, grx hrt, n0, show ¬ N ≤ k by omega]
    refine c_isIn X _ _ s k (by omega) (by omega) _ ?_
    by_cases hb : s.testBit k = true
    · rw [if_pos hb]
      simp (disch := first | decide | omega) only [mxa, vxa, vxb, vxc, vnd, vne, Nat.reduceAdd, Nat.reduceSub, Nat.reduceLeDiff, Nat.reduceLT, Int32.reduceLT, Int32.reduceLE, Int32.reduceAdd, Int32.reduceSub, Int32.reduceMul, Int32.reduceToNatClampNeg, not_false_eq_true, not_true_eq_false, false_implies, true_implies, Nat.zero_add, reduceIte, Nat.reduceMul, Nat.reduceEqDiff, nxa, nxc, lgn, nL_of, swx, Int.reduceAdd, gI_a, gI_k, gL_a, gL_k, gI_r, gL_r, nI_and, nI_or, nI_xor, nI_ndf, nI_shl, nI_shr, ne_eq, and_true, true_and, eq_self, true_or, or_true, false_or, or_false, Option.toList, List.cons_append, List.nil_append, List.length_nil, List.length_cons, Nat.not_lt_zero, kdx hst, grx hrt, f2]
      refine fin _ ?_
      unfold wL
      rw [if_pos hb]
    · rw [if_neg hb]
      simp (disch := first | decide | omega) only [mxa, vxa, vxb, vxc, vnd, vne, Nat.reduceAdd, Nat.reduceSub, Nat.reduceLeDiff, Nat.reduceLT, Int32.reduceLT, Int32.reduceLE, Int32.reduceAdd, Int32.reduceSub, Int32.reduceMul, Int32.reduceToNatClampNeg, not_false_eq_true, not_true_eq_false, false_implies, true_implies, Nat.zero_add, reduceIte, Nat.reduceMul, Nat.reduceEqDiff, nxa, nxc, lgn, nL_of, swx, Int.reduceAdd, gI_a, gI_k, gL_a, gL_k, gI_r, gL_r, nI_and, nI_or, nI_xor, nI_ndf, nI_shl, nI_shr, ne_eq, and_true, true_and, eq_self, true_or, or_true, false_or, or_false, Option.toList, List.cons_append, List.nil_append, List.length_nil, List.length_cons, Nat.not_lt_zero]
      refine wp_blk kX10_refusesWishes_39 ?_
      simp (disch := first | decide | omega) only [mxa, vxa, vxb, vxc, vnd, vne, Nat.reduceAdd, Nat.reduceSub, Nat.reduceLeDiff, Nat.reduceLT, Int32.reduceLT, Int32.reduceLE, Int32.reduceAdd, Int32.reduceSub, Int32.reduceMul, Int32.reduceToNatClampNeg, not_false_eq_true, not_true_eq_false, false_implies, true_implies, Nat.zero_add, reduceIte, Nat.reduceMul, Nat.reduceEqDiff, nxa, nxc, lgn, nL_of, swx, Int.reduceAdd, gI_a, gI_k, gL_a, gL_k, gI_r, gL_r, nI_and, nI_or, nI_xor, nI_ndf, nI_shl, nI_shr, ne_eq, and_true, true_and, eq_self, true_or, or_true, false_or, or_false, Option.toList, List.cons_append, List.nil_append, List.length_nil, List.length_cons, Nat.not_lt_zero, bX10_refusesWishes_39]
      refine fin _ ?_
      unfold wL
      rw [if_neg hb]
  · have hst : Sh τ := hF.1.trans hs
    have hrt : Rf τ := fun a k q1 q2 q3 q4 => (hF.gR a k).trans (hr a k q1 q2 q3 q4)
    have n0 : gI τ 191 0 = nI N := by rw [hI', hV]; exact hG.1.1
    refine wp_blk kX10_refusesWishes_2 ?_
    simp (disch := first | decide | omega) only [mxa, vxa, vxb, vxc, vnd, vne, Nat.reduceAdd, Nat.reduceSub, Nat.reduceLeDiff, Nat.reduceLT, Int32.reduceLT, Int32.reduceLE, Int32.reduceAdd, Int32.reduceSub, Int32.reduceMul, Int32.reduceToNatClampNeg, not_false_eq_true, not_true_eq_false, false_implies, true_implies, Nat.zero_add, reduceIte, Nat.reduceMul, Nat.reduceEqDiff, nxa, nxc, lgn, nL_of, swx, Int.reduceAdd, gI_a, gI_k, gL_a, gL_k, gI_r, gL_r, nI_and, nI_or, nI_xor, nI_ndf, nI_shl, nI_shr, ne_eq, and_true, true_and, eq_self, true_or, or_true, false_or, or_false, Option.toList, List.cons_append, List.nil_append, List.length_nil, List.length_cons, Nat.not_lt_zero, bX10_refusesWishes_2, kdx hst, grx hrt, n0, Nat.le_refl]
    refine wp_blk kX10_refusesWishes_47 ?_
    simp (disch := first | decide | omega) only [mxa, vxa, vxb, vxc, vnd, vne, Nat.reduceAdd, Nat.reduceSub, Nat.reduceLeDiff, Nat.reduceLT, Int32.reduceLT, Int32.reduceLE, Int32.reduceAdd, Int32.reduceSub, Int32.reduceMul, Int32.reduceToNatClampNeg, not_false_eq_true, not_true_eq_false, false_implies, true_implies, Nat.zero_add, reduceIte, Nat.reduceMul, Nat.reduceEqDiff, nxa, nxc, lgn, nL_of, swx, Int.reduceAdd, gI_a, gI_k, gL_a, gL_k, gI_r, gL_r, nI_and, nI_or, nI_xor, nI_ndf, nI_shl, nI_shr, ne_eq, and_true, true_and, eq_self, true_or, or_true, false_or, or_false, Option.toList, List.cons_append, List.nil_append, List.length_nil, List.length_cons, Nat.not_lt_zero, bX10_refusesWishes_47, kdx hst]
    refine c_refuses X _ _ V t N O K o (wL V s) hst hrt (by funext j; rw [hI', hV]) hG hLk ho _ ?_
    simp (disch := first | decide | omega) only [mxa, vxa, vxb, vxc, vnd, vne, Nat.reduceAdd, Nat.reduceSub, Nat.reduceLeDiff, Nat.reduceLT, Int32.reduceLT, Int32.reduceLE, Int32.reduceAdd, Int32.reduceSub, Int32.reduceMul, Int32.reduceToNatClampNeg, not_false_eq_true, not_true_eq_false, false_implies, true_implies, Nat.zero_add, reduceIte, Nat.reduceMul, Nat.reduceEqDiff, nxa, nxc, lgn, nL_of, swx, Int.reduceAdd, gI_a, gI_k, gL_a, gL_k, gI_r, gL_r, nI_and, nI_or, nI_xor, nI_ndf, nI_shl, nI_shr, ne_eq, and_true, true_and, eq_self, true_or, or_true, false_or, or_false, Option.toList, List.cons_append, List.nil_append, List.length_nil, List.length_cons, Nat.not_lt_zero]
    exact hQ τ hF hI' hLk
theorem c_bakesWishes (X : Cx) (d : Nat) (σ : Mm) (V : Nat → Int32) (t N O K o s : Nat) (hs : Sh σ) (hr : Rf σ) (hV : gI σ 191 = V) (hG : Gd V t N O K) (ho : o < O) (hs10 : s < 1024) (hL : ∀ f, f < N → gL σ 195 f = wL V s f) (h0 : hnF V N o (wL V s) = 0) (Q : Po) (hQ : Q (some (.int (nI (bwT V N o s)))) (rI σ 191 (bwV V N o s))) : Call X (d + 1) 0 0 mX10_bakesWishes [.ref 190, .int (nI o), .int (nI s)] σ Q := by
  have hN10 := hG.1.2
  have hO3 := hG.2.1.2
  have key := wfor (fun k => Wp X mX10_bakesWishes (rmo (d + 1) 0 0) (d + 1) Q 0 0 2 [some (.ref 190), some (.int (nI o)), some (.int (nI s)), some (.int (nI k))] [] (rI σ 191 (dwV s V k))) N (fun k hk hP => by
    have n0 : dwV s V k 0 = nI N := (dwV_off k (fun f hf => by omega)).trans hG.1.1
    have fin : ∀ x, upd (dwV s V k) (29 + k) x = dwV s V (k + 1) → Wp X mX10_bakesWishes (rmo (d + 1) 0 0) (d + 1) Q 0 0 42 [some (.ref 190), some (.int (nI o)), some (.int (nI s)), some (.int (nI k))] [.int x, .int (nI (29 + k)), .ref 191] (rI σ 191 (dwV s V k)) := by
      intro x hx
      refine wp_blk kX10_bakesWishes_42 ?_
      simp (disch := first | decide | omega) only [mxa, vxa, vxb, vxc, vnd, vne, Nat.reduceAdd, Nat.reduceSub, Nat.reduceLeDiff, Nat.reduceLT, Int32.reduceLT, Int32.reduceLE, Int32.reduceAdd, Int32.reduceSub, Int32.reduceMul, Int32.reduceToNatClampNeg, not_false_eq_true, not_true_eq_false, false_implies, true_implies, Nat.zero_add, reduceIte, Nat.reduceMul, Nat.reduceEqDiff, nxa, nxc, lgn, nL_of, swx, Int.reduceAdd, gI_a, gI_k, gL_a, gL_k, gI_r, gL_r, nI_and, nI_or, nI_xor, nI_ndf, nI_shl, nI_shr, ne_eq, and_true, true_and, eq_self, true_or, or_true, false_or, or_false, Option.toList, List.cons_append, List.nil_append, List.length_nil, List.length_cons, Nat.not_lt_zero, bX10_bakesWishes_42, kdx hs, grx hr, sI_rI]
      rw [hx]
      exact hP
    refine wp_blk kX10_bakesWishes_2 ?_
    simp (disch := first | decide | omega) only [mxa, vxa, vxb, vxc, vnd, vne, Nat.reduceAdd, Nat.reduceSub, Nat.reduceLeDiff, Nat.reduceLT, Int32.reduceLT, Int32.reduceLE, Int32.reduceAdd, Int32.reduceSub, Int32.reduceMul, Int32.reduceToNatClampNeg, not_false_eq_true, not_true_eq_false, false_implies, true_implies, Nat.zero_add, reduceIte, Nat.reduceMul, Nat.reduceEqDiff, nxa, nxc, lgn, nL_of, swx, Int.reduceAdd, gI_a, gI_k, gL_a, gL_k, gI_r, gL_r, nI_and, nI_or, nI_xor, nI_ndf, nI_shl, nI_shr, ne_eq, and_true, true_and, eq_self, true_or, or_true, false_or, or_false, Option.toList, List.cons_append, List.nil_append, List.length_nil, List.length_cons, Nat.not_lt_zero, bX10_bakesWishes_2, kdx hs, grx hr, n0, show ¬ N ≤ k by omega]
    refine c_isIn X _ _ s k (by omega) (by omega) _ ?_
    by_cases hb : s.testBit k = true
    · rw [if_pos hb]
      simp (disch := first | decide | omega) only [mxa, vxa, vxb, vxc, vnd, vne, Nat.reduceAdd, Nat.reduceSub, Nat.reduceLeDiff, Nat.reduceLT, Int32.reduceLT, Int32.reduceLE, Int32.reduceAdd, Int32.reduceSub, Int32.reduceMul, Int32.reduceToNatClampNeg, not_false_eq_true, not_true_eq_false, false_implies, true_implies, Nat.zero_add, reduceIte, Nat.reduceMul, Nat.reduceEqDiff, nxa, nxc, lgn, nL_of, swx, Int.reduceAdd, gI_a, gI_k, gL_a, gL_k, gI_r, gL_r, nI_and, nI_or, nI_xor, nI_ndf, nI_shl, nI_shr, ne_eq, and_true, true_and, eq_self, true_or, or_true, false_or, or_false, Option.toList, List.cons_append, List.nil_append, List.length_nil, List.length_cons, Nat.not_lt_zero]
      exact fin _ (if_pos hb).symm
    · rw [if_neg hb]
      simp (disch := first | decide | omega) only [mxa, vxa, vxb, vxc, vnd, vne, Nat.reduceAdd, Nat.reduceSub, Nat.reduceLeDiff, Nat.reduceLT, Int32.reduceLT, Int32.reduceLE, Int32.reduceAdd, Int32.reduceSub, Int32.reduceMul, Int32.reduceToNatClampNeg, not_false_eq_true, not_true_eq_false, false_implies, true_implies, Nat.zero_add, reduceIte, Nat.reduceMul, Nat.reduceEqDiff, nxa, nxc, lgn, nL_of, swx, Int.reduceAdd, gI_a, gI_k, gL_a, gL_k, gI_r, gL_r, nI_and, nI_or, nI_xor, nI_ndf, nI_shl, nI_shr, ne_eq, and_true, true_and, eq_self, true_or, or_true, false_or, or_false, Option.toList, List.cons_append, List.nil_append, List.length_nil, List.length_cons, Nat.not_lt_zero]
      refine wp_blk kX10_bakesWishes_33 ?_
      simp (disch := first | decide | omega) only [mxa, vxa, vxb, vxc, vnd, vne, Nat.reduceAdd, Nat.reduceSub, Nat.reduceLeDiff, Nat.reduceLT, Int32.reduceLT, Int32.reduceLE, Int32.reduceAdd, Int32.reduceSub, Int32.reduceMul, Int32.reduceToNatClampNeg, not_false_eq_true, not_true_eq_false, false_implies, true_implies, Nat.zero_add, reduceIte, Nat.reduceMul, Nat.reduceEqDiff, nxa, nxc, lgn, nL_of, swx, Int.reduceAdd, gI_a, gI_k, gL_a, gL_k, gI_r, gL_r, nI_and, nI_or, nI_xor, nI_ndf, nI_shl, nI_shr, ne_eq, and_true, true_and, eq_self, true_or, or_true, false_or, or_false, Option.toList, List.cons_append, List.nil_append, List.length_nil, List.length_cons, Nat.not_lt_zero, bX10_bakesWishes_33, kdx hs, grx hr]
      refine fin _ ?_
      rw [upd_self]
      exact (if_neg hb).symm) (by
    have n0 : dwV s V N 0 = nI N := (dwV_off N (fun f hf => by omega)).trans hG.1.1
    obtain ⟨m1, m2, m3⟩ := dwV_same (V := V) (N := N) (s := s)
    refine wp_blk kX10_bakesWishes_2 ?_
    simp (disch := first | decide | omega) only [mxa, vxa, vxb, vxc, vnd, vne, Nat.reduceAdd, Nat.reduceSub, Nat.reduceLeDiff, Nat.reduceLT, Int32.reduceLT, Int32.reduceLE, Int32.reduceAdd, Int32.reduceSub, Int32.reduceMul, Int32.reduceToNatClampNeg, not_false_eq_true, not_true_eq_false, false_implies, true_implies, Nat.zero_add, reduceIte, Nat.reduceMul, Nat.reduceEqDiff, nxa, nxc, lgn, nL_of, swx, Int.reduceAdd, gI_a, gI_k, gL_a, gL_k, gI_r, gL_r, nI_and, nI_or, nI_xor, nI_ndf, nI_shl, nI_shr, ne_eq, and_true, true_and, eq_self, true_or, or_true, false_or, or_false, Option.toList, List.cons_append, List.nil_append, List.length_nil, List.length_cons, Nat.not_lt_zero, bX10_bakesWishes_2, kdx hs, grx hr, n0, Nat.le_refl]
    refine wp_blk kX10_bakesWishes_49 ?_
    simp (disch := first | decide | omega) only [mxa, vxa, vxb, vxc, vnd, vne, Nat.reduceAdd, Nat.reduceSub, Nat.reduceLeDiff, Nat.reduceLT, Int32.reduceLT, Int32.reduceLE, Int32.reduceAdd, Int32.reduceSub, Int32.reduceMul, Int32.reduceToNatClampNeg, not_false_eq_true, not_true_eq_false, false_implies, true_implies, Nat.zero_add, reduceIte, Nat.reduceMul, Nat.reduceEqDiff, nxa, nxc, lgn, nL_of, swx, Int.reduceAdd, gI_a, gI_k, gL_a, gL_k, gI_r, gL_r, nI_and, nI_or, nI_xor, nI_ndf, nI_shl, nI_shr, ne_eq, and_true, true_and, eq_self, true_or, or_true, false_or, or_false, Option.toList, List.cons_append, List.nil_append, List.length_nil, List.length_cons, Nat.not_lt_zero, bX10_bakesWishes_49, kdx hs, grx hr]
    refine c_bakes X _ _ (dwV s V N) t N O K o (wL V s) (by exact hs) (by exact hr) (gI_rS _ _ _) (dwV_Gd hG N (Nat.le_refl _)) (fun f hf => hL f hf) ho (fun f hf => (m3 _ f (by omega)).mpr ((hnF_0 h0).1 f hf)) _ ?_
    rw [m1, m2 o (by omega), rI_rI]
    simp (disch := first | decide | omega) only [mxa, vxa, vxb, vxc, vnd, vne, Nat.reduceAdd, Nat.reduceSub, Nat.reduceLeDiff, Nat.reduceLT, Int32.reduceLT, Int32.reduceLE, Int32.reduceAdd, Int32.reduceSub, Int32.reduceMul, Int32.reduceToNatClampNeg, not_false_eq_true, not_true_eq_false, false_implies, true_implies, Nat.zero_add, reduceIte, Nat.reduceMul, Nat.reduceEqDiff, nxa, nxc, lgn, nL_of, swx, Int.reduceAdd, gI_a, gI_k, gL_a, gL_k, gI_r, gL_r, nI_and, nI_or, nI_xor, nI_ndf, nI_shl, nI_shr, ne_eq, and_true, true_and, eq_self, true_or, or_true, false_or, or_false, Option.toList, List.cons_append, List.nil_append, List.length_nil, List.length_cons, Nat.not_lt_zero]
    exact hQ)
  rw [show dwV s V 0 = gI σ 191 from hV.symm, rI_self] at key
  refine call_of eX10_bakesWishes rfl ?_
  refine wp_blk kX10_bakesWishes_0 ?_
  simp (disch := first | decide | omega) only [mxa, vxa, vxb, vxc, vnd, vne, Nat.reduceAdd, Nat.reduceSub, Nat.reduceLeDiff, Nat.reduceLT, Int32.reduceLT, Int32.reduceLE, Int32.reduceAdd, Int32.reduceSub, Int32.reduceMul, Int32.reduceToNatClampNeg, not_false_eq_true, not_true_eq_false, false_implies, true_implies, Nat.zero_add, reduceIte, Nat.reduceMul, Nat.reduceEqDiff, nxa, nxc, lgn, nL_of, swx, Int.reduceAdd, gI_a, gI_k, gL_a, gL_k, gI_r, gL_r, nI_and, nI_or, nI_xor, nI_ndf, nI_shl, nI_shr, ne_eq, and_true, true_and, eq_self, true_or, or_true, false_or, or_false, Option.toList, List.cons_append, List.nil_append, List.length_nil, List.length_cons, Nat.not_lt_zero, bX10_bakesWishes_0]
  exact key
