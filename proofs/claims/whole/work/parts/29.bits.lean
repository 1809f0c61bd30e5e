/-! bits of numbers -/
theorem nI_bv (a : Nat) : (nI a).toBitVec = BitVec.ofNat 32 a := rfl
theorem nI_and (a b : Nat) : nI a &&& nI b = nI (a &&& b) := by
  apply Int32.toBitVec_inj.mp
  simp only [Int32.toBitVec_and, nI_bv]
  apply BitVec.eq_of_getLsbD_eq
  intro i hi
  simp [BitVec.getLsbD_ofNat, hi]
theorem nI_or (a b : Nat) : nI a ||| nI b = nI (a ||| b) := by
  apply Int32.toBitVec_inj.mp
  simp only [Int32.toBitVec_or, nI_bv]
  apply BitVec.eq_of_getLsbD_eq
  intro i hi
  simp [BitVec.getLsbD_ofNat, hi]
theorem nI_xor (a b : Nat) : nI a ^^^ nI b = nI (a ^^^ b) := by
  apply Int32.toBitVec_inj.mp
  simp only [Int32.toBitVec_xor, nI_bv]
  apply BitVec.eq_of_getLsbD_eq
  intro i hi
  simp [BitVec.getLsbD_ofNat, hi]
/-- a without the bits of b -/
def ndf (a b : Nat) : Nat := a ^^^ (a &&& b)
theorem ndf_bit (a b i : Nat) : (ndf a b).testBit i = (a.testBit i && !b.testBit i) := by
  unfold ndf
  rw [Nat.testBit_xor, Nat.testBit_and]
  cases a.testBit i <;> cases b.testBit i <;> rfl
theorem nI_ndf (a b : Nat) : nI a &&& (nI b ^^^ (-1)) = nI (ndf a b) := by
  apply Int32.toBitVec_inj.mp
  simp only [Int32.toBitVec_and, Int32.toBitVec_xor, nI_bv]
  apply BitVec.eq_of_getLsbD_eq
  intro i hi
  have e : (-1 : Int32).toBitVec.getLsbD i = true := by
    have : (-1 : Int32).toBitVec = BitVec.allOnes 32 := by decide
    rw [this, BitVec.getLsbD_allOnes]
    simp [hi]
  rw [BitVec.getLsbD_and, BitVec.getLsbD_xor, e]
  simp only [BitVec.getLsbD_ofNat, hi, decide_true, Bool.true_and, ndf_bit]
  cases a.testBit i <;> cases b.testBit i <;> rfl
theorem sh_am (g : Nat) (h : g < 32) : (nI g &&& 31).toBitVec.smod 32 = BitVec.ofNat 32 g := by
  have : ∀ g, g < 32 → (nI g &&& 31).toBitVec.smod 32 = BitVec.ofNat 32 g := by decide +kernel
  exact this g h
theorem nI_shl (a g : Nat) (h : g < 32) : nI a <<< (nI g &&& 31) = nI (a * 2 ^ g) := by
  apply Int32.toBitVec_inj.mp
  rw [Int32.toBitVec_shiftLeft, sh_am g h, nI_bv, nI_bv]
  apply BitVec.eq_of_toNat_eq
  simp only [BitVec.shiftLeft_eq', BitVec.toNat_shiftLeft, BitVec.toNat_ofNat, Nat.shiftLeft_eq]
  rw [Nat.mod_eq_of_lt (show g < 2 ^ 32 by omega)]
  simp [Nat.mul_mod]
theorem nI_shr (a g : Nat) (ha : a < 2147483648) (h : g < 32) : nI a >>> (nI g &&& 31) = nI (a / 2 ^ g) := by
  apply Int32.toBitVec_inj.mp
  rw [Int32.toBitVec_shiftRight, sh_am g h, nI_bv, nI_bv]
  have hm : (BitVec.ofNat 32 a).msb = false := by
    rw [BitVec.msb_eq_decide]
    simp only [BitVec.toNat_ofNat]
    rw [Nat.mod_eq_of_lt (by omega)]
    simp
    omega
  rw [BitVec.sshiftRight_eq', BitVec.sshiftRight_eq_of_msb_false hm]
  apply BitVec.eq_of_toNat_eq
  simp only [BitVec.toNat_ushiftRight, BitVec.toNat_ofNat, Nat.shiftRight_eq_div_pow]
  rw [Nat.mod_eq_of_lt (show g < 2 ^ 32 by omega), Nat.mod_eq_of_lt (show a < 2 ^ 32 by omega), Nat.mod_eq_of_lt]
  exact Nat.lt_of_le_of_lt (Nat.div_le_self _ _) (by omega)
theorem and_one_bit (m g : Nat) : m / 2 ^ g &&& 1 = if m.testBit g then 1 else 0 := by
  rw [Nat.and_one_is_mod]
  have := Nat.testBit_eq_decide_div_mod_eq (x := m) (i := g)
  rw [this]
  by_cases h : m / 2 ^ g % 2 = 1
  · simp [h]
  · have : m / 2 ^ g % 2 = 0 := by omega
    simp [this]
theorem bm_lt (p : Nat → Bool) (n : Nat) : bm p n < 2 ^ n := by
  induction n with
  | zero => exact Nat.one_pos
  | succ n ih =>
    simp only [bm, Nat.pow_succ]
    split <;> omega
theorem bm_bit (p : Nat → Bool) (n i : Nat) : (bm p n).testBit i = (decide (i < n) && p i) := by
  induction n with
  | zero => simp [bm]
  | succ n ih =>
    have hl := bm_lt p n
    simp only [bm]
    by_cases hp : p n = true
    · rw [if_pos hp, Nat.add_comm]
      by_cases hi : i = n
      · subst hi
        rw [Nat.testBit_two_pow_add_eq, Nat.testBit_lt_two_pow hl]
        simp [hp]
      · by_cases hlt : i < n
        · rw [Nat.testBit_two_pow_add_gt hlt, ih]
          simp [hlt, show i < n + 1 by omega]
        · have : 2 ^ n + bm p n < 2 ^ i := by
            have : 2 ^ (n + 1) ≤ 2 ^ i := Nat.pow_le_pow_right (by omega) (by omega)
            rw [Nat.pow_succ] at this
            omega
          rw [Nat.testBit_lt_two_pow this]
          simp [show ¬ i < n + 1 by omega]
    · rw [if_neg hp, Nat.add_zero, ih]
      by_cases hi : i = n
      · subst hi; simp [hp]
      · by_cases hlt : i < n
        · simp [hlt, show i < n + 1 by omega]
        · simp [hlt, show ¬ i < n + 1 by omega]
theorem qm_bit (V : Nat → Int32) (f g : Nat) : (qm V f).testBit g = (decide (g < 10) && qq V f g) := bm_bit _ _ _
theorem qm_lt (V : Nat → Int32) (f : Nat) : qm V f < 1024 := bm_lt _ 10
