/-! stones: a wish over the size leaves nothing -/
set_option maxRecDepth 20000
theorem st_inf {V : Nat → Int32} {N z f : Nat} {L : Nat → Int32} (hN : N ≤ 10) (hf : f < N) (hz : z < wsN V f) (hL : ∀ s, 0 < s → s < 2 ^ N → s &&& wsh V N = s → L s = cm (fitM V N z) L s) : ∀ n s, s < n → s < 2 ^ N → s &&& wsh V N = s → s.testBit f = true → L s = nI 99
  | 0, s, q, _, _, _ => absurd q (by omega)
  | n + 1, s, q, s2, hw, hb => by
    have pw := pow_le hN
    have s0 : 0 < s := by
      rcases Nat.eq_zero_or_pos s with e | e
      · rw [e, Nat.zero_testBit] at hb; cases hb
      · exact e
    have ih := st_inf hN hf hz hL n
    rw [hL s s0 s2 hw]
    unfold cm
    refine fE_rel (R := fun a _ => a = nI 99) (g' := fun _ v => v) (v' := nI 0) rfl (fun x a b xs hx e => ?_) (s + 1) 0 (by omega)
    obtain ⟨q1, q2⟩ := ndf_lt (show s < 1024 by omega) s0 hx.1
    have nb : ¬ x.testBit f = true := fun y => by
      have le := sumN_at (l := fun f => if x.testBit f = true then wsN V f else 0) hf
      rw [if_pos y] at le
      have : sW V N x ≤ z := hx.2.2
      unfold sW at this
      omega
    have i1 := ih (ndf s x) (by omega) (by omega) (sub_bit.mpr (fun i hi => sub_bit.mp hw i (sub_bit.mp q2 i hi))) (by rw [ndf_bit, hb]; simpa using nb)
    show mj (L (ndf s x)) a = nI 99
    rw [i1, e, mj_n (by omega) (by omega)]
    rfl
