theorem t_ab (X : Cx) (d : Nat) (a : Nat) (σ : Mm) (Q : Po) (h1 : kd σ a = some (0, 2)) (h2 : gR σ a 7 = some (a + 1)) (h3 : kd σ (a + 1) = some (1, 5)) (hQ : Q (some (.int (gI σ (a + 1) 0 + gI σ (a + 1) 1))) σ) : Call X d 0 0 mX2_allBread [.ref a] σ Q := by
  refine call_of eX2_allBread rfl ?_
  refine wp_blk kX2_allBread_0 ?_
  simp only [vxa, vxb, vxc, vxd, vxe, Nat.reduceAdd, Nat.reduceSub, Nat.reduceLeDiff, Nat.reduceLT, bX2_allBread_0]
  trace_state
  refine wp_blk kX2_allBread_4 ?_
  simp only [vxa, vxb, vxc, vxd, vxe, Nat.reduceAdd, Nat.reduceSub, Nat.reduceLeDiff, Nat.reduceLT, bX2_allBread_4, h1, h2, h3]
  trace_state
  sorry
theorem t_eat (X : Cx) (d : Nat) (a : Nat) (σ : Mm) (Q : Po) (h1 : kd σ a = some (0, 2)) (h2 : gR σ a 7 = some (a + 1)) (h3 : kd σ (a + 1) = some (1, 5)) (hQ : Q (some (.int (gI σ (a + 1) 0 + gI σ (a + 1) 1))) σ) : Call X (d + 1) 0 0 mX2_eat [.ref a] σ Q := by
  refine call_of eX2_eat rfl ?_
  refine wp_blk kX2_eat_0 ?_
  simp only [vxa, vxb, vxc, vxd, vxe, Nat.reduceAdd, Nat.reduceSub, Nat.reduceLeDiff, Nat.reduceLT, bX2_eat_0, h1, h2, h3]
  trace_state
  refine wp_blk kX2_eat_7 ?_
  simp only [vxa, vxb, vxc, vxd, vxe, Nat.reduceAdd, Nat.reduceSub, Nat.reduceLeDiff, Nat.reduceLT, bX2_eat_7, h1, h2, h3]
  trace_state
  sorry
