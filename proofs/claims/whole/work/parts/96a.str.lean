/-! String.length and charAt of the constants -/
set_option maxRecDepth 20000
theorem adr_S (X : Cx) (i : Nat) (h : i < 9) : adr X (1000000 + i) = cxS X i := by
  unfold adr
  rw [if_neg (by omega), if_pos (by omega), Nat.add_sub_cancel_left]
theorem wp_nret {X : Cx} {M : MI} {R : Room} {d : Nat} {Q : Po} {c0 s0 pc : Nat} {lv : Lv} {σ : Mm} {v : Int32} {ty : FieldType} (hd : decode M.2.1 pc = .ok (.ireturn, 1)) (hret : M.2.2.2 = some ty) (hn : narrow ty (.int v) = .int v) (hcc : c0 = R.cells) (hQ : Q (some (.int v)) σ) : Wp X M R d Q c0 s0 pc lv [.int v] σ := by
  intro p e s m args below meth c H locs ls hE h1 h2 hn0 hH hS hl
  obtain ⟨hx, hb, hr, hml, hlk, hnm, hown, hts, hKk, hO, hdf, hdl⟩ := id hE
  refine W.widen h1 h2 ?_
  refine W.zret hx hb (hr.trans hret) hn (fun t ht hW => ⟨⟨some (.int v), σ, rfl, hQ, by rw [ht]; exact hH, by rw [← hcc]; exact hn0⟩, hS.F ht⟩) hS.2.2 hd
theorem wp_strV {X : Cx} {M : MI} {R : Room} {d : Nat} {Q : Po} {c0 s0 pc i : Nat} {lv : Lv} {rest : List Value} {σ : Mm} (hi : i < 9) (hM : M.1.cls = "java/lang/String") (hd : decode M.2.1 pc = .ok (.getfield 9, 3)) (K : Wp X M R d Q c0 s0 (pc + 3) lv (.ref (4000000 + cxV X i) :: rest) σ) : Wp X M R d Q c0 s0 pc lv (.ref (1000000 + i) :: rest) σ := by
  intro p e s m args below meth c H locs ls hE h1 h2 hn0 hH hS hl
  obtain ⟨hx, hb, hr, hml, hlk, hnm, hown, hts, hKk, hO, hdf, hdl⟩ := id hE
  have k := K p e s m args below meth c H locs ls hE h1 h2 hn0 hH hS hl
  rw [List.map_cons, tv_ref, adr_raw] at k
  refine W.at (st' := .ref (cxS X i) :: rest.map (tv X)) (by rw [List.map_cons, tv_ref, adr_S X i hi]) ?_
  exact vk_getf hx hb (hO.1.1 i hi).2.2.1 hS (own := "java/lang/String") (by rw [← hM]; exact hown) (hts _ (inT_mem (i := 1750) (by decide +kernel))) (fun _ h => h) hd k
theorem wp_strC {X : Cx} {M : MI} {R : Room} {d : Nat} {Q : Po} {c0 s0 pc i : Nat} {lv : Lv} {rest : List Value} {σ : Mm} (hi : i < 9) (hM : M.1.cls = "java/lang/String") (hd : decode M.2.1 pc = .ok (.getfield 15, 3)) (K : Wp X M R d Q c0 s0 (pc + 3) lv (.int (nI 0) :: rest) σ) : Wp X M R d Q c0 s0 pc lv (.ref (1000000 + i) :: rest) σ := by
  intro p e s m args below meth c H locs ls hE h1 h2 hn0 hH hS hl
  obtain ⟨hx, hb, hr, hml, hlk, hnm, hown, hts, hKk, hO, hdf, hdl⟩ := id hE
  have k := K p e s m args below meth c H locs ls hE h1 h2 hn0 hH hS hl
  rw [List.map_cons, tv_int] at k
  refine W.at (st' := .ref (cxS X i) :: rest.map (tv X)) (by rw [List.map_cons, tv_ref, adr_S X i hi]) ?_
  exact vk_getf hx hb (hO.1.1 i hi).2.1 hS (own := "java/lang/String") (by rw [← hM]; exact hown) (hts _ (inT_mem (i := 1751) (by decide +kernel))) (fun _ h => h) hd k
theorem wp_strG {X : Cx} {M : MI} {R : Room} {d : Nat} {Q : Po} {c0 s0 pc : Nat} {lv : Lv} {rest : List Value} {σ : Mm} (hM : M.1.cls = "java/lang/String") (hd : decode M.2.1 pc = .ok (.getstatic 38, 3)) (K : Wp X M R d Q c0 s0 (pc + 3) lv (.int (nI 1) :: rest) σ) : Wp X M R d Q c0 s0 pc lv rest σ := by
  intro p e s m args below meth c H locs ls hE h1 h2 hn0 hH hS hl
  obtain ⟨hx, hb, hr, hml, hlk, hnm, hown, hts, hKk, hO, hdf, hdl⟩ := id hE
  have k := K p e s m args below meth c H locs ls hE h1 h2 hn0 hH hS hl
  rw [List.map_cons, tv_int] at k
  exact va_gets hx hb hO.2.2.1.1 hS (own := "java/lang/String") (by rw [← hM]; exact hown) (hts _ (inT_mem (i := 543) (by decide +kernel))) (fun _ h => h) hd k
theorem wp_fmt {X : Cx} {M : MI} {R : Room} {d : Nat} {Q : Po} {c0 s0 pc : Nat} {lv : Lv} {rest : List Value} {σ : Mm} (hM : M.1.cls = "java/lang/String") (hd : decode M.2.1 pc = .ok (.getstatic 1053, 3)) (K : ∀ v : Value, (v = .null ∨ ∃ t, v = .ref t) → Wp X M R d Q c0 s0 (pc + 3) lv (v :: rest) σ) : Wp X M R d Q c0 s0 pc lv rest σ := by
  intro p e s m args below meth c H locs ls hE h1 h2 hn0 hH hS hl
  obtain ⟨hx, hb, hr, hml, hlk, hnm, hown, hts, hKk, hO, hdf, hdl⟩ := id hE
  rcases hO.2.2.1.2 with hz | ⟨t, hz⟩
  · have k := K .null (Or.inl rfl) p e s m args below meth c H locs ls hE h1 h2 hn0 hH hS hl
    exact va_gets hx hb hz hS (own := "java/lang/String") (by rw [← hM]; exact hown) (hts _ (inT_mem (i := 559) (by decide +kernel))) (fun _ h => h) hd k
  · have k := K (.ref (4000000 + t)) (Or.inr ⟨_, rfl⟩) p e s m args below meth c H locs ls hE h1 h2 hn0 hH hS hl
    rw [List.map_cons, tv_ref, adr_raw] at k
    exact va_gets hx hb hz hS (own := "java/lang/String") (by rw [← hM]; exact hown) (hts _ (inT_mem (i := 559) (by decide +kernel))) (fun _ h => h) hd k
theorem wp_rawlen {X : Cx} {M : MI} {R : Room} {d : Nat} {Q : Po} {c0 s0 pc i : Nat} {lv : Lv} {rest : List Value} {σ : Mm} (hi : i < 9) (hd : decode M.2.1 pc = .ok (.arraylength, 1)) (K : Wp X M R d Q c0 s0 (pc + 1) lv (.int (nI (stL.getD i 0)) :: rest) σ) : Wp X M R d Q c0 s0 pc lv (.ref (4000000 + cxV X i) :: rest) σ := by
  intro p e s m args below meth c H locs ls hE h1 h2 hn0 hH hS hl
  obtain ⟨hx, hb, hr, hml, hlk, hnm, hown, hts, hKk, hO, hdf, hdl⟩ := id hE
  have k := K p e s m args below meth c H locs ls hE h1 h2 hn0 hH hS hl
  rw [List.map_cons, tv_int] at k
  refine W.at (st' := .ref (cxV X i) :: rest.map (tv X)) (by rw [List.map_cons, tv_ref, adr_raw]) ?_
  exact va_tlen hx hb (hO.1.1 i hi).2.2.2 hS rfl hd k
theorem wp_rawld {X : Cx} {M : MI} {R : Room} {d : Nat} {Q : Po} {c0 s0 pc i j : Nat} {lv : Lv} {rest : List Value} {σ : Mm} (hi : i < 9) (hj : j < stL.getD i 0) (hs : stL.getD i 0 ≤ 1000) (hd : decode M.2.1 pc = .ok (.baload, 1)) (K : Wp X M R d Q c0 s0 (pc + 1) lv (.int ((stB.getD i []).getD j 0) :: rest) σ) : Wp X M R d Q c0 s0 pc lv (.int (nI j) :: .ref (4000000 + cxV X i) :: rest) σ := by
  intro p e s m args below meth c H locs ls hE h1 h2 hn0 hH hS hl
  obtain ⟨hx, hb, hr, hml, hlk, hnm, hown, hts, hKk, hO, hdf, hdl⟩ := id hE
  have k := K p e s m args below meth c H locs ls hE h1 h2 hn0 hH hS hl
  rw [List.map_cons, tv_int] at k
  refine W.at (st' := .int (nI j) :: .ref (cxV X i) :: rest.map (tv X)) (by rw [List.map_cons, List.map_cons, tv_int, tv_ref, adr_raw]) ?_
  exact va_tb hx hb (hO.1.1 i hi).2.2.2 hS (vp_in_nI hj (by omega)) (by rw [nI_clamp (by omega)]) hd k
def cN (i k : Nat) : Nat := ((stB.getD i []).getD k 0).toNatClampNeg
theorem st_len : ∀ i, i < 9 → 1 ≤ stL.getD i 0 ∧ stL.getD i 0 ≤ 48 := by decide
theorem st_byte : ∀ i, i < 9 → ∀ k, k < stL.getD i 0 → (((stB.getD i []).getD k 0 &&& 255).toUInt32 % 65536).toInt32 = nI (cN i k) ∧ cN i k < 128 := by decide +kernel
theorem ch_nar : ∀ n, n < 128 → narrow .char (.int (nI n)) = .int (nI n) := fun n h => (pk_charN (by omega)).1
def bJ3_checkIndex_8e157_0 : List AI := [(.iload_n 0, [], []), (.ifCond .lt 8, [9], []), (.iload_n 0, [], []), (.iload_n 1, [], []), (.if_icmp .lt 10, [16], []), (.nop, [9], [])]
theorem kJ3_checkIndex_8e157_0 : chL mJ3_checkIndex_8e157 0 bJ3_checkIndex_8e157_0 = true := by decide +kernel
def bJ3_checkIndex_8e157_16 : List AI := [(.iload_n 0, [], []), (.ireturn, [0], [])]
theorem kJ3_checkIndex_8e157_16 : chL mJ3_checkIndex_8e157 16 bJ3_checkIndex_8e157_16 = true := by decide +kernel
theorem c_pchk (X : Cx) (d : Nat) (σ : Mm) (i n : Nat) (v : Value) (hv : v = .null ∨ ∃ t, v = .ref t) (hin : i < n) (hn : n ≤ 1000) (Q : Po) (hQ : Q (some (.int (nI i))) σ) : Call X d 0 0 mJ3_checkIndex_8e157 [.int (nI i), .int (nI n), v] σ Q := by
  rcases hv with rfl | ⟨t, rfl⟩
  · refine call_of eJ3_checkIndex_8e157 rfl ?_
    refine wp_blk kJ3_checkIndex_8e157_0 ?_
    simp (disch := first | decide | omega) only [mxa, vxa, vxb, vxc, vnd, vne, Nat.reduceAdd, Nat.reduceSub, Nat.reduceLeDiff, Nat.reduceLT, Int32.reduceLT, Int32.reduceLE, Int32.reduceAdd, Int32.reduceSub, Int32.reduceMul, Int32.reduceToNatClampNeg, not_false_eq_true, not_true_eq_false, false_implies, true_implies, Nat.zero_add, reduceIte, Nat.reduceMul, Nat.reduceEqDiff, nxa, nxc, lgn, nL_of, swx, Int.reduceAdd, gI_a, gI_k, gL_a, gL_k, gI_r, gL_r, nI_and, nI_or, nI_xor, nI_ndf, nI_shl, nI_shr, ne_eq, and_true, true_and, eq_self, true_or, or_true, false_or, or_false, Option.toList, List.cons_append, List.nil_append, List.length_nil, List.length_cons, Nat.not_lt_zero, bJ3_checkIndex_8e157_0, Nat.not_lt_zero, hin]
    refine wp_blk kJ3_checkIndex_8e157_16 ?_
    simp (disch := first | decide | omega) only [mxa, vxa, vxb, vxc, vnd, vne, Nat.reduceAdd, Nat.reduceSub, Nat.reduceLeDiff, Nat.reduceLT, Int32.reduceLT, Int32.reduceLE, Int32.reduceAdd, Int32.reduceSub, Int32.reduceMul, Int32.reduceToNatClampNeg, not_false_eq_true, not_true_eq_false, false_implies, true_implies, Nat.zero_add, reduceIte, Nat.reduceMul, Nat.reduceEqDiff, nxa, nxc, lgn, nL_of, swx, Int.reduceAdd, gI_a, gI_k, gL_a, gL_k, gI_r, gL_r, nI_and, nI_or, nI_xor, nI_ndf, nI_shl, nI_shr, ne_eq, and_true, true_and, eq_self, true_or, or_true, false_or, or_false, Option.toList, List.cons_append, List.nil_append, List.length_nil, List.length_cons, Nat.not_lt_zero, bJ3_checkIndex_8e157_16]
    exact hQ
  · refine call_of eJ3_checkIndex_8e157 rfl ?_
    refine wp_blk kJ3_checkIndex_8e157_0 ?_
    simp (disch := first | decide | omega) only [mxa, vxa, vxb, vxc, vnd, vne, Nat.reduceAdd, Nat.reduceSub, Nat.reduceLeDiff, Nat.reduceLT, Int32.reduceLT, Int32.reduceLE, Int32.reduceAdd, Int32.reduceSub, Int32.reduceMul, Int32.reduceToNatClampNeg, not_false_eq_true, not_true_eq_false, false_implies, true_implies, Nat.zero_add, reduceIte, Nat.reduceMul, Nat.reduceEqDiff, nxa, nxc, lgn, nL_of, swx, Int.reduceAdd, gI_a, gI_k, gL_a, gL_k, gI_r, gL_r, nI_and, nI_or, nI_xor, nI_ndf, nI_shl, nI_shr, ne_eq, and_true, true_and, eq_self, true_or, or_true, false_or, or_false, Option.toList, List.cons_append, List.nil_append, List.length_nil, List.length_cons, Nat.not_lt_zero, bJ3_checkIndex_8e157_0, Nat.not_lt_zero, hin]
    refine wp_blk kJ3_checkIndex_8e157_16 ?_
    simp (disch := first | decide | omega) only [mxa, vxa, vxb, vxc, vnd, vne, Nat.reduceAdd, Nat.reduceSub, Nat.reduceLeDiff, Nat.reduceLT, Int32.reduceLT, Int32.reduceLE, Int32.reduceAdd, Int32.reduceSub, Int32.reduceMul, Int32.reduceToNatClampNeg, not_false_eq_true, not_true_eq_false, false_implies, true_implies, Nat.zero_add, reduceIte, Nat.reduceMul, Nat.reduceEqDiff, nxa, nxc, lgn, nL_of, swx, Int.reduceAdd, gI_a, gI_k, gL_a, gL_k, gI_r, gL_r, nI_and, nI_or, nI_xor, nI_ndf, nI_shl, nI_shr, ne_eq, and_true, true_and, eq_self, true_or, or_true, false_or, or_false, Option.toList, List.cons_append, List.nil_append, List.length_nil, List.length_cons, Nat.not_lt_zero, bJ3_checkIndex_8e157_16]
    exact hQ
def bJ0_checkIndex_df160_0 : List AI := [(.iload_n 0, [], []), (.iload_n 1, [], []), (.nop, [2], [])]
theorem kJ0_checkIndex_df160_0 : chL mJ0_checkIndex_df160 0 bJ0_checkIndex_df160_0 = true := by decide +kernel
def bJ0_checkIndex_df160_5 : List AI := [(.invokestatic 1059, [0, 3, 0, 0, 563, 561, 562, 104], [mJ3_checkIndex_8e157]), (.pop, [], []), (.return_, [], [])]
theorem kJ0_checkIndex_df160_5 : chL mJ0_checkIndex_df160 5 bJ0_checkIndex_df160_5 = true := by decide +kernel
theorem c_schk (X : Cx) (d : Nat) (σ : Mm) (i n : Nat) (hin : i < n) (hn : n ≤ 1000) (Q : Po) (hQ : Q none σ) : Call X (d + 1) 0 0 mJ0_checkIndex_df160 [.int (nI i), .int (nI n)] σ Q := by
  refine call_of eJ0_checkIndex_df160 rfl ?_
  refine wp_blk kJ0_checkIndex_df160_0 ?_
  simp (disch := first | decide | omega) only [mxa, vxa, vxb, vxc, vnd, vne, Nat.reduceAdd, Nat.reduceSub, Nat.reduceLeDiff, Nat.reduceLT, Int32.reduceLT, Int32.reduceLE, Int32.reduceAdd, Int32.reduceSub, Int32.reduceMul, Int32.reduceToNatClampNeg, not_false_eq_true, not_true_eq_false, false_implies, true_implies, Nat.zero_add, reduceIte, Nat.reduceMul, Nat.reduceEqDiff, nxa, nxc, lgn, nL_of, swx, Int.reduceAdd, gI_a, gI_k, gL_a, gL_k, gI_r, gL_r, nI_and, nI_or, nI_xor, nI_ndf, nI_shl, nI_shr, ne_eq, and_true, true_and, eq_self, true_or, or_true, false_or, or_false, Option.toList, List.cons_append, List.nil_append, List.length_nil, List.length_cons, Nat.not_lt_zero, bJ0_checkIndex_df160_0]
  refine wp_fmt rfl (by decide +kernel) (fun v hv => ?_)
  refine wp_blk kJ0_checkIndex_df160_5 ?_
  simp (disch := first | decide | omega) only [mxa, vxa, vxb, vxc, vnd, vne, Nat.reduceAdd, Nat.reduceSub, Nat.reduceLeDiff, Nat.reduceLT, Int32.reduceLT, Int32.reduceLE, Int32.reduceAdd, Int32.reduceSub, Int32.reduceMul, Int32.reduceToNatClampNeg, not_false_eq_true, not_true_eq_false, false_implies, true_implies, Nat.zero_add, reduceIte, Nat.reduceMul, Nat.reduceEqDiff, nxa, nxc, lgn, nL_of, swx, Int.reduceAdd, gI_a, gI_k, gL_a, gL_k, gI_r, gL_r, nI_and, nI_or, nI_xor, nI_ndf, nI_shl, nI_shr, ne_eq, and_true, true_and, eq_self, true_or, or_true, false_or, or_false, Option.toList, List.cons_append, List.nil_append, List.length_nil, List.length_cons, Nat.not_lt_zero, bJ0_checkIndex_df160_5]
  refine c_pchk X _ σ i n v hv hin hn _ ?_
  simp (disch := first | decide | omega) only [mxa, vxa, vxb, vxc, vnd, vne, Nat.reduceAdd, Nat.reduceSub, Nat.reduceLeDiff, Nat.reduceLT, Int32.reduceLT, Int32.reduceLE, Int32.reduceAdd, Int32.reduceSub, Int32.reduceMul, Int32.reduceToNatClampNeg, not_false_eq_true, not_true_eq_false, false_implies, true_implies, Nat.zero_add, reduceIte, Nat.reduceMul, Nat.reduceEqDiff, nxa, nxc, lgn, nL_of, swx, Int.reduceAdd, gI_a, gI_k, gL_a, gL_k, gI_r, gL_r, nI_and, nI_or, nI_xor, nI_ndf, nI_shl, nI_shr, ne_eq, and_true, true_and, eq_self, true_or, or_true, false_or, or_false, Option.toList, List.cons_append, List.nil_append, List.length_nil, List.length_cons, Nat.not_lt_zero, Value.category]
  exact hQ
def bJ1_charAt_3b067_0 : List AI := [(.iload_n 1, [], []), (.aload_n 0, [], []), (.nop, [2], [])]
theorem kJ1_charAt_3b067_0 : chL mJ1_charAt_3b067 0 bJ1_charAt_3b067_0 = true := by decide +kernel
def bJ1_charAt_3b067_3 : List AI := [(.invokestatic 9, [0, 2, 0, 0, 558, 556, 557, 102], [mJ0_checkIndex_df160]), (.aload_n 0, [], []), (.iload_n 1, [], []), (.nop, [8], [])]
theorem kJ1_charAt_3b067_3 : chL mJ1_charAt_3b067 3 bJ1_charAt_3b067_3 = true := by decide +kernel
def bJ1_charAt_3b067_9 : List AI := [(.sipush 255, [], []), (.iand, [], []), (.i2c, [], []), (.nop, [14], [])]
theorem kJ1_charAt_3b067_9 : chL mJ1_charAt_3b067 9 bJ1_charAt_3b067_9 = true := by decide +kernel
theorem c_latin (X : Cx) (d : Nat) (σ : Mm) (i k : Nat) (hi : i < 9) (hk : k < stL.getD i 0) (Q : Po) (hQ : Q (some (.int (nI (cN i k)))) σ) : Call X (d + 2) 0 0 mJ1_charAt_3b067 [.ref (4000000 + cxV X i), .int (nI k)] σ Q := by
  obtain ⟨l1, l2⟩ := st_len i hi
  obtain ⟨b1, b2⟩ := st_byte i hi k hk
  refine call_of eJ1_charAt_3b067 rfl ?_
  refine wp_blk kJ1_charAt_3b067_0 ?_
  simp (disch := first | decide | omega) only [mxa, vxa, vxb, vxc, vnd, vne, Nat.reduceAdd, Nat.reduceSub, Nat.reduceLeDiff, Nat.reduceLT, Int32.reduceLT, Int32.reduceLE, Int32.reduceAdd, Int32.reduceSub, Int32.reduceMul, Int32.reduceToNatClampNeg, not_false_eq_true, not_true_eq_false, false_implies, true_implies, Nat.zero_add, reduceIte, Nat.reduceMul, Nat.reduceEqDiff, nxa, nxc, lgn, nL_of, swx, Int.reduceAdd, gI_a, gI_k, gL_a, gL_k, gI_r, gL_r, nI_and, nI_or, nI_xor, nI_ndf, nI_shl, nI_shr, ne_eq, and_true, true_and, eq_self, true_or, or_true, false_or, or_false, Option.toList, List.cons_append, List.nil_append, List.length_nil, List.length_cons, Nat.not_lt_zero, bJ1_charAt_3b067_0]
  refine wp_rawlen hi (by decide +kernel) ?_
  refine wp_blk kJ1_charAt_3b067_3 ?_
  simp (disch := first | decide | omega) only [mxa, vxa, vxb, vxc, vnd, vne, Nat.reduceAdd, Nat.reduceSub, Nat.reduceLeDiff, Nat.reduceLT, Int32.reduceLT, Int32.reduceLE, Int32.reduceAdd, Int32.reduceSub, Int32.reduceMul, Int32.reduceToNatClampNeg, not_false_eq_true, not_true_eq_false, false_implies, true_implies, Nat.zero_add, reduceIte, Nat.reduceMul, Nat.reduceEqDiff, nxa, nxc, lgn, nL_of, swx, Int.reduceAdd, gI_a, gI_k, gL_a, gL_k, gI_r, gL_r, nI_and, nI_or, nI_xor, nI_ndf, nI_shl, nI_shr, ne_eq, and_true, true_and, eq_self, true_or, or_true, false_or, or_false, Option.toList, List.cons_append, List.nil_append, List.length_nil, List.length_cons, Nat.not_lt_zero, bJ1_charAt_3b067_3]
  refine c_schk X _ σ k (stL.getD i 0) hk (by omega) _ ?_
  simp (disch := first | decide | omega) only [mxa, vxa, vxb, vxc, vnd, vne, Nat.reduceAdd, Nat.reduceSub, Nat.reduceLeDiff, Nat.reduceLT, Int32.reduceLT, Int32.reduceLE, Int32.reduceAdd, Int32.reduceSub, Int32.reduceMul, Int32.reduceToNatClampNeg, not_false_eq_true, not_true_eq_false, false_implies, true_implies, Nat.zero_add, reduceIte, Nat.reduceMul, Nat.reduceEqDiff, nxa, nxc, lgn, nL_of, swx, Int.reduceAdd, gI_a, gI_k, gL_a, gL_k, gI_r, gL_r, nI_and, nI_or, nI_xor, nI_ndf, nI_shl, nI_shr, ne_eq, and_true, true_and, eq_self, true_or, or_true, false_or, or_false, Option.toList, List.cons_append, List.nil_append, List.length_nil, List.length_cons, Nat.not_lt_zero]
  refine wp_rawld hi hk (by omega) (by decide +kernel) ?_
  refine wp_blk kJ1_charAt_3b067_9 ?_
  simp only [mxa, vxa, vxb, vxc, vxd, vxe, Nat.reduceAdd, Nat.reduceSub, Nat.reduceLeDiff, Nat.reduceLT, Int32.reduceLT, Int32.reduceLE, Int32.reduceAdd, Int32.reduceSub, Int32.reduceMul, Int32.reduceToNatClampNeg, not_false_eq_true, not_true_eq_false, false_implies, true_implies, Nat.zero_add, reduceIte, Nat.reduceMul, Nat.reduceEqDiff, iqx, bJ1_charAt_3b067_9]
  refine wp_nret (ty := .char) (by decide +kernel) rfl ?_ rfl ?_
  · rw [b1]
    exact ch_nar _ b2
  · rw [b1]
    exact hQ
def bJ0_isLatin1_aae02_3 : List AI := [(.ifCond .eq 14, [17], []), (.aload_n 0, [], []), (.nop, [7], [])]
theorem kJ0_isLatin1_aae02_3 : chL mJ0_isLatin1_aae02 3 bJ0_isLatin1_aae02_3 = true := by decide +kernel
def bJ0_isLatin1_aae02_10 : List AI := [(.ifCond .ne 7, [17], []), (.iconst 1, [], []), (.goto 4, [18], [])]
theorem kJ0_isLatin1_aae02_10 : chL mJ0_isLatin1_aae02 10 bJ0_isLatin1_aae02_10 = true := by decide +kernel
def bJ0_isLatin1_aae02_18 : List AI := [(.ireturn, [1], [])]
theorem kJ0_isLatin1_aae02_18 : chL mJ0_isLatin1_aae02 18 bJ0_isLatin1_aae02_18 = true := by decide +kernel
theorem c_isLatin1 (X : Cx) (d : Nat) (σ : Mm) (i : Nat) (hi : i < 9) (Q : Po) (hQ : Q (some (.int (nI 1))) σ) : Call X d 0 0 mJ0_isLatin1_aae02 [.ref (1000000 + i)] σ Q := by
  refine call_of eJ0_isLatin1_aae02 rfl ?_
  refine wp_strG rfl (by decide +kernel) ?_
  refine wp_blk kJ0_isLatin1_aae02_3 ?_
  simp (disch := first | decide | omega) only [mxa, vxa, vxb, vxc, vnd, vne, Nat.reduceAdd, Nat.reduceSub, Nat.reduceLeDiff, Nat.reduceLT, Int32.reduceLT, Int32.reduceLE, Int32.reduceAdd, Int32.reduceSub, Int32.reduceMul, Int32.reduceToNatClampNeg, not_false_eq_true, not_true_eq_false, false_implies, true_implies, Nat.zero_add, reduceIte, Nat.reduceMul, Nat.reduceEqDiff, nxa, nxc, lgn, nL_of, swx, Int.reduceAdd, gI_a, gI_k, gL_a, gL_k, gI_r, gL_r, nI_and, nI_or, nI_xor, nI_ndf, nI_shl, nI_shr, ne_eq, and_true, true_and, eq_self, true_or, or_true, false_or, or_false, Option.toList, List.cons_append, List.nil_append, List.length_nil, List.length_cons, Nat.not_lt_zero, bJ0_isLatin1_aae02_3, ent]
  refine wp_strC hi rfl (by decide +kernel) ?_
  refine wp_blk kJ0_isLatin1_aae02_10 ?_
  simp (disch := first | decide | omega) only [mxa, vxa, vxb, vxc, vnd, vne, Nat.reduceAdd, Nat.reduceSub, Nat.reduceLeDiff, Nat.reduceLT, Int32.reduceLT, Int32.reduceLE, Int32.reduceAdd, Int32.reduceSub, Int32.reduceMul, Int32.reduceToNatClampNeg, not_false_eq_true, not_true_eq_false, false_implies, true_implies, Nat.zero_add, reduceIte, Nat.reduceMul, Nat.reduceEqDiff, nxa, nxc, lgn, nL_of, swx, Int.reduceAdd, gI_a, gI_k, gL_a, gL_k, gI_r, gL_r, nI_and, nI_or, nI_xor, nI_ndf, nI_shl, nI_shr, ne_eq, and_true, true_and, eq_self, true_or, or_true, false_or, or_false, Option.toList, List.cons_append, List.nil_append, List.length_nil, List.length_cons, Nat.not_lt_zero, bJ0_isLatin1_aae02_10]
  refine wp_blk kJ0_isLatin1_aae02_18 ?_
  simp (disch := first | decide | omega) only [mxa, vxa, vxb, vxc, vnd, vne, Nat.reduceAdd, Nat.reduceSub, Nat.reduceLeDiff, Nat.reduceLT, Int32.reduceLT, Int32.reduceLE, Int32.reduceAdd, Int32.reduceSub, Int32.reduceMul, Int32.reduceToNatClampNeg, not_false_eq_true, not_true_eq_false, false_implies, true_implies, Nat.zero_add, reduceIte, Nat.reduceMul, Nat.reduceEqDiff, nxa, nxc, lgn, nL_of, swx, Int.reduceAdd, gI_a, gI_k, gL_a, gL_k, gI_r, gL_r, nI_and, nI_or, nI_xor, nI_ndf, nI_shl, nI_shr, ne_eq, and_true, true_and, eq_self, true_or, or_true, false_or, or_false, Option.toList, List.cons_append, List.nil_append, List.length_nil, List.length_cons, Nat.not_lt_zero, bJ0_isLatin1_aae02_18]
  exact hQ
def bJ0_coder_7d493_3 : List AI := [(.ifCond .eq 10, [13], []), (.aload_n 0, [], []), (.nop, [7], [])]
theorem kJ0_coder_7d493_3 : chL mJ0_coder_7d493 3 bJ0_coder_7d493_3 = true := by decide +kernel
def bJ0_coder_7d493_10 : List AI := [(.goto 4, [14], [])]
theorem kJ0_coder_7d493_10 : chL mJ0_coder_7d493 10 bJ0_coder_7d493_10 = true := by decide +kernel
theorem c_coder (X : Cx) (d : Nat) (σ : Mm) (i : Nat) (hi : i < 9) (Q : Po) (hQ : Q (some (.int (nI 0))) σ) : Call X d 0 0 mJ0_coder_7d493 [.ref (1000000 + i)] σ Q := by
  refine call_of eJ0_coder_7d493 rfl ?_
  refine wp_strG rfl (by decide +kernel) ?_
  refine wp_blk kJ0_coder_7d493_3 ?_
  simp (disch := first | decide | omega) only [mxa, vxa, vxb, vxc, vnd, vne, Nat.reduceAdd, Nat.reduceSub, Nat.reduceLeDiff, Nat.reduceLT, Int32.reduceLT, Int32.reduceLE, Int32.reduceAdd, Int32.reduceSub, Int32.reduceMul, Int32.reduceToNatClampNeg, not_false_eq_true, not_true_eq_false, false_implies, true_implies, Nat.zero_add, reduceIte, Nat.reduceMul, Nat.reduceEqDiff, nxa, nxc, lgn, nL_of, swx, Int.reduceAdd, gI_a, gI_k, gL_a, gL_k, gI_r, gL_r, nI_and, nI_or, nI_xor, nI_ndf, nI_shl, nI_shr, ne_eq, and_true, true_and, eq_self, true_or, or_true, false_or, or_false, Option.toList, List.cons_append, List.nil_append, List.length_nil, List.length_cons, Nat.not_lt_zero, bJ0_coder_7d493_3, ent]
  refine wp_strC hi rfl (by decide +kernel) ?_
  refine wp_blk kJ0_coder_7d493_10 ?_
  simp (disch := first | decide | omega) only [mxa, vxa, vxb, vxc, vnd, vne, Nat.reduceAdd, Nat.reduceSub, Nat.reduceLeDiff, Nat.reduceLT, Int32.reduceLT, Int32.reduceLE, Int32.reduceAdd, Int32.reduceSub, Int32.reduceMul, Int32.reduceToNatClampNeg, not_false_eq_true, not_true_eq_false, false_implies, true_implies, Nat.zero_add, reduceIte, Nat.reduceMul, Nat.reduceEqDiff, nxa, nxc, lgn, nL_of, swx, Int.reduceAdd, gI_a, gI_k, gL_a, gL_k, gI_r, gL_r, nI_and, nI_or, nI_xor, nI_ndf, nI_shl, nI_shr, ne_eq, and_true, true_and, eq_self, true_or, or_true, false_or, or_false, Option.toList, List.cons_append, List.nil_append, List.length_nil, List.length_cons, Nat.not_lt_zero, bJ0_coder_7d493_10]
  exact wp_nret (ty := .byte) (by decide +kernel) rfl (by rfl) rfl hQ
def bJ0_length_8abf5_0 : List AI := [(.aload_n 0, [], []), (.nop, [1], [])]
theorem kJ0_length_8abf5_0 : chL mJ0_length_8abf5 0 bJ0_length_8abf5_0 = true := by decide +kernel
def bJ0_length_8abf5_5 : List AI := [(.aload_n 0, [], []), (.invokevirtual 335, [1, 0, 0, 0, 0, 542, 539, 540, 541, 102], [mJ0_coder_7d493]), (.ishr, [], []), (.ireturn, [0], [])]
theorem kJ0_length_8abf5_5 : chL mJ0_length_8abf5 5 bJ0_length_8abf5_5 = true := by decide +kernel
theorem c_length (X : Cx) (d : Nat) (σ : Mm) (i : Nat) (hi : i < 9) (Q : Po) (hQ : Q (some (.int (nI (stL.getD i 0)))) σ) : Call X (d + 1) 0 0 mJ0_length_8abf5 [.ref (1000000 + i)] σ Q := by
  obtain ⟨l1, l2⟩ := st_len i hi
  refine call_of eJ0_length_8abf5 rfl ?_
  refine wp_blk kJ0_length_8abf5_0 ?_
  simp (disch := first | decide | omega) only [mxa, vxa, vxb, vxc, vnd, vne, Nat.reduceAdd, Nat.reduceSub, Nat.reduceLeDiff, Nat.reduceLT, Int32.reduceLT, Int32.reduceLE, Int32.reduceAdd, Int32.reduceSub, Int32.reduceMul, Int32.reduceToNatClampNeg, not_false_eq_true, not_true_eq_false, false_implies, true_implies, Nat.zero_add, reduceIte, Nat.reduceMul, Nat.reduceEqDiff, nxa, nxc, lgn, nL_of, swx, Int.reduceAdd, gI_a, gI_k, gL_a, gL_k, gI_r, gL_r, nI_and, nI_or, nI_xor, nI_ndf, nI_shl, nI_shr, ne_eq, and_true, true_and, eq_self, true_or, or_true, false_or, or_false, Option.toList, List.cons_append, List.nil_append, List.length_nil, List.length_cons, Nat.not_lt_zero, bJ0_length_8abf5_0]
  refine wp_strV hi rfl (by decide +kernel) ?_
  refine wp_rawlen hi (by decide +kernel) ?_
  refine wp_blk kJ0_length_8abf5_5 ?_
  simp (disch := first | decide | omega) only [mxa, vxa, vxb, vxc, vnd, vne, Nat.reduceAdd, Nat.reduceSub, Nat.reduceLeDiff, Nat.reduceLT, Int32.reduceLT, Int32.reduceLE, Int32.reduceAdd, Int32.reduceSub, Int32.reduceMul, Int32.reduceToNatClampNeg, not_false_eq_true, not_true_eq_false, false_implies, true_implies, Nat.zero_add, reduceIte, Nat.reduceMul, Nat.reduceEqDiff, nxa, nxc, lgn, nL_of, swx, Int.reduceAdd, gI_a, gI_k, gL_a, gL_k, gI_r, gL_r, nI_and, nI_or, nI_xor, nI_ndf, nI_shl, nI_shr, ne_eq, and_true, true_and, eq_self, true_or, or_true, false_or, or_false, Option.toList, List.cons_append, List.nil_append, List.length_nil, List.length_cons, Nat.not_lt_zero, bJ0_length_8abf5_5]
  refine ⟨⟨by omega, by omega⟩, ?_⟩
  refine c_coder X _ σ i hi _ ?_
  simp (disch := first | decide | omega) only [mxa, vxa, vxb, vxc, vnd, vne, Nat.reduceAdd, Nat.reduceSub, Nat.reduceLeDiff, Nat.reduceLT, Int32.reduceLT, Int32.reduceLE, Int32.reduceAdd, Int32.reduceSub, Int32.reduceMul, Int32.reduceToNatClampNeg, not_false_eq_true, not_true_eq_false, false_implies, true_implies, Nat.zero_add, reduceIte, Nat.reduceMul, Nat.reduceEqDiff, nxa, nxc, lgn, nL_of, swx, Int.reduceAdd, gI_a, gI_k, gL_a, gL_k, gI_r, gL_r, nI_and, nI_or, nI_xor, nI_ndf, nI_shl, nI_shr, ne_eq, and_true, true_and, eq_self, true_or, or_true, false_or, or_false, Option.toList, List.cons_append, List.nil_append, List.length_nil, List.length_cons, Nat.not_lt_zero, Nat.pow_zero, Nat.div_one]
  exact hQ
def bJ0_charAt_5068e_0 : List AI := [(.aload_n 0, [], []), (.invokevirtual 492, [1, 0, 0, 0, 0, 552, 549, 550, 551, 102], [mJ0_isLatin1_aae02]), (.ifCond .eq 12, [16], []), (.aload_n 0, [], []), (.nop, [8], [])]
theorem kJ0_charAt_5068e_0 : chL mJ0_charAt_5068e 0 bJ0_charAt_5068e_0 = true := by decide +kernel
def bJ0_charAt_5068e_11 : List AI := [(.iload_n 1, [], []), (.invokestatic 495, [0, 2, 0, 0, 555, 553, 554, 103], [mJ1_charAt_3b067]), (.nop, [15], [])]
theorem kJ0_charAt_5068e_11 : chL mJ0_charAt_5068e 11 bJ0_charAt_5068e_11 = true := by decide +kernel
theorem c_charAt (X : Cx) (d : Nat) (σ : Mm) (i k : Nat) (hi : i < 9) (hk : k < stL.getD i 0) (Q : Po) (hQ : Q (some (.int (nI (cN i k)))) σ) : Call X (d + 3) 0 0 mJ0_charAt_5068e [.ref (1000000 + i), .int (nI k)] σ Q := by
  obtain ⟨b1, b2⟩ := st_byte i hi k hk
  refine call_of eJ0_charAt_5068e rfl ?_
  refine wp_blk kJ0_charAt_5068e_0 ?_
  simp (disch := first | decide | omega) only [mxa, vxa, vxb, vxc, vnd, vne, Nat.reduceAdd, Nat.reduceSub, Nat.reduceLeDiff, Nat.reduceLT, Int32.reduceLT, Int32.reduceLE, Int32.reduceAdd, Int32.reduceSub, Int32.reduceMul, Int32.reduceToNatClampNeg, not_false_eq_true, not_true_eq_false, false_implies, true_implies, Nat.zero_add, reduceIte, Nat.reduceMul, Nat.reduceEqDiff, nxa, nxc, lgn, nL_of, swx, Int.reduceAdd, gI_a, gI_k, gL_a, gL_k, gI_r, gL_r, nI_and, nI_or, nI_xor, nI_ndf, nI_shl, nI_shr, ne_eq, and_true, true_and, eq_self, true_or, or_true, false_or, or_false, Option.toList, List.cons_append, List.nil_append, List.length_nil, List.length_cons, Nat.not_lt_zero, bJ0_charAt_5068e_0]
  refine ⟨⟨by omega, by omega⟩, ?_⟩
  refine c_isLatin1 X _ σ i hi _ ?_
  simp (disch := first | decide | omega) only [mxa, vxa, vxb, vxc, vnd, vne, Nat.reduceAdd, Nat.reduceSub, Nat.reduceLeDiff, Nat.reduceLT, Int32.reduceLT, Int32.reduceLE, Int32.reduceAdd, Int32.reduceSub, Int32.reduceMul, Int32.reduceToNatClampNeg, not_false_eq_true, not_true_eq_false, false_implies, true_implies, Nat.zero_add, reduceIte, Nat.reduceMul, Nat.reduceEqDiff, nxa, nxc, lgn, nL_of, swx, Int.reduceAdd, gI_a, gI_k, gL_a, gL_k, gI_r, gL_r, nI_and, nI_or, nI_xor, nI_ndf, nI_shl, nI_shr, ne_eq, and_true, true_and, eq_self, true_or, or_true, false_or, or_false, Option.toList, List.cons_append, List.nil_append, List.length_nil, List.length_cons, Nat.not_lt_zero]
  refine wp_strV hi rfl (by decide +kernel) ?_
  refine wp_blk kJ0_charAt_5068e_11 ?_
  simp (disch := first | decide | omega) only [mxa, vxa, vxb, vxc, vnd, vne, Nat.reduceAdd, Nat.reduceSub, Nat.reduceLeDiff, Nat.reduceLT, Int32.reduceLT, Int32.reduceLE, Int32.reduceAdd, Int32.reduceSub, Int32.reduceMul, Int32.reduceToNatClampNeg, not_false_eq_true, not_true_eq_false, false_implies, true_implies, Nat.zero_add, reduceIte, Nat.reduceMul, Nat.reduceEqDiff, nxa, nxc, lgn, nL_of, swx, Int.reduceAdd, gI_a, gI_k, gL_a, gL_k, gI_r, gL_r, nI_and, nI_or, nI_xor, nI_ndf, nI_shl, nI_shr, ne_eq, and_true, true_and, eq_self, true_or, or_true, false_or, or_false, Option.toList, List.cons_append, List.nil_append, List.length_nil, List.length_cons, Nat.not_lt_zero, bJ0_charAt_5068e_11]
  refine c_latin X _ σ i k hi hk _ ?_
  simp (disch := first | decide | omega) only [mxa, vxa, vxb, vxc, vnd, vne, Nat.reduceAdd, Nat.reduceSub, Nat.reduceLeDiff, Nat.reduceLT, Int32.reduceLT, Int32.reduceLE, Int32.reduceAdd, Int32.reduceSub, Int32.reduceMul, Int32.reduceToNatClampNeg, not_false_eq_true, not_true_eq_false, false_implies, true_implies, Nat.zero_add, reduceIte, Nat.reduceMul, Nat.reduceEqDiff, nxa, nxc, lgn, nL_of, swx, Int.reduceAdd, gI_a, gI_k, gL_a, gL_k, gI_r, gL_r, nI_and, nI_or, nI_xor, nI_ndf, nI_shl, nI_shr, ne_eq, and_true, true_and, eq_self, true_or, or_true, false_or, or_false, Option.toList, List.cons_append, List.nil_append, List.length_nil, List.length_cons, Nat.not_lt_zero]
  exact wp_nret (ty := .char) (by decide +kernel) rfl (ch_nar _ b2) rfl hQ
