/-! partings: the model's way through them -/
set_option maxRecDepth 20000
def okB (x f b : Nat) : Prop := x.testBit f = true → x.testBit b = true
def AL (τ : Mm) (a : Nat → Nat) : Prop := ∀ f, f < 10 → gI τ 205 f = nI (a f) ∧ a f < 1024
theorem m_pt0 (X : Cx) (d : Nat) (σ : Mm) (N k : Nat) (G a : Nat → Nat) (hs : Sh σ) (hr : Rf σ) (hN : N ≤ 10) (n0 : gI σ 191 0 = nI N) (hk : k ≤ 8) (hg : ∀ j, j < k → gI σ 204 j = nI (G j) ∧ G j < 1024) (ha : AL σ a) (Q : Po) (hQ : ∀ τ a', Fr (fun c => c = 205) σ τ → AL τ a' → (∀ f, f < N → ∀ b, b < 10 → ((a' f).testBit b = true ↔ (a f).testBit b = true ∧ ∀ j, j < k → okB (G j) f b)) → Q none τ) : Wp X mX10_parts (rmo (d + 3) 0 0) (d + 3) Q 0 0 16 [some (.ref 190), some (.int (nI 0)), some (.int (nI k)), some (.int (nI 0)), none] [] σ := by
  refine wfor (fun i => ∀ τ a', Fr (fun c => c = 205) σ τ → AL τ a' → (∀ f, f < N → ∀ b, b < 10 → ((a' f).testBit b = true ↔ (a f).testBit b = true ∧ ∀ j, j < i → okB (G j) f b)) → Wp X mX10_parts (rmo (d + 3) 0 0) (d + 3) Q 0 0 16 [some (.ref 190), some (.int (nI 0)), some (.int (nI k)), some (.int (nI i)), none] [] τ) k (fun i hi hP τ a' F h1 h2 => ?_) (fun τ a' F h1 h2 => ?_) σ a Fr.rf ha (fun f _ b _ => ⟨fun q => ⟨q, fun j hj => absurd hj (by omega)⟩, fun q => q.1⟩)
  · have st := F.Sh hs
    obtain ⟨g1, g2⟩ := hg i hi
    have inn := wfor (fun f => ∀ τ a', Fr (fun c => c = 205) σ τ → AL τ a' → (∀ g, g < N → ∀ b, b < 10 → ((a' g).testBit b = true ↔ (a g).testBit b = true ∧ ∀ j, j < (if g < f then i + 1 else i) → okB (G j) g b)) → Wp X mX10_parts (rmo (d + 3) 0 0) (d + 3) Q 0 0 24 [some (.ref 190), some (.int (nI 0)), some (.int (nI k)), some (.int (nI i)), some (.int (nI f))] [] τ) N (fun f hf hP2 τ a' F h1 h2 => by
      have st := F.Sh hs
      have rt := F.Rf hr
      have n1 : gI τ 191 0 = nI N := (F.2.2.1 191 (by omega) 0).trans n0
      have G1 : gI τ 204 i = nI (G i) := (F.2.2.1 204 (by omega) i).trans g1
      obtain ⟨a1, a2⟩ := h1 f (by omega)
      refine wp_blk kX10_parts_24 ?_
      simp (disch := first | decide | omega) only [mxa, vxa, vxb, vxc, vnd, vne, Nat.reduceAdd, Nat.reduceSub, Nat.reduceLeDiff, Nat.reduceLT, Int32.reduceLT, Int32.reduceLE, Int32.reduceAdd, Int32.reduceSub, Int32.reduceMul, Int32.reduceToNatClampNeg, not_false_eq_true, not_true_eq_false, false_implies, true_implies, Nat.zero_add, reduceIte, Nat.reduceMul, Nat.reduceEqDiff, nxa, nxc, lgn, nL_of, swx, Int.reduceAdd, gI_a, gI_k, gL_a, gL_k, gI_r, gL_r, nI_and, nI_or, nI_xor, nI_ndf, nI_shl, nI_shr, ne_eq, and_true, true_and, eq_self, true_or, or_true, false_or, or_false, Option.toList, List.cons_append, List.nil_append, List.length_nil, List.length_cons, Nat.not_lt_zero, bX10_parts_24, kdx st, grx rt, n1, G1, show ¬ N ≤ f by omega, show i < 8 by omega]
      refine c_isIn X _ _ (G i) f (by omega) (by omega) _ ?_
      by_cases hb : (G i).testBit f = true
      · rw [if_pos hb]
        have al : a' f &&& G i ≤ a' f := Nat.and_le_left
        simp (disch := first | decide | omega) only [mxa, vxa, vxb, vxc, vnd, vne, Nat.reduceAdd, Nat.reduceSub, Nat.reduceLeDiff, Nat.reduceLT, Int32.reduceLT, Int32.reduceLE, Int32.reduceAdd, Int32.reduceSub, Int32.reduceMul, Int32.reduceToNatClampNeg, not_false_eq_true, not_true_eq_false, false_implies, true_implies, Nat.zero_add, reduceIte, Nat.reduceMul, Nat.reduceEqDiff, nxa, nxc, lgn, nL_of, swx, Int.reduceAdd, gI_a, gI_k, gL_a, gL_k, gI_r, gL_r, nI_and, nI_or, nI_xor, nI_ndf, nI_shl, nI_shr, ne_eq, and_true, true_and, eq_self, true_or, or_true, false_or, or_false, Option.toList, List.cons_append, List.nil_append, List.length_nil, List.length_cons, Nat.not_lt_zero, kdx st, grx rt, G1, a1, show i < 8 by omega]
        refine wp_blk kX10_parts_66 ?_
        simp (disch := first | decide | omega) only [mxa, vxa, vxb, vxc, vnd, vne, Nat.reduceAdd, Nat.reduceSub, Nat.reduceLeDiff, Nat.reduceLT, Int32.reduceLT, Int32.reduceLE, Int32.reduceAdd, Int32.reduceSub, Int32.reduceMul, Int32.reduceToNatClampNeg, not_false_eq_true, not_true_eq_false, false_implies, true_implies, Nat.zero_add, reduceIte, Nat.reduceMul, Nat.reduceEqDiff, nxa, nxc, lgn, nL_of, swx, Int.reduceAdd, gI_a, gI_k, gL_a, gL_k, gI_r, gL_r, nI_and, nI_or, nI_xor, nI_ndf, nI_shl, nI_shr, ne_eq, and_true, true_and, eq_self, true_or, or_true, false_or, or_false, Option.toList, List.cons_append, List.nil_append, List.length_nil, List.length_cons, Nat.not_lt_zero, bX10_parts_66]
        refine hP2 _ (fun g => if g = f then a' f &&& G i else a' g) (F.tr (Fr.sI rfl)) (fun g hg' => ?_) (fun g hg' b hb' => ?_)
        · by_cases e : g = f
          · dsimp only
            rw [if_pos e, e, gI_same]; exact ⟨rfl, by omega⟩
          · dsimp only
            rw [gI_k e, if_neg e]; exact h1 g hg'
        · by_cases e : g = f
          · subst e
            simp only [if_pos, Nat.lt_succ_self]
            rw [Nat.testBit_and, Bool.and_eq_true, h2 g hg' b hb', if_neg (by omega)]
            constructor
            · rintro ⟨⟨q1, q2⟩, q3⟩
              refine ⟨q1, fun j hj => ?_⟩
              by_cases z : j = i
              · rw [z]; exact fun _ => q3
              · exact q2 j (by omega)
            · rintro ⟨q1, q2⟩
              exact ⟨⟨q1, fun j hj => q2 j (by omega)⟩, q2 i (by omega) hb⟩
          · simp only [if_neg e]
            rw [h2 g hg' b hb', show (if g < f + 1 then i + 1 else i) = (if g < f then i + 1 else i) by split <;> split <;> omega]
      · rw [if_neg hb]
        simp (disch := first | decide | omega) only [mxa, vxa, vxb, vxc, vnd, vne, Nat.reduceAdd, Nat.reduceSub, Nat.reduceLeDiff, Nat.reduceLT, Int32.reduceLT, Int32.reduceLE, Int32.reduceAdd, Int32.reduceSub, Int32.reduceMul, Int32.reduceToNatClampNeg, not_false_eq_true, not_true_eq_false, false_implies, true_implies, Nat.zero_add, reduceIte, Nat.reduceMul, Nat.reduceEqDiff, nxa, nxc, lgn, nL_of, swx, Int.reduceAdd, gI_a, gI_k, gL_a, gL_k, gI_r, gL_r, nI_and, nI_or, nI_xor, nI_ndf, nI_shl, nI_shr, ne_eq, and_true, true_and, eq_self, true_or, or_true, false_or, or_false, Option.toList, List.cons_append, List.nil_append, List.length_nil, List.length_cons, Nat.not_lt_zero]
        refine wp_blk kX10_parts_66 ?_
        simp (disch := first | decide | omega) only [mxa, vxa, vxb, vxc, vnd, vne, Nat.reduceAdd, Nat.reduceSub, Nat.reduceLeDiff, Nat.reduceLT, Int32.reduceLT, Int32.reduceLE, Int32.reduceAdd, Int32.reduceSub, Int32.reduceMul, Int32.reduceToNatClampNeg, not_false_eq_true, not_true_eq_false, false_implies, true_implies, Nat.zero_add, reduceIte, Nat.reduceMul, Nat.reduceEqDiff, nxa, nxc, lgn, nL_of, swx, Int.reduceAdd, gI_a, gI_k, gL_a, gL_k, gI_r, gL_r, nI_and, nI_or, nI_xor, nI_ndf, nI_shl, nI_shr, ne_eq, and_true, true_and, eq_self, true_or, or_true, false_or, or_false, Option.toList, List.cons_append, List.nil_append, List.length_nil, List.length_cons, Nat.not_lt_zero, bX10_parts_66]
        refine hP2 _ a' F h1 (fun g hg' b hb' => ?_)
        by_cases e : g = f
        · subst e
          rw [h2 g hg' b hb', if_neg (by omega), if_pos (by omega)]
          constructor
          · rintro ⟨q1, q2⟩
            refine ⟨q1, fun j hj => ?_⟩
            by_cases z : j = i
            · rw [z]; exact fun q => absurd q hb
            · exact q2 j (by omega)
          · rintro ⟨q1, q2⟩
            exact ⟨q1, fun j hj => q2 j (by omega)⟩
        · rw [h2 g hg' b hb', show (if g < f + 1 then i + 1 else i) = (if g < f then i + 1 else i) by split <;> split <;> omega]) (fun τ a' F h1 h2 => by
      have st := F.Sh hs
      have rt := F.Rf hr
      have n1 : gI τ 191 0 = nI N := (F.2.2.1 191 (by omega) 0).trans n0
      refine wp_blk kX10_parts_24 ?_
      simp (disch := first | decide | omega) only [mxa, vxa, vxb, vxc, vnd, vne, Nat.reduceAdd, Nat.reduceSub, Nat.reduceLeDiff, Nat.reduceLT, Int32.reduceLT, Int32.reduceLE, Int32.reduceAdd, Int32.reduceSub, Int32.reduceMul, Int32.reduceToNatClampNeg, not_false_eq_true, not_true_eq_false, false_implies, true_implies, Nat.zero_add, reduceIte, Nat.reduceMul, Nat.reduceEqDiff, nxa, nxc, lgn, nL_of, swx, Int.reduceAdd, gI_a, gI_k, gL_a, gL_k, gI_r, gL_r, nI_and, nI_or, nI_xor, nI_ndf, nI_shl, nI_shr, ne_eq, and_true, true_and, eq_self, true_or, or_true, false_or, or_false, Option.toList, List.cons_append, List.nil_append, List.length_nil, List.length_cons, Nat.not_lt_zero, bX10_parts_24, kdx st, grx rt, n1, Nat.le_refl]
      refine wp_blk kX10_parts_72 ?_
      simp (disch := first | decide | omega) only [mxa, vxa, vxb, vxc, vnd, vne, Nat.reduceAdd, Nat.reduceSub, Nat.reduceLeDiff, Nat.reduceLT, Int32.reduceLT, Int32.reduceLE, Int32.reduceAdd, Int32.reduceSub, Int32.reduceMul, Int32.reduceToNatClampNeg, not_false_eq_true, not_true_eq_false, false_implies, true_implies, Nat.zero_add, reduceIte, Nat.reduceMul, Nat.reduceEqDiff, nxa, nxc, lgn, nL_of, swx, Int.reduceAdd, gI_a, gI_k, gL_a, gL_k, gI_r, gL_r, nI_and, nI_or, nI_xor, nI_ndf, nI_shl, nI_shr, ne_eq, and_true, true_and, eq_self, true_or, or_true, false_or, or_false, Option.toList, List.cons_append, List.nil_append, List.length_nil, List.length_cons, Nat.not_lt_zero, bX10_parts_72]
      refine Wp.fog 4 (hP τ a' F h1 (fun f hf b hb => ?_))
      rw [h2 f hf b hb, if_pos hf])
    refine wp_blk kX10_parts_16 ?_
    simp (disch := first | decide | omega) only [mxa, vxa, vxb, vxc, vnd, vne, Nat.reduceAdd, Nat.reduceSub, Nat.reduceLeDiff, Nat.reduceLT, Int32.reduceLT, Int32.reduceLE, Int32.reduceAdd, Int32.reduceSub, Int32.reduceMul, Int32.reduceToNatClampNeg, not_false_eq_true, not_true_eq_false, false_implies, true_implies, Nat.zero_add, reduceIte, Nat.reduceMul, Nat.reduceEqDiff, nxa, nxc, lgn, nL_of, swx, Int.reduceAdd, gI_a, gI_k, gL_a, gL_k, gI_r, gL_r, nI_and, nI_or, nI_xor, nI_ndf, nI_shl, nI_shr, ne_eq, and_true, true_and, eq_self, true_or, or_true, false_or, or_false, Option.toList, List.cons_append, List.nil_append, List.length_nil, List.length_cons, Nat.not_lt_zero, bX10_parts_16, show ¬ k ≤ i by omega]
    exact inn τ a' F h1 (fun g hg' b hb' => by rw [if_neg (by omega)]; exact h2 g hg' b hb')
  · refine wp_blk kX10_parts_16 ?_
    simp (disch := first | decide | omega) only [mxa, vxa, vxb, vxc, vnd, vne, Nat.reduceAdd, Nat.reduceSub, Nat.reduceLeDiff, Nat.reduceLT, Int32.reduceLT, Int32.reduceLE, Int32.reduceAdd, Int32.reduceSub, Int32.reduceMul, Int32.reduceToNatClampNeg, not_false_eq_true, not_true_eq_false, false_implies, true_implies, Nat.zero_add, reduceIte, Nat.reduceMul, Nat.reduceEqDiff, nxa, nxc, lgn, nL_of, swx, Int.reduceAdd, gI_a, gI_k, gL_a, gL_k, gI_r, gL_r, nI_and, nI_or, nI_xor, nI_ndf, nI_shl, nI_shr, ne_eq, and_true, true_and, eq_self, true_or, or_true, false_or, or_false, Option.toList, List.cons_append, List.nil_append, List.length_nil, List.length_cons, Nat.not_lt_zero, bX10_parts_16, Nat.le_refl]
    refine wp_blk kX10_parts_78 ?_
    simp (disch := first | decide | omega) only [mxa, vxa, vxb, vxc, vnd, vne, Nat.reduceAdd, Nat.reduceSub, Nat.reduceLeDiff, Nat.reduceLT, Int32.reduceLT, Int32.reduceLE, Int32.reduceAdd, Int32.reduceSub, Int32.reduceMul, Int32.reduceToNatClampNeg, not_false_eq_true, not_true_eq_false, false_implies, true_implies, Nat.zero_add, reduceIte, Nat.reduceMul, Nat.reduceEqDiff, nxa, nxc, lgn, nL_of, swx, Int.reduceAdd, gI_a, gI_k, gL_a, gL_k, gI_r, gL_r, nI_and, nI_or, nI_xor, nI_ndf, nI_shl, nI_shr, ne_eq, and_true, true_and, eq_self, true_or, or_true, false_or, or_false, Option.toList, List.cons_append, List.nil_append, List.length_nil, List.length_cons, Nat.not_lt_zero, bX10_parts_78]
    exact hQ τ a' F h1 h2
theorem c_parts (X : Cx) (d : Nat) (V : Nat → Int32) (t N O K w : Nat) (hG : Gd V t N O K) (T : Nat → Int32) (hT : TB 1 w (fil V N O) T) (w2 : w < 2 ^ N) : ∀ (n s k : Nat) (σ : Mm) (G a : Nat → Nat), s &&& w = s → pcN s 10 ≤ n → k + pcN s 10 ≤ 8 → Sh σ → Rf σ → gI σ 191 0 = nI N → (∀ x, x < 2 ^ N → gI σ 200 x = nI (ofB V N O x)) → (∀ j, j < k → gI σ 204 j = nI (G j) ∧ G j < 1024) → AL σ a → ∀ Q : Po, (∀ τ a', Fr (fun c => c = 190 ∨ c = 204 ∨ c = 205) σ τ → (∀ j, j ≠ 29 → gI τ 190 j = gI σ 190 j) → gI τ 190 29 = gI σ 190 29 + T s → (∀ j, j < k → gI τ 204 j = gI σ 204 j) → AL τ a' → (∀ f, f < N → ∀ b, b < 10 → ((a' f).testBit b = true ↔ (a f).testBit b = true ∧ (∀ z, IP (fil V N O) s z → okB z f b) ∧ (PB (fil V N O) s → ∀ j, j < k → okB (G j) f b))) → Q none τ) → Call X (d + n + 3) 0 0 mX10_parts [.ref 190, .int (nI s), .int (nI k)] σ Q := by
  have hO3 := hG.2.1.2
  have hN10 := hG.1.2
  have pw := pow_le hN10
  have base : ∀ (d k : Nat) (σ : Mm) (G a : Nat → Nat), k ≤ 8 → Sh σ → Rf σ → gI σ 191 0 = nI N → (∀ j, j < k → gI σ 204 j = nI (G j) ∧ G j < 1024) → AL σ a → ∀ Q : Po, (∀ τ a', Fr (fun c => c = 190 ∨ c = 204 ∨ c = 205) σ τ → (∀ j, j ≠ 29 → gI τ 190 j = gI σ 190 j) → gI τ 190 29 = gI σ 190 29 + T 0 → (∀ j, j < k → gI τ 204 j = gI σ 204 j) → AL τ a' → (∀ f, f < N → ∀ b, b < 10 → ((a' f).testBit b = true ↔ (a f).testBit b = true ∧ (∀ z, IP (fil V N O) 0 z → okB z f b) ∧ (PB (fil V N O) 0 → ∀ j, j < k → okB (G j) f b))) → Q none τ) → Call X (d + 3) 0 0 mX10_parts [.ref 190, .int (nI 0), .int (nI k)] σ Q := by
    intro d k σ G a hk hs hr n0 hg ha Q hQ
    have t0 : T 0 = nI 1 := hT.1
    rw [t0] at hQ
    refine call_of eX10_parts rfl ?_
    refine wp_blk kX10_parts_0 ?_
    simp (disch := first | decide | omega) only [mxa, vxa, vxb, vxc, vnd, vne, Nat.reduceAdd, Nat.reduceSub, Nat.reduceLeDiff, Nat.reduceLT, Int32.reduceLT, Int32.reduceLE, Int32.reduceAdd, Int32.reduceSub, Int32.reduceMul, Int32.reduceToNatClampNeg, not_false_eq_true, not_true_eq_false, false_implies, true_implies, Nat.zero_add, reduceIte, Nat.reduceMul, Nat.reduceEqDiff, nxa, nxc, lgn, nL_of, swx, Int.reduceAdd, gI_a, gI_k, gL_a, gL_k, gI_r, gL_r, nI_and, nI_or, nI_xor, nI_ndf, nI_shl, nI_shr, ne_eq, and_true, true_and, eq_self, true_or, or_true, false_or, or_false, Option.toList, List.cons_append, List.nil_append, List.length_nil, List.length_cons, Nat.not_lt_zero, bX10_parts_0, kdx hs]
    refine m_pt0 X d _ N k G a (by exact hs) (by exact hr) hN10 ((gI_a (by decide)).trans n0) hk (fun j hj => ⟨(gI_a (by decide)).trans (hg j hj).1, (hg j hj).2⟩) (fun f hf => ⟨(gI_a (by decide)).trans (ha f hf).1, (ha f hf).2⟩) Q (fun τ a' F h1 h2 => ?_)
    refine hQ τ a' ((Fr.sI (Or.inl rfl)).tr (F.mono (fun c q => Or.inr (Or.inr q)))) (fun j hj => (F.2.2.1 190 (by omega) j).trans (gI_k hj)) ((F.2.2.1 190 (by omega) 29).trans (gI_same _ _ _ _)) (fun j hj => (F.2.2.1 204 (by omega) j).trans (gI_a (by decide))) h1 (fun f hf b hb => ?_)
    rw [h2 f hf b hb]
    exact ⟨fun q => ⟨q.1, fun z hz => absurd hz IP_0, fun _ => q.2⟩, fun q => ⟨q.1, q.2.2 PB_nil⟩⟩
  intro n
  induction n with
  | zero =>
    intro s k σ G a sw pn pk hs hr n0 hL hg ha Q hQ
    have s0 : s = 0 := by
      rcases Nat.eq_zero_or_pos s with q | q
      · exact q
      · have sl := sub_le sw
        have l := low_p s (by omega) q
        have := pcN_mono1 (x := 0) (s := s) (j := (lowN s).log2) (fun i hi => by rw [Nat.zero_testBit] at hi; cases hi) l.2.2.1 (by rw [Nat.zero_testBit]; simp) 10 l.2.1
        omega
    subst s0
    exact base d k σ G a (by omega) hs hr n0 hg ha Q hQ
  | succ n ih =>
    intro s k σ G a sw pn pk hs hr n0 hL hg ha Q hQ
    have sl := sub_le sw
    rcases Nat.eq_zero_or_pos s with s0 | h0
    · subst s0
      exact base (d + (n + 1)) k σ G a (by omega) hs hr n0 hg ha Q hQ
    have hs10 : s < 1024 := by omega
    have l := low_p s hs10 h0
    have lI := low_I s hs10
    have lle := l.2.2.2.2.1
    have p1 : 0 < pcN s 10 := by
      have := pcN_mono1 (x := 0) (s := s) (j := (lowN s).log2) (fun i hi => by rw [Nat.zero_testBit] at hi; cases hi) l.2.2.1 (by rw [Nat.zero_testBit]; simp) 10 l.2.1
      omega
    rw [hT.2 s h0 sl sw, cl_1] at hQ
    have loop : ∀ m y, y ≤ m → y &&& s = y → ∀ τ a', Fr (fun c => c = 190 ∨ c = 204 ∨ c = 205) σ τ → (∀ j, j ≠ 29 → gI τ 190 j = gI σ 190 j) → gI τ 190 29 = gI σ 190 29 + fE (fun x => pA s x ∧ fil V N O x) (fun x v => v + T (ndf s x)) (nI 0) s (y + 1) → (∀ j, j < k → gI τ 204 j = gI σ 204 j) → AL τ a' → (∀ f, f < N → ∀ b, b < 10 → ((a' f).testBit b = true ↔ (a f).testBit b = true ∧ ∀ x, y < x → pA s x → fil V N O x → (∀ z, IP (fil V N O) (ndf s x) z → okB z f b) ∧ (PB (fil V N O) (ndf s x) → okB x f b ∧ ∀ j, j < k → okB (G j) f b))) → Wp X mX10_parts (rmo (d + (n + 1) + 3) 0 0) (d + (n + 1) + 3) Q 0 0 87 [some (.ref 190), some (.int (nI s)), some (.int (nI k)), some (.int (nI (lowN s))), some (.int (nI y))] [] τ := by
      intro m
      induction m with
      | zero =>
        intro y hy hy2 τ a' F h1 h2 h3 h4 h5
        have y0 : y = 0 := by omega
        subst y0
        have n0' : ¬ pA s 0 := fun q => q.2 (Nat.zero_and _)
        refine wp_blk kX10_parts_87 ?_
        simp (disch := first | decide | omega) only [mxa, vxa, vxb, vxc, vnd, vne, Nat.reduceAdd, Nat.reduceSub, Nat.reduceLeDiff, Nat.reduceLT, Int32.reduceLT, Int32.reduceLE, Int32.reduceAdd, Int32.reduceSub, Int32.reduceMul, Int32.reduceToNatClampNeg, not_false_eq_true, not_true_eq_false, false_implies, true_implies, Nat.zero_add, reduceIte, Nat.reduceMul, Nat.reduceEqDiff, nxa, nxc, lgn, nL_of, swx, Int.reduceAdd, gI_a, gI_k, gL_a, gL_k, gI_r, gL_r, nI_and, nI_or, nI_xor, nI_ndf, nI_shl, nI_shr, ne_eq, and_true, true_and, eq_self, true_or, or_true, false_or, or_false, Option.toList, List.cons_append, List.nil_append, List.length_nil, List.length_cons, Nat.not_lt_zero, bX10_parts_87]
        refine wp_blk kX10_parts_144 ?_
        simp (disch := first | decide | omega) only [mxa, vxa, vxb, vxc, vnd, vne, Nat.reduceAdd, Nat.reduceSub, Nat.reduceLeDiff, Nat.reduceLT, Int32.reduceLT, Int32.reduceLE, Int32.reduceAdd, Int32.reduceSub, Int32.reduceMul, Int32.reduceToNatClampNeg, not_false_eq_true, not_true_eq_false, false_implies, true_implies, Nat.zero_add, reduceIte, Nat.reduceMul, Nat.reduceEqDiff, nxa, nxc, lgn, nL_of, swx, Int.reduceAdd, gI_a, gI_k, gL_a, gL_k, gI_r, gL_r, nI_and, nI_or, nI_xor, nI_ndf, nI_shl, nI_shr, ne_eq, and_true, true_and, eq_self, true_or, or_true, false_or, or_false, Option.toList, List.cons_append, List.nil_append, List.length_nil, List.length_cons, Nat.not_lt_zero, bX10_parts_144]
        refine hQ τ a' F h1 ?_ h3 h4 (fun f hf b hb => ?_)
        · rw [h2, fE_n (p := fun x => pA s x ∧ fil V N O x) (by omega) (fun q => n0' q.1)]
        · rw [h5 f hf b hb]
          constructor
          · rintro ⟨q1, q2⟩
            refine ⟨q1, fun z hz => ?_, fun hP j hj => ?_⟩
            · obtain ⟨x, x1, x2, x3⟩ := (IP_iff h0).mp hz
              have xp : 0 < x := Nat.pos_of_ne_zero (fun e => n0' (e ▸ x1))
              rcases x3 with ⟨rfl, x3⟩ | x3
              · exact ((q2 _ xp x1 x2).2 x3).1
              · exact (q2 x xp x1 x2).1 z x3
            · obtain ⟨x, x1, x2, x3⟩ := (PB_iff h0).mp hP
              have xp : 0 < x := Nat.pos_of_ne_zero (fun e => n0' (e ▸ x1))
              exact ((q2 x xp x1 x2).2 x3).2 j hj
          · rintro ⟨q1, q2, q3⟩
            exact ⟨q1, fun x _ x1 x2 => ⟨fun z hz => q2 z (IP_there h0 x1 x2 hz), fun hP => ⟨q2 x (IP_here h0 x1 x2 hP), q3 (PB_cons h0 x1 x2 hP)⟩⟩⟩
      | succ m ihm =>
        intro y hy hy2 τ a' F h1 h2 h3 h4 h5
        by_cases y0 : y = 0
        · exact ihm y (by omega) hy2 τ a' F h1 h2 h3 h4 h5
        have st := F.Sh hs
        have rt := F.Rf hr
        have ys := sub_le hy2
        obtain ⟨n1, n2, n3⟩ := fE_next (p := fun x => pA s x ∧ fil V N O x) (g := fun x v => v + T (ndf s x)) (v := nI 0) hs10 hy2 (by omega) (fun y q => q.1.1)
        have next : ∀ τ a', Fr (fun c => c = 190 ∨ c = 204 ∨ c = 205) σ τ → (∀ j, j ≠ 29 → gI τ 190 j = gI σ 190 j) → gI τ 190 29 = gI σ 190 29 + fE (fun x => pA s x ∧ fil V N O x) (fun x v => v + T (ndf s x)) (nI 0) s y → (∀ j, j < k → gI τ 204 j = gI σ 204 j) → AL τ a' → (∀ f, f < N → ∀ b, b < 10 → ((a' f).testBit b = true ↔ (a f).testBit b = true ∧ ∀ x, y ≤ x → pA s x → fil V N O x → (∀ z, IP (fil V N O) (ndf s x) z → okB z f b) ∧ (PB (fil V N O) (ndf s x) → okB x f b ∧ ∀ j, j < k → okB (G j) f b))) → Wp X mX10_parts (rmo (d + (n + 1) + 3) 0 0) (d + (n + 1) + 3) Q 0 0 133 [some (.ref 190), some (.int (nI s)), some (.int (nI k)), some (.int (nI (lowN s))), some (.int (nI y))] [] τ := by
          intro τ a' F h1 h2 h3 h4 h5
          refine wp_blk kX10_parts_133 ?_
          simp (disch := first | decide | omega) only [mxa, vxa, vxb, vxc, vnd, vne, Nat.reduceAdd, Nat.reduceSub, Nat.reduceLeDiff, Nat.reduceLT, Int32.reduceLT, Int32.reduceLE, Int32.reduceAdd, Int32.reduceSub, Int32.reduceMul, Int32.reduceToNatClampNeg, not_false_eq_true, not_true_eq_false, false_implies, true_implies, Nat.zero_add, reduceIte, Nat.reduceMul, Nat.reduceEqDiff, nxa, nxc, lgn, nL_of, swx, Int.reduceAdd, gI_a, gI_k, gL_a, gL_k, gI_r, gL_r, nI_and, nI_or, nI_xor, nI_ndf, nI_shl, nI_shr, ne_eq, and_true, true_and, eq_self, true_or, or_true, false_or, or_false, Option.toList, List.cons_append, List.nil_append, List.length_nil, List.length_cons, Nat.not_lt_zero, bX10_parts_133, nI_dec1 (show 0 < y by omega)]
          refine ihm _ (by omega) n2 τ a' F h1 (by rw [n3]; exact h2) h3 h4 (fun f hf b hb => ?_)
          rw [h5 f hf b hb]
          constructor
          · rintro ⟨q1, q2⟩
            refine ⟨q1, fun x hx x1 x2 => q2 x ?_ x1 x2⟩
            rcases Nat.lt_or_ge x y with z | z
            · have := dec_sub 10 s y x hs10 hy2 x1.1 z
              omega
            · exact z
          · rintro ⟨q1, q2⟩
            exact ⟨q1, fun x hx x1 x2 => q2 x (by omega) x1 x2⟩
        have ol := ofB_lt (V := V) (N := N) (s := y) hO3
        have L1 : gI τ 200 y = nI (ofB V N O y) := (F.2.2.1 200 (by omega) y).trans (hL y (by omega))
        have al : y &&& lowN s ≤ y := Nat.and_le_left
        have skip : ¬ (pA s y ∧ fil V N O y) → Wp X mX10_parts (rmo (d + (n + 1) + 3) 0 0) (d + (n + 1) + 3) Q 0 0 133 [some (.ref 190), some (.int (nI s)), some (.int (nI k)), some (.int (nI (lowN s))), some (.int (nI y))] [] τ := by
          intro h
          refine next τ a' F h1 (by rw [h2, fE_n (p := fun x => pA s x ∧ fil V N O x) (x := y) (by omega) h]) h3 h4 (fun f hf b hb => ?_)
          rw [h5 f hf b hb]
          constructor
          · rintro ⟨q1, q2⟩
            refine ⟨q1, fun x hx x1 x2 => q2 x ?_ x1 x2⟩
            by_cases e : x = y
            · subst e; exact absurd ⟨x1, x2⟩ h
            · omega
          · rintro ⟨q1, q2⟩
            exact ⟨q1, fun x hx => q2 x (by omega)⟩
        by_cases hl : y &&& lowN s = 0
        · refine wp_blk kX10_parts_87 ?_
          simp (disch := first | decide | omega) only [mxa, vxa, vxb, vxc, vnd, vne, Nat.reduceAdd, Nat.reduceSub, Nat.reduceLeDiff, Nat.reduceLT, Int32.reduceLT, Int32.reduceLE, Int32.reduceAdd, Int32.reduceSub, Int32.reduceMul, Int32.reduceToNatClampNeg, not_false_eq_true, not_true_eq_false, false_implies, true_implies, Nat.zero_add, reduceIte, Nat.reduceMul, Nat.reduceEqDiff, nxa, nxc, lgn, nL_of, swx, Int.reduceAdd, gI_a, gI_k, gL_a, gL_k, gI_r, gL_r, nI_and, nI_or, nI_xor, nI_ndf, nI_shl, nI_shr, ne_eq, and_true, true_and, eq_self, true_or, or_true, false_or, or_false, Option.toList, List.cons_append, List.nil_append, List.length_nil, List.length_cons, Nat.not_lt_zero, bX10_parts_87, hl, show ¬ y ≤ 0 by omega]
          exact skip (fun q => q.1.2 hl)
        by_cases hf : fil V N O y
        · have pa : pA s y := ⟨hy2, hl⟩
          obtain ⟨m1, m2⟩ := ndf_lt hs10 h0 pa
          have hne : ¬ ofB V N O y = 0 := fun q => ofB_0.mp q hf
          have yb := pA_bit hs10 h0 pa
          have pc := pcN_mono1 (x := ndf s y) (s := s) (j := (lowN s).log2) (fun i hi => sub_bit.mp m2 i hi) l.2.2.1 (by rw [ndf_bit, yb]; simp) 10 l.2.1
          refine wp_blk kX10_parts_87 ?_
          simp (disch := first | decide | omega) only [mxa, vxa, vxb, vxc, vnd, vne, Nat.reduceAdd, Nat.reduceSub, Nat.reduceLeDiff, Nat.reduceLT, Int32.reduceLT, Int32.reduceLE, Int32.reduceAdd, Int32.reduceSub, Int32.reduceMul, Int32.reduceToNatClampNeg, not_false_eq_true, not_true_eq_false, false_implies, true_implies, Nat.zero_add, reduceIte, Nat.reduceMul, Nat.reduceEqDiff, nxa, nxc, lgn, nL_of, swx, Int.reduceAdd, gI_a, gI_k, gL_a, gL_k, gI_r, gL_r, nI_and, nI_or, nI_xor, nI_ndf, nI_shl, nI_shr, ne_eq, and_true, true_and, eq_self, true_or, or_true, false_or, or_false, Option.toList, List.cons_append, List.nil_append, List.length_nil, List.length_cons, Nat.not_lt_zero, bX10_parts_87, kdx st, grx rt, L1, hl, hne, show ¬ y ≤ 0 by omega]
          refine wp_blk kX10_parts_112 ?_
          simp (disch := first | decide | omega) only [mxa, vxa, vxb, vxc, vnd, vne, Nat.reduceAdd, Nat.reduceSub, Nat.reduceLeDiff, Nat.reduceLT, Int32.reduceLT, Int32.reduceLE, Int32.reduceAdd, Int32.reduceSub, Int32.reduceMul, Int32.reduceToNatClampNeg, not_false_eq_true, not_true_eq_false, false_implies, true_implies, Nat.zero_add, reduceIte, Nat.reduceMul, Nat.reduceEqDiff, nxa, nxc, lgn, nL_of, swx, Int.reduceAdd, gI_a, gI_k, gL_a, gL_k, gI_r, gL_r, nI_and, nI_or, nI_xor, nI_ndf, nI_shl, nI_shr, ne_eq, and_true, true_and, eq_self, true_or, or_true, false_or, or_false, Option.toList, List.cons_append, List.nil_append, List.length_nil, List.length_cons, Nat.not_lt_zero, bX10_parts_112, kdx st, grx rt, show k < 8 by omega]
          refine ih (ndf s y) (k + 1) _ (fun j => if j < k then G j else y) a' (sub_bit.mpr (fun i hi => sub_bit.mp sw i (sub_bit.mp m2 i hi))) (by omega) (by omega) (by exact st) (by exact rt) ((gI_a (by decide)).trans ((F.2.2.1 191 (by omega) 0).trans n0)) (fun x hx => (gI_a (by decide)).trans ((F.2.2.1 200 (by omega) x).trans (hL x hx))) (fun j hj => ?_) (fun f hf => ⟨(gI_a (by decide)).trans (h4 f hf).1, (h4 f hf).2⟩) _ (fun τ2 a2 F2 k1 k2 k3 k4 k5 => ?_)
          · by_cases e : j = k
            · rw [if_neg (by omega), e, gI_same]
              exact ⟨rfl, by omega⟩
            · rw [gI_k e, if_pos (by omega), h3 j (by omega)]
              exact hg j (by omega)
          · simp (disch := first | decide | omega) only [mxa, vxa, vxb, vxc, vnd, vne, Nat.reduceAdd, Nat.reduceSub, Nat.reduceLeDiff, Nat.reduceLT, Int32.reduceLT, Int32.reduceLE, Int32.reduceAdd, Int32.reduceSub, Int32.reduceMul, Int32.reduceToNatClampNeg, not_false_eq_true, not_true_eq_false, false_implies, true_implies, Nat.zero_add, reduceIte, Nat.reduceMul, Nat.reduceEqDiff, nxa, nxc, lgn, nL_of, swx, Int.reduceAdd, gI_a, gI_k, gL_a, gL_k, gI_r, gL_r, nI_and, nI_or, nI_xor, nI_ndf, nI_shl, nI_shr, ne_eq, and_true, true_and, eq_self, true_or, or_true, false_or, or_false, Option.toList, List.cons_append, List.nil_append, List.length_nil, List.length_cons, Nat.not_lt_zero]
            refine next τ2 a2 ((F.tr (Fr.sI (by omega))).tr F2) (fun j hj => (k1 j hj).trans ((gI_a (by decide)).trans (h1 j hj))) ?_ (fun j hj => (k3 j (by omega)).trans ((gI_k (by omega)).trans (h3 j hj))) k4 (fun f hf' b hb => ?_)
            · rw [k2, gI_a (by decide), h2, fE_y (p := fun x => pA s x ∧ fil V N O x) (x := y) (by omega) ⟨pa, hf⟩]
              generalize gI σ 190 29 = u
              generalize fE (fun x => pA s x ∧ fil V N O x) (fun x v => v + T (ndf s x)) (nI 0) s (y + 1) = v
              generalize T (ndf s y) = x
              grind
            · rw [k5 f hf' b hb, h5 f hf' b hb]
              constructor
              · rintro ⟨⟨q1, q2⟩, q3, q4⟩
                refine ⟨q1, fun x hx x1 x2 => ?_⟩
                by_cases e : x = y
                · subst e
                  refine ⟨q3, fun hP => ⟨?_, fun j hj => ?_⟩⟩
                  · have := q4 hP k (by omega)
                    rw [if_neg (by omega)] at this; exact this
                  · have := q4 hP j (by omega)
                    rw [if_pos hj] at this; exact this
                · exact q2 x (by omega) x1 x2
              · rintro ⟨q1, q2⟩
                refine ⟨⟨q1, fun x hx x1 x2 => q2 x (by omega) x1 x2⟩, (q2 y (Nat.le_refl _) pa hf).1, fun hP j hj => ?_⟩
                have := (q2 y (Nat.le_refl _) pa hf).2 hP
                by_cases e : j < k
                · rw [if_pos e]; exact this.2 j e
                · rw [if_neg e]; exact this.1
        · refine wp_blk kX10_parts_87 ?_
          simp (disch := first | decide | omega) only [mxa, vxa, vxb, vxc, vnd, vne, Nat.reduceAdd, Nat.reduceSub, Nat.reduceLeDiff, Nat.reduceLT, Int32.reduceLT, Int32.reduceLE, Int32.reduceAdd, Int32.reduceSub, Int32.reduceMul, Int32.reduceToNatClampNeg, not_false_eq_true, not_true_eq_false, false_implies, true_implies, Nat.zero_add, reduceIte, Nat.reduceMul, Nat.reduceEqDiff, nxa, nxc, lgn, nL_of, swx, Int.reduceAdd, gI_a, gI_k, gL_a, gL_k, gI_r, gL_r, nI_and, nI_or, nI_xor, nI_ndf, nI_shl, nI_shr, ne_eq, and_true, true_and, eq_self, true_or, or_true, false_or, or_false, Option.toList, List.cons_append, List.nil_append, List.length_nil, List.length_cons, Nat.not_lt_zero, bX10_parts_87, kdx st, grx rt, L1, hl, show ¬ y ≤ 0 by omega, show ofB V N O y = 0 from ofB_0.mpr hf]
          exact skip (fun q => hf q.2)
    have := loop s s (Nat.le_refl _) (Nat.and_self _) σ a Fr.rf (fun _ _ => rfl) (by rw [fE_top, show nI 0 = (0 : Int32) from rfl, Int32.add_zero]) (fun _ _ => rfl) ha (fun f hf b hb => ⟨fun q => ⟨q, fun x hx x1 _ => absurd (sub_le x1.1) (by omega)⟩, fun q => q.1⟩)
    refine call_of eX10_parts rfl ?_
    refine wp_blk kX10_parts_0 ?_
    simp (disch := first | decide | omega) only [mxa, vxa, vxb, vxc, vnd, vne, Nat.reduceAdd, Nat.reduceSub, Nat.reduceLeDiff, Nat.reduceLT, Int32.reduceLT, Int32.reduceLE, Int32.reduceAdd, Int32.reduceSub, Int32.reduceMul, Int32.reduceToNatClampNeg, not_false_eq_true, not_true_eq_false, false_implies, true_implies, Nat.zero_add, reduceIte, Nat.reduceMul, Nat.reduceEqDiff, nxa, nxc, lgn, nL_of, swx, Int.reduceAdd, gI_a, gI_k, gL_a, gL_k, gI_r, gL_r, nI_and, nI_or, nI_xor, nI_ndf, nI_shl, nI_shr, ne_eq, and_true, true_and, eq_self, true_or, or_true, false_or, or_false, Option.toList, List.cons_append, List.nil_append, List.length_nil, List.length_cons, Nat.not_lt_zero, bX10_parts_0, show ¬ s = 0 by omega]
    refine wp_blk kX10_parts_79 ?_
    simp (disch := first | decide | omega) only [mxa, vxa, vxb, vxc, vnd, vne, Nat.reduceAdd, Nat.reduceSub, Nat.reduceLeDiff, Nat.reduceLT, Int32.reduceLT, Int32.reduceLE, Int32.reduceAdd, Int32.reduceSub, Int32.reduceMul, Int32.reduceToNatClampNeg, not_false_eq_true, not_true_eq_false, false_implies, true_implies, Nat.zero_add, reduceIte, Nat.reduceMul, Nat.reduceEqDiff, nxa, nxc, lgn, nL_of, swx, Int.reduceAdd, gI_a, gI_k, gL_a, gL_k, gI_r, gL_r, nI_and, nI_or, nI_xor, nI_ndf, nI_shl, nI_shr, ne_eq, and_true, true_and, eq_self, true_or, or_true, false_or, or_false, Option.toList, List.cons_append, List.nil_append, List.length_nil, List.length_cons, Nat.not_lt_zero, bX10_parts_79, lI]
    exact this
