/-! pairs: clear -/
set_option maxRecDepth 20000
def nxt (L i : Nat) : Nat := if i + 1 < L then i + 1 else 0
/-- a ring of debts in V: families C 0 .. C (L - 1), all different, each owes the next -/
def isRg (V : Nat → Int32) (N L : Nat) (C : Nat → Nat) : Prop := 2 ≤ L ∧ L ≤ N ∧ (∀ i, i < L → C i < N) ∧ (∀ i j, i < L → j < L → C i = C j → i = j) ∧ ∀ i, i < L → Eb V (C i) (C (nxt L i))
theorem chR_rg {V : Nat → Int32} {t N O K a : Nat} (hG : Gd V t N O K) (ht : t ≤ 600) (ha : a < N) (h : rgA (Eb V) N a < N) : isRg V N (rgA (Eb V) N a + 1) (chR (Eb V) N a (rgA (Eb V) N a + 1)) := by
  have hN := hG.1.2
  have hd := ds_D (E := Eb V) ha hN
  have cr := chR_ok (E := Eb V) (L := rgA (Eb V) N a + 1) ha hN rfl h
  have daa : ∀ f, f < 10 → ¬ Eb V f f := fun f hf => by
    have := (db_ok (f := f) (g := f) hG ht hf hf).2.2 (Or.inr (Or.inr rfl))
    unfold Eb
    omega
  have h1 : 1 ≤ rgA (Eb V) N a := by
    rcases Nat.eq_zero_or_pos (rgA (Eb V) N a) with q | q
    · rcases mlE_at (E := Eb V) (D := ds (Eb V) N a) (a := a) N with z | ⟨f, f1, f2, f3⟩
      · have : rgA (Eb V) N a = 1048576 := z
        omega
      · have e : rgA (Eb V) N a = ds (Eb V) N a f := f3
        have w := (hd f f1).1 (by omega)
        rw [← e, q] at w
        have : f = a := w
        rw [this] at f2
        exact absurd f2 (daa a (by omega))
    · exact q
  refine ⟨by omega, by omega, fun i hi => (cr i hi).1, ?_, fun i hi => ?_⟩
  · have key : ∀ i, i < rgA (Eb V) N a + 1 → ds (Eb V) N a (chR (Eb V) N a (rgA (Eb V) N a + 1) i) = if i = 0 then 0 else rgA (Eb V) N a + 1 - i := fun i hi => by
      by_cases e : i = 0
      · rw [if_pos e, e]; exact isD_a hd ha
      · rw [if_neg e]; exact ((cr i hi).2 (by omega)).1
    intro i j hi hj e
    have a1 := key i hi
    have a2 := key j hj
    rw [e, a2] at a1
    by_cases i0 : i = 0
    · rw [if_pos i0] at a1
      by_cases j0 : j = 0
      · omega
      · rw [if_neg j0] at a1; omega
    · rw [if_neg i0] at a1
      by_cases j0 : j = 0
      · rw [if_pos j0] at a1; omega
      · rw [if_neg j0] at a1; omega
  · by_cases e : i + 1 < rgA (Eb V) N a + 1
    · have := ((cr (i + 1) e).2 (by omega)).2.1
      rw [Nat.add_sub_cancel] at this
      rw [show nxt (rgA (Eb V) N a + 1) i = i + 1 from if_pos e]
      exact this
    · rw [show nxt (rgA (Eb V) N a + 1) i = 0 from if_neg e]
      obtain ⟨c1, c2⟩ := cr i hi
      have d1 := (c2 (by omega)).1
      have w := (hd _ c1).1 (by omega)
      rw [d1, show rgA (Eb V) N a + 1 - i = 0 + 1 by omega] at w
      rcases w with w | ⟨g, g1, g2, g3⟩
      · have : chR (Eb V) N a (rgA (Eb V) N a + 1) i = a := w
        rw [this, isD_a hd ha] at d1
        omega
      · have : g = a := g3
        rw [this] at g2
        exact g2
def dR (V : Nat → Int32) (L : Nat) (C : Nat → Nat) (i : Nat) : Nat := db V (C i) (C (nxt L i))
def isMn (e : Nat → Nat) (L m : Nat) : Prop := (∀ i, i < L → m ≤ e i) ∧ ∃ i, i < L ∧ m = e i
theorem isMn_ex (e : Nat → Nat) : ∀ L, 1 ≤ L → ∃ m, isMn e L m
  | 1, _ => ⟨e 0, fun i hi => by rw [show i = 0 by omega]; exact Nat.le_refl _, 0, by omega, rfl⟩
  | L + 2, _ => by
    obtain ⟨m, h1, i, h2, h3⟩ := isMn_ex e (L + 1) (by omega)
    by_cases q : m ≤ e (L + 1)
    · exact ⟨m, fun j hj => by
        by_cases z : j = L + 1
        · rw [z]; exact q
        · exact h1 j (by omega), i, by omega, h3⟩
    · exact ⟨e (L + 1), fun j hj => by
        by_cases z : j = L + 1
        · rw [z]; exact Nat.le_refl _
        · have := h1 j (by omega); omega, L + 1, by omega, rfl⟩
/-- the least is taken off all of a ring -/
def tkV (V : Nat → Int32) (L : Nat) (C : Nat → Nat) (m : Nat) : Nat → Nat → Int32
  | 0 => V
  | i + 1 => upd (tkV V L C m i) (219 + 10 * C i + C (nxt L i)) (nI (dR V L C i - m))
theorem tkV_off {V : Nat → Int32} {L m j : Nat} {C : Nat → Nat} : ∀ n, (∀ i, i < n → j ≠ 219 + 10 * C i + C (nxt L i)) → tkV V L C m n j = V j
  | 0, _ => rfl
  | n + 1, h => (upd_n (h n (by omega))).trans (tkV_off n (fun i hi => h i (by omega)))
theorem nxt_lt {L i : Nat} (h : 0 < L) : nxt L i < L := by
  unfold nxt
  split <;> omega
theorem rg_ix {V : Nat → Int32} {N L i j : Nat} {C : Nat → Nat} (hN : N ≤ 10) (h : isRg V N L C) (hi : i < L) (hj : j < L) (e : 219 + 10 * C i + C (nxt L i) = 219 + 10 * C j + C (nxt L j)) : i = j := by
  have a1 := h.2.2.1 _ (nxt_lt (L := L) (i := i) (by omega))
  have a2 := h.2.2.1 _ (nxt_lt (L := L) (i := j) (by omega))
  exact h.2.2.2.1 i j hi hj (by omega)
theorem tkV_own {V : Nat → Int32} {N L m n : Nat} {C : Nat → Nat} (hN : N ≤ 10) (h : isRg V N L C) (hn : n < L) : tkV V L C m n (219 + 10 * C n + C (nxt L n)) = V (219 + 10 * C n + C (nxt L n)) := tkV_off n (fun i hi e => by
  have := rg_ix hN h hn (show i < L by omega) e
  omega)
theorem rg_ne {V : Nat → Int32} {N L i : Nat} {C : Nat → Nat} (h : isRg V N L C) (hi : i < L) : C i ≠ C (nxt L i) := fun e => by
  have := h.2.2.2.1 i (nxt L i) hi (nxt_lt (by omega)) e
  have h2 := h.1
  unfold nxt at this
  split at this <;> omega
theorem tkV_Gd {V : Nat → Int32} {t N O K L m : Nat} {C : Nat → Nat} (hG : Gd V t N O K) (ht : t ≤ 600) (h : isRg V N L C) : ∀ n, n ≤ L → Gd (tkV V L C m n) t N O K
  | 0, _ => hG
  | n + 1, hn => by
    have ih := tkV_Gd (m := m) hG ht h n (by omega)
    have hN := hG.1.2
    have c1 := h.2.2.1 n (by omega)
    have c2 := h.2.2.1 _ (nxt_lt (L := L) (i := n) (by omega))
    obtain ⟨⟨x, hx, ex⟩, -⟩ := hG.2.2.2.2.2.2.2.2.2 (C n) (C (nxt L n)) (by omega) (by omega)
    obtain ⟨b1, b2, -⟩ := db_ok (f := C n) (g := C (nxt L n)) hG ht (by omega) (by omega)
    have hxb : x = db V (C n) (C (nxt L n)) := by
      have hb : 999 * t * 2 ^ (10 - N) ≤ 999 * t * 1024 := Nat.mul_le_mul_left _ (Nat.pow_le_pow_right (n := 2) (by omega) (show 10 - N ≤ 10 by omega))
      rw [ex, nxa.2.2.1 _ _ (by omega) (by omega)] at b1
      exact b1
    exact ih.owe c1 c2 (rg_ne h (by omega)) ⟨dR V L C n - m, by unfold dR; omega, rfl⟩
/-- how many debts there are -/
noncomputable def posN (V : Nat → Int32) : Nat := cntP (fun k => 0 < (V (219 + k)).toNatClampNeg) 100
theorem tkV_le {V : Nat → Int32} {t N O K L m : Nat} {C : Nat → Nat} (hG : Gd V t N O K) (ht : t ≤ 600) (h : isRg V N L C) (k : Nat) : ∀ n, n ≤ L → (tkV V L C m n (219 + k)).toNatClampNeg ≤ (V (219 + k)).toNatClampNeg
  | 0, _ => Nat.le_refl _
  | n + 1, hn => by
    have ih := tkV_le (m := m) hG ht h k n (by omega)
    have hN := hG.1.2
    have c1 := h.2.2.1 n (by omega)
    have c2 := h.2.2.1 _ (nxt_lt (L := L) (i := n) (by omega))
    show (upd _ _ _ _).toNatClampNeg ≤ _
    by_cases e : 219 + k = 219 + 10 * C n + C (nxt L n)
    · obtain ⟨b1, b2, -⟩ := db_ok (f := C n) (g := C (nxt L n)) hG ht (by omega) (by omega)
      rw [e, upd_s, nI_clamp (by unfold dR; omega), b1, nI_clamp (by omega)]
      unfold dR
      omega
    · rw [upd_n e]; exact ih
theorem tkV_pos {V : Nat → Int32} {t N O K L m : Nat} {C : Nat → Nat} (hG : Gd V t N O K) (ht : t ≤ 600) (h : isRg V N L C) (hm : isMn (dR V L C) L m) : posN (tkV V L C m L) < posN V := by
  have hN := hG.1.2
  obtain ⟨h1, i, hi, e⟩ := hm
  have c1 := h.2.2.1 i hi
  have c2 := h.2.2.1 _ (nxt_lt (L := L) (i := i) (by omega))
  have key : ∀ n, i < n → n ≤ L → tkV V L C m n (219 + (10 * C i + C (nxt L i))) = nI 0 := by
    intro n
    induction n with
    | zero => intro q; omega
    | succ n ih =>
      intro q hn
      show upd _ _ _ _ = _
      by_cases z : n = i
      · subst z
        rw [← Nat.add_assoc, upd_s, e, Nat.sub_self]
      · rw [upd_n (fun y => z (rg_ix hN h (show n < L by omega) hi (by rw [← y, Nat.add_assoc]))), ih (by omega) (by omega)]
  refine cntP_lt (fun k hk => Nat.lt_of_lt_of_le hk (tkV_le hG ht h k L (Nat.le_refl _))) (x := 10 * C i + C (nxt L i)) ?_ ?_ 100 (by omega)
  · have q : 0 < db V (C i) (C (nxt L i)) := h.2.2.2.2 i hi
    unfold db at q
    rw [Nat.add_assoc] at q
    exact q
  · rw [key L hi (Nat.le_refl _)]
    decide
/-- one ring less -/
noncomputable def rsV (V : Nat → Int32) (N : Nat) : Nat → Int32 := tkV V (rgA (Eb V) N (lstP (fun a => a < N ∧ rgA (Eb V) N a < N)) + 1) (chR (Eb V) N (lstP (fun a => a < N ∧ rgA (Eb V) N a < N)) (rgA (Eb V) N (lstP (fun a => a < N ∧ rgA (Eb V) N a < N)) + 1)) (lstP (isMn (dR V (rgA (Eb V) N (lstP (fun a => a < N ∧ rgA (Eb V) N a < N)) + 1) (chR (Eb V) N (lstP (fun a => a < N ∧ rgA (Eb V) N a < N)) (rgA (Eb V) N (lstP (fun a => a < N ∧ rgA (Eb V) N a < N)) + 1))) (rgA (Eb V) N (lstP (fun a => a < N ∧ rgA (Eb V) N a < N)) + 1))) (rgA (Eb V) N (lstP (fun a => a < N ∧ rgA (Eb V) N a < N)) + 1)
def hasR (V : Nat → Int32) (N : Nat) : Prop := ∃ a, a < N ∧ rgA (Eb V) N a < N
theorem isMn_eq {e : Nat → Nat} {L m n : Nat} (h : isMn e L m) (h' : isMn e L n) : m = n := by
  obtain ⟨a1, i, a2, a3⟩ := h
  obtain ⟨b1, j, b2, b3⟩ := h'
  have := a1 j b2
  have := b1 i a2
  omega
theorem rsV_eq {V : Nat → Int32} {N a m : Nat} (ha : a < N) (h : rgA (Eb V) N a < N) (hb : ∀ b, b < a → ¬ rgA (Eb V) N b < N) (hm : isMn (dR V (rgA (Eb V) N a + 1) (chR (Eb V) N a (rgA (Eb V) N a + 1))) (rgA (Eb V) N a + 1) m) : rsV V N = tkV V (rgA (Eb V) N a + 1) (chR (Eb V) N a (rgA (Eb V) N a + 1)) m (rgA (Eb V) N a + 1) := by
  have ea : lstP (fun a => a < N ∧ rgA (Eb V) N a < N) = a := by
    obtain ⟨k1, k2⟩ := lstP_ok (p := fun a => a < N ∧ rgA (Eb V) N a < N) ⟨a, ha, h⟩
    generalize lstP (fun a => a < N ∧ rgA (Eb V) N a < N) = b at k1 k2
    rcases (by omega : b < a ∨ b = a ∨ a < b) with q | q | q
    · exact absurd k1.2 (hb b q)
    · exact q
    · exact absurd ⟨ha, h⟩ (k2 a q)
  unfold rsV
  rw [ea]
  have em := (lstP_ok ⟨m, hm⟩).1
  rw [isMn_eq em hm]
noncomputable def itV (V : Nat → Int32) (N : Nat) : Nat → Nat → Int32
  | 0 => V
  | n + 1 => rsV (itV V N n) N
theorem rsV_ok {V : Nat → Int32} {t N O K : Nat} (hG : Gd V t N O K) (ht : t ≤ 600) (h : hasR V N) : Gd (rsV V N) t N O K ∧ posN (rsV V N) < posN V ∧ ∀ k, (k < 219 ∨ 319 ≤ k) → rsV V N k = V k := by
  obtain ⟨⟨k1, k2⟩, k3⟩ := lstP_ok (p := fun a => a < N ∧ rgA (Eb V) N a < N) h
  have hN := hG.1.2
  have rg := chR_rg hG ht k1 k2
  obtain ⟨m, hm⟩ := isMn_ex (dR V (rgA (Eb V) N (lstP (fun a => a < N ∧ rgA (Eb V) N a < N)) + 1) (chR (Eb V) N (lstP (fun a => a < N ∧ rgA (Eb V) N a < N)) (rgA (Eb V) N (lstP (fun a => a < N ∧ rgA (Eb V) N a < N)) + 1))) (rgA (Eb V) N (lstP (fun a => a < N ∧ rgA (Eb V) N a < N)) + 1) (by omega)
  rw [rsV_eq k1 k2 (fun b hb q => k3 b hb ⟨by omega, q⟩) hm]
  refine ⟨tkV_Gd hG ht rg _ (Nat.le_refl _), tkV_pos hG ht rg hm, fun k hk => tkV_off _ (fun i hi e => ?_)⟩
  have c1 := rg.2.2.1 i hi
  have c2 := rg.2.2.1 _ (nxt_lt (L := rgA (Eb V) N (lstP (fun a => a < N ∧ rgA (Eb V) N a < N)) + 1) (i := i) (by omega))
  omega
theorem itV_ok {V : Nat → Int32} {t N O K : Nat} (hG : Gd V t N O K) (ht : t ≤ 600) : ∀ n, (∀ j, j < n → hasR (itV V N j) N) → Gd (itV V N n) t N O K ∧ posN (itV V N n) + n ≤ posN V ∧ ∀ k, (k < 219 ∨ 319 ≤ k) → itV V N n k = V k
  | 0, _ => ⟨hG, Nat.le_refl _, fun _ _ => rfl⟩
  | n + 1, h => by
    obtain ⟨h1, h2, h3⟩ := itV_ok hG ht n (fun j hj => h j (by omega))
    obtain ⟨k1, k2, k3⟩ := rsV_ok h1 ht (h n (by omega))
    exact ⟨k1, by show posN (rsV (itV V N n) N) + _ ≤ _; omega, fun k hk => (k3 k hk).trans (h3 k hk)⟩
theorem it_stop {V : Nat → Int32} {t N O K : Nat} (hG : Gd V t N O K) (ht : t ≤ 600) : ∃ e, e ≤ 100 ∧ (∀ j, j < e → hasR (itV V N j) N) ∧ ¬ hasR (itV V N e) N := by
  have ex : ∃ e, ¬ hasR (itV V N e) N := by
    refine Classical.byContradiction (fun q => ?_)
    have all : ∀ j, hasR (itV V N j) N := fun j => Classical.byContradiction (fun z => q ⟨j, z⟩)
    have := (itV_ok hG ht 101 (fun j _ => all j)).2.1
    have : posN V ≤ 100 := cntP_n 100
    omega
  obtain ⟨e, h1, h2⟩ := pk_least (fun e => ¬ hasR (itV V N e) N) ex
  have h3 : ∀ j, j < e → hasR (itV V N j) N := fun j hj => Classical.byContradiction (fun z => h2 j hj z)
  have := (itV_ok hG ht e h3).2.1
  have : posN V ≤ 100 := cntP_n 100
  exact ⟨e, by omega, h3, h1⟩
/-! the class -/
theorem c_nextIn (X : Cx) (d : Nat) (σ : Mm) (L i : Nat) (C : Nat → Nat) (hs : Sh σ) (hr : Rf σ) (hL : gI σ 156 0 = nI L) (hL10 : L ≤ 10) (hC : ∀ i, i < L → gI σ 157 i = nI (C i)) (hi : i < L) (Q : Po) (hQ : Q (some (.int (nI (C (nxt L i))))) σ) : Call X d 0 0 mX1_nextInChain [.ref 156, .int (nI i)] σ Q := by
  by_cases h : i + 1 < L
  · rw [show nxt L i = i + 1 from if_pos h] at hQ
    refine call_of eX1_nextInChain rfl ?_
    refine wp_blk kX1_nextInChain_0 ?_
    simp (disch := first | decide | omega) only [mxa, vxa, vxb, vxc, vnd, vne, Nat.reduceAdd, Nat.reduceSub, Nat.reduceLeDiff, Nat.reduceLT, Int32.reduceLT, Int32.reduceLE, Int32.reduceAdd, Int32.reduceSub, Int32.reduceMul, Int32.reduceToNatClampNeg, not_false_eq_true, not_true_eq_false, false_implies, true_implies, Nat.zero_add, reduceIte, Nat.reduceMul, Nat.reduceEqDiff, nxa, nxc, lgn, nL_of, swx, Int.reduceAdd, gI_a, gI_k, gL_a, gL_k, gI_r, gL_r, nI_and, nI_or, nI_xor, nI_ndf, nI_shl, nI_shr, ne_eq, and_true, true_and, eq_self, true_or, or_true, false_or, or_false, Option.toList, List.cons_append, List.nil_append, List.length_nil, List.length_cons, Nat.not_lt_zero, bX1_nextInChain_0, kdx hs, grx hr, hL, show ¬ L ≤ i + 1 by omega, hC (i + 1) h]
    refine wp_blk kX1_nextInChain_27 ?_
    simp (disch := first | decide | omega) only [mxa, vxa, vxb, vxc, vnd, vne, Nat.reduceAdd, Nat.reduceSub, Nat.reduceLeDiff, Nat.reduceLT, Int32.reduceLT, Int32.reduceLE, Int32.reduceAdd, Int32.reduceSub, Int32.reduceMul, Int32.reduceToNatClampNeg, not_false_eq_true, not_true_eq_false, false_implies, true_implies, Nat.zero_add, reduceIte, Nat.reduceMul, Nat.reduceEqDiff, nxa, nxc, lgn, nL_of, swx, Int.reduceAdd, gI_a, gI_k, gL_a, gL_k, gI_r, gL_r, nI_and, nI_or, nI_xor, nI_ndf, nI_shl, nI_shr, ne_eq, and_true, true_and, eq_self, true_or, or_true, false_or, or_false, Option.toList, List.cons_append, List.nil_append, List.length_nil, List.length_cons, Nat.not_lt_zero, bX1_nextInChain_27]
    exact hQ
  · rw [show nxt L i = 0 from if_neg h] at hQ
    refine call_of eX1_nextInChain rfl ?_
    refine wp_blk kX1_nextInChain_0 ?_
    simp (disch := first | decide | omega) only [mxa, vxa, vxb, vxc, vnd, vne, Nat.reduceAdd, Nat.reduceSub, Nat.reduceLeDiff, Nat.reduceLT, Int32.reduceLT, Int32.reduceLE, Int32.reduceAdd, Int32.reduceSub, Int32.reduceMul, Int32.reduceToNatClampNeg, not_false_eq_true, not_true_eq_false, false_implies, true_implies, Nat.zero_add, reduceIte, Nat.reduceMul, Nat.reduceEqDiff, nxa, nxc, lgn, nL_of, swx, Int.reduceAdd, gI_a, gI_k, gL_a, gL_k, gI_r, gL_r, nI_and, nI_or, nI_xor, nI_ndf, nI_shl, nI_shr, ne_eq, and_true, true_and, eq_self, true_or, or_true, false_or, or_false, Option.toList, List.cons_append, List.nil_append, List.length_nil, List.length_cons, Nat.not_lt_zero, bX1_nextInChain_0, kdx hs, grx hr, hL, show L ≤ i + 1 by omega]
    refine wp_blk kX1_nextInChain_21 ?_
    simp (disch := first | decide | omega) only [mxa, vxa, vxb, vxc, vnd, vne, Nat.reduceAdd, Nat.reduceSub, Nat.reduceLeDiff, Nat.reduceLT, Int32.reduceLT, Int32.reduceLE, Int32.reduceAdd, Int32.reduceSub, Int32.reduceMul, Int32.reduceToNatClampNeg, not_false_eq_true, not_true_eq_false, false_implies, true_implies, Nat.zero_add, reduceIte, Nat.reduceMul, Nat.reduceEqDiff, nxa, nxc, lgn, nL_of, swx, Int.reduceAdd, gI_a, gI_k, gL_a, gL_k, gI_r, gL_r, nI_and, nI_or, nI_xor, nI_ndf, nI_shl, nI_shr, ne_eq, and_true, true_and, eq_self, true_or, or_true, false_or, or_false, Option.toList, List.cons_append, List.nil_append, List.length_nil, List.length_cons, Nat.not_lt_zero, bX1_nextInChain_21, kdx hs, grx hr, hC 0 (by omega)]
    refine wp_blk kX1_nextInChain_27 ?_
    simp (disch := first | decide | omega) only [mxa, vxa, vxb, vxc, vnd, vne, Nat.reduceAdd, Nat.reduceSub, Nat.reduceLeDiff, Nat.reduceLT, Int32.reduceLT, Int32.reduceLE, Int32.reduceAdd, Int32.reduceSub, Int32.reduceMul, Int32.reduceToNatClampNeg, not_false_eq_true, not_true_eq_false, false_implies, true_implies, Nat.zero_add, reduceIte, Nat.reduceMul, Nat.reduceEqDiff, nxa, nxc, lgn, nL_of, swx, Int.reduceAdd, gI_a, gI_k, gL_a, gL_k, gI_r, gL_r, nI_and, nI_or, nI_xor, nI_ndf, nI_shl, nI_shr, ne_eq, and_true, true_and, eq_self, true_or, or_true, false_or, or_false, Option.toList, List.cons_append, List.nil_append, List.length_nil, List.length_cons, Nat.not_lt_zero, bX1_nextInChain_27]
    exact hQ
theorem c_leastDebt (X : Cx) (d : Nat) (σ : Mm) (V : Nat → Int32) (t N O K L m : Nat) (C : Nat → Nat) (hs : St σ) (hG : Gd V t N O K) (ht : t ≤ 600) (hV : VR σ 1 V N O) (hL : gI σ 156 0 = nI L) (hC : ∀ i, i < L → gI σ 157 i = nI (C i)) (h : isRg V N L C) (hm : isMn (dR V L C) L m) (Q : Po) (hQ : Q (some (.int (nI m))) σ) : Call X (d + 1) 0 0 mX1_leastDebt [.ref 156, .ref 1] σ Q := by
  have hst := hs.1
  have hrt := hs.2.1
  have hN10 := hG.1.2
  have hL2 := h.1
  have hLN := h.2.1
  have ow : ∀ i, i < L → gR σ 2 (C i) = some (fa σ 1 (C i)) ∧ Fm σ (fa σ 1 (C i)) ∧ gI σ (fa σ 1 (C i) + 2) (C (nxt L i)) = nI (dR V L C i) ∧ C i < 10 ∧ C (nxt L i) < 10 ∧ dR V L C i < 1000000000 := fun i hi => by
    have c1 := h.2.2.1 i hi
    have c2 := h.2.2.1 _ (nxt_lt (L := L) (i := i) (by omega))
    obtain ⟨a1, a2, -⟩ := fa_ok hst hrt (Or.inl rfl) (hs.2.2 1 (Or.inl rfl)) (show C i < 10 by omega)
    obtain ⟨b1, b2, -⟩ := db_ok (f := C i) (g := C (nxt L i)) hG ht (by omega) (by omega)
    exact ⟨a1, a2, ((hV.2.2 _ c1).2.2.2 _ (by omega)).trans b1, by omega, by omega, b2⟩
  obtain ⟨o1, o2, o3, o4, o5, o6⟩ := ow 0 (by omega)
  refine call_of eX1_leastDebt rfl ?_
  refine wp_blk kX1_leastDebt_0 ?_
  simp (disch := first | decide | omega) only [mxa, vxa, vxb, vxc, vnd, vne, Nat.reduceAdd, Nat.reduceSub, Nat.reduceLeDiff, Nat.reduceLT, Int32.reduceLT, Int32.reduceLE, Int32.reduceAdd, Int32.reduceSub, Int32.reduceMul, Int32.reduceToNatClampNeg, not_false_eq_true, not_true_eq_false, false_implies, true_implies, Nat.zero_add, reduceIte, Nat.reduceMul, Nat.reduceEqDiff, nxa, nxc, lgn, nL_of, swx, Int.reduceAdd, gI_a, gI_k, gL_a, gL_k, gI_r, gL_r, nI_and, nI_or, nI_xor, nI_ndf, nI_shl, nI_shr, ne_eq, and_true, true_and, eq_self, true_or, or_true, false_or, or_false, Option.toList, List.cons_append, List.nil_append, List.length_nil, List.length_cons, Nat.not_lt_zero, bX1_leastDebt_0, kdx hst, grx hrt, hC 0 (by omega), o1, o2.1, o2.2.2.2.2]
  refine c_nextIn X _ _ L 0 C hst hrt hL (by omega) hC (by omega) _ ?_
  simp (disch := first | decide | omega) only [mxa, vxa, vxb, vxc, vnd, vne, Nat.reduceAdd, Nat.reduceSub, Nat.reduceLeDiff, Nat.reduceLT, Int32.reduceLT, Int32.reduceLE, Int32.reduceAdd, Int32.reduceSub, Int32.reduceMul, Int32.reduceToNatClampNeg, not_false_eq_true, not_true_eq_false, false_implies, true_implies, Nat.zero_add, reduceIte, Nat.reduceMul, Nat.reduceEqDiff, nxa, nxc, lgn, nL_of, swx, Int.reduceAdd, gI_a, gI_k, gL_a, gL_k, gI_r, gL_r, nI_and, nI_or, nI_xor, nI_ndf, nI_shl, nI_shr, ne_eq, and_true, true_and, eq_self, true_or, or_true, false_or, or_false, Option.toList, List.cons_append, List.nil_append, List.length_nil, List.length_cons, Nat.not_lt_zero, o2.2.2.1, o3]
  refine wfor (fun k => ∀ x, (∀ i, i < k + 1 → x ≤ dR V L C i) → (∃ i, i < k + 1 ∧ x = dR V L C i) → Wp X mX1_leastDebt (rmo (d + 1) 0 0) (d + 1) Q 0 0 23 [some (.ref 156), some (.ref 1), some (.int (nI x)), some (.int (nI (k + 1)))] [] σ) (L - 1) (fun k hk hP x h1 h2 => ?_) (fun x h1 h2 => ?_) _ (fun i hi => by rw [show i = 0 by omega]; exact Nat.le_refl _) ⟨0, by omega, rfl⟩
  · obtain ⟨q1, q2, q3, q4, q5, q6⟩ := ow (k + 1) (by omega)
    have xb : x < 1000000000 := by
      obtain ⟨i, i1, i2⟩ := h2
      have := (ow i (by omega)).2.2.2.2.2
      omega
    refine wp_blk kX1_leastDebt_23 ?_
    simp (disch := first | decide | omega) only [mxa, vxa, vxb, vxc, vnd, vne, Nat.reduceAdd, Nat.reduceSub, Nat.reduceLeDiff, Nat.reduceLT, Int32.reduceLT, Int32.reduceLE, Int32.reduceAdd, Int32.reduceSub, Int32.reduceMul, Int32.reduceToNatClampNeg, not_false_eq_true, not_true_eq_false, false_implies, true_implies, Nat.zero_add, reduceIte, Nat.reduceMul, Nat.reduceEqDiff, nxa, nxc, lgn, nL_of, swx, Int.reduceAdd, gI_a, gI_k, gL_a, gL_k, gI_r, gL_r, nI_and, nI_or, nI_xor, nI_ndf, nI_shl, nI_shr, ne_eq, and_true, true_and, eq_self, true_or, or_true, false_or, or_false, Option.toList, List.cons_append, List.nil_append, List.length_nil, List.length_cons, Nat.not_lt_zero, bX1_leastDebt_23, kdx hst, grx hrt, hL, hC (k + 1) (by omega), q1, q2.1, q2.2.2.2.2, show ¬ L ≤ k + 1 by omega]
    refine c_nextIn X _ _ L (k + 1) C hst hrt hL (by omega) hC (by omega) _ ?_
    simp (disch := first | decide | omega) only [mxa, vxa, vxb, vxc, vnd, vne, Nat.reduceAdd, Nat.reduceSub, Nat.reduceLeDiff, Nat.reduceLT, Int32.reduceLT, Int32.reduceLE, Int32.reduceAdd, Int32.reduceSub, Int32.reduceMul, Int32.reduceToNatClampNeg, not_false_eq_true, not_true_eq_false, false_implies, true_implies, Nat.zero_add, reduceIte, Nat.reduceMul, Nat.reduceEqDiff, nxa, nxc, lgn, nL_of, swx, Int.reduceAdd, gI_a, gI_k, gL_a, gL_k, gI_r, gL_r, nI_and, nI_or, nI_xor, nI_ndf, nI_shl, nI_shr, ne_eq, and_true, true_and, eq_self, true_or, or_true, false_or, or_false, Option.toList, List.cons_append, List.nil_append, List.length_nil, List.length_cons, Nat.not_lt_zero, q2.2.2.1, q3, imn_n]
    refine hP _ (fun i hi => ?_) ?_
    · by_cases e : i = k + 1
      · rw [e]; omega
      · have := h1 i (by omega); omega
    · by_cases z : x ≤ dR V L C (k + 1)
      · obtain ⟨i, i1, i2⟩ := h2
        exact ⟨i, by omega, by omega⟩
      · exact ⟨k + 1, by omega, by omega⟩
  · have : x = m := isMn_eq ⟨fun i hi => h1 i (by omega), by obtain ⟨i, i1, i2⟩ := h2; exact ⟨i, by omega, i2⟩⟩ hm
    subst this
    refine wp_blk kX1_leastDebt_23 ?_
    simp (disch := first | decide | omega) only [mxa, vxa, vxb, vxc, vnd, vne, Nat.reduceAdd, Nat.reduceSub, Nat.reduceLeDiff, Nat.reduceLT, Int32.reduceLT, Int32.reduceLE, Int32.reduceAdd, Int32.reduceSub, Int32.reduceMul, Int32.reduceToNatClampNeg, not_false_eq_true, not_true_eq_false, false_implies, true_implies, Nat.zero_add, reduceIte, Nat.reduceMul, Nat.reduceEqDiff, nxa, nxc, lgn, nL_of, swx, Int.reduceAdd, gI_a, gI_k, gL_a, gL_k, gI_r, gL_r, nI_and, nI_or, nI_xor, nI_ndf, nI_shl, nI_shr, ne_eq, and_true, true_and, eq_self, true_or, or_true, false_or, or_false, Option.toList, List.cons_append, List.nil_append, List.length_nil, List.length_cons, Nat.not_lt_zero, bX1_leastDebt_23, kdx hst, hL, show L ≤ L - 1 + 1 by omega]
    refine wp_blk kX1_leastDebt_62 ?_
    simp (disch := first | decide | omega) only [mxa, vxa, vxb, vxc, vnd, vne, Nat.reduceAdd, Nat.reduceSub, Nat.reduceLeDiff, Nat.reduceLT, Int32.reduceLT, Int32.reduceLE, Int32.reduceAdd, Int32.reduceSub, Int32.reduceMul, Int32.reduceToNatClampNeg, not_false_eq_true, not_true_eq_false, false_implies, true_implies, Nat.zero_add, reduceIte, Nat.reduceMul, Nat.reduceEqDiff, nxa, nxc, lgn, nL_of, swx, Int.reduceAdd, gI_a, gI_k, gL_a, gL_k, gI_r, gL_r, nI_and, nI_or, nI_xor, nI_ndf, nI_shl, nI_shr, ne_eq, and_true, true_and, eq_self, true_or, or_true, false_or, or_false, Option.toList, List.cons_append, List.nil_append, List.length_nil, List.length_cons, Nat.not_lt_zero, bX1_leastDebt_62]
    exact hQ
theorem c_takeOff (X : Cx) (d : Nat) (σ : Mm) (V : Nat → Int32) (t N O K L m : Nat) (C : Nat → Nat) (hs : St σ) (hG : Gd V t N O K) (ht : t ≤ 600) (hV : VR σ 1 V N O) (hL : gI σ 156 0 = nI L) (hC : ∀ i, i < L → gI σ 157 i = nI (C i)) (h : isRg V N L C) (hm : isMn (dR V L C) L m) (Q : Po) (hQ : ∀ σ' : Mm, Fr (fun c => 1 ≤ c ∧ c ≤ 33) σ σ' → VR σ' 1 (tkV V L C m L) N O → Q none σ') : Call X (d + 1) 0 0 mX1_takeOff [.ref 156, .ref 1, .int (nI m)] σ Q := by
  have hN10 := hG.1.2
  have hO3 := hG.2.1.2
  have hL2 := h.1
  have hLN := h.2.1
  refine call_of eX1_takeOff rfl ?_
  refine wp_blk kX1_takeOff_0 ?_
  simp (disch := first | decide | omega) only [mxa, vxa, vxb, vxc, vnd, vne, Nat.reduceAdd, Nat.reduceSub, Nat.reduceLeDiff, Nat.reduceLT, Int32.reduceLT, Int32.reduceLE, Int32.reduceAdd, Int32.reduceSub, Int32.reduceMul, Int32.reduceToNatClampNeg, not_false_eq_true, not_true_eq_false, false_implies, true_implies, Nat.zero_add, reduceIte, Nat.reduceMul, Nat.reduceEqDiff, nxa, nxc, lgn, nL_of, swx, Int.reduceAdd, gI_a, gI_k, gL_a, gL_k, gI_r, gL_r, nI_and, nI_or, nI_xor, nI_ndf, nI_shl, nI_shr, ne_eq, and_true, true_and, eq_self, true_or, or_true, false_or, or_false, Option.toList, List.cons_append, List.nil_append, List.length_nil, List.length_cons, Nat.not_lt_zero, bX1_takeOff_0]
  refine wfor (fun k => ∀ τ : Mm, Fr (fun c => 1 ≤ c ∧ c ≤ 33) σ τ → VR τ 1 (tkV V L C m k) N O → Wp X mX1_takeOff (rmo (d + 1) 0 0) (d + 1) Q 0 0 2 [some (.ref 156), some (.ref 1), some (.int (nI m)), some (.int (nI k))] [] τ) L (fun k hk hP τ hF hVk => ?_) (fun τ hF hVk => ?_) σ Fr.rf hV
  · have hsτ := hF.St hs
    have hst := hsτ.1
    have hrt := hsτ.2.1
    have hL' : gI τ 156 0 = nI L := (hF.2.2.1 156 (by omega) 0).trans hL
    have hC' : ∀ i, i < L → gI τ 157 i = nI (C i) := fun i hi => (hF.2.2.1 157 (by omega) i).trans (hC i hi)
    have c1 := h.2.2.1 k hk
    have c2 := h.2.2.1 _ (nxt_lt (L := L) (i := k) (by omega))
    obtain ⟨a1, a2, p, hp, ep⟩ := fa_ok hst hrt (Or.inl rfl) (hsτ.2.2 1 (Or.inl rfl)) (show C k < 10 by omega)
    have a1' : gR τ 2 (C k) = some (fa τ 1 (C k)) := a1
    obtain ⟨b1, b2, -⟩ := db_ok (f := C k) (g := C (nxt L k)) hG ht (by omega) (by omega)
    have ow : gI τ (fa τ 1 (C k) + 2) (C (nxt L k)) = nI (dR V L C k) := (((hVk.2.2 _ c1).2.2.2 _ (by omega)).trans (tkV_own hN10 h hk)).trans b1
    have ml : m ≤ dR V L C k := hm.1 k hk
    refine wp_blk kX1_takeOff_2 ?_
    simp (disch := first | decide | omega) only [mxa, vxa, vxb, vxc, vnd, vne, Nat.reduceAdd, Nat.reduceSub, Nat.reduceLeDiff, Nat.reduceLT, Int32.reduceLT, Int32.reduceLE, Int32.reduceAdd, Int32.reduceSub, Int32.reduceMul, Int32.reduceToNatClampNeg, not_false_eq_true, not_true_eq_false, false_implies, true_implies, Nat.zero_add, reduceIte, Nat.reduceMul, Nat.reduceEqDiff, nxa, nxc, lgn, nL_of, swx, Int.reduceAdd, gI_a, gI_k, gL_a, gL_k, gI_r, gL_r, nI_and, nI_or, nI_xor, nI_ndf, nI_shl, nI_shr, ne_eq, and_true, true_and, eq_self, true_or, or_true, false_or, or_false, Option.toList, List.cons_append, List.nil_append, List.length_nil, List.length_cons, Nat.not_lt_zero, bX1_takeOff_2, kdx hst, grx hrt, hL', hC' k hk, a1', a2.1, a2.2.2.2.2, show ¬ L ≤ k by omega]
    refine c_nextIn X _ _ L k C hst hrt hL' (by omega) hC' hk _ ?_
    simp (disch := first | decide | omega) only [mxa, vxa, vxb, vxc, vnd, vne, Nat.reduceAdd, Nat.reduceSub, Nat.reduceLeDiff, Nat.reduceLT, Int32.reduceLT, Int32.reduceLE, Int32.reduceAdd, Int32.reduceSub, Int32.reduceMul, Int32.reduceToNatClampNeg, not_false_eq_true, not_true_eq_false, false_implies, true_implies, Nat.zero_add, reduceIte, Nat.reduceMul, Nat.reduceEqDiff, nxa, nxc, lgn, nL_of, swx, Int.reduceAdd, gI_a, gI_k, gL_a, gL_k, gI_r, gL_r, nI_and, nI_or, nI_xor, nI_ndf, nI_shl, nI_shr, ne_eq, and_true, true_and, eq_self, true_or, or_true, false_or, or_false, Option.toList, List.cons_append, List.nil_append, List.length_nil, List.length_cons, Nat.not_lt_zero, a2.2.2.1, ow]
    exact hP _ (hF.tr (Fr.sI (by omega))) (hVk.owe hsτ (Or.inl rfl) hN10 hO3 (by omega) c1)
  · have hst := (hF.St hs).1
    have hL' : gI τ 156 0 = nI L := (hF.2.2.1 156 (by omega) 0).trans hL
    refine wp_blk kX1_takeOff_2 ?_
    simp (disch := first | decide | omega) only [mxa, vxa, vxb, vxc, vnd, vne, Nat.reduceAdd, Nat.reduceSub, Nat.reduceLeDiff, Nat.reduceLT, Int32.reduceLT, Int32.reduceLE, Int32.reduceAdd, Int32.reduceSub, Int32.reduceMul, Int32.reduceToNatClampNeg, not_false_eq_true, not_true_eq_false, false_implies, true_implies, Nat.zero_add, reduceIte, Nat.reduceMul, Nat.reduceEqDiff, nxa, nxc, lgn, nL_of, swx, Int.reduceAdd, gI_a, gI_k, gL_a, gL_k, gI_r, gL_r, nI_and, nI_or, nI_xor, nI_ndf, nI_shl, nI_shr, ne_eq, and_true, true_and, eq_self, true_or, or_true, false_or, or_false, Option.toList, List.cons_append, List.nil_append, List.length_nil, List.length_cons, Nat.not_lt_zero, bX1_takeOff_2, kdx hst, hL', Nat.le_refl]
    refine wp_blk kX1_takeOff_40 ?_
    simp (disch := first | decide | omega) only [mxa, vxa, vxb, vxc, vnd, vne, Nat.reduceAdd, Nat.reduceSub, Nat.reduceLeDiff, Nat.reduceLT, Int32.reduceLT, Int32.reduceLE, Int32.reduceAdd, Int32.reduceSub, Int32.reduceMul, Int32.reduceToNatClampNeg, not_false_eq_true, not_true_eq_false, false_implies, true_implies, Nat.zero_add, reduceIte, Nat.reduceMul, Nat.reduceEqDiff, nxa, nxc, lgn, nL_of, swx, Int.reduceAdd, gI_a, gI_k, gL_a, gL_k, gI_r, gL_r, nI_and, nI_or, nI_xor, nI_ndf, nI_shl, nI_shr, ne_eq, and_true, true_and, eq_self, true_or, or_true, false_or, or_false, Option.toList, List.cons_append, List.nil_append, List.length_nil, List.length_cons, Nat.not_lt_zero, bX1_takeOff_40]
    exact hQ τ hF hVk
theorem c_clearRings (X : Cx) (d : Nat) (σ : Mm) (V : Nat → Int32) (t N O K e : Nat) (hs : St σ) (hG : Gd V t N O K) (ht : t ≤ 600) (hV : VR σ 1 V N O) (he : e ≤ 100) (h1 : ∀ j, j < e → hasR (itV V N j) N) (h2 : ¬ hasR (itV V N e) N) (Q : Po) (hQ : ∀ σ' : Mm, Fr (fun c => (1 ≤ c ∧ c ≤ 33) ∨ (156 ≤ c ∧ c ≤ 159)) σ σ' → VR σ' 1 (itV V N e) N O → Q (some (.int (nI e))) σ') : Call X (d + 3) 0 0 mX1_clearRings [.ref 156, .ref 1] σ Q := by
  have hN10 := hG.1.2
  refine call_of eX1_clearRings rfl ?_
  refine wp_blk kX1_clearRings_0 ?_
  simp (disch := first | decide | omega) only [mxa, vxa, vxb, vxc, vnd, vne, Nat.reduceAdd, Nat.reduceSub, Nat.reduceLeDiff, Nat.reduceLT, Int32.reduceLT, Int32.reduceLE, Int32.reduceAdd, Int32.reduceSub, Int32.reduceMul, Int32.reduceToNatClampNeg, not_false_eq_true, not_true_eq_false, false_implies, true_implies, Nat.zero_add, reduceIte, Nat.reduceMul, Nat.reduceEqDiff, nxa, nxc, lgn, nL_of, swx, Int.reduceAdd, gI_a, gI_k, gL_a, gL_k, gI_r, gL_r, nI_and, nI_or, nI_xor, nI_ndf, nI_shl, nI_shr, ne_eq, and_true, true_and, eq_self, true_or, or_true, false_or, or_false, Option.toList, List.cons_append, List.nil_append, List.length_nil, List.length_cons, Nat.not_lt_zero, bX1_clearRings_0]
  refine wfor (fun k => ∀ τ : Mm, Fr (fun c => (1 ≤ c ∧ c ≤ 33) ∨ (156 ≤ c ∧ c ≤ 159)) σ τ → VR τ 1 (itV V N k) N O → Wp X mX1_clearRings (rmo (d + 3) 0 0) (d + 3) Q 0 0 4 [some (.ref 156), some (.ref 1), some (.int (nI k)), some (.int (nI k))] [] τ) e (fun k hk hP τ hF hVk => ?_) (fun τ hF hVk => ?_) σ Fr.rf hV
  · have hsτ := hF.St hs
    have hGk := (itV_ok hG ht k (fun j hj => h1 j (by omega))).1
    refine wp_blk kX1_clearRings_4 ?_
    simp (disch := first | decide | omega) only [mxa, vxa, vxb, vxc, vnd, vne, Nat.reduceAdd, Nat.reduceSub, Nat.reduceLeDiff, Nat.reduceLT, Int32.reduceLT, Int32.reduceLE, Int32.reduceAdd, Int32.reduceSub, Int32.reduceMul, Int32.reduceToNatClampNeg, not_false_eq_true, not_true_eq_false, false_implies, true_implies, Nat.zero_add, reduceIte, Nat.reduceMul, Nat.reduceEqDiff, nxa, nxc, lgn, nL_of, swx, Int.reduceAdd, gI_a, gI_k, gL_a, gL_k, gI_r, gL_r, nI_and, nI_or, nI_xor, nI_ndf, nI_shl, nI_shr, ne_eq, and_true, true_and, eq_self, true_or, or_true, false_or, or_false, Option.toList, List.cons_append, List.nil_append, List.length_nil, List.length_cons, Nat.not_lt_zero, bX1_clearRings_4, kdx hsτ.1, show ¬ 100 ≤ k by omega]
    refine c_findRing X _ τ (itV V N k) t N O K hsτ hGk ht hVk _ (fun hn => ?_) (fun a ha hy hb σ1 F1 k1 k2 => ?_)
    · obtain ⟨a, ha, hy⟩ := h1 k hk
      exact absurd hy (hn a ha)
    · have s1 := F1.St hsτ
      have rg := chR_rg hGk ht ha hy
      obtain ⟨m, hm⟩ := isMn_ex (dR (itV V N k) (rgA (Eb (itV V N k)) N a + 1) (chR (Eb (itV V N k)) N a (rgA (Eb (itV V N k)) N a + 1))) (rgA (Eb (itV V N k)) N a + 1) (by omega)
      have V1 : VR σ1 1 (itV V N k) N O := hVk.keep hN10 hsτ (Or.inl rfl) F1.gR (fun a q1 q2 => F1.2.2.1 a (by omega))
      simp (disch := first | decide | omega) only [mxa, vxa, vxb, vxc, vnd, vne, Nat.reduceAdd, Nat.reduceSub, Nat.reduceLeDiff, Nat.reduceLT, Int32.reduceLT, Int32.reduceLE, Int32.reduceAdd, Int32.reduceSub, Int32.reduceMul, Int32.reduceToNatClampNeg, not_false_eq_true, not_true_eq_false, false_implies, true_implies, Nat.zero_add, reduceIte, Nat.reduceMul, Nat.reduceEqDiff, nxa, nxc, lgn, nL_of, swx, Int.reduceAdd, gI_a, gI_k, gL_a, gL_k, gI_r, gL_r, nI_and, nI_or, nI_xor, nI_ndf, nI_shl, nI_shr, ne_eq, and_true, true_and, eq_self, true_or, or_true, false_or, or_false, Option.toList, List.cons_append, List.nil_append, List.length_nil, List.length_cons, Nat.not_lt_zero, kdx s1.1, k1, show ¬ rgA (Eb (itV V N k)) N a + 1 = 0 by omega]
      refine wp_blk kX1_clearRings_25 ?_
      simp (disch := first | decide | omega) only [mxa, vxa, vxb, vxc, vnd, vne, Nat.reduceAdd, Nat.reduceSub, Nat.reduceLeDiff, Nat.reduceLT, Int32.reduceLT, Int32.reduceLE, Int32.reduceAdd, Int32.reduceSub, Int32.reduceMul, Int32.reduceToNatClampNeg, not_false_eq_true, not_true_eq_false, false_implies, true_implies, Nat.zero_add, reduceIte, Nat.reduceMul, Nat.reduceEqDiff, nxa, nxc, lgn, nL_of, swx, Int.reduceAdd, gI_a, gI_k, gL_a, gL_k, gI_r, gL_r, nI_and, nI_or, nI_xor, nI_ndf, nI_shl, nI_shr, ne_eq, and_true, true_and, eq_self, true_or, or_true, false_or, or_false, Option.toList, List.cons_append, List.nil_append, List.length_nil, List.length_cons, Nat.not_lt_zero, bX1_clearRings_25, kdx s1.1]
      refine c_leastDebt X _ σ1 (itV V N k) t N O K _ m _ s1 hGk ht V1 k1 k2 rg hm _ ?_
      simp (disch := first | decide | omega) only [mxa, vxa, vxb, vxc, vnd, vne, Nat.reduceAdd, Nat.reduceSub, Nat.reduceLeDiff, Nat.reduceLT, Int32.reduceLT, Int32.reduceLE, Int32.reduceAdd, Int32.reduceSub, Int32.reduceMul, Int32.reduceToNatClampNeg, not_false_eq_true, not_true_eq_false, false_implies, true_implies, Nat.zero_add, reduceIte, Nat.reduceMul, Nat.reduceEqDiff, nxa, nxc, lgn, nL_of, swx, Int.reduceAdd, gI_a, gI_k, gL_a, gL_k, gI_r, gL_r, nI_and, nI_or, nI_xor, nI_ndf, nI_shl, nI_shr, ne_eq, and_true, true_and, eq_self, true_or, or_true, false_or, or_false, Option.toList, List.cons_append, List.nil_append, List.length_nil, List.length_cons, Nat.not_lt_zero, kdx s1.1]
      refine c_takeOff X _ σ1 (itV V N k) t N O K _ m _ s1 hGk ht V1 k1 k2 rg hm _ (fun σ2 F2 V2 => ?_)
      simp (disch := first | decide | omega) only [mxa, vxa, vxb, vxc, vnd, vne, Nat.reduceAdd, Nat.reduceSub, Nat.reduceLeDiff, Nat.reduceLT, Int32.reduceLT, Int32.reduceLE, Int32.reduceAdd, Int32.reduceSub, Int32.reduceMul, Int32.reduceToNatClampNeg, not_false_eq_true, not_true_eq_false, false_implies, true_implies, Nat.zero_add, reduceIte, Nat.reduceMul, Nat.reduceEqDiff, nxa, nxc, lgn, nL_of, swx, Int.reduceAdd, gI_a, gI_k, gL_a, gL_k, gI_r, gL_r, nI_and, nI_or, nI_xor, nI_ndf, nI_shl, nI_shr, ne_eq, and_true, true_and, eq_self, true_or, or_true, false_or, or_false, Option.toList, List.cons_append, List.nil_append, List.length_nil, List.length_cons, Nat.not_lt_zero]
      refine hP σ2 (hF.tr ((F1.mono (fun c q => by omega)).tr (F2.mono (fun c q => by omega)))) ?_
      show VR σ2 1 (rsV (itV V N k) N) N O
      rw [rsV_eq ha hy hb hm]
      exact V2
  · have hsτ := hF.St hs
    have hGk := (itV_ok hG ht e h1).1
    have done : ∀ σ1 : Mm, Fr (fun c => (1 ≤ c ∧ c ≤ 33) ∨ (156 ≤ c ∧ c ≤ 159)) σ σ1 → VR σ1 1 (itV V N e) N O → Wp X mX1_clearRings (rmo (d + 3) 0 0) (d + 3) Q 0 0 44 [some (.ref 156), some (.ref 1), some (.int (nI e)), some (.int (nI e))] [] σ1 := by
      intro σ1 F1 V1
      refine wp_blk kX1_clearRings_44 ?_
      simp (disch := first | decide | omega) only [mxa, vxa, vxb, vxc, vnd, vne, Nat.reduceAdd, Nat.reduceSub, Nat.reduceLeDiff, Nat.reduceLT, Int32.reduceLT, Int32.reduceLE, Int32.reduceAdd, Int32.reduceSub, Int32.reduceMul, Int32.reduceToNatClampNeg, not_false_eq_true, not_true_eq_false, false_implies, true_implies, Nat.zero_add, reduceIte, Nat.reduceMul, Nat.reduceEqDiff, nxa, nxc, lgn, nL_of, swx, Int.reduceAdd, gI_a, gI_k, gL_a, gL_k, gI_r, gL_r, nI_and, nI_or, nI_xor, nI_ndf, nI_shl, nI_shr, ne_eq, and_true, true_and, eq_self, true_or, or_true, false_or, or_false, Option.toList, List.cons_append, List.nil_append, List.length_nil, List.length_cons, Nat.not_lt_zero, bX1_clearRings_44]
      exact hQ σ1 F1 V1
    by_cases h100 : 100 ≤ e
    · refine wp_blk kX1_clearRings_4 ?_
      simp (disch := first | decide | omega) only [mxa, vxa, vxb, vxc, vnd, vne, Nat.reduceAdd, Nat.reduceSub, Nat.reduceLeDiff, Nat.reduceLT, Int32.reduceLT, Int32.reduceLE, Int32.reduceAdd, Int32.reduceSub, Int32.reduceMul, Int32.reduceToNatClampNeg, not_false_eq_true, not_true_eq_false, false_implies, true_implies, Nat.zero_add, reduceIte, Nat.reduceMul, Nat.reduceEqDiff, nxa, nxc, lgn, nL_of, swx, Int.reduceAdd, gI_a, gI_k, gL_a, gL_k, gI_r, gL_r, nI_and, nI_or, nI_xor, nI_ndf, nI_shl, nI_shr, ne_eq, and_true, true_and, eq_self, true_or, or_true, false_or, or_false, Option.toList, List.cons_append, List.nil_append, List.length_nil, List.length_cons, Nat.not_lt_zero, bX1_clearRings_4, h100]
      exact done τ hF hVk
    · refine wp_blk kX1_clearRings_4 ?_
      simp (disch := first | decide | omega) only [mxa, vxa, vxb, vxc, vnd, vne, Nat.reduceAdd, Nat.reduceSub, Nat.reduceLeDiff, Nat.reduceLT, Int32.reduceLT, Int32.reduceLE, Int32.reduceAdd, Int32.reduceSub, Int32.reduceMul, Int32.reduceToNatClampNeg, not_false_eq_true, not_true_eq_false, false_implies, true_implies, Nat.zero_add, reduceIte, Nat.reduceMul, Nat.reduceEqDiff, nxa, nxc, lgn, nL_of, swx, Int.reduceAdd, gI_a, gI_k, gL_a, gL_k, gI_r, gL_r, nI_and, nI_or, nI_xor, nI_ndf, nI_shl, nI_shr, ne_eq, and_true, true_and, eq_self, true_or, or_true, false_or, or_false, Option.toList, List.cons_append, List.nil_append, List.length_nil, List.length_cons, Nat.not_lt_zero, bX1_clearRings_4, kdx hsτ.1, h100]
      refine c_findRing X _ τ (itV V N e) t N O K hsτ hGk ht hVk _ (fun hn σ1 F1 k1 => ?_) (fun a ha hy => absurd ⟨a, ha, hy⟩ h2)
      have s1 := F1.St hsτ
      simp (disch := first | decide | omega) only [mxa, vxa, vxb, vxc, vnd, vne, Nat.reduceAdd, Nat.reduceSub, Nat.reduceLeDiff, Nat.reduceLT, Int32.reduceLT, Int32.reduceLE, Int32.reduceAdd, Int32.reduceSub, Int32.reduceMul, Int32.reduceToNatClampNeg, not_false_eq_true, not_true_eq_false, false_implies, true_implies, Nat.zero_add, reduceIte, Nat.reduceMul, Nat.reduceEqDiff, nxa, nxc, lgn, nL_of, swx, Int.reduceAdd, gI_a, gI_k, gL_a, gL_k, gI_r, gL_r, nI_and, nI_or, nI_xor, nI_ndf, nI_shl, nI_shr, ne_eq, and_true, true_and, eq_self, true_or, or_true, false_or, or_false, Option.toList, List.cons_append, List.nil_append, List.length_nil, List.length_cons, Nat.not_lt_zero, kdx s1.1, k1]
      exact done σ1 (hF.tr (F1.mono (fun c q => by omega))) (hVk.keep hN10 hsτ (Or.inl rfl) F1.gR (fun a q1 q2 => F1.2.2.1 a (by omega)))
/-! the model -/
theorem pr_clear (X : Cx) (d t : Nat) (σ : Mm) (hI : Inv t σ) (ht : t < 512) : Call X (d + 9) 0 0 mX9_clear [.ref 0] σ (Eq2 (t + 1) X (d + 9) mX10_clear [.ref 190]) := by
  obtain ⟨N, O, K, hG, hV⟩ := hI.2.2.2.1
  have hs := hI.2.1.1
  have hr := hI.2.1.2.1
  have hN := hG.1.1
  have hN10 := hG.1.2
  have hO := hG.2.1.1
  have hO3 := hG.2.1.2
  have e0 : gI σ 1 0 = nI N := hV.1.1.trans hN
  have e1 : gI σ 1 1 = nI O := hV.1.2.1.trans hO
  obtain ⟨e, he, h1, h2⟩ := it_stop hG (show t ≤ 600 by omega)
  refine call_of eX9_clear rfl ?_
  refine wp_blk kX9_clear_0 ?_
  simp (disch := first | decide | omega) only [mxa, vxa, vxb, vxc, vnd, vne, Nat.reduceAdd, Nat.reduceSub, Nat.reduceLeDiff, Nat.reduceLT, Int32.reduceLT, Int32.reduceLE, Int32.reduceAdd, Int32.reduceSub, Int32.reduceMul, Int32.reduceToNatClampNeg, not_false_eq_true, not_true_eq_false, false_implies, true_implies, Nat.zero_add, reduceIte, Nat.reduceMul, Nat.reduceEqDiff, nxa, nxc, lgn, nL_of, swx, Int.reduceAdd, gI_a, gI_k, gL_a, gL_k, gI_r, gL_r, nI_and, nI_or, nI_xor, nI_ndf, nI_shl, nI_shr, ne_eq, and_true, true_and, eq_self, true_or, or_true, false_or, or_false, Option.toList, List.cons_append, List.nil_append, List.length_nil, List.length_cons, Nat.not_lt_zero, bX9_clear_0, kdx hs, grx hr]
  refine c_clearRings X _ σ (gI σ 191) t N O K e hI.2.1 hG (by omega) hV he h1 h2 _ (fun σ1 F1 V1 => ?_)
  simp (disch := first | decide | omega) only [mxa, vxa, vxb, vxc, vnd, vne, Nat.reduceAdd, Nat.reduceSub, Nat.reduceLeDiff, Nat.reduceLT, Int32.reduceLT, Int32.reduceLE, Int32.reduceAdd, Int32.reduceSub, Int32.reduceMul, Int32.reduceToNatClampNeg, not_false_eq_true, not_true_eq_false, false_implies, true_implies, Nat.zero_add, reduceIte, Nat.reduceMul, Nat.reduceEqDiff, nxa, nxc, lgn, nL_of, swx, Int.reduceAdd, gI_a, gI_k, gL_a, gL_k, gI_r, gL_r, nI_and, nI_or, nI_xor, nI_ndf, nI_shl, nI_shr, ne_eq, and_true, true_and, eq_self, true_or, or_true, false_or, or_false, Option.toList, List.cons_append, List.nil_append, List.length_nil, List.length_cons, Nat.not_lt_zero]
  have s1 := (F1.St hI.2.1).1
  have r1 := (F1.St hI.2.1).2.1
  have e192 : ∀ k, gI σ1 191 k = gI σ 191 k := F1.2.2.1 191 (by omega)
  unfold Eq2
  refine call_of eX10_clear rfl ?_
  refine wp_blk kX10_clear_0 ?_
  simp (disch := first | decide | omega) only [mxa, vxa, vxb, vxc, vnd, vne, Nat.reduceAdd, Nat.reduceSub, Nat.reduceLeDiff, Nat.reduceLT, Int32.reduceLT, Int32.reduceLE, Int32.reduceAdd, Int32.reduceSub, Int32.reduceMul, Int32.reduceToNatClampNeg, not_false_eq_true, not_true_eq_false, false_implies, true_implies, Nat.zero_add, reduceIte, Nat.reduceMul, Nat.reduceEqDiff, nxa, nxc, lgn, nL_of, swx, Int.reduceAdd, gI_a, gI_k, gL_a, gL_k, gI_r, gL_r, nI_and, nI_or, nI_xor, nI_ndf, nI_shl, nI_shr, ne_eq, and_true, true_and, eq_self, true_or, or_true, false_or, or_false, Option.toList, List.cons_append, List.nil_append, List.length_nil, List.length_cons, Nat.not_lt_zero, bX10_clear_0, kdx s1]
  have it := fun n hn => itV_ok hG (show t ≤ 600 by omega) n hn
  have go := wfor (fun k => ∀ τ : Mm, Fr (fun c => c = 190 ∨ c = 191 ∨ c = 206 ∨ c = 207) σ1 τ → (∀ j, j ≠ 0 → j ≠ 32 → gI τ 190 j = gI σ1 190 j) → gI τ 191 = itV (gI σ 191) N k → Wp X mX10_clear (rmo (d + 9) 0 0) (d + 9) (fun r' σ2 => (∃ z : Int32, some (Value.int (nI e)) = some (.int z) ∧ r' = some (.int z)) ∧ Inv (t + 1) σ2) 0 0 7 [some (.ref 190), some (.int (nI k)), none, none] [] τ) e (fun k hk hP τ hF h191 hVk => by
    have hst : Sh τ := hF.1.trans s1
    have hrt : Rf τ := fun a k q1 q2 q3 q4 => (hF.gR a k).trans (r1 a k q1 q2 q3 q4)
    have hGk := (it k (fun j hj => h1 j (by omega))).1
    refine wp_blk kX10_clear_7 ?_
    simp (disch := first | decide | omega) only [mxa, vxa, vxb, vxc, vnd, vne, Nat.reduceAdd, Nat.reduceSub, Nat.reduceLeDiff, Nat.reduceLT, Int32.reduceLT, Int32.reduceLE, Int32.reduceAdd, Int32.reduceSub, Int32.reduceMul, Int32.reduceToNatClampNeg, not_false_eq_true, not_true_eq_false, false_implies, true_implies, Nat.zero_add, reduceIte, Nat.reduceMul, Nat.reduceEqDiff, nxa, nxc, lgn, nL_of, swx, Int.reduceAdd, gI_a, gI_k, gL_a, gL_k, gI_r, gL_r, nI_and, nI_or, nI_xor, nI_ndf, nI_shl, nI_shr, ne_eq, and_true, true_and, eq_self, true_or, or_true, false_or, or_false, Option.toList, List.cons_append, List.nil_append, List.length_nil, List.length_cons, Nat.not_lt_zero, bX10_clear_7, kdx hst]
    refine c_laysRing X _ τ (itV (gI σ 191) N k) t N O K hst hrt hGk (by omega) hVk _ (fun hn => ?_) (fun a ha hy hb σ2 F2 g1 g2 g3 => ?_)
    · obtain ⟨a, ha, hy⟩ := h1 k hk
      exact absurd hy (hn a ha)
    · have s2 : Sh σ2 := F2.1.trans hst
      have r2 : Rf σ2 := fun a k q1 q2 q3 q4 => (F2.gR a k).trans (hrt a k q1 q2 q3 q4)
      have V2 : gI σ2 191 = itV (gI σ 191) N k := (funext fun j => F2.2.2.1 191 (by omega) j).trans hVk
      have rg := chR_rg hGk (show t ≤ 600 by omega) ha hy
      have rq := fun m hm => rsV_eq (m := m) ha hy hb hm
      have hL2 := rg.1
      have hLN := rg.2.1
      generalize rgA (Eb (itV (gI σ 191) N k)) N a + 1 = L at *
      generalize chR (Eb (itV (gI σ 191) N k)) N a L = C at *
      generalize hVV : itV (gI σ 191) N k = V at *
      obtain ⟨m, hm⟩ := isMn_ex (dR V L C) L (by omega)
      have dv : ∀ i, i < L → gI σ2 191 (219 + 10 * C i + C (nxt L i)) = nI (dR V L C i) ∧ C i < 10 ∧ C (nxt L i) < 10 ∧ dR V L C i < 1000000000 := fun i hi => by
        have c1 := rg.2.2.1 i hi
        have c2 := rg.2.2.1 _ (nxt_lt (L := L) (i := i) (by omega))
        obtain ⟨b1, b2, -⟩ := db_ok (f := C i) (g := C (nxt L i)) hGk (show t ≤ 600 by omega) (by omega) (by omega)
        exact ⟨by rw [V2]; exact b1, by omega, by omega, b2⟩
      obtain ⟨l1, l2, l3, l4⟩ := dv (L - 1) (by omega)
      rw [show nxt L (L - 1) = 0 from if_neg (by omega)] at l1 l3
      simp (disch := first | decide | omega) only [mxa, vxa, vxb, vxc, vnd, vne, Nat.reduceAdd, Nat.reduceSub, Nat.reduceLeDiff, Nat.reduceLT, Int32.reduceLT, Int32.reduceLE, Int32.reduceAdd, Int32.reduceSub, Int32.reduceMul, Int32.reduceToNatClampNeg, not_false_eq_true, not_true_eq_false, false_implies, true_implies, Nat.zero_add, reduceIte, Nat.reduceMul, Nat.reduceEqDiff, nxa, nxc, lgn, nL_of, swx, Int.reduceAdd, gI_a, gI_k, gL_a, gL_k, gI_r, gL_r, nI_and, nI_or, nI_xor, nI_ndf, nI_shl, nI_shr, ne_eq, and_true, true_and, eq_self, true_or, or_true, false_or, or_false, Option.toList, List.cons_append, List.nil_append, List.length_nil, List.length_cons, Nat.not_lt_zero, kdx s2, grx r2, g1, g3 (L - 1) (by omega), g3 0 (by omega)]
      refine c_debt X _ _ _ _ s2 r2 l2 l3 _ ?_
      rw [l1]
      simp (disch := first | decide | omega) only [mxa, vxa, vxb, vxc, vnd, vne, Nat.reduceAdd, Nat.reduceSub, Nat.reduceLeDiff, Nat.reduceLT, Int32.reduceLT, Int32.reduceLE, Int32.reduceAdd, Int32.reduceSub, Int32.reduceMul, Int32.reduceToNatClampNeg, not_false_eq_true, not_true_eq_false, false_implies, true_implies, Nat.zero_add, reduceIte, Nat.reduceMul, Nat.reduceEqDiff, nxa, nxc, lgn, nL_of, swx, Int.reduceAdd, gI_a, gI_k, gL_a, gL_k, gI_r, gL_r, nI_and, nI_or, nI_xor, nI_ndf, nI_shl, nI_shr, ne_eq, and_true, true_and, eq_self, true_or, or_true, false_or, or_false, Option.toList, List.cons_append, List.nil_append, List.length_nil, List.length_cons, Nat.not_lt_zero]
      refine wfor (fun k' => ∀ x, x ≤ dR V L C (L - 1) → (∀ i, i < k' → x ≤ dR V L C i) → (∃ i, i < L ∧ x = dR V L C i) → Wp X mX10_clear (rmo (d + 9) 0 0) (d + 9) (fun r' σ2 => (∃ z : Int32, some (Value.int (nI e)) = some (.int z) ∧ r' = some (.int z)) ∧ Inv (t + 1) σ2) 0 0 38 [some (.ref 190), some (.int (nI k)), some (.int (nI x)), some (.int (nI (k' + 1)))] [] σ2) (L - 1) (fun k' hk' hP2 x x1 x2 x3 => ?_) (fun x x1 x2 x3 => ?_) _ (Nat.le_refl _) (fun i hi => absurd hi (by omega)) ⟨L - 1, by omega, rfl⟩
      · obtain ⟨q1, q2, q3, q4⟩ := dv k' (by omega)
        rw [show nxt L k' = k' + 1 from if_pos (by omega)] at q1 q3
        have xb : x < 1000000000 := by omega
        refine wp_blk kX10_clear_38 ?_
        simp (disch := first | decide | omega) only [mxa, vxa, vxb, vxc, vnd, vne, Nat.reduceAdd, Nat.reduceSub, Nat.reduceLeDiff, Nat.reduceLT, Int32.reduceLT, Int32.reduceLE, Int32.reduceAdd, Int32.reduceSub, Int32.reduceMul, Int32.reduceToNatClampNeg, not_false_eq_true, not_true_eq_false, false_implies, true_implies, Nat.zero_add, reduceIte, Nat.reduceMul, Nat.reduceEqDiff, nxa, nxc, lgn, nL_of, swx, Int.reduceAdd, gI_a, gI_k, gL_a, gL_k, gI_r, gL_r, nI_and, nI_or, nI_xor, nI_ndf, nI_shl, nI_shr, ne_eq, and_true, true_and, eq_self, true_or, or_true, false_or, or_false, Option.toList, List.cons_append, List.nil_append, List.length_nil, List.length_cons, Nat.not_lt_zero, bX10_clear_38, kdx s2, grx r2, g1, g3 k' (by omega), g3 (k' + 1) (by omega), Nat.add_sub_cancel, show ¬ L ≤ k' + 1 by omega]
        refine c_debt X _ _ _ _ s2 r2 q2 q3 _ ?_
        rw [q1]
        by_cases hc : x ≤ dR V L C k'
        · simp (disch := first | decide | omega) only [mxa, vxa, vxb, vxc, vnd, vne, Nat.reduceAdd, Nat.reduceSub, Nat.reduceLeDiff, Nat.reduceLT, Int32.reduceLT, Int32.reduceLE, Int32.reduceAdd, Int32.reduceSub, Int32.reduceMul, Int32.reduceToNatClampNeg, not_false_eq_true, not_true_eq_false, false_implies, true_implies, Nat.zero_add, reduceIte, Nat.reduceMul, Nat.reduceEqDiff, nxa, nxc, lgn, nL_of, swx, Int.reduceAdd, gI_a, gI_k, gL_a, gL_k, gI_r, gL_r, nI_and, nI_or, nI_xor, nI_ndf, nI_shl, nI_shr, ne_eq, and_true, true_and, eq_self, true_or, or_true, false_or, or_false, Option.toList, List.cons_append, List.nil_append, List.length_nil, List.length_cons, Nat.not_lt_zero, hc]
          refine wp_blk kX10_clear_89 ?_
          simp (disch := first | decide | omega) only [mxa, vxa, vxb, vxc, vnd, vne, Nat.reduceAdd, Nat.reduceSub, Nat.reduceLeDiff, Nat.reduceLT, Int32.reduceLT, Int32.reduceLE, Int32.reduceAdd, Int32.reduceSub, Int32.reduceMul, Int32.reduceToNatClampNeg, not_false_eq_true, not_true_eq_false, false_implies, true_implies, Nat.zero_add, reduceIte, Nat.reduceMul, Nat.reduceEqDiff, nxa, nxc, lgn, nL_of, swx, Int.reduceAdd, gI_a, gI_k, gL_a, gL_k, gI_r, gL_r, nI_and, nI_or, nI_xor, nI_ndf, nI_shl, nI_shr, ne_eq, and_true, true_and, eq_self, true_or, or_true, false_or, or_false, Option.toList, List.cons_append, List.nil_append, List.length_nil, List.length_cons, Nat.not_lt_zero, bX10_clear_89]
          refine wp_blk kX10_clear_90 ?_
          simp (disch := first | decide | omega) only [mxa, vxa, vxb, vxc, vnd, vne, Nat.reduceAdd, Nat.reduceSub, Nat.reduceLeDiff, Nat.reduceLT, Int32.reduceLT, Int32.reduceLE, Int32.reduceAdd, Int32.reduceSub, Int32.reduceMul, Int32.reduceToNatClampNeg, not_false_eq_true, not_true_eq_false, false_implies, true_implies, Nat.zero_add, reduceIte, Nat.reduceMul, Nat.reduceEqDiff, nxa, nxc, lgn, nL_of, swx, Int.reduceAdd, gI_a, gI_k, gL_a, gL_k, gI_r, gL_r, nI_and, nI_or, nI_xor, nI_ndf, nI_shl, nI_shr, ne_eq, and_true, true_and, eq_self, true_or, or_true, false_or, or_false, Option.toList, List.cons_append, List.nil_append, List.length_nil, List.length_cons, Nat.not_lt_zero, bX10_clear_90]
          refine hP2 x x1 (fun i hi => ?_) x3
          by_cases z : i = k'
          · rw [z]; exact hc
          · exact x2 i (by omega)
        · simp (disch := first | decide | omega) only [mxa, vxa, vxb, vxc, vnd, vne, Nat.reduceAdd, Nat.reduceSub, Nat.reduceLeDiff, Nat.reduceLT, Int32.reduceLT, Int32.reduceLE, Int32.reduceAdd, Int32.reduceSub, Int32.reduceMul, Int32.reduceToNatClampNeg, not_false_eq_true, not_true_eq_false, false_implies, true_implies, Nat.zero_add, reduceIte, Nat.reduceMul, Nat.reduceEqDiff, nxa, nxc, lgn, nL_of, swx, Int.reduceAdd, gI_a, gI_k, gL_a, gL_k, gI_r, gL_r, nI_and, nI_or, nI_xor, nI_ndf, nI_shl, nI_shr, ne_eq, and_true, true_and, eq_self, true_or, or_true, false_or, or_false, Option.toList, List.cons_append, List.nil_append, List.length_nil, List.length_cons, Nat.not_lt_zero, kdx s2, grx r2, hc, g3 k' (by omega), g3 (k' + 1) (by omega), Nat.add_sub_cancel]
          refine c_debt X _ _ _ _ s2 r2 q2 q3 _ ?_
          rw [q1]
          simp (disch := first | decide | omega) only [mxa, vxa, vxb, vxc, vnd, vne, Nat.reduceAdd, Nat.reduceSub, Nat.reduceLeDiff, Nat.reduceLT, Int32.reduceLT, Int32.reduceLE, Int32.reduceAdd, Int32.reduceSub, Int32.reduceMul, Int32.reduceToNatClampNeg, not_false_eq_true, not_true_eq_false, false_implies, true_implies, Nat.zero_add, reduceIte, Nat.reduceMul, Nat.reduceEqDiff, nxa, nxc, lgn, nL_of, swx, Int.reduceAdd, gI_a, gI_k, gL_a, gL_k, gI_r, gL_r, nI_and, nI_or, nI_xor, nI_ndf, nI_shl, nI_shr, ne_eq, and_true, true_and, eq_self, true_or, or_true, false_or, or_false, Option.toList, List.cons_append, List.nil_append, List.length_nil, List.length_cons, Nat.not_lt_zero]
          refine wp_blk kX10_clear_90 ?_
          simp (disch := first | decide | omega) only [mxa, vxa, vxb, vxc, vnd, vne, Nat.reduceAdd, Nat.reduceSub, Nat.reduceLeDiff, Nat.reduceLT, Int32.reduceLT, Int32.reduceLE, Int32.reduceAdd, Int32.reduceSub, Int32.reduceMul, Int32.reduceToNatClampNeg, not_false_eq_true, not_true_eq_false, false_implies, true_implies, Nat.zero_add, reduceIte, Nat.reduceMul, Nat.reduceEqDiff, nxa, nxc, lgn, nL_of, swx, Int.reduceAdd, gI_a, gI_k, gL_a, gL_k, gI_r, gL_r, nI_and, nI_or, nI_xor, nI_ndf, nI_shl, nI_shr, ne_eq, and_true, true_and, eq_self, true_or, or_true, false_or, or_false, Option.toList, List.cons_append, List.nil_append, List.length_nil, List.length_cons, Nat.not_lt_zero, bX10_clear_90]
          refine hP2 _ (by omega) (fun i hi => ?_) ⟨k', by omega, rfl⟩
          by_cases z : i = k'
          · rw [z]; exact Nat.le_refl _
          · have := x2 i (by omega); omega
      · have xm : x = m := isMn_eq ⟨fun i hi => by
          by_cases z : i = L - 1
          · rw [z]; exact x1
          · exact x2 i (by omega), x3⟩ hm
        subst xm
        refine wp_blk kX10_clear_38 ?_
        simp (disch := first | decide | omega) only [mxa, vxa, vxb, vxc, vnd, vne, Nat.reduceAdd, Nat.reduceSub, Nat.reduceLeDiff, Nat.reduceLT, Int32.reduceLT, Int32.reduceLE, Int32.reduceAdd, Int32.reduceSub, Int32.reduceMul, Int32.reduceToNatClampNeg, not_false_eq_true, not_true_eq_false, false_implies, true_implies, Nat.zero_add, reduceIte, Nat.reduceMul, Nat.reduceEqDiff, nxa, nxc, lgn, nL_of, swx, Int.reduceAdd, gI_a, gI_k, gL_a, gL_k, gI_r, gL_r, nI_and, nI_or, nI_xor, nI_ndf, nI_shl, nI_shr, ne_eq, and_true, true_and, eq_self, true_or, or_true, false_or, or_false, Option.toList, List.cons_append, List.nil_append, List.length_nil, List.length_cons, Nat.not_lt_zero, bX10_clear_38, kdx s2, g1, show L ≤ L - 1 + 1 by omega]
        refine wp_blk kX10_clear_97 ?_
        simp (disch := first | decide | omega) only [mxa, vxa, vxb, vxc, vnd, vne, Nat.reduceAdd, Nat.reduceSub, Nat.reduceLeDiff, Nat.reduceLT, Int32.reduceLT, Int32.reduceLE, Int32.reduceAdd, Int32.reduceSub, Int32.reduceMul, Int32.reduceToNatClampNeg, not_false_eq_true, not_true_eq_false, false_implies, true_implies, Nat.zero_add, reduceIte, Nat.reduceMul, Nat.reduceEqDiff, nxa, nxc, lgn, nL_of, swx, Int.reduceAdd, gI_a, gI_k, gL_a, gL_k, gI_r, gL_r, nI_and, nI_or, nI_xor, nI_ndf, nI_shl, nI_shr, ne_eq, and_true, true_and, eq_self, true_or, or_true, false_or, or_false, Option.toList, List.cons_append, List.nil_append, List.length_nil, List.length_cons, Nat.not_lt_zero, bX10_clear_97]
        have fin := wfor (fun i => Wp X mX10_clear (rmo (d + 9) 0 0) (d + 9) (fun r' σ2 => (∃ z : Int32, some (Value.int (nI e)) = some (.int z) ∧ r' = some (.int z)) ∧ Inv (t + 1) σ2) 0 0 99 [some (.ref 190), some (.int (nI k)), some (.int (nI x)), some (.int (nI i))] [] (rI σ2 191 (tkV V L C x i))) L (fun i hi hP3 => by
          obtain ⟨q1, q2, q3, q4⟩ := dv i hi
          rw [V2] at q1
          have own := tkV_own (m := x) hN10 rg hi
          rw [q1] at own
          have ml : x ≤ dR V L C i := hm.1 i hi
          by_cases z : i + 1 < L
          · have nz : nxt L i = i + 1 := if_pos z
            rw [nz] at own q3
            refine wp_blk kX10_clear_99 ?_
            simp (disch := first | decide | omega) only [mxa, vxa, vxb, vxc, vnd, vne, Nat.reduceAdd, Nat.reduceSub, Nat.reduceLeDiff, Nat.reduceLT, Int32.reduceLT, Int32.reduceLE, Int32.reduceAdd, Int32.reduceSub, Int32.reduceMul, Int32.reduceToNatClampNeg, not_false_eq_true, not_true_eq_false, false_implies, true_implies, Nat.zero_add, reduceIte, Nat.reduceMul, Nat.reduceEqDiff, nxa, nxc, lgn, nL_of, swx, Int.reduceAdd, gI_a, gI_k, gL_a, gL_k, gI_r, gL_r, nI_and, nI_or, nI_xor, nI_ndf, nI_shl, nI_shr, ne_eq, and_true, true_and, eq_self, true_or, or_true, false_or, or_false, Option.toList, List.cons_append, List.nil_append, List.length_nil, List.length_cons, Nat.not_lt_zero, bX10_clear_99, kdx s2, grx r2, g1, g3 i hi, show ¬ i + 1 = L by omega, show ¬ L ≤ i by omega]
            refine wp_blk kX10_clear_142 ?_
            simp (disch := first | decide | omega) only [mxa, vxa, vxb, vxc, vnd, vne, Nat.reduceAdd, Nat.reduceSub, Nat.reduceLeDiff, Nat.reduceLT, Int32.reduceLT, Int32.reduceLE, Int32.reduceAdd, Int32.reduceSub, Int32.reduceMul, Int32.reduceToNatClampNeg, not_false_eq_true, not_true_eq_false, false_implies, true_implies, Nat.zero_add, reduceIte, Nat.reduceMul, Nat.reduceEqDiff, nxa, nxc, lgn, nL_of, swx, Int.reduceAdd, gI_a, gI_k, gL_a, gL_k, gI_r, gL_r, nI_and, nI_or, nI_xor, nI_ndf, nI_shl, nI_shr, ne_eq, and_true, true_and, eq_self, true_or, or_true, false_or, or_false, Option.toList, List.cons_append, List.nil_append, List.length_nil, List.length_cons, Nat.not_lt_zero, bX10_clear_142]
            refine wp_blk kX10_clear_145 ?_
            simp (disch := first | decide | omega) only [mxa, vxa, vxb, vxc, vnd, vne, Nat.reduceAdd, Nat.reduceSub, Nat.reduceLeDiff, Nat.reduceLT, Int32.reduceLT, Int32.reduceLE, Int32.reduceAdd, Int32.reduceSub, Int32.reduceMul, Int32.reduceToNatClampNeg, not_false_eq_true, not_true_eq_false, false_implies, true_implies, Nat.zero_add, reduceIte, Nat.reduceMul, Nat.reduceEqDiff, nxa, nxc, lgn, nL_of, swx, Int.reduceAdd, gI_a, gI_k, gL_a, gL_k, gI_r, gL_r, nI_and, nI_or, nI_xor, nI_ndf, nI_shl, nI_shr, ne_eq, and_true, true_and, eq_self, true_or, or_true, false_or, or_false, Option.toList, List.cons_append, List.nil_append, List.length_nil, List.length_cons, Nat.not_lt_zero, bX10_clear_145, kdx s2, g3 (i + 1) z, own, sI_rI]
            have e1 : tkV V L C x (i + 1) = upd (tkV V L C x i) (219 + 10 * C i + C (i + 1)) (nI (dR V L C i - x)) := by
              show upd (tkV V L C x i) (219 + 10 * C i + C (nxt L i)) (nI (dR V L C i - x)) = _
              rw [nz]
            rw [e1] at hP3
            exact hP3
          · have nz : nxt L i = 0 := if_neg z
            rw [nz] at own q3
            refine wp_blk kX10_clear_99 ?_
            simp (disch := first | decide | omega) only [mxa, vxa, vxb, vxc, vnd, vne, Nat.reduceAdd, Nat.reduceSub, Nat.reduceLeDiff, Nat.reduceLT, Int32.reduceLT, Int32.reduceLE, Int32.reduceAdd, Int32.reduceSub, Int32.reduceMul, Int32.reduceToNatClampNeg, not_false_eq_true, not_true_eq_false, false_implies, true_implies, Nat.zero_add, reduceIte, Nat.reduceMul, Nat.reduceEqDiff, nxa, nxc, lgn, nL_of, swx, Int.reduceAdd, gI_a, gI_k, gL_a, gL_k, gI_r, gL_r, nI_and, nI_or, nI_xor, nI_ndf, nI_shl, nI_shr, ne_eq, and_true, true_and, eq_self, true_or, or_true, false_or, or_false, Option.toList, List.cons_append, List.nil_append, List.length_nil, List.length_cons, Nat.not_lt_zero, bX10_clear_99, kdx s2, grx r2, g1, g3 i hi, show i + 1 = L by omega, show ¬ L ≤ i by omega]
            refine wp_blk kX10_clear_145 ?_
            simp (disch := first | decide | omega) only [mxa, vxa, vxb, vxc, vnd, vne, Nat.reduceAdd, Nat.reduceSub, Nat.reduceLeDiff, Nat.reduceLT, Int32.reduceLT, Int32.reduceLE, Int32.reduceAdd, Int32.reduceSub, Int32.reduceMul, Int32.reduceToNatClampNeg, not_false_eq_true, not_true_eq_false, false_implies, true_implies, Nat.zero_add, reduceIte, Nat.reduceMul, Nat.reduceEqDiff, nxa, nxc, lgn, nL_of, swx, Int.reduceAdd, gI_a, gI_k, gL_a, gL_k, gI_r, gL_r, nI_and, nI_or, nI_xor, nI_ndf, nI_shl, nI_shr, ne_eq, and_true, true_and, eq_self, true_or, or_true, false_or, or_false, Option.toList, List.cons_append, List.nil_append, List.length_nil, List.length_cons, Nat.not_lt_zero, bX10_clear_145, kdx s2, g3 0 (by omega), own, sI_rI]
            have e1 : tkV V L C x (i + 1) = upd (tkV V L C x i) (219 + 10 * C i + C 0) (nI (dR V L C i - x)) := by
              show upd (tkV V L C x i) (219 + 10 * C i + C (nxt L i)) (nI (dR V L C i - x)) = _
              rw [nz]
            rw [e1] at hP3
            exact hP3) (by
          refine wp_blk kX10_clear_99 ?_
          simp (disch := first | decide | omega) only [mxa, vxa, vxb, vxc, vnd, vne, Nat.reduceAdd, Nat.reduceSub, Nat.reduceLeDiff, Nat.reduceLT, Int32.reduceLT, Int32.reduceLE, Int32.reduceAdd, Int32.reduceSub, Int32.reduceMul, Int32.reduceToNatClampNeg, not_false_eq_true, not_true_eq_false, false_implies, true_implies, Nat.zero_add, reduceIte, Nat.reduceMul, Nat.reduceEqDiff, nxa, nxc, lgn, nL_of, swx, Int.reduceAdd, gI_a, gI_k, gL_a, gL_k, gI_r, gL_r, nI_and, nI_or, nI_xor, nI_ndf, nI_shl, nI_shr, ne_eq, and_true, true_and, eq_self, true_or, or_true, false_or, or_false, Option.toList, List.cons_append, List.nil_append, List.length_nil, List.length_cons, Nat.not_lt_zero, bX10_clear_99, kdx s2, g1, Nat.le_refl]
          refine wp_blk kX10_clear_158 ?_
          simp (disch := first | decide | omega) only [mxa, vxa, vxb, vxc, vnd, vne, Nat.reduceAdd, Nat.reduceSub, Nat.reduceLeDiff, Nat.reduceLT, Int32.reduceLT, Int32.reduceLE, Int32.reduceAdd, Int32.reduceSub, Int32.reduceMul, Int32.reduceToNatClampNeg, not_false_eq_true, not_true_eq_false, false_implies, true_implies, Nat.zero_add, reduceIte, Nat.reduceMul, Nat.reduceEqDiff, nxa, nxc, lgn, nL_of, swx, Int.reduceAdd, gI_a, gI_k, gL_a, gL_k, gI_r, gL_r, nI_and, nI_or, nI_xor, nI_ndf, nI_shl, nI_shr, ne_eq, and_true, true_and, eq_self, true_or, or_true, false_or, or_false, Option.toList, List.cons_append, List.nil_append, List.length_nil, List.length_cons, Nat.not_lt_zero, bX10_clear_158]
          refine Wp.fog 2 (Wp.fog 3 ?_)
          refine hP _ (hF.tr ((F2.mono (fun c q => by omega)).tr (Fr.rI (by omega)))) (fun j j1 j2 => ?_) ?_
          · rw [gI_r (by decide), g2 j j2]; exact h191 j j1 j2
          · rw [gI_rS]
            show _ = rsV (itV (gI σ 191) N k) N
            rw [hVV, rq x hm])
        rw [show tkV V L C x 0 = gI σ2 191 from V2.symm, rI_self] at fin
        exact fin) (fun τ hF h191 hVk => by
    have hst : Sh τ := hF.1.trans s1
    have hrt : Rf τ := fun a k q1 q2 q3 q4 => (hF.gR a k).trans (r1 a k q1 q2 q3 q4)
    obtain ⟨hGk, -, hoff⟩ := it e h1
    refine wp_blk kX10_clear_7 ?_
    simp (disch := first | decide | omega) only [mxa, vxa, vxb, vxc, vnd, vne, Nat.reduceAdd, Nat.reduceSub, Nat.reduceLeDiff, Nat.reduceLT, Int32.reduceLT, Int32.reduceLE, Int32.reduceAdd, Int32.reduceSub, Int32.reduceMul, Int32.reduceToNatClampNeg, not_false_eq_true, not_true_eq_false, false_implies, true_implies, Nat.zero_add, reduceIte, Nat.reduceMul, Nat.reduceEqDiff, nxa, nxc, lgn, nL_of, swx, Int.reduceAdd, gI_a, gI_k, gL_a, gL_k, gI_r, gL_r, nI_and, nI_or, nI_xor, nI_ndf, nI_shl, nI_shr, ne_eq, and_true, true_and, eq_self, true_or, or_true, false_or, or_false, Option.toList, List.cons_append, List.nil_append, List.length_nil, List.length_cons, Nat.not_lt_zero, bX10_clear_7, kdx hst]
    refine c_laysRing X _ τ (itV (gI σ 191) N e) t N O K hst hrt hGk (by omega) hVk _ (fun hn σ2 F2 => ?_) (fun a ha hy => absurd ⟨a, ha, hy⟩ h2)
    simp (disch := first | decide | omega) only [mxa, vxa, vxb, vxc, vnd, vne, Nat.reduceAdd, Nat.reduceSub, Nat.reduceLeDiff, Nat.reduceLT, Int32.reduceLT, Int32.reduceLE, Int32.reduceAdd, Int32.reduceSub, Int32.reduceMul, Int32.reduceToNatClampNeg, not_false_eq_true, not_true_eq_false, false_implies, true_implies, Nat.zero_add, reduceIte, Nat.reduceMul, Nat.reduceEqDiff, nxa, nxc, lgn, nL_of, swx, Int.reduceAdd, gI_a, gI_k, gL_a, gL_k, gI_r, gL_r, nI_and, nI_or, nI_xor, nI_ndf, nI_shl, nI_shr, ne_eq, and_true, true_and, eq_self, true_or, or_true, false_or, or_false, Option.toList, List.cons_append, List.nil_append, List.length_nil, List.length_cons, Nat.not_lt_zero]
    refine wp_blk kX10_clear_164 ?_
    simp (disch := first | decide | omega) only [mxa, vxa, vxb, vxc, vnd, vne, Nat.reduceAdd, Nat.reduceSub, Nat.reduceLeDiff, Nat.reduceLT, Int32.reduceLT, Int32.reduceLE, Int32.reduceAdd, Int32.reduceSub, Int32.reduceMul, Int32.reduceToNatClampNeg, not_false_eq_true, not_true_eq_false, false_implies, true_implies, Nat.zero_add, reduceIte, Nat.reduceMul, Nat.reduceEqDiff, nxa, nxc, lgn, nL_of, swx, Int.reduceAdd, gI_a, gI_k, gL_a, gL_k, gI_r, gL_r, nI_and, nI_or, nI_xor, nI_ndf, nI_shl, nI_shr, ne_eq, and_true, true_and, eq_self, true_or, or_true, false_or, or_false, Option.toList, List.cons_append, List.nil_append, List.length_nil, List.length_cons, Nat.not_lt_zero, bX10_clear_164]
    refine ⟨⟨_, rfl, rfl⟩, hI.fin ht (F1.mono (fun a h => by unfold Sc; omega)) V1 ((hF.mono (fun a h => by unfold Sm; omega)).tr (F2.mono (fun a h => by unfold Sm; omega))) (fun k hk => ?_) ((funext fun j => F2.2.2.1 191 (by omega) j).trans hVk) (fun k hk => hoff k (by omega)) (hGk.mono (by omega))⟩
    rw [F2.2.2.1 190 (by omega)]
    exact h191 k (by omega) (by omega))
  exact go _ (Fr.sI (by omega)) (fun j j1 j2 => gI_k j1) ((gI_aF (by decide)).trans (funext e192))
