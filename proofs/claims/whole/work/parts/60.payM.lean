/-! pairs: payments -/
set_option maxRecDepth 20000
/-- a set without a family -/
def clr (s f : Nat) : Nat := ndf s (1 * 2 ^ f)
theorem clr_bit (s f i : Nat) : (clr s f).testBit i = (s.testBit i && !decide (f = i)) := by
  unfold clr
  rw [ndf_bit, Nat.one_mul, Nat.testBit_two_pow]
theorem bit_eq {a b : Nat} (h : ∀ i, a.testBit i = b.testBit i) : a = b := Nat.eq_of_testBit_eq h
theorem clr_le (s f : Nat) : clr s f ≤ s := by
  have e : s &&& clr s f = clr s f := bit_eq (fun i => by
    rw [Nat.testBit_and, clr_bit]
    cases s.testBit i <;> simp)
  rw [← e]
  exact Nat.and_le_left
theorem clr_lt {s f : Nat} (h : s.testBit f = true) : clr s f < s := Nat.lt_of_le_of_ne (clr_le s f) (fun e => by
  have : (clr s f).testBit f = false := by rw [clr_bit]; simp
  rw [e, h] at this
  cases this)
/-- the greatest over what is left when one of a set goes -/
def mxP (P : Nat → Nat) (s : Nat) : Nat → Nat
  | 0 => 0
  | n + 1 => if s.testBit n = true then max (mxP P s n) (P (clr s n)) else mxP P s n
theorem mxP_congr {P R : Nat → Nat} {s : Nat} (h : ∀ j, j < s → P j = R j) : ∀ n, mxP P s n = mxP R s n
  | 0 => rfl
  | n + 1 => by
    show (if _ then _ else _) = (if _ then _ else _)
    by_cases q : s.testBit n = true
    · rw [if_pos q, if_pos q, mxP_congr h n, h _ (clr_lt q)]
    · rw [if_neg q, if_neg q, mxP_congr h n]
theorem mxP_ge {P : Nat → Nat} {s f : Nat} : ∀ {n : Nat}, f < n → s.testBit f = true → P (clr s f) ≤ mxP P s n
  | n + 1, h, hb => by
    show P (clr s f) ≤ if s.testBit n = true then max (mxP P s n) (P (clr s n)) else mxP P s n
    by_cases e : f = n
    · subst e
      rw [if_pos hb]; omega
    · have := mxP_ge (P := P) (show f < n by omega) hb
      split <;> omega
theorem mxP_le {P : Nat → Nat} {s b : Nat} : ∀ {n : Nat}, (∀ f, f < n → s.testBit f = true → P (clr s f) ≤ b) → mxP P s n ≤ b
  | 0, _ => Nat.zero_le _
  | n + 1, h => by
    have ih := mxP_le (P := P) (n := n) (fun f hf => h f (by omega))
    show (if s.testBit n = true then max (mxP P s n) (P (clr s n)) else mxP P s n) ≤ b
    split
    · rename_i q
      have := h n (by omega) q
      omega
    · exact ih
theorem mxP_at {P : Nat → Nat} {s : Nat} : ∀ n, mxP P s n = 0 ∨ ∃ f, f < n ∧ s.testBit f = true ∧ mxP P s n = P (clr s f)
  | 0 => Or.inl rfl
  | n + 1 => by
    rcases mxP_at (P := P) (s := s) n with q | ⟨f, q1, q2, q3⟩
    · by_cases hb : s.testBit n = true
      · by_cases hm : mxP P s n ≤ P (clr s n)
        · exact Or.inr ⟨n, by omega, hb, by show (if s.testBit n = true then max (mxP P s n) (P (clr s n)) else mxP P s n) = _; rw [if_pos hb]; omega⟩
        · exact Or.inl (by show (if s.testBit n = true then max (mxP P s n) (P (clr s n)) else mxP P s n) = _; rw [if_pos hb]; omega)
      · exact Or.inl (by show (if _ then _ else _) = _; rw [if_neg hb]; exact q)
    · by_cases hb : s.testBit n = true
      · by_cases hm : mxP P s n ≤ P (clr s n)
        · exact Or.inr ⟨n, by omega, hb, by show (if s.testBit n = true then max (mxP P s n) (P (clr s n)) else mxP P s n) = _; rw [if_pos hb]; omega⟩
        · exact Or.inr ⟨f, by omega, q2, by show (if s.testBit n = true then max (mxP P s n) (P (clr s n)) else mxP P s n) = _; rw [if_pos hb]; omega⟩
      · exact Or.inr ⟨f, by omega, q2, by show (if _ then _ else _) = _; rw [if_neg hb]; exact q3⟩
/-- balances of a set together -/
def sbm (b : Nat → Int32) (s : Nat) : Nat → Int32
  | 0 => nI 0
  | n + 1 => if s.testBit n = true then sbm b s n + b n else sbm b s n
def eZ (b : Nat → Int32) (N s : Nat) : Nat := if sbm b s N = nI 0 then 1 else 0
/-- parts, as a table that grows -/
def ptT (b : Nat → Int32) (N : Nat) : Nat → Nat → Nat
  | 0 => fun _ => 0
  | s + 1 => updN (ptT b N s) (s + 1) (mxP (ptT b N s) (s + 1) N + eZ b N (s + 1))
def pP (b : Nat → Int32) (N s : Nat) : Nat := ptT b N s s
theorem ptT_at {b : Nat → Int32} {N : Nat} : ∀ (n s : Nat), s ≤ n → ptT b N n s = pP b N s
  | 0, s, h => by rw [show s = 0 by omega]; rfl
  | n + 1, s, h => by
    by_cases e : s = n + 1
    · subst e; rfl
    · show updN _ _ _ s = _
      unfold updN
      rw [if_neg e]
      exact ptT_at n s (by omega)
theorem pP_0 {b : Nat → Int32} {N : Nat} : pP b N 0 = 0 := rfl
theorem pP_s {b : Nat → Int32} {N s : Nat} (h : 0 < s) : pP b N s = mxP (pP b N) s N + eZ b N s := by
  obtain ⟨n, rfl⟩ : ∃ n, s = n + 1 := ⟨s - 1, by omega⟩
  show updN (ptT b N n) (n + 1) (mxP (ptT b N n) (n + 1) N + eZ b N (n + 1)) (n + 1) = _
  unfold updN
  rw [if_pos rfl, mxP_congr (R := pP b N) (fun j hj => ptT_at n j (by omega)) N]
theorem sbm_clr {b : Nat → Int32} {s z : Nat} (hb : b z = nI 0) : ∀ n, sbm b (clr s z) n = sbm b s n
  | 0 => rfl
  | n + 1 => by
    show (if _ then _ else _) = (if _ then _ else _)
    rw [sbm_clr hb n, clr_bit]
    by_cases q : s.testBit n = true
    · by_cases e : z = n
      · subst e
        rw [if_neg (by simp), if_pos q, hb]
        exact (Int32.add_zero _).symm
      · rw [if_pos (by simp [q, e]), if_pos q]
    · rw [if_neg (by simp [q]), if_neg q]
theorem clr_clr {s f z : Nat} : clr (clr s z) f = clr (clr s f) z := bit_eq (fun i => by
  rw [clr_bit, clr_bit, clr_bit, clr_bit, Bool.and_assoc, Bool.and_assoc, Bool.and_comm (!decide (z = i))])
theorem pP_z {b : Nat → Int32} {N z : Nat} (hz : z < N) (hb : b z = nI 0) (s : Nat) : s < 2 ^ N → s.testBit z = true → pP b N s = pP b N (clr s z) + 1 := by
  induction s using Nat.strongRecOn with
  | _ s ih =>
    intro hs hbit
    have s0 : 0 < s := by
      rcases Nat.eq_zero_or_pos s with q | q
      · rw [q, Nat.zero_testBit] at hbit; cases hbit
      · exact q
    have ez : eZ b N (clr s z) = eZ b N s := by unfold eZ; rw [sbm_clr hb]
    rw [pP_s s0]
    rcases Nat.eq_zero_or_pos (clr s z) with q | q
    · have only : ∀ f, f < N → s.testBit f = true → f = z := fun f _ h2 => by
        have : (clr s z).testBit f = false := by rw [q, Nat.zero_testBit]
        rw [clr_bit, h2] at this
        simp at this
        exact this.symm
      have m1 : mxP (pP b N) s N = 0 := Nat.le_zero.mp (mxP_le (fun f h1 h2 => by rw [only f h1 h2, q]; exact Nat.le_refl _))
      have e1 : eZ b N s = 1 := by
        rw [← ez, q]
        unfold eZ
        have : ∀ n, sbm b 0 n = nI 0 := by
          intro n
          induction n with
          | zero => rfl
          | succ n ih => show (if _ then _ else _) = _; rw [if_neg (by rw [Nat.zero_testBit]; simp)]; exact ih
        rw [if_pos (this N)]
      rw [m1, e1, q, pP_0]
    · have key : ∀ f, f < N → s.testBit f = true → f ≠ z → pP b N (clr s f) = pP b N (clr (clr s z) f) + 1 := fun f h1 h2 h3 => by
        have := ih (clr s f) (clr_lt h2) (Nat.lt_trans (clr_lt h2) hs) (by rw [clr_bit, hbit]; simp [h3])
        rw [this, clr_clr]
      have hM : ∀ f, f < N → (clr s z).testBit f = true → s.testBit f = true ∧ f ≠ z := fun f _ h => by
        rw [clr_bit] at h
        simp at h
        exact ⟨h.1, fun e => h.2 e.symm⟩
      have hq := pP_s (b := b) (N := N) q
      have up : mxP (pP b N) s N ≤ mxP (pP b N) (clr s z) N + 1 := mxP_le (fun f h1 h2 => by
        by_cases e : f = z
        · subst e
          rw [hq]
          have : eZ b N (clr s f) ≤ 1 := by unfold eZ; split <;> omega
          omega
        · rw [key f h1 h2 e]
          have := mxP_ge (P := pP b N) (s := clr s z) h1 (by rw [clr_bit, h2]; simp; exact fun q => e q.symm)
          omega)
      have dn' : mxP (pP b N) (clr s z) N + 1 ≤ mxP (pP b N) s N := by
        rcases mxP_at (P := pP b N) (s := clr s z) N with m0 | ⟨f, f1, f2, f3⟩
        · have ex : ∃ f, f < N ∧ (clr s z).testBit f = true := by
            refine Classical.byContradiction (fun h => ?_)
            have : clr s z = 0 := bit_eq (fun i => by
              rw [Nat.zero_testBit]
              by_cases hi : i < N
              · cases hc : (clr s z).testBit i
                · rfl
                · exact absurd ⟨i, hi, hc⟩ h
              · exact Nat.testBit_lt_two_pow (Nat.lt_of_lt_of_le (Nat.lt_trans (clr_lt hbit) hs) (Nat.pow_le_pow_right (by omega) (by omega))))
            omega
          obtain ⟨f, f1, f2⟩ := ex
          obtain ⟨g1, g2⟩ := hM f f1 f2
          have := mxP_ge (P := pP b N) (s := s) f1 g1
          rw [key f f1 g1 g2] at this
          omega
        · obtain ⟨g1, g2⟩ := hM f f1 f2
          have := mxP_ge (P := pP b N) (s := s) f1 g1
          rw [key f f1 g1 g2] at this
          omega
      rw [hq, ez]
      omega
/-- bits of a set -/
def pcN (s : Nat) : Nat → Nat
  | 0 => 0
  | n + 1 => pcN s n + (if s.testBit n = true then 1 else 0)
/-- families with a balance: the others add a part each -/
theorem pay_eq {b : Nat → Int32} {N : Nat} : ∀ n, n ≤ N → ∀ s, s < 2 ^ N → (∀ i, n ≤ i → i < N → s.testBit i = (!decide (b i = nI 0))) → (∀ i, i < n → s.testBit i = true) → pP b N s + (pcN (bm (fun f => !decide (b f = nI 0)) N) n) = pP b N (bm (fun f => !decide (b f = nI 0)) N) + n
  | 0, _, s, hs, h1, _ => by
    have : s = bm (fun f => !decide (b f = nI 0)) N := bit_eq (fun i => by
      rw [bm_bit]
      by_cases hi : i < N
      · rw [h1 i (by omega) hi]; simp [hi]
      · rw [Nat.testBit_lt_two_pow (Nat.lt_of_lt_of_le hs (Nat.pow_le_pow_right (by omega) (by omega)))]; simp [hi])
    rw [this]
    rfl
  | n + 1, hn, s, hs, h1, h2 => by
    have hb : (bm (fun f => !decide (b f = nI 0)) N).testBit n = (!decide (b n = nI 0)) := by rw [bm_bit]; simp [show n < N by omega]
    show pP b N s + (pcN _ n + (if _ then 1 else 0)) = _
    rw [hb]
    by_cases q : b n = nI 0
    · have z := pP_z (show n < N by omega) q s hs (h2 n (by omega))
      have ih := pay_eq (b := b) n (by omega) (clr s n) (Nat.lt_trans (clr_lt (h2 n (by omega))) hs) (fun i h3 h4 => by
        rw [clr_bit]
        by_cases e : n = i
        · subst e; simp [q]
        · rw [h1 i (by omega) h4]; simp [e]) (fun i hi => by rw [clr_bit, h2 i (by omega)]; simp; omega)
      rw [if_neg (by simp [q])]
      omega
    · have ih := pay_eq (b := b) n (by omega) s hs (fun i h3 h4 => by
        by_cases e : n = i
        · subst e; rw [h2 n (by omega)]; simp [q]
        · exact h1 i (by omega) h4) (fun i hi => h2 i (by omega))
      rw [if_pos (by simp [q])]
      omega
theorem pcN_le (s : Nat) : ∀ n, pcN s n ≤ n
  | 0 => Nat.le_refl _
  | n + 1 => by
    have := pcN_le s n
    show pcN s n + _ ≤ _
    split <;> omega
theorem pcN_ext {s N : Nat} (hs : s < 2 ^ N) : ∀ k, pcN s (N + k) = pcN s N
  | 0 => rfl
  | k + 1 => by
    show pcN s (N + k) + _ = _
    rw [pcN_ext hs k, if_neg, Nat.add_zero]
    show ¬ s.testBit (N + k) = true
    rw [Nat.testBit_lt_two_pow (Nat.lt_of_lt_of_le hs (Nat.pow_le_pow_right (by omega) (Nat.le_add_right N k)))]
    simp
theorem pP_le {b : Nat → Int32} {N : Nat} (s : Nat) : s < 2 ^ N → pP b N s ≤ s := by
  induction s using Nat.strongRecOn with
  | _ s ih =>
    intro hs
    rcases Nat.eq_zero_or_pos s with q | q
    · rw [q]; exact Nat.le_refl _
    · rw [pP_s q]
      have : eZ b N s ≤ 1 := by unfold eZ; split <;> omega
      rcases mxP_at (P := pP b N) (s := s) N with m0 | ⟨f, f1, f2, f3⟩
      · omega
      · have a := clr_lt f2
        have := ih _ a (Nat.lt_trans a hs)
        omega
