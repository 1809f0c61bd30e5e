/-! served: both tables say the same -/
set_option maxRecDepth 20000
theorem pcN_mono {x s : Nat} (h : ∀ i, x.testBit i = true → s.testBit i = true) : ∀ n, pcN x n ≤ pcN s n
  | 0 => Nat.le_refl _
  | n + 1 => by
    have := pcN_mono h n
    show pcN x n + (if x.testBit n = true then 1 else 0) ≤ pcN s n + (if s.testBit n = true then 1 else 0)
    by_cases q : x.testBit n = true
    · rw [if_pos q, if_pos (h n q)]; omega
    · rw [if_neg q]; omega
theorem pcN_mono1 {x s j : Nat} (h : ∀ i, x.testBit i = true → s.testBit i = true) (a : s.testBit j = true) (b : ¬ x.testBit j = true) : ∀ n, j < n → pcN x n + 1 ≤ pcN s n
  | 0, q => absurd q (by omega)
  | n + 1, q => by
    show pcN x n + (if x.testBit n = true then 1 else 0) + 1 ≤ pcN s n + (if s.testBit n = true then 1 else 0)
    by_cases e : n = j
    · have := pcN_mono h n
      rw [e] at this ⊢
      rw [if_neg b, if_pos a]; omega
    · have := pcN_mono1 h a b n (by omega)
      by_cases q : x.testBit n = true
      · rw [if_pos q, if_pos (h n q)]; omega
      · rw [if_neg q]; omega
/-- the class's and the model's number of parts -/
def RLp (n : Nat) (a b : Int32) : Prop := (∃ i, i ≤ n ∧ a = nI i ∧ b = nI i) ∨ (a = nI 1048576 ∧ b = nI 99)
theorem imn_nn {a b : Nat} (ha : a < 2147483648) (hb : b < 2147483648) : imn (nI a) (nI b) = nI (if b < a then b else a) := by
  unfold imn
  by_cases h : b < a
  · rw [if_pos h, if_pos]
    rw [Int32.lt_iff_toInt_lt, nI_toInt hb, nI_toInt ha]; omega
  · rw [if_neg h, if_neg]
    rw [Int32.lt_iff_toInt_lt, nI_toInt hb, nI_toInt ha]; omega
theorem mj_n {a b : Nat} (ha : a < 2147483647) (hb : b < 2147483648) : mj (nI a) (nI b) = nI (if a + 1 < b then a + 1 else b) := by
  unfold mj
  rw [nI_add]
  by_cases h : a + 1 < b
  · rw [if_pos h, if_pos]
    rw [Int32.lt_iff_toInt_lt, nI_toInt hb, nI_toInt (by omega)]; omega
  · rw [if_neg h, if_neg]
    rw [Int32.lt_iff_toInt_lt, nI_toInt hb, nI_toInt (by omega)]; omega
theorem RLp_step {n m : Nat} {a b l l' : Int32} {x : Nat} (hn : n ≤ 10) (hm : m + 1 ≤ n) (h : RLp n a b) (hl : RLp m l l') : RLp n (jn 0 a x l) (mj l' b) := by
  have e : jn 0 a x l = imn a (l + nI 1) := rfl
  rw [e]
  rcases hl with ⟨i, i1, rfl, rfl⟩ | ⟨rfl, rfl⟩ <;> rcases h with ⟨j, j1, rfl, rfl⟩ | ⟨rfl, rfl⟩ <;> rw [nI_add, imn_nn (by omega) (by omega), mj_n (by omega) (by omega)]
  · refine Or.inl ⟨if i + 1 < j then i + 1 else j, ?_, rfl, rfl⟩
    split <;> omega
  · refine Or.inl ⟨i + 1, by omega, ?_, ?_⟩
    · rw [if_pos (by omega)]
    · rw [if_pos (by omega)]
  · refine Or.inl ⟨j, by omega, ?_, ?_⟩
    · rw [if_neg (by omega)]
    · rw [if_neg (by omega)]
  · exact Or.inr ⟨rfl, rfl⟩
theorem fil_wsh {V : Nat → Int32} {N O s : Nat} (hs : s < 2 ^ N) (h : fil V N O s) : s &&& wsh V N = s := sub_bit.mpr (fun i hi => by
  have hiN : i < N := by
    rcases Nat.lt_or_ge i N with q | q
    · exact q
    · rw [Nat.testBit_lt_two_pow (Nat.lt_of_lt_of_le hs (Nat.pow_le_pow_right (by omega) q))] at hi
      cases hi
  obtain ⟨o, -, hg, -⟩ := h
  exact bP_in (fun f => 0 < wsN V f) hiN (hg.1 i hiN hi))
theorem tab_rel {V : Nat → Int32} {N O : Nat} {T L : Nat → Int32} (hN : N ≤ 10) (hT : TB 0 (wsh V N) (fil V N O) T) (h0 : L 0 = nI 0) (hL : ∀ s, 0 < s → s < 2 ^ N → L s = cm (fil V N O) L s) : ∀ n s, s < n → s < 2 ^ N → (s &&& wsh V N = s → RLp (pcN s 10) (T s) (L s)) ∧ (¬ s &&& wsh V N = s → L s = nI 99)
  | 0, s, q, _ => absurd q (by omega)
  | n + 1, s, q, s2 => by
    have pw := pow_le hN
    by_cases z : s = 0
    · subst z
      exact ⟨fun _ => Or.inl ⟨0, by omega, hT.1, h0⟩, fun e => absurd (Nat.zero_and _) e⟩
    have ih := tab_rel hN hT h0 hL n
    have s0 : 0 < s := by omega
    constructor
    · intro hw
      rw [hT.2 s s0 (sub_le hw) hw, hL s s0 s2]
      unfold cl cm
      refine fE_rel (R := RLp (pcN s 10)) (Or.inr ⟨rfl, rfl⟩) (fun x a b _ hx e => ?_) (s + 1) 0 (by omega)
      obtain ⟨q1, q2⟩ := ndf_lt (show s < 1024 by omega) s0 hx.1
      have i1 := (ih (ndf s x) (by omega) (by omega)).1 (by
        refine sub_bit.mpr (fun i hi => sub_bit.mp hw i (sub_bit.mp q2 i hi)))
      have lp := low_p s (by omega) s0
      have xb := pA_bit (by omega) s0 hx.1
      have pc := pcN_mono1 (x := ndf s x) (s := s) (j := (lowN s).log2) (fun i hi => sub_bit.mp q2 i hi) lp.2.2.1 (by rw [ndf_bit, xb]; simp) 10 lp.2.1
      exact RLp_step (pcN_le s 10) pc e i1
    · intro hw
      rw [hL s s0 s2]
      unfold cm
      refine fE_rel (R := fun a _ => a = nI 99) (g' := fun _ v => v) (v' := nI 0) rfl (fun x a b xs hx e => ?_) (s + 1) 0 (by omega)
      obtain ⟨q1, q2⟩ := ndf_lt (show s < 1024 by omega) s0 hx.1
      have i1 := (ih (ndf s x) (by omega) (by omega)).2 (fun z => hw (sub_bit.mpr (fun i hi => by
        by_cases y : x.testBit i = true
        · exact sub_bit.mp (fil_wsh (by omega) hx.2) i y
        · exact sub_bit.mp z i (by rw [ndf_bit, hi]; simpa using y))))
      show mj (L (ndf s x)) a = nI 99
      rw [i1, e, mj_n (by omega) (by omega)]
      rfl
theorem bsN_ext {C : Nat → Prop} {B : Nat → Nat → Prop} {w : Nat} : ∀ k, (∀ s, w < s → s ≤ w + k → ¬ C s) → bsN C B (w + k) = bsN C B w
  | 0, _ => rfl
  | k + 1, h => by
    rw [show w + (k + 1) = (w + k) + 1 by omega, bsN_n (fun q => h _ (by omega) (by omega) q.1), bsN_ext k (fun s a b => h s a (by omega))]
theorem best_eq {V : Nat → Int32} {N O : Nat} {T L : Nat → Int32} (hN : N ≤ 10) (hT : TB 0 (wsh V N) (fil V N O) T) (h0 : L 0 = nI 0) (hL : ∀ s, 0 < s → s < 2 ^ N → L s = cm (fil V N O) L s) : bsN (fun s => L s < nI 99) (btr L) (2 ^ N - 1) = bsN (okC (wsh V N) T) (btr T) (wsh V N) ∧ T (bsN (okC (wsh V N) T) (btr T) (wsh V N)) = L (bsN (okC (wsh V N) T) (btr T) (wsh V N)) := by
  have pw := pow_le hN
  have wl : wsh V N < 2 ^ N := bP_lt _ _
  have rel := fun s (hs : s < 2 ^ N) => tab_rel hN hT h0 hL (s + 1) s (by omega) hs
  have n99 : ¬ nI 99 < nI 99 := by decide
  have nFar : ¬ nI 1048576 < nI 1048576 := by decide
  have lt : ∀ a b, a < 2147483648 → b < 2147483648 → a < b → nI a < nI b := fun a b ha hb h => by
    rw [Int32.lt_iff_toInt_lt, nI_toInt hb, nI_toInt ha]; omega
  have out : ∀ s, s < 2 ^ N → ¬ s &&& wsh V N = s → ¬ L s < nI 99 := fun s hs h => by rw [(rel s hs).2 h]; exact n99
  have fin : ∀ s, s < 2 ^ N → s &&& wsh V N = s → (T s < nI 1048576 ∨ L s < nI 99 ∨ s = 0) → ∃ i, i ≤ 10 ∧ T s = nI i ∧ L s = nI i := fun s hs h h2 => by
    rcases (rel s hs).1 h with ⟨i, i1, i2, i3⟩ | ⟨i2, i3⟩
    · exact ⟨i, Nat.le_trans i1 (pcN_le s 10), i2, i3⟩
    · rcases h2 with q | q | q
      · rw [i2] at q; exact absurd q nFar
      · rw [i3] at q; exact absurd q n99
      · rw [q, h0] at i3; exact absurd i3 (by decide)
  have e1 : bsN (fun s => L s < nI 99) (btr L) (2 ^ N - 1) = bsN (fun s => L s < nI 99) (btr L) (wsh V N) := by
    have := bsN_ext (C := fun s => L s < nI 99) (B := btr L) (w := wsh V N) (2 ^ N - 1 - wsh V N) (fun s q1 q2 => out s (by omega) (fun e => by have := sub_le e; omega))
    rw [show wsh V N + (2 ^ N - 1 - wsh V N) = 2 ^ N - 1 by omega] at this
    exact this
  have e2 : bsN (okC (wsh V N) T) (btr T) (wsh V N) = bsN (fun s => L s < nI 99) (btr L) (wsh V N) := bsN_congr _ (fun s q1 q2 => by
    constructor
    · rintro ⟨a, b⟩
      obtain ⟨i, i1, i2, i3⟩ := fin s (by omega) a (Or.inl b)
      rw [i3]; exact lt _ _ (by omega) (by omega) (by omega)
    · intro b
      have a : s &&& wsh V N = s := Classical.byContradiction (fun z => out s (by omega) z b)
      obtain ⟨i, i1, i2, i3⟩ := fin s (by omega) a (Or.inr (Or.inl b))
      exact ⟨a, by rw [i2]; exact lt _ _ (by omega) (by omega) (by omega)⟩) (fun s b q1 q2 q3 hb hs => by
    obtain ⟨i, i1, i2, i3⟩ := fin s (by omega) hs.1 (Or.inl hs.2)
    have hb' : ∃ i, i ≤ 10 ∧ T b = nI i ∧ L b = nI i := by
      rcases hb with z | z
      · exact fin b (by omega) (by rw [z]; exact Nat.zero_and _) (Or.inr (Or.inr z))
      · exact fin b (by omega) z.1 (Or.inl z.2)
    obtain ⟨j, j1, j2, j3⟩ := hb'
    unfold btr
    rw [i2, i3, j2, j3])
  refine ⟨e1.trans e2.symm, ?_⟩
  have bl := bsN_le (C := okC (wsh V N) T) (B := btr T) (wsh V N)
  rcases bsN_in (C := okC (wsh V N) T) (B := btr T) (wsh V N) with z | z
  · rw [z, hT.1, h0]; rfl
  · obtain ⟨i, i1, i2, i3⟩ := fin _ (by omega) z.1 (Or.inl z.2)
    rw [i2, i3]
