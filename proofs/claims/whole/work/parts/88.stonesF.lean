/-! stones: no wish over the size, all finite -/
set_option maxRecDepth 20000
theorem fE_fin {p : Nat → Prop} {l : Nat → Int32} {s y : Nat} (hy : p y) (ys : y ≤ s) (hl : ∃ i, i ≤ 20 ∧ l y = nI i) (ha : ∀ x, p x → (∃ i, i ≤ 20 ∧ l x = nI i) ∨ l x = nI 99) : ∀ n x, x + n = y → ∃ i, i ≤ 21 ∧ fE p (fun x v => mj (l x) v) (nI 99) s x = nI i := by
  have top : ∀ n x, x + n = s + 1 → ∃ i, i ≤ 99 ∧ fE p (fun x v => mj (l x) v) (nI 99) s x = nI i := by
    intro n
    induction n with
    | zero => intro x e; rw [show x = s + 1 by omega, fE_top]; exact ⟨99, by omega, rfl⟩
    | succ n ih =>
      intro x e
      obtain ⟨i, i1, i2⟩ := ih (x + 1) (by omega)
      by_cases q : p x
      · rw [fE_y (by omega) q, i2]
        show ∃ i, i ≤ 99 ∧ mj (l x) _ = nI i
        rcases ha x q with ⟨j, j1, j2⟩ | j2
        · rw [j2, mj_n (by omega) (by omega)]
          refine ⟨_, ?_, rfl⟩
          split <;> omega
        · rw [j2, mj_n (by omega) (by omega)]
          refine ⟨_, ?_, rfl⟩
          split <;> omega
      · rw [fE_n (by omega) q]; exact ⟨i, i1, i2⟩
  intro n
  induction n with
  | zero =>
    intro x e
    have e : x = y := by omega
    subst e
    obtain ⟨i, i1, i2⟩ := top (s + 1 - (x + 1)) (x + 1) (by omega)
    obtain ⟨j, j1, j2⟩ := hl
    rw [fE_y ys hy, i2]
    show ∃ i, i ≤ 21 ∧ mj (l x) _ = nI i
    rw [j2, mj_n (by omega) (by omega)]
    refine ⟨_, ?_, rfl⟩
    split <;> omega
  | succ n ih =>
    intro x e
    obtain ⟨i, i1, i2⟩ := ih (x + 1) (by omega)
    by_cases q : p x
    · rw [fE_y (by omega) q, i2]
      show ∃ i, i ≤ 21 ∧ mj (l x) _ = nI i
      rcases ha x q with ⟨j, j1, j2⟩ | j2
      · rw [j2, mj_n (by omega) (by omega)]
        refine ⟨_, ?_, rfl⟩
        split <;> omega
      · rw [j2, mj_n (by omega) (by omega)]
        refine ⟨_, ?_, rfl⟩
        split <;> omega
    · rw [fE_n (by omega) q]; exact ⟨i, i1, i2⟩
theorem one_fit {V : Nat → Int32} {N z j : Nat} (hj : j < N) (h : wsN V j ≤ z) : fitM V N z (2 ^ j) := by
  constructor
  · rintro ⟨f, g, -, h2, h3, h4, -⟩
    rw [Nat.testBit_two_pow] at h3 h4
    have e1 : j = f := by simpa using h3
    have e2 : j = g := by simpa using h4
    omega
  · have := sW_add (V := V) (N := N) (r := 0) hj (Nat.two_pow_pos j)
    rw [Nat.add_zero, s0W] at this
    omega
theorem st_fin {V : Nat → Int32} {t N O K z : Nat} {T L : Nat → Int32} (hG : Gd V t N O K) (hz : ∀ f, f < N → wsN V f ≤ z) (hT : TB 0 (wsh V N) (fitS V N z) T) (h0 : L 0 = nI 0) (hL : ∀ s, 0 < s → s < 2 ^ N → s &&& wsh V N = s → L s = cm (fitM V N z) L s) : ∀ n s, s < n → s < 2 ^ N → s &&& wsh V N = s → ∃ i, i ≤ 10 ∧ T s = nI i ∧ L s = nI i
  | 0, s, q, _, _ => absurd q (by omega)
  | n + 1, s, q, s2, hw => by
    have hN := hG.1.2
    have pw := pow_le hN
    have rel := fun s (h1 : s < 2 ^ N) h2 => st_rel hG hT h0 hL (s + 1) s (by omega) h1 h2
    by_cases e0 : s = 0
    · subst e0
      exact ⟨0, by omega, hT.1, h0⟩
    have ih := st_fin hG hz hT h0 hL n
    have s0 : 0 < s := by omega
    rcases rel s s2 hw with ⟨i, i1, i2, i3⟩ | ⟨-, i3⟩
    · exact ⟨i, Nat.le_trans i1 (pcN_le s 10), i2, i3⟩
    · obtain ⟨j, hj, e, b, -⟩ := low_e (show s < 1024 by omega) s0
      have jN : j < N := by
        rcases Nat.lt_or_ge j N with q | q
        · exact q
        · rw [Nat.testBit_lt_two_pow (Nat.lt_of_lt_of_le s2 (Nat.pow_le_pow_right (by omega) q))] at b
          cases b
      obtain ⟨-, pl, -, pls⟩ := pA_make (w := 0) (show s < 1024 by omega) s0 (Nat.zero_and _)
      rw [Nat.add_zero] at pl pls
      have sub : ∀ x, pA s x → ndf s x < s ∧ ndf s x &&& wsh V N = ndf s x := fun x hx => by
        obtain ⟨q1, q2⟩ := ndf_lt (show s < 1024 by omega) s0 hx
        exact ⟨q1, sub_bit.mpr (fun i hi => sub_bit.mp hw i (sub_bit.mp q2 i hi))⟩
      obtain ⟨q1, q2⟩ := sub _ pl
      obtain ⟨k, k1, -, k3⟩ := ih (ndf s (lowN s)) (by omega) (by omega) q2
      have ft : fitM V N z (lowN s) := by rw [e]; exact one_fit jN (hz j jN)
      obtain ⟨i, i1, i2⟩ := fE_fin (p := fun x => pA s x ∧ fitM V N z x) (l := fun x => L (ndf s x)) ⟨pl, ft⟩ pls ⟨k, by omega, k3⟩ (fun x hx => by
        obtain ⟨r1, r2⟩ := sub x hx.1
        rcases rel _ (by omega) r2 with ⟨i, i1, -, i3⟩ | ⟨-, i3⟩
        · have := pcN_le (ndf s x) 10
          exact Or.inl ⟨i, by omega, i3⟩
        · exact Or.inr i3) (lowN s) 0 (by omega)
      have := hL s s0 s2 hw
      unfold cm at this
      rw [i2, i3] at this
      have := nI_inj (by omega) (by omega) this
      omega
