/-! stones: no wish over the size, all finite -/
set_option maxRecDepth 20000
theorem fE_fin {p : Nat → Prop} {l : Nat → Int32} {s y : Nat} (hy : p y) (ys : y ≤ s) (hl : ∃ i, i ≤ 20 ∧ l y = nI i) (ha : ∀ x, p x → (∃ i, i ≤ 20 ∧ l x = nI i) ∨ l x = nI 99) : ∀ n x, x + n = y → ∃ i, i ≤ 21 ∧ fE p (fun x v => mj (l x) v) (nI 99) s x = nI i := by
  have top : ∀ n x, x + n = s + 1 → ∃ i, i ≤ 99 ∧ fE p (fun x v => mj (l x) v) (nI 99) s x = nI i := by
    intro n
    induction n with
    | zero => intro x e; rw [show x = s + 1 by omega, fE_top]; exact ⟨99, by omega, rfl⟩
    | succ n ih =>
      intro x e
      obtain ⟨i, i1, i2⟩ := ih (x + 1) (by omega)
      by_cases q : p x
      · rw [fE_y (by omega) q, i2]
        show ∃ i, i ≤ 99 ∧ mj (l x) _ = nI i
        rcases ha x q with ⟨j, j1, j2⟩ | j2
        · rw [j2, mj_n (by omega) (by omega)]
          refine ⟨_, ?_, rfl⟩
          split <;> omega
        · rw [j2, mj_n (by omega) (by omega)]
          refine ⟨_, ?_, rfl⟩
          split <;> omega
      · rw [fE_n (by omega) q]; exact ⟨i, i1, i2⟩
  intro n
  induction n with
  | zero =>
    intro x e
    have e : x = y := by omega
    subst e
    obtain ⟨i, i1, i2⟩ := top (s + 1 - (x + 1)) (x + 1) (by omega)
    obtain ⟨j, j1, j2⟩ := hl
    rw [fE_y ys hy, i2]
    show ∃ i, i ≤ 21 ∧ mj (l x) _ = nI i
    rw [j2, mj_n (by omega) (by omega)]
    refine ⟨_, ?_, rfl⟩
    split <;> omega
  | succ n ih =>
    intro x e
    obtain ⟨i, i1, i2⟩ := ih (x + 1) (by omega)
    by_cases q : p x
    · rw [fE_y (by omega) q, i2]
      show ∃ i, i ≤ 21 ∧ mj (l x) _ = nI i
      rcases ha x q with ⟨j, j1, j2⟩ | j2
      · rw [j2, mj_n (by omega) (by omega)]
        refine ⟨_, ?_, rfl⟩
        split <;> omega
      · rw [j2, mj_n (by omega) (by omega)]
        refine ⟨_, ?_, rfl⟩
        split <;> omega
    · rw [fE_n (by omega) q]; exact ⟨i, i1, i2⟩
