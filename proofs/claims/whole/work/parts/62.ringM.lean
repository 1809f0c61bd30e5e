/-! rings of debts: mathematics. E f g: f owes g. Wk: a walk of at most k debts leads from f to a -/
def Wk (E : Nat → Nat → Prop) (N a : Nat) : Nat → Nat → Prop
  | 0, f => f = a
  | k + 1, f => Wk E N a k f ∨ ∃ g, g < N ∧ E f g ∧ Wk E N a k g
theorem Wk_mono {E : Nat → Nat → Prop} {N a f : Nat} : ∀ {k n : Nat}, k ≤ n → Wk E N a k f → Wk E N a n f
  | k, 0, h, hw => by rw [show k = 0 by omega] at hw; exact hw
  | k, n + 1, h, hw => by
    by_cases e : k = n + 1
    · rw [e] at hw; exact hw
    · exact Or.inl (Wk_mono (show k ≤ n by omega) hw)
/-- how many below n are such -/
noncomputable def cntP (p : Nat → Prop) : Nat → Nat
  | 0 => 0
  | n + 1 => by
    classical
    exact cntP p n + (if p n then 1 else 0)
theorem cntP_le {p q : Nat → Prop} (h : ∀ f, p f → q f) : ∀ n, cntP p n ≤ cntP q n
  | 0 => Nat.le_refl _
  | n + 1 => by
    have := cntP_le h n
    unfold cntP
    by_cases hp : p n
    · rw [if_pos hp, if_pos (h n hp)]; omega
    · rw [if_neg hp]; omega
theorem cntP_lt {p q : Nat → Prop} (h : ∀ f, p f → q f) {x : Nat} (hx : q x) (hx' : ¬ p x) : ∀ n, x < n → cntP p n < cntP q n
  | n + 1, hn => by
    unfold cntP
    by_cases e : x = n
    · subst e
      have := cntP_le h x
      rw [if_neg hx', if_pos hx]; omega
    · have := cntP_lt h hx hx' n (by omega)
      by_cases hp : p n
      · rw [if_pos hp, if_pos (h n hp)]; omega
      · rw [if_neg hp]; omega
theorem cntP_n {p : Nat → Prop} : ∀ n, cntP p n ≤ n
  | 0 => Nat.le_refl _
  | n + 1 => by
    have := cntP_n (p := p) n
    unfold cntP
    split <;> omega
theorem cntP_pos {p : Nat → Prop} {x : Nat} (hx : p x) : ∀ n, x < n → 0 < cntP p n
  | n + 1, hn => by
    unfold cntP
    by_cases e : x = n
    · subst e; rw [if_pos hx]; omega
    · have := cntP_pos hx n (by omega); omega
/-- once no step leads further, none ever does -/
theorem Wk_stop {E : Nat → Nat → Prop} {N a k : Nat} (h : ∀ f, f < N → Wk E N a (k + 1) f → Wk E N a k f) : ∀ n f, f < N → Wk E N a (k + n) f → Wk E N a k f
  | 0, f, _, hw => hw
  | n + 1, f, hf, hw => by
    rcases hw with hw | ⟨g, g1, g2, g3⟩
    · exact Wk_stop h n f hf hw
    · exact h f hf (Or.inr ⟨g, g1, g2, Wk_stop h n g g1 g3⟩)
theorem Wk_cnt {E : Nat → Nat → Prop} {N a : Nat} (ha : a < N) : ∀ k, (∃ j, j ≤ k ∧ ∀ f, f < N → Wk E N a (j + 1) f → Wk E N a j f) ∨ k + 1 ≤ cntP (Wk E N a k) N
  | 0 => Or.inr (cntP_pos (p := Wk E N a 0) (x := a) rfl N ha)
  | k + 1 => by
    rcases Wk_cnt (E := E) ha k with ⟨j, j1, j2⟩ | h
    · exact Or.inl ⟨j, by omega, j2⟩
    · by_cases q : ∀ f, f < N → Wk E N a (k + 1) f → Wk E N a k f
      · exact Or.inl ⟨k, by omega, q⟩
      · have ex : ∃ f, f < N ∧ Wk E N a (k + 1) f ∧ ¬ Wk E N a k f := Classical.byContradiction (fun z => q (fun f hf hw => Classical.byContradiction (fun y => z ⟨f, hf, hw, y⟩)))
        obtain ⟨f, f1, f2, f3⟩ := ex
        have := cntP_lt (p := Wk E N a k) (q := Wk E N a (k + 1)) (fun f h => Or.inl h) f2 f3 N f1
        exact Or.inr (by omega)
/-- a walk is never longer than the families allow -/
theorem Wk_bd {E : Nat → Nat → Prop} {N a n f : Nat} (ha : a < N) (hf : f < N) (h : Wk E N a n f) : Wk E N a (N - 1) f := by
  by_cases hn : n ≤ N - 1
  · exact Wk_mono hn h
  · rcases Wk_cnt (E := E) ha (N - 1) with ⟨j, j1, j2⟩ | q
    · have := Wk_stop j2 (n - j) f hf (by rw [show j + (n - j) = n by omega]; exact h)
      exact Wk_mono j1 this
    · refine Classical.byContradiction (fun z => ?_)
      have := cntP_lt (p := Wk E N a (N - 1)) (q := fun _ => True) (fun _ _ => trivial) (x := f) trivial z N hf
      have := cntP_n (p := fun _ => True) N
      omega
/-- D f: the length of the shortest walk from f (B where there is none) -/
def isD (E : Nat → Nat → Prop) (N a B : Nat) (D : Nat → Nat) : Prop := ∀ f, f < N → (D f < N → Wk E N a (D f) f) ∧ (∀ k, Wk E N a k f → D f ≤ k) ∧ (¬ D f < N → D f = B)
theorem isD_lt {E : Nat → Nat → Prop} {N a B f k : Nat} {D : Nat → Nat} (h : isD E N a B D) (ha : a < N) (hf : f < N) (hw : Wk E N a k f) : D f < N := by
  have := (h f hf).2.1 _ (Wk_bd ha hf hw)
  omega
theorem isD_eq {E : Nat → Nat → Prop} {N a B B' f : Nat} {D D' : Nat → Nat} (h : isD E N a B D) (h' : isD E N a B' D') (ha : a < N) (hf : f < N) : (D f < N ↔ D' f < N) ∧ (D f < N → D f = D' f) := by
  have k1 : D f < N → D' f ≤ D f := fun q => (h' f hf).2.1 _ ((h f hf).1 q)
  have k2 : D' f < N → D f ≤ D' f := fun q => (h f hf).2.1 _ ((h' f hf).1 q)
  refine ⟨⟨fun q => ?_, fun q => ?_⟩, fun q => ?_⟩
  · have := k1 q; omega
  · have := k2 q; omega
  · have a1 := k1 q
    have a2 := k2 (by omega)
    omega
theorem isD_a {E : Nat → Nat → Prop} {N a B : Nat} {D : Nat → Nat} (h : isD E N a B D) (ha : a < N) : D a = 0 := Nat.le_zero.mp ((h a ha).2.1 0 rfl)
/-- one debt further -/
theorem isD_step {E : Nat → Nat → Prop} {N a B f g : Nat} {D : Nat → Nat} (h : isD E N a B D) (hf : f < N) (hg : g < N) (he : E f g) (hd : D g < N) : D f ≤ D g + 1 := (h f hf).2.1 (D g + 1) (Or.inr ⟨g, hg, he, (h g hg).1 hd⟩)
theorem isD_next {E : Nat → Nat → Prop} {N a B f : Nat} {D : Nat → Nat} (h : isD E N a B D) (ha : a < N) (hf : f < N) (hd : D f < N) (h0 : 0 < D f) : ∃ g, g < N ∧ E f g ∧ D g = D f - 1 := by
  have w := (h f hf).1 hd
  obtain ⟨n, hn⟩ : ∃ n, D f = n + 1 := ⟨D f - 1, by omega⟩
  rw [hn] at w
  rcases w with w | ⟨g, g1, g2, g3⟩
  · have := (h f hf).2.1 n w
    omega
  · have a1 := (h g g1).2.1 n g3
    have a2 := isD_step h hf g1 g2 (by omega)
    exact ⟨g, g1, g2, by omega⟩
