/-! reading a memory behind a store -/
theorem mxa : (∀ (σ : Mm) (a k : Nat) (v : Int32) (b : Nat), kd (sI σ a k v) b = kd σ b) ∧ (∀ (σ : Mm) (a k : Nat) (v : Int64) (b : Nat), kd (sL σ a k v) b = kd σ b) ∧ (∀ (σ : Mm) (a k : Nat) (v : Option Nat) (b : Nat), kd (sR σ a k v) b = kd σ b) ∧ (∀ (σ : Mm) (a : Nat) (f : Nat → Int32) (b : Nat), kd (rI σ a f) b = kd σ b) ∧ (∀ (σ : Mm) (a : Nat) (f : Nat → Int64) (b : Nat), kd (rL σ a f) b = kd σ b)
  ∧ (∀ (σ : Mm) (a k : Nat) (v : Int32) (b j : Nat), gR (sI σ a k v) b j = gR σ b j) ∧ (∀ (σ : Mm) (a k : Nat) (v : Int64) (b j : Nat), gR (sL σ a k v) b j = gR σ b j) ∧ (∀ (σ : Mm) (a : Nat) (f : Nat → Int32) (b j : Nat), gR (rI σ a f) b j = gR σ b j) ∧ (∀ (σ : Mm) (a : Nat) (f : Nat → Int64) (b j : Nat), gR (rL σ a f) b j = gR σ b j)
  ∧ (∀ (σ : Mm) (a k : Nat) (v : Int32) (b j : Nat), gL (sI σ a k v) b j = gL σ b j) ∧ (∀ (σ : Mm) (a k : Nat) (v : Option Nat) (b j : Nat), gL (sR σ a k v) b j = gL σ b j) ∧ (∀ (σ : Mm) (a : Nat) (f : Nat → Int32) (b j : Nat), gL (rI σ a f) b j = gL σ b j)
  ∧ (∀ (σ : Mm) (a k : Nat) (v : Int64) (b j : Nat), gI (sL σ a k v) b j = gI σ b j) ∧ (∀ (σ : Mm) (a k : Nat) (v : Option Nat) (b j : Nat), gI (sR σ a k v) b j = gI σ b j) ∧ (∀ (σ : Mm) (a : Nat) (f : Nat → Int64) (b j : Nat), gI (rL σ a f) b j = gI σ b j)
  ∧ (∀ (σ : Mm) (a k : Nat) (v : Int32), gI (sI σ a k v) a k = v) ∧ (∀ (σ : Mm) (a k : Nat) (v : Int64), gL (sL σ a k v) a k = v) ∧ (∀ (σ : Mm) (a k : Nat) (v : Option Nat), gR (sR σ a k v) a k = v) ∧ (∀ (σ : Mm) (a : Nat) (f : Nat → Int32) (j : Nat), gI (rI σ a f) a j = f j) ∧ (∀ (σ : Mm) (a : Nat) (f : Nat → Int64) (j : Nat), gL (rL σ a f) a j = f j)
  ∧ (∀ (σ : Mm) (a k : Nat) (v : Int32), (sI σ a k v).1 = σ.1) ∧ (∀ (σ : Mm) (a k : Nat) (v : Int64), (sL σ a k v).1 = σ.1) ∧ (∀ (σ : Mm) (a k : Nat) (v : Option Nat), (sR σ a k v).1 = σ.1) ∧ (∀ (σ : Mm) (a : Nat) (f : Nat → Int32), (rI σ a f).1 = σ.1) ∧ (∀ (σ : Mm) (a : Nat) (f : Nat → Int64), (rL σ a f).1 = σ.1) ∧ (∀ (σ : Mm) (q : Nat × Nat), (nw σ q).1.length = σ.1.length + 1) := by
  refine ⟨?_, ?_, ?_, ?_, ?_, ?_, ?_, ?_, ?_, ?_, ?_, ?_, ?_, ?_, ?_, ?_, ?_, ?_, ?_, ?_, ?_, ?_, ?_, ?_, ?_, ?_⟩ <;> intros <;> simp [kd, gI, gL, gR, sI, sL, sR, rI, rL, nw]
theorem gI_a {σ : Mm} {a k b j : Nat} {v : Int32} (h : b ≠ a) : gI (sI σ a k v) b j = gI σ b j := by simp [gI, sI, h]
theorem gI_k {σ : Mm} {a k b j : Nat} {v : Int32} (h : j ≠ k) : gI (sI σ a k v) b j = gI σ b j := by simp [gI, sI, h]
theorem gL_a {σ : Mm} {a k b j : Nat} {v : Int64} (h : b ≠ a) : gL (sL σ a k v) b j = gL σ b j := by simp [gL, sL, h]
theorem gL_k {σ : Mm} {a k b j : Nat} {v : Int64} (h : j ≠ k) : gL (sL σ a k v) b j = gL σ b j := by simp [gL, sL, h]
theorem gR_a {σ : Mm} {a k b j : Nat} {v : Option Nat} (h : b ≠ a) : gR (sR σ a k v) b j = gR σ b j := by simp [gR, sR, h]
theorem gR_k {σ : Mm} {a k b j : Nat} {v : Option Nat} (h : j ≠ k) : gR (sR σ a k v) b j = gR σ b j := by simp [gR, sR, h]
theorem gI_r {σ : Mm} {a b j : Nat} {f : Nat → Int32} (h : b ≠ a) : gI (rI σ a f) b j = gI σ b j := by simp [gI, rI, h]
theorem gL_r {σ : Mm} {a b j : Nat} {f : Nat → Int64} (h : b ≠ a) : gL (rL σ a f) b j = gL σ b j := by simp [gL, rL, h]
theorem kd_nw {σ : Mm} {a : Nat} {p q : Nat × Nat} (h : kd σ a = some p) : kd (nw σ q) a = some p := (kd_nw_old (kd_lt h)).trans h
theorem kd_ne {σ : Mm} {a n : Nat} {p : Nat × Nat} (h : kd σ a = some p) (hn : σ.1.length = n) : a ≠ n := fun e => by have := kd_lt h; omega
/-- a loop that counts up -/
theorem wfor (P : Nat → Prop) (n : Nat) (h : ∀ k, k < n → P (k + 1) → P k) (hn : P n) : P 0 := by
  have key : ∀ j, j ≤ n → P (n - j) := by
    intro j
    induction j with
    | zero => intro _; exact hn
    | succ j ih => intro hj; exact h (n - (j + 1)) (by omega) (by rw [show n - (j + 1) + 1 = n - j by omega]; exact ih (by omega))
  simpa using key n (Nat.le_refl n)
theorem vpd {x : Int32} {n : Nat} (h : (decide (x < 0) || decide (n ≤ x.toNatClampNeg)) = false) : vp_in x n := by
  intro q
  simp only [Bool.or_eq_false_iff, decide_eq_false_iff_not] at h
  exact q.elim h.1 h.2
