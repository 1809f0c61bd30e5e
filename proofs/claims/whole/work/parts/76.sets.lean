/-! sets: the lowest family, parts in falling order -/
set_option maxRecDepth 20000
theorem or_add : ∀ (n a b : Nat), a < 2 ^ n → b < 2 ^ n → a &&& b = 0 → a ||| b = a + b
  | 0, a, b, ha, hb, _ => by
    rw [Nat.pow_zero] at ha hb
    rw [show a = 0 by omega, show b = 0 by omega]; rfl
  | n + 1, a, b, ha, hb, h => by
    rw [Nat.pow_succ] at ha hb
    have h2 : a / 2 &&& b / 2 = 0 := by rw [← Nat.and_div_two, h]
    have ih := or_add n (a / 2) (b / 2) (by omega) (by omega) h2
    have e1 : (a ||| b) / 2 = a / 2 + b / 2 := by rw [Nat.or_div_two, ih]
    have t1 := Nat.testBit_or a b 0
    have t2 : (a &&& b).testBit 0 = false := by rw [h]; exact Nat.zero_testBit 0
    rw [Nat.testBit_and] at t2
    simp only [Nat.testBit_zero] at t1 t2
    rcases Nat.mod_two_eq_zero_or_one a with x | x <;> rcases Nat.mod_two_eq_zero_or_one b with y | y <;> rcases Nat.mod_two_eq_zero_or_one (a ||| b) with z | z <;> simp [x, y, z] at t1 t2 <;> omega
theorem sub_le {x s : Nat} (h : x &&& s = x) : x ≤ s := by rw [← h]; exact Nat.and_le_right
theorem dec_sub : ∀ (n s x y : Nat), s < 2 ^ n → x &&& s = x → y &&& s = y → y < x → y ≤ x - 1 &&& s
  | 0, s, x, y, hs, hx, hy, h => by
    rw [Nat.pow_zero] at hs
    have := sub_le hx
    omega
  | n + 1, s, x, y, hs, hx, hy, h => by
    rw [Nat.pow_succ] at hs
    have x2 : x / 2 &&& s / 2 = x / 2 := by rw [← Nat.and_div_two, hx]
    have y2 : y / 2 &&& s / 2 = y / 2 := by rw [← Nat.and_div_two, hy]
    have d : (x - 1 &&& s) / 2 = (x - 1) / 2 &&& s / 2 := Nat.and_div_two
    by_cases b : x % 2 = 1
    · rw [show (x - 1) / 2 = x / 2 by omega, x2] at d
      omega
    · have ih := dec_sub n (s / 2) (x / 2) (y / 2) (by omega) x2 y2 (by omega)
      rw [show (x - 1) / 2 = x / 2 - 1 by omega] at d
      have t1 := Nat.testBit_and (x - 1) s 0
      have t2 : y.testBit 0 = (y &&& s).testBit 0 := by rw [hy]
      rw [Nat.testBit_and] at t2
      simp only [Nat.testBit_zero] at t1 t2
      have o : (x - 1) % 2 = 1 := by omega
      rcases Nat.mod_two_eq_zero_or_one s with q | q <;> rcases Nat.mod_two_eq_zero_or_one y with z | z <;> rcases Nat.mod_two_eq_zero_or_one (x - 1 &&& s) with w | w <;> simp [o, q, z, w] at t1 t2 <;> omega
def lowN (s : Nat) : Nat := s &&& (1024 - s)
theorem low_I : ∀ s, s < 1024 → nI s &&& -(nI s) = nI (lowN s) := by decide +kernel
theorem low_p : ∀ s, s < 1024 → 0 < s → lowN s = 2 ^ (lowN s).log2 ∧ (lowN s).log2 < 10 ∧ s.testBit (lowN s).log2 = true ∧ s ^^^ lowN s = s - lowN s ∧ lowN s ≤ s ∧ (s - lowN s) &&& lowN s = 0 ∧ (s - lowN s) &&& s = s - lowN s := by decide +kernel
/-- the parts of a set that hold its lowest family -/
def pA (s x : Nat) : Prop := x &&& s = x ∧ x &&& lowN s ≠ 0
theorem pA_bit {s x : Nat} (hs : s < 1024) (h0 : 0 < s) (h : pA s x) : x.testBit (lowN s).log2 = true := by
  obtain ⟨i, i1, i2⟩ := and_ne.mp h.2
  rw [(low_p s hs h0).1, Nat.testBit_two_pow] at i2
  rw [show (lowN s).log2 = i by simpa using i2]
  exact i1
theorem pA_low {s x : Nat} (hs : s < 1024) (h0 : 0 < s) (h : pA s x) : lowN s ≤ x := by
  rw [(low_p s hs h0).1]
  exact Nat.ge_two_pow_of_testBit (pA_bit hs h0 h)
theorem pA_self {s : Nat} (hs : s < 1024) (h0 : 0 < s) : pA s s := ⟨Nat.and_self s, by
  refine and_ne.mpr ⟨(lowN s).log2, (low_p s hs h0).2.2.1, ?_⟩
  conv => lhs; arg 1; rw [(low_p s hs h0).1]
  rw [Nat.testBit_two_pow_self]⟩
/-- a fold over numbers from s downwards -/
noncomputable def fd (p : Nat → Prop) (g : Nat → Int32 → Int32) (v : Int32) : Nat → Nat → Int32
  | 0, _ => v
  | n + 1, x => by
    classical
    exact if p x then g x (fd p g v n (x + 1)) else fd p g v n (x + 1)
noncomputable def fE (p : Nat → Prop) (g : Nat → Int32 → Int32) (v : Int32) (s x : Nat) : Int32 := fd p g v (s + 1 - x) x
theorem fE_top {p : Nat → Prop} {g : Nat → Int32 → Int32} {v : Int32} {s : Nat} : fE p g v s (s + 1) = v := by
  unfold fE
  rw [Nat.sub_self]; rfl
theorem fE_y {p : Nat → Prop} {g : Nat → Int32 → Int32} {v : Int32} {s x : Nat} (h : x ≤ s) (hp : p x) : fE p g v s x = g x (fE p g v s (x + 1)) := by
  unfold fE
  rw [show s + 1 - x = (s + 1 - (x + 1)) + 1 by omega]
  exact if_pos hp
theorem fE_n {p : Nat → Prop} {g : Nat → Int32 → Int32} {v : Int32} {s x : Nat} (h : x ≤ s) (hp : ¬ p x) : fE p g v s x = fE p g v s (x + 1) := by
  unfold fE
  rw [show s + 1 - x = (s + 1 - (x + 1)) + 1 by omega]
  exact if_neg hp
theorem fE_skip {p : Nat → Prop} {g : Nat → Int32 → Int32} {v : Int32} {s : Nat} : ∀ (n x : Nat), x + n ≤ s + 1 → (∀ y, x ≤ y → y < x + n → ¬ p y) → fE p g v s x = fE p g v s (x + n)
  | 0, _, _, _ => rfl
  | n + 1, x, h, hp => by
    rw [fE_n (by omega) (hp x (by omega) (by omega)), fE_skip n (x + 1) (by omega) (fun y q1 q2 => hp y (by omega) (by omega))]
    congr 1; omega
/-- the next part below x that the loop goes to: nothing lies between -/
theorem fE_next {p : Nat → Prop} {g : Nat → Int32 → Int32} {v : Int32} {s x : Nat} (hs : s < 1024) (hx : x &&& s = x) (h0 : 0 < x) (hp : ∀ y, p y → y &&& s = y) : (x - 1 &&& s) < x ∧ (x - 1 &&& s) &&& s = (x - 1 &&& s) ∧ fE p g v s ((x - 1 &&& s) + 1) = fE p g v s x := by
  have le : (x - 1 &&& s) ≤ x - 1 := Nat.and_le_left
  have xs := sub_le hx
  refine ⟨by omega, by rw [Nat.and_assoc, Nat.and_self], ?_⟩
  have := fE_skip (p := p) (g := g) (v := v) (s := s) (x - ((x - 1 &&& s) + 1)) ((x - 1 &&& s) + 1) (by omega) (fun y q1 q2 q => by
    have := dec_sub 10 s x y hs hx (hp y q) (by omega)
    omega)
  rw [this]
  congr 1; omega
/-- two folds over the same parts keep a relation -/
theorem fE_rel {p : Nat → Prop} {g g' : Nat → Int32 → Int32} {v v' : Int32} {s : Nat} {R : Int32 → Int32 → Prop} (h0 : R v v') (h : ∀ x a b, x ≤ s → p x → R a b → R (g x a) (g' x b)) : ∀ n x, x + n = s + 1 → R (fE p g v s x) (fE p g' v' s x)
  | 0, x, e => by
    rw [show x = s + 1 by omega, fE_top, fE_top]; exact h0
  | n + 1, x, e => by
    have ih := fE_rel h0 h n (x + 1) (by omega)
    by_cases q : p x
    · rw [fE_y (by omega) q, fE_y (by omega) q]
      exact h x _ _ (by omega) q ih
    · rw [fE_n (by omega) q, fE_n (by omega) q]
      exact ih
