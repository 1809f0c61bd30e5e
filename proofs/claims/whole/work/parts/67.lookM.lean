/-! days ahead: mathematics -/
def dyL (K e z : Nat) (B : Nat → Nat) (f : Nat) : (Nat → Nat) × Nat := eatF K (updN B 0 (B 0 + f * z)) e
def stR (K e z : Nat) (B : Nat → Nat) : Nat → Nat → Nat → Nat
  | 0, _ => B
  | k + 1, P => ageF K (dyL K e z (stR K e z B k (P / 3)) (P % 3)).1
def HR (K e z : Nat) (B : Nat → Nat) : Nat → Nat → Nat
  | 0, _ => 0
  | k + 1, P => HR K e z B k (P / 3) + (dyL K e z (stR K e z B k (P / 3)) (P % 3)).2
def SR (K e z : Nat) (B : Nat → Nat) : Nat → Nat → Nat
  | 0, _ => 0
  | k + 1, P => SR K e z B k (P / 3) + (dyL K e z (stR K e z B k (P / 3)) (P % 3)).1 (K - 1)
def FR : Nat → Nat → Nat
  | 0, _ => 0
  | k + 1, P => FR k (P / 3) + P % 3
def dg : Nat → Nat → Nat → Nat
  | 0, _, _ => 0
  | k + 1, P, j => if j = k then P % 3 else dg k (P / 3) j
def scR (b K e z : Nat) (B : Nat → Nat) (k P : Nat) : Nat := HR K e z B k P * 2 ^ 40 + b * (SR K e z B k P * 2 ^ 4) + FR k P
theorem stR_ok {K e z M : Nat} {B : Nat → Nat} (hK1 : 1 ≤ K) (hK5 : K ≤ 5) (hz : z ≤ 60) (hB : ∀ a, a < 5 → B a ≤ M) (h0 : ∀ a, K ≤ a → a < 5 → B a = 0) : ∀ k P, (∀ a, a < 5 → stR K e z B k P a ≤ M + 120 * k) ∧ (∀ a, K ≤ a → a < 5 → stR K e z B k P a = 0)
  | 0, P => ⟨hB, h0⟩
  | k + 1, P => by
    obtain ⟨h1, h2⟩ := stR_ok (e := e) hK1 hK5 hz hB h0 k (P / 3)
    have hm : P % 3 * z ≤ 2 * 60 := Nat.mul_le_mul (by omega) hz
    have up : ∀ a, a < 5 → updN (stR K e z B k (P / 3)) 0 (stR K e z B k (P / 3) 0 + P % 3 * z) a ≤ M + 120 * (k + 1) := fun a ha => by
      unfold updN
      split
      · have := h1 0 (by omega); omega
      · have := h1 a ha; omega
    have upz : ∀ a, K ≤ a → a < 5 → updN (stR K e z B k (P / 3)) 0 (stR K e z B k (P / 3) 0 + P % 3 * z) a = 0 := fun a ha hb => by
      unfold updN
      rw [if_neg (by omega)]
      exact h2 a ha hb
    have le := (eatF_le K (updN (stR K e z B k (P / 3)) 0 (stR K e z B k (P / 3) 0 + P % 3 * z)) e).1
    refine ⟨fun a ha => ?_, fun a ha hb => ?_⟩
    · show ageF K _ a ≤ _
      unfold ageF
      split
      · omega
      · split
        · exact Nat.le_trans (le _) (up _ (by omega))
        · exact Nat.le_trans (le _) (up _ ha)
    · show ageF K _ a = 0
      unfold ageF
      rw [if_neg (by omega), if_neg (by omega)]
      exact Nat.le_zero.mp (Nat.le_trans (le _) (Nat.le_of_eq (upz a ha hb)))
theorem dy_bd {K e z M : Nat} {B : Nat → Nat} (hK1 : 1 ≤ K) (hK5 : K ≤ 5) (hz : z ≤ 60) (hB : ∀ a, a < 5 → B a ≤ M) (f : Nat) (hf : f < 3) : (∀ a, a < 5 → updN B 0 (B 0 + f * z) a ≤ M + 120) ∧ (dyL K e z B f).2 ≤ e ∧ ∀ a, a < 5 → (dyL K e z B f).1 a ≤ M + 120 := by
  have hm : f * z ≤ 2 * 60 := Nat.mul_le_mul (by omega) hz
  have up : ∀ a, a < 5 → updN B 0 (B 0 + f * z) a ≤ M + 120 := fun a ha => by
    unfold updN
    split
    · have := hB 0 (by omega); omega
    · have := hB a ha; omega
  have le := eatF_le K (updN B 0 (B 0 + f * z)) e
  exact ⟨up, le.2, fun a ha => Nat.le_trans (le.1 a) (up a ha)⟩
theorem scR_bd {K e z M : Nat} {B : Nat → Nat} (hK1 : 1 ≤ K) (hK5 : K ≤ 5) (hz : z ≤ 60) (hB : ∀ a, a < 5 → B a ≤ M) (h0 : ∀ a, K ≤ a → a < 5 → B a = 0) : ∀ k P, HR K e z B k P ≤ e * k ∧ SR K e z B k P ≤ (M + 120 * k) * k ∧ FR k P ≤ 2 * k
  | 0, P => ⟨Nat.zero_le _, Nat.zero_le _, Nat.zero_le _⟩
  | k + 1, P => by
    obtain ⟨h1, h2, h3⟩ := scR_bd (e := e) hK1 hK5 hz hB h0 k (P / 3)
    obtain ⟨s1, s2⟩ := stR_ok (e := e) hK1 hK5 hz hB h0 k (P / 3)
    obtain ⟨d1, d2, d3⟩ := dy_bd (e := e) hK1 hK5 hz s1 (P % 3) (by omega)
    have d4 := d3 (K - 1) (by omega)
    refine ⟨?_, ?_, ?_⟩
    · show _ + _ ≤ _
      rw [Nat.mul_succ]; omega
    · show SR K e z B k (P / 3) + (dyL K e z (stR K e z B k (P / 3)) (P % 3)).1 (K - 1) ≤ _
      rw [Nat.mul_succ]
      have : (M + 120 * k) * k ≤ (M + 120 * (k + 1)) * k := Nat.mul_le_mul_right _ (by omega)
      omega
    · show FR k (P / 3) + P % 3 ≤ _
      omega
theorem scR_step (b K e z : Nat) (B : Nat → Nat) (k P f : Nat) (hf : f < 3) : scR b K e z B (k + 1) (3 * P + f) = scR b K e z B k P + ((dyL K e z (stR K e z B k P) f).2 * 2 ^ 40 + b * ((dyL K e z (stR K e z B k P) f).1 (K - 1) * 2 ^ 4) + f) := by
  unfold scR
  show (HR K e z B k ((3 * P + f) / 3) + (dyL K e z (stR K e z B k ((3 * P + f) / 3)) ((3 * P + f) % 3)).2) * 2 ^ 40 + b * ((SR K e z B k ((3 * P + f) / 3) + (dyL K e z (stR K e z B k ((3 * P + f) / 3)) ((3 * P + f) % 3)).1 (K - 1)) * 2 ^ 4) + (FR k ((3 * P + f) / 3) + (3 * P + f) % 3) = _
  rw [show (3 * P + f) / 3 = P by omega, show (3 * P + f) % 3 = f by omega, Nat.add_mul, Nat.add_mul, Nat.mul_add]
  omega
theorem scR_up (b K e z : Nat) (B : Nat → Nat) (k : Nat) : ∀ r P c, P * 3 ^ r ≤ c → c < (P + 1) * 3 ^ r → scR b K e z B k P ≤ scR b K e z B (k + r) c
  | 0, P, c, h1, h2 => by
    rw [Nat.pow_zero, Nat.mul_one] at h1 h2
    rw [show c = P by omega]
    exact Nat.le_refl _
  | r + 1, P, c, h1, h2 => by
    have e1 : 3 ^ (r + 1) = 3 * 3 ^ r := by rw [Nat.pow_succ, Nat.mul_comm]
    have q1 : P * 3 ^ r ≤ c / 3 := by
      rw [e1, Nat.mul_left_comm] at h1
      omega
    have q2 : c / 3 < (P + 1) * 3 ^ r := by
      rw [e1, Nat.mul_left_comm] at h2
      omega
    have ih := scR_up b K e z B k r P (c / 3) q1 q2
    have st := scR_step b K e z B (k + r) (c / 3) (c % 3) (by omega)
    rw [show 3 * (c / 3) + c % 3 = c by omega] at st
    rw [← Nat.add_assoc, st]
    omega
/-- the least of the first so many, and which it is -/
def mnC (sc : Nat → Nat) : Nat → Nat
  | 0 => 4611686018427387904
  | c + 1 => min (mnC sc c) (sc c)
def amC (sc : Nat → Nat) : Nat → Nat
  | 0 => 0
  | c + 1 => if sc c < mnC sc c then c else amC sc c
theorem mnC_blk {sc : Nat → Nat} {a : Nat} : ∀ m, (∀ c, a ≤ c → c < a + m → mnC sc a ≤ sc c) → mnC sc (a + m) = mnC sc a ∧ amC sc (a + m) = amC sc a
  | 0, _ => ⟨rfl, rfl⟩
  | m + 1, h => by
    obtain ⟨h1, h2⟩ := mnC_blk m (fun c h3 h4 => h c h3 (by omega))
    have := h (a + m) (by omega) (by omega)
    refine ⟨?_, ?_⟩
    · show min (mnC sc (a + m)) (sc (a + m)) = _
      omega
    · show (if sc (a + m) < mnC sc (a + m) then a + m else amC sc (a + m)) = _
      rw [if_neg (by omega)]; exact h2
theorem mnC_le {sc : Nat → Nat} : ∀ c, mnC sc c ≤ 4611686018427387904
  | 0 => Nat.le_refl _
  | c + 1 => by
    have := mnC_le (sc := sc) c
    show min (mnC sc c) (sc c) ≤ _
    omega
theorem mnC_at {sc : Nat → Nat} (hs : ∀ c, sc c < 4611686018427387904) : ∀ c, 0 < c → mnC sc c = sc (amC sc c) ∧ amC sc c < c
  | c + 1, _ => by
    show min (mnC sc c) (sc c) = sc (if sc c < mnC sc c then c else amC sc c) ∧ (if sc c < mnC sc c then c else amC sc c) < c + 1
    by_cases q : sc c < mnC sc c
    · rw [if_pos q]
      exact ⟨by omega, by omega⟩
    · rw [if_neg q]
      by_cases c0 : c = 0
      · subst c0
        have := hs 0
        exact absurd this q
      · obtain ⟨h1, h2⟩ := mnC_at hs c (by omega)
        exact ⟨by omega, by omega⟩
/-- the least score tells hunger, stale and fires -/
theorem dg_child (k P f j : Nat) (hf : f < 3) (hj : j < k) : dg (k + 1) (3 * P + f) j = dg k P j := by
  show (if j = k then _ else dg k ((3 * P + f) / 3) j) = _
  rw [if_neg (by omega), show (3 * P + f) / 3 = P by omega]
theorem dg_last (k P f : Nat) (hf : f < 3) : dg (k + 1) (3 * P + f) k = f := by
  show (if k = k then (3 * P + f) % 3 else _) = _
  rw [if_pos rfl]
  omega
theorem pf_child (k j P f : Nat) (hf : f < 3) (hj : j ≤ k) : (3 * P + f) / 3 ^ (k + 1 - j) = P / 3 ^ (k - j) := by
  rw [show k + 1 - j = (k - j) + 1 by omega, Nat.pow_succ, Nat.mul_comm (3 ^ (k - j)) 3, ← Nat.div_div_eq_div_mul, show (3 * P + f) / 3 = P by omega]
