/-! sums: remainders -/
def Rc (Z : Nat → Nat) (o s : Nat) : Prop := ∃ n, Rp Z o s n
theorem Rc_zero (Z : Nat → Nat) (o : Nat) : Rc Z o 0 := ⟨0, Rp_zero Z o⟩
theorem Rc_add {Z : Nat → Nat} {o o' s : Nat} (h : o' < o) (hs : Rc Z o s) : Rc Z o (s + Z o') := by
  obtain ⟨n, hn⟩ := hs
  exact ⟨_, Rp_add h hn⟩
theorem Rc_mul {Z : Nat → Nat} {o o' s : Nat} (h : o' < o) (hs : Rc Z o s) : ∀ k, Rc Z o (s + k * Z o')
  | 0 => by rw [Nat.zero_mul]; exact hs
  | k + 1 => by rw [Nat.succ_mul, ← Nat.add_assoc]; exact Rc_add h (Rc_mul h hs k)
theorem Rc_up {Z : Nat → Nat} {o s : Nat} (h : Rc Z o s) : Rc Z (o + 1) s := by
  obtain ⟨n, hn⟩ := h
  exact ⟨n, 0, by omega, by omega, by rw [Nat.zero_mul, Nat.sub_zero, Nat.sub_zero]; exact hn⟩
theorem Rc_de {Z : Nat → Nat} {o s : Nat} (h : Rc Z (o + 1) s) : ∃ k s0, Rc Z o s0 ∧ s = s0 + k * Z o := by
  obtain ⟨n, k, h1, h2, h3⟩ := h
  exact ⟨k, s - k * Z o, ⟨_, h3⟩, by omega⟩
/-- Bezout -/
theorem bez (a b : Nat) : ∃ x y : Int, x * a + y * b = (Nat.gcd a b : Nat) := by
  induction a, b using Nat.gcd.induction with
  | H0 b => exact ⟨0, 1, by simp⟩
  | H1 a b ha ih =>
    obtain ⟨x, y, h⟩ := ih
    rw [← Nat.gcd_rec] at h
    refine ⟨y - x * ((b / a : Nat) : Int), x, ?_⟩
    rw [← h]
    have e : (b : Int) = a * ((b / a : Nat) : Int) + ((b % a : Nat) : Int) := by
      have := Nat.div_add_mod b a
      exact_mod_cast this.symm
    generalize ((b / a : Nat) : Int) = q at *
    generalize ((b % a : Nat) : Int) = r at *
    rw [e]
    grind
theorem cov_ring (q s g z' m' x y w : Int) (h : x * (g * z') + y * (g * m') = g) : s + (q * x - m' * w) * (g * z') = (g * q + s) + (g * m') * (-(q * y) - w * z') := by
  have : q * (x * (g * z') + y * (g * m')) = q * g := by rw [h]
  clear h
  grind
/-- every remainder lies on the walk from its own remainder by the common divisor -/
theorem cover {z m : Nat} (hm : 0 < m) (r : Nat) (hr : r < m) : ∃ i, i < m / Nat.gcd z m ∧ (r % Nat.gcd z m + i * z) % m = r := by
  have hg : 0 < Nat.gcd z m := Nat.gcd_pos_of_pos_right z hm
  obtain ⟨m', hm'⟩ := Nat.gcd_dvd_right z m
  obtain ⟨z', hz'⟩ := Nat.gcd_dvd_left z m
  obtain ⟨x, y, hxy⟩ := bez z m
  generalize hgg : Nat.gcd z m = g at *
  have hL : m / g = m' := by rw [hm']; exact Nat.mul_div_cancel_left m' hg
  have hm0 : 0 < m' := by
    rcases Nat.eq_zero_or_pos m' with h | h
    · rw [h, Nat.mul_zero] at hm'; omega
    · exact h
  rw [hL]
  have hi0 : 0 ≤ ((r / g : Nat) : Int) * x % (m' : Int) := Int.emod_nonneg _ (by omega)
  have hi1 : ((r / g : Nat) : Int) * x % (m' : Int) < m' := Int.emod_lt_of_pos _ (by omega)
  refine ⟨(((r / g : Nat) : Int) * x % (m' : Int)).toNat, by omega, ?_⟩
  have hi2 : (((((r / g : Nat) : Int) * x % (m' : Int)).toNat : Nat) : Int) = ((r / g : Nat) : Int) * x - m' * (((r / g : Nat) : Int) * x / m') := by
    rw [Int.toNat_of_nonneg hi0]
    have := Int.emod_add_mul_ediv (((r / g : Nat) : Int) * x) (m' : Int)
    omega
  generalize (((r / g : Nat) : Int) * x % (m' : Int)).toNat = i at *
  have hr2 : (r : Int) = g * ((r / g : Nat) : Int) + ((r % g : Nat) : Int) := by
    have := Nat.div_add_mod r g
    exact_mod_cast this.symm
  generalize ((r / g : Nat) : Int) * x / m' = w at *
  have key : (((r % g + i * z : Nat)) : Int) = (r : Int) + (m : Int) * (-(((r / g : Nat) : Int) * y) - w * z') := by
    have e1 : (m : Int) = (g : Int) * (m' : Int) := by rw [← Int.natCast_mul, ← hm']
    have e2 : (z : Int) = (g : Int) * (z' : Int) := by rw [← Int.natCast_mul, ← hz']
    rw [Int.natCast_add, Int.natCast_mul, hi2, e1, e2, hr2]
    exact cov_ring _ _ _ _ _ _ _ _ (by rw [← e1, ← e2]; exact hxy)
  have k2 : ((((r % g + i * z) % m : Nat)) : Int) = (r : Int) := by
    rw [Int.natCast_emod, key, Int.add_mul_emod_self_left]
    exact Int.emod_eq_of_lt (by omega) (by omega)
  exact_mod_cast k2
/-- a walk -/
def at' (st z m i : Nat) : Nat := (st + i * z) % m
def wkD (D : Nat → Nat) (st z m : Nat) : Nat → Nat → Nat
  | 0 => D
  | i + 1 => updN (wkD D st z m i) (at' st z m (i + 1)) (min (wkD D st z m i (at' st z m (i + 1))) (wkD D st z m i (at' st z m i) + z))
theorem at_step {st z m i : Nat} : (at' st z m i + z) % m = at' st z m (i + 1) := by
  unfold at'
  rw [Nat.mod_add_mod, Nat.succ_mul, Nat.add_assoc]
theorem wkD_le {D : Nat → Nat} {st z m : Nat} (i r : Nat) : wkD D st z m (i + 1) r ≤ wkD D st z m i r := by
  show updN _ _ _ r ≤ _
  unfold updN
  split
  · rename_i h; rw [h]; omega
  · exact Nat.le_refl _
theorem wkD_mono {D : Nat → Nat} {st z m r : Nat} (i k : Nat) : wkD D st z m (i + k) r ≤ wkD D st z m i r := by
  induction k with
  | zero => exact Nat.le_refl _
  | succ k ih => exact Nat.le_trans (wkD_le (i + k) r) ih
theorem wkD_path {D : Nat → Nat} {st z m : Nat} (i k : Nat) : wkD D st z m (i + k) (at' st z m (i + k)) ≤ D (at' st z m i) + k * z := by
  induction k with
  | zero =>
    have := wkD_mono (D := D) (st := st) (z := z) (m := m) (r := at' st z m i) 0 i
    rw [Nat.zero_add] at this
    rw [Nat.zero_mul]
    exact this
  | succ k ih =>
    have e : wkD D st z m (i + k + 1) (at' st z m (i + k + 1)) = min (wkD D st z m (i + k) (at' st z m (i + k + 1))) (wkD D st z m (i + k) (at' st z m (i + k)) + z) := if_pos rfl
    rw [← Nat.add_assoc, e, Nat.succ_mul]
    omega
def adD (D : Nat → Nat) (z m : Nat) : Nat → Nat → Nat
  | 0 => D
  | st + 1 => wkD (adD D z m st) st z m (2 * (m / Nat.gcd z m))
theorem adD_le {D : Nat → Nat} {z m : Nat} (st r : Nat) : adD D z m (st + 1) r ≤ adD D z m st r := by
  have := wkD_mono (D := adD D z m st) (st := st) (z := z) (m := m) (r := r) 0 (2 * (m / Nat.gcd z m))
  rw [Nat.zero_add] at this
  exact this
theorem adD_mono {D : Nat → Nat} {z m r : Nat} (i k : Nat) : adD D z m (i + k) r ≤ adD D z m i r := by
  induction k with
  | zero => exact Nat.le_refl _
  | succ k ih => exact Nat.le_trans (adD_le (i + k) r) ih
theorem adD_reach {D : Nat → Nat} {z m : Nat} (hm : 0 < m) (r j : Nat) (hr : r < m) (hj : j < m / Nat.gcd z m) : adD D z m (Nat.gcd z m) ((r + j * z) % m) ≤ D r + j * z := by
  have hg : 0 < Nat.gcd z m := Nat.gcd_pos_of_pos_right z hm
  obtain ⟨i, hi, ei⟩ := cover (z := z) hm r hr
  have hst : r % Nat.gcd z m < Nat.gcd z m := Nat.mod_lt _ hg
  have e1 : at' (r % Nat.gcd z m) z m i = r := ei
  have e2 : at' (r % Nat.gcd z m) z m (i + j) = (r + j * z) % m := by
    unfold at'
    rw [Nat.add_mul, ← Nat.add_assoc, ← Nat.mod_add_mod, ei]
  have p := wkD_path (D := adD D z m (r % Nat.gcd z m)) (st := r % Nat.gcd z m) (z := z) (m := m) i j
  rw [e1, e2] at p
  have q1 := wkD_mono (D := adD D z m (r % Nat.gcd z m)) (st := r % Nat.gcd z m) (z := z) (m := m) (r := (r + j * z) % m) (i + j) (2 * (m / Nat.gcd z m) - (i + j))
  rw [show i + j + (2 * (m / Nat.gcd z m) - (i + j)) = 2 * (m / Nat.gcd z m) by omega] at q1
  have q2 := adD_mono (D := D) (z := z) (m := m) (r := (r + j * z) % m) (r % Nat.gcd z m + 1) (Nat.gcd z m - (r % Nat.gcd z m + 1))
  rw [show r % Nat.gcd z m + 1 + (Nat.gcd z m - (r % Nat.gcd z m + 1)) = Nat.gcd z m by omega] at q2
  have q3 := adD_mono (D := D) (z := z) (m := m) (r := r) 0 (r % Nat.gcd z m)
  rw [Nat.zero_add] at q3
  have q4 : adD D z m (r % Nat.gcd z m + 1) ((r + j * z) % m) = wkD (adD D z m (r % Nat.gcd z m)) (r % Nat.gcd z m) z m (2 * (m / Nat.gcd z m)) ((r + j * z) % m) := rfl
  have q5 : adD D z m 0 r = D r := rfl
  omega
/-- what a finite entry says -/
def Snd (Z : Nat → Nat) (o m : Nat) (D : Nat → Nat) : Prop := ∀ r, r < m → D r ≤ 1048576 ∧ (D r < 1048576 → Rc Z o (D r) ∧ D r % m = r)
theorem wkD_snd {Z : Nat → Nat} {o o' m : Nat} {D : Nat → Nat} {st : Nat} (ho : o' < o) (hm : 0 < m) (h : Snd Z o m D) : ∀ i, Snd Z o m (wkD D st (Z o') m i)
  | 0 => h
  | i + 1 => by
    have ih := wkD_snd (st := st) ho hm h i
    intro r hr
    show updN _ _ _ r ≤ _ ∧ (updN _ _ _ r < _ → Rc Z o (updN _ _ _ r) ∧ updN _ _ _ r % m = r)
    unfold updN
    split
    · rename_i e
      have a := ih r hr
      have b := ih (at' st (Z o') m i) (Nat.mod_lt _ hm)
      rw [← e]
      refine ⟨by omega, fun q => ?_⟩
      by_cases hc : wkD D st (Z o') m i r ≤ wkD D st (Z o') m i (at' st (Z o') m i) + Z o'
      · rw [Nat.min_eq_left hc] at q ⊢
        exact a.2 q
      · rw [Nat.min_eq_right (by omega)] at q ⊢
        obtain ⟨b1, b2⟩ := b.2 (by omega)
        refine ⟨Rc_add ho b1, ?_⟩
        rw [← Nat.mod_add_mod, b2, at_step, e]
    · exact ih r hr
theorem adD_snd {Z : Nat → Nat} {o o' m : Nat} {D : Nat → Nat} (ho : o' < o) (hm : 0 < m) (h : Snd Z o m D) : ∀ n, Snd Z o m (adD D (Z o') m n)
  | 0 => h
  | n + 1 => wkD_snd ho hm (adD_snd ho hm h n) _
def Cmp (Z : Nat → Nat) (o m : Nat) (D : Nat → Nat) : Prop := ∀ s, Rc Z o s → D (s % m) ≤ s
theorem adD_cmp {Z : Nat → Nat} {o m : Nat} {D : Nat → Nat} (hm : 0 < m) (h : Cmp Z o m D) : Cmp Z (o + 1) m (adD D (Z o) m (Nat.gcd (Z o) m)) := by
  intro s hs
  obtain ⟨k, s0, h0, e⟩ := Rc_de hs
  have hg : 0 < Nat.gcd (Z o) m := Nat.gcd_pos_of_pos_right (Z o) hm
  obtain ⟨m', hm'⟩ := Nat.gcd_dvd_right (Z o) m
  obtain ⟨z', hz'⟩ := Nat.gcd_dvd_left (Z o) m
  have hL : m / Nat.gcd (Z o) m = m' := by
    have : m = Nat.gcd (Z o) m * m' := hm'
    rw [Nat.div_eq_of_eq_mul_right hg this]
  have hm0 : 0 < m' := by
    rcases Nat.eq_zero_or_pos m' with q | q
    · rw [q, Nat.mul_zero] at hm'; omega
    · exact q
  have r1 := adD_reach (D := D) (z := Z o) hm (s0 % m) (k % m') (Nat.mod_lt _ hm) (by rw [hL]; exact Nat.mod_lt _ hm0)
  have r2 := h s0 h0
  have ek : k * Z o = k % m' * Z o + m * (k / m' * z') := by
    have e1 := Nat.div_add_mod k m'
    have e2 : m' * Z o = m * z' := by
      conv => lhs; rw [hz']
      conv => rhs; rw [hm']
      rw [Nat.mul_left_comm, Nat.mul_assoc, Nat.mul_left_comm]
    conv => lhs; rw [← e1]
    rw [Nat.add_mul, Nat.add_comm, Nat.mul_comm m' (k / m'), Nat.mul_assoc, e2]
    congr 1
    exact Nat.mul_left_comm _ _ _
  have em : s % m = (s0 % m + k % m' * Z o) % m := by
    rw [Nat.mod_add_mod, e, ek, ← Nat.add_assoc, Nat.add_mul_mod_self_left]
  rw [em]
  have : k % m' * Z o ≤ k * Z o := Nat.mul_le_mul_right _ (Nat.mod_le _ _)
  omega
/-- after all ovens -/
def svD (Z : Nat → Nat) : Nat → Nat → Nat
  | 0 => fun r => if r = 0 then 0 else 1048576
  | o + 1 => adD (svD Z o) (Z (o + 1)) (Z 0) (Nat.gcd (Z (o + 1)) (Z 0))
theorem svD_ok {Z : Nat → Nat} (hm : 0 < Z 0) : ∀ o, Snd Z (o + 1) (Z 0) (svD Z o) ∧ Cmp Z (o + 1) (Z 0) (svD Z o)
  | 0 => by
    refine ⟨fun r hr => ?_, fun s hs => ?_⟩
    · show (if r = 0 then 0 else 1048576) ≤ 1048576 ∧ ((if r = 0 then 0 else 1048576) < 1048576 → Rc Z 1 (if r = 0 then 0 else 1048576) ∧ (if r = 0 then 0 else 1048576) % Z 0 = r)
      by_cases e : r = 0
      · rw [if_pos e]
        exact ⟨by omega, fun _ => ⟨Rc_zero Z 1, by rw [e, Nat.zero_mod]⟩⟩
      · rw [if_neg e]
        exact ⟨by omega, fun q => absurd q (by omega)⟩
    · obtain ⟨k, s0, ⟨n, h0, -⟩, e⟩ := Rc_de hs
      show (if s % Z 0 = 0 then 0 else 1048576) ≤ s
      rw [if_pos (by rw [e, h0, Nat.zero_add, Nat.mul_mod_left])]
      exact Nat.zero_le _
  | o + 1 => by
    obtain ⟨h1, h2⟩ := svD_ok hm o
    refine ⟨adD_snd (o' := o + 1) (by omega) hm (fun r hr => ⟨(h1 r hr).1, fun q => ⟨Rc_up ((h1 r hr).2 q).1, ((h1 r hr).2 q).2⟩⟩) _, adD_cmp hm h2⟩
theorem baked {Z : Nat → Nat} {o s : Nat} (hm : 0 < Z 0) (hs : s < 1048576) : svD Z o (s % Z 0) ≤ s ↔ Rc Z (o + 1) s := by
  obtain ⟨h1, h2⟩ := svD_ok hm o
  refine ⟨fun q => ?_, fun q => h2 s q⟩
  obtain ⟨a, b⟩ := (h1 (s % Z 0) (Nat.mod_lt _ hm)).2 (by omega)
  have e : ∃ k, s = svD Z o (s % Z 0) + k * Z 0 := by
    refine ⟨(s - svD Z o (s % Z 0)) / Z 0, ?_⟩
    have d : (s - svD Z o (s % Z 0)) % Z 0 = 0 := Nat.sub_mod_eq_zero_of_mod_eq b.symm
    have := Nat.div_add_mod (s - svD Z o (s % Z 0)) (Z 0)
    rw [d, Nat.mul_comm] at this
    omega
  obtain ⟨k, hk⟩ := e
  rw [hk]
  exact Rc_mul (by omega) a k
