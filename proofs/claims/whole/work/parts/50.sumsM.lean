/-! sums: mathematics. Rp Z o s n: s is a sum of n sizes of the first o -/
def Rp (Z : Nat → Nat) : Nat → Nat → Nat → Prop
  | 0, s, n => s = 0 ∧ n = 0
  | o + 1, s, n => ∃ k, k * Z o ≤ s ∧ k ≤ n ∧ Rp Z o (s - k * Z o) (n - k)
theorem Rp_zero (Z : Nat → Nat) : ∀ o, Rp Z o 0 0
  | 0 => ⟨rfl, rfl⟩
  | o + 1 => ⟨0, by omega, by omega, by simpa using Rp_zero Z o⟩
theorem Rp_add {Z : Nat → Nat} {o' : Nat} : ∀ {o s n : Nat}, o' < o → Rp Z o s n → Rp Z o (s + Z o') (n + 1)
  | 0, _, _, h, _ => absurd h (by omega)
  | o + 1, s, n, h, ⟨k, h1, h2, h3⟩ => by
    by_cases e : o' = o
    · subst e
      refine ⟨k + 1, ?_, by omega, ?_⟩
      · rw [Nat.succ_mul]; omega
      · rw [Nat.succ_mul, show s + Z o' - (k * Z o' + Z o') = s - k * Z o' by omega, show n + 1 - (k + 1) = n - k by omega]; exact h3
    · refine ⟨k, by omega, by omega, ?_⟩
      have := Rp_add (Z := Z) (o' := o') (show o' < o by omega) h3
      rw [show s + Z o' - k * Z o = s - k * Z o + Z o' by omega, show n + 1 - k = n - k + 1 by omega]; exact this
theorem Rp_sub {Z : Nat → Nat} : ∀ {o s n : Nat}, Rp Z o s n → 0 < s → ∃ o', o' < o ∧ Z o' ≤ s ∧ 1 ≤ n ∧ Rp Z o (s - Z o') (n - 1)
  | 0, s, n, h, hs => absurd h.1 (by omega)
  | o + 1, s, n, ⟨k, h1, h2, h3⟩, hs => by
    cases k with
    | zero =>
      rw [Nat.zero_mul, Nat.sub_zero, Nat.sub_zero] at h3
      obtain ⟨o', q1, q2, q3, q4⟩ := Rp_sub h3 hs
      exact ⟨o', by omega, q2, q3, 0, by omega, by omega, by rw [Nat.zero_mul, Nat.sub_zero, Nat.sub_zero]; exact q4⟩
    | succ k =>
      rw [Nat.succ_mul] at h1 h3
      refine ⟨o, by omega, by omega, by omega, k, by omega, by omega, ?_⟩
      rw [show s - Z o - k * Z o = s - (k * Z o + Z o) by omega, show n - 1 - k = n - (k + 1) by omega]; exact h3
theorem Rp_le {Z : Nat → Nat} : ∀ {o s n : Nat}, (∀ o', o' < o → 1 ≤ Z o') → Rp Z o s n → n ≤ s
  | 0, s, n, _, h => by have := h.1; have := h.2; omega
  | o + 1, s, n, hZ, ⟨k, h1, h2, h3⟩ => by
    have := Rp_le (fun o' h => hZ o' (by omega)) h3
    have : k ≤ k * Z o := Nat.le_mul_of_pos_right k (hZ o (by omega))
    omega
def wy (Z : Nat → Nat) : Nat → Nat → Nat
  | 0, s => if s = 0 then 1 else 0
  | o + 1, s => wy Z o s + if 1 ≤ Z o ∧ Z o ≤ s then wy Z (o + 1) (s - Z o) else 0
termination_by o s => (o, s)
decreasing_by
  · exact Prod.Lex.left _ _ (by omega)
  · rename_i h
    exact Prod.Lex.right _ (by omega)
def fw (Z : Nat → Nat) : Nat → Nat → Nat
  | 0, s => if s = 0 then 0 else 9801
  | o + 1, s => if 1 ≤ Z o ∧ Z o ≤ s then min (fw Z o s) (fw Z (o + 1) (s - Z o) + 1) else fw Z o s
termination_by o s => (o, s)
decreasing_by
  · exact Prod.Lex.left _ _ (by omega)
  · rename_i h
    exact Prod.Lex.right _ (by omega)
  · exact Prod.Lex.left _ _ (by omega)
theorem wy_lt {Z : Nat → Nat} {o s : Nat} (h : s < Z o) : wy Z (o + 1) s = wy Z o s := by
  rw [wy, if_neg (by omega), Nat.add_zero]
theorem wy_ge {Z : Nat → Nat} {o s : Nat} (h1 : 1 ≤ Z o) (h : Z o ≤ s) : wy Z (o + 1) s = wy Z o s + wy Z (o + 1) (s - Z o) := by
  rw [wy, if_pos ⟨h1, h⟩]
theorem fw_lt {Z : Nat → Nat} {o s : Nat} (h : s < Z o) : fw Z (o + 1) s = fw Z o s := by
  rw [fw, if_neg (by omega)]
theorem fw_ge {Z : Nat → Nat} {o s : Nat} (h1 : 1 ≤ Z o) (h : Z o ≤ s) : fw Z (o + 1) s = min (fw Z o s) (fw Z (o + 1) (s - Z o) + 1) := by
  rw [fw, if_pos ⟨h1, h⟩]
theorem wy_pos {Z : Nat → Nat} : ∀ (o s : Nat), (∀ o', o' < o → 1 ≤ Z o') → (0 < wy Z o s ↔ ∃ n, Rp Z o s n) := by
  intro o
  induction o with
  | zero =>
    intro s _
    rw [wy]
    by_cases h : s = 0
    · rw [if_pos h]; exact ⟨fun _ => ⟨0, h, rfl⟩, fun _ => by omega⟩
    · rw [if_neg h]; exact ⟨fun q => absurd q (by omega), fun ⟨n, q, _⟩ => absurd q h⟩
  | succ o ih =>
    intro s
    induction s using Nat.strongRecOn with
    | _ s ihs =>
      intro hZ
      have i0 := ih s (fun o' h => hZ o' (by omega))
      have h1 := hZ o (by omega)
      by_cases h : Z o ≤ s
      · rw [wy_ge h1 h]
        have i1 := ihs (s - Z o) (by omega) hZ
        constructor
        · intro q
          by_cases q0 : 0 < wy Z o s
          · obtain ⟨n, hn⟩ := i0.mp q0
            exact ⟨n, 0, by omega, by omega, by rw [Nat.zero_mul, Nat.sub_zero, Nat.sub_zero]; exact hn⟩
          · obtain ⟨n, hn⟩ := i1.mp (by omega)
            have := Rp_add (o' := o) (show o < o + 1 by omega) hn
            rw [show s - Z o + Z o = s by omega] at this
            exact ⟨_, this⟩
        · rintro ⟨n, k, k1, k2, k3⟩
          cases k with
          | zero =>
            rw [Nat.zero_mul, Nat.sub_zero, Nat.sub_zero] at k3
            have := i0.mpr ⟨_, k3⟩
            omega
          | succ k =>
            rw [Nat.succ_mul] at k1 k3
            have := i1.mpr ⟨n - 1, k, by omega, by omega, by rw [show s - Z o - k * Z o = s - (k * Z o + Z o) by omega, show n - 1 - k = n - (k + 1) by omega]; exact k3⟩
            omega
      · rw [wy_lt (by omega), i0]
        constructor
        · rintro ⟨n, hn⟩
          exact ⟨n, 0, by omega, by omega, by rw [Nat.zero_mul, Nat.sub_zero, Nat.sub_zero]; exact hn⟩
        · rintro ⟨n, k, k1, k2, k3⟩
          cases k with
          | zero =>
            rw [Nat.zero_mul, Nat.sub_zero, Nat.sub_zero] at k3
            exact ⟨_, k3⟩
          | succ k =>
            rw [Nat.succ_mul] at k1
            omega
theorem wy_1 {Z : Nat → Nat} (h1 : 1 ≤ Z 0) (s : Nat) : wy Z 1 s ≤ 1 := by
  induction s using Nat.strongRecOn with
  | _ s ih =>
    by_cases h : Z 0 ≤ s
    · rw [wy_ge h1 h, wy, if_neg (by omega)]
      have : wy Z (0 + 1) (s - Z 0) ≤ 1 := ih (s - Z 0) (by omega)
      omega
    · rw [wy_lt (by omega), wy]
      split <;> omega
theorem wy_up {Z : Nat → Nat} {o C M : Nat} (h1 : 1 ≤ Z o) (hC : ∀ s, s ≤ M → wy Z o s ≤ C) (s : Nat) : s ≤ M → wy Z (o + 1) s ≤ C * (s + 1) := by
  induction s using Nat.strongRecOn with
  | _ s ih =>
    intro hs
    have h0 := hC s hs
    have e : C * (s + 1) = C * s + C := Nat.mul_succ C s
    by_cases h : Z o ≤ s
    · rw [wy_ge h1 h]
      have q1 := ih (s - Z o) (by omega) (by omega)
      have q2 : C * (s - Z o + 1) ≤ C * s := Nat.mul_le_mul_left C (by omega)
      omega
    · rw [wy_lt (by omega)]
      omega
theorem wy_bd {Z : Nat → Nat} {O : Nat} (hO : O ≤ 3) (hZ : ∀ o, o < O → 1 ≤ Z o) (s : Nat) (hs : s ≤ 4000) : wy Z O s ≤ 20000000 := by
  have w2 : 1 < O → ∀ s, s ≤ 4000 → wy Z 2 s ≤ 4001 := fun h s hs => by
    have : wy Z 2 s ≤ 1 * (s + 1) := wy_up (Z := Z) (o := 1) (C := 1) (M := 4000) (hZ 1 (by omega)) (fun s _ => wy_1 (hZ 0 (by omega)) s) s hs
    omega
  rcases (by omega : O = 0 ∨ O = 1 ∨ O = 2 ∨ O = 3) with rfl | rfl | rfl | rfl
  · rw [wy]; split <;> omega
  · have := wy_1 (hZ 0 (by omega)) s; omega
  · have := w2 (by omega) s hs; omega
  · have : wy Z 3 s ≤ 4001 * (s + 1) := wy_up (Z := Z) (o := 2) (C := 4001) (M := 4000) (hZ 2 (by omega)) (fun s hs => w2 (by omega) s hs) s hs
    omega
theorem fw_ok {Z : Nat → Nat} : ∀ (o s : Nat), (∀ o', o' < o → 1 ≤ Z o') → fw Z o s ≤ 9801 ∧ (∀ n, Rp Z o s n → fw Z o s ≤ n) ∧ (fw Z o s < 9801 → Rp Z o s (fw Z o s)) := by
  intro o
  induction o with
  | zero =>
    intro s _
    rw [fw]
    by_cases h : s = 0
    · rw [if_pos h]; exact ⟨by omega, fun n _ => by omega, fun _ => ⟨h, rfl⟩⟩
    · rw [if_neg h]; exact ⟨by omega, fun n q => absurd q.1 h, fun q => absurd q (by omega)⟩
  | succ o ih =>
    intro s
    induction s using Nat.strongRecOn with
    | _ s ihs =>
      intro hZ
      obtain ⟨a1, a2, a3⟩ := ih s (fun o' h => hZ o' (by omega))
      have h1 := hZ o (by omega)
      have up : ∀ n, Rp Z o s n → Rp Z (o + 1) s n := fun n hn => ⟨0, by omega, by omega, by rw [Nat.zero_mul, Nat.sub_zero, Nat.sub_zero]; exact hn⟩
      by_cases h : Z o ≤ s
      · rw [fw_ge h1 h]
        obtain ⟨b1, b2, b3⟩ := ihs (s - Z o) (by omega) hZ
        refine ⟨by omega, ?_, fun q => ?_⟩
        · rintro n ⟨k, k1, k2, k3⟩
          cases k with
          | zero =>
            rw [Nat.zero_mul, Nat.sub_zero, Nat.sub_zero] at k3
            have := a2 n k3
            omega
          | succ k =>
            rw [Nat.succ_mul] at k1 k3
            have := b2 (n - 1) ⟨k, by omega, by omega, by rw [show s - Z o - k * Z o = s - (k * Z o + Z o) by omega, show n - 1 - k = n - (k + 1) by omega]; exact k3⟩
            omega
        · by_cases hm : fw Z o s ≤ fw Z (o + 1) (s - Z o) + 1
          · rw [Nat.min_eq_left hm] at q ⊢
            exact up _ (a3 q)
          · rw [Nat.min_eq_right (by omega)] at q ⊢
            have := Rp_add (o' := o) (show o < o + 1 by omega) (b3 (by omega))
            rwa [show s - Z o + Z o = s by omega] at this
      · rw [fw_lt (by omega)]
        refine ⟨a1, ?_, fun q => up _ (a3 q)⟩
        rintro n ⟨k, k1, k2, k3⟩
        cases k with
        | zero =>
          rw [Nat.zero_mul, Nat.sub_zero, Nat.sub_zero] at k3
          exact a2 n k3
        | succ k =>
          rw [Nat.succ_mul] at k1
          omega
/-- the class's table of fewest fires -/
def tin (Z : Nat → Nat) (T : Nat → Nat) (s : Nat) : Nat → Nat
  | 0 => 1048576
  | o + 1 => if Z o ≤ s then min (tin Z T s o) (T (s - Z o) + 1) else tin Z T s o
def tb (Z : Nat → Nat) (O : Nat) : Nat → Nat → Nat
  | 0 => fun _ => 0
  | s + 1 => updN (tb Z O s) (s + 1) (tin Z (tb Z O s) (s + 1) O)
theorem tin_ok {Z T : Nat → Nat} {s : Nat} : ∀ o, tin Z T s o ≤ 1048576 ∧ (∀ o', o' < o → Z o' ≤ s → tin Z T s o ≤ T (s - Z o') + 1) ∧ (tin Z T s o = 1048576 ∨ ∃ o', o' < o ∧ Z o' ≤ s ∧ tin Z T s o = T (s - Z o') + 1)
  | 0 => ⟨Nat.le_refl _, fun o' h => absurd h (by omega), Or.inl rfl⟩
  | o + 1 => by
    obtain ⟨h1, h2, h3⟩ := tin_ok (Z := Z) (T := T) (s := s) o
    rw [tin]
    by_cases h : Z o ≤ s
    · rw [if_pos h]
      refine ⟨by omega, fun o' ho hz => ?_, ?_⟩
      · by_cases e : o' = o
        · subst e; omega
        · have := h2 o' (by omega) hz; omega
      · by_cases hm : tin Z T s o ≤ T (s - Z o) + 1
        · rw [Nat.min_eq_left hm]
          rcases h3 with h3 | ⟨o', q1, q2, q3⟩
          · exact Or.inl h3
          · exact Or.inr ⟨o', by omega, q2, q3⟩
        · rw [Nat.min_eq_right (by omega)]
          exact Or.inr ⟨o, by omega, h, rfl⟩
    · rw [if_neg h]
      refine ⟨h1, fun o' ho hz => ?_, ?_⟩
      · by_cases e : o' = o
        · subst e; exact absurd hz h
        · exact h2 o' (by omega) hz
      · rcases h3 with h3 | ⟨o', q1, q2, q3⟩
        · exact Or.inl h3
        · exact Or.inr ⟨o', by omega, q2, q3⟩
theorem tb_ok {Z : Nat → Nat} {O : Nat} (hZ : ∀ o, o < O → 1 ≤ Z o) : ∀ s j, j ≤ s → tb Z O s j ≤ 1048576 ∧ (∀ n, Rp Z O j n → tb Z O s j ≤ n) ∧ (tb Z O s j < 1048576 → Rp Z O j (tb Z O s j)) := by
  intro s
  induction s with
  | zero =>
    intro j hj
    have : j = 0 := by omega
    subst this
    exact ⟨Nat.zero_le _, fun n _ => Nat.zero_le _, fun _ => Rp_zero Z O⟩
  | succ s ih =>
    intro j hj
    by_cases e : j = s + 1
    · subst e
      have e1 : tb Z O (s + 1) (s + 1) = tin Z (tb Z O s) (s + 1) O := if_pos rfl
      rw [e1]
      obtain ⟨h1, h2, h3⟩ := tin_ok (Z := Z) (T := tb Z O s) (s := s + 1) O
      refine ⟨h1, fun n hn => ?_, fun q => ?_⟩
      · obtain ⟨o', q1, q2, q3, q4⟩ := Rp_sub hn (by omega)
        have z1 := hZ o' q1
        have := (ih (s + 1 - Z o') (by omega)).2.1 _ q4
        have := h2 o' q1 q2
        omega
      · rcases h3 with h3 | ⟨o', q1, q2, q3⟩
        · omega
        · have z1 := hZ o' q1
          have := (ih (s + 1 - Z o') (by omega)).2.2 (by omega)
          have := Rp_add q1 this
          rw [show s + 1 - Z o' + Z o' = s + 1 by omega, ← q3] at this
          exact this
    · have e1 : tb Z O (s + 1) j = tb Z O s j := if_neg e
      rw [e1]
      exact ih j (by omega)
theorem tb_fw {Z : Nat → Nat} {O s : Nat} (hZ : ∀ o, o < O → 1 ≤ Z o) (hs : s ≤ 4000) : (0 < wy Z O s → tb Z O s s = fw Z O s ∧ tb Z O s s ≤ 4000) ∧ (¬ 0 < wy Z O s → tb Z O s s = 1048576) := by
  obtain ⟨t1, t2, t3⟩ := tb_ok hZ s s (Nat.le_refl _)
  obtain ⟨f1, f2, f3⟩ := fw_ok O s hZ
  constructor
  · intro h
    obtain ⟨n, hn⟩ := (wy_pos O s hZ).mp h
    have l := Rp_le hZ hn
    have a1 := t2 n hn
    have a2 := f2 n hn
    have b1 := f2 _ (t3 (by omega))
    have b2 := t2 _ (f3 (by omega))
    exact ⟨by omega, by omega⟩
  · intro h
    by_cases q : tb Z O s s < 1048576
    · exact absurd ((wy_pos O s hZ).mpr ⟨_, t3 q⟩) h
    · omega
