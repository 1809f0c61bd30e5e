/-! marry: the model's row -/
set_option maxRecDepth 20000
def sk (g k : Nat) : Nat := if k < g then k else k + 1
def jR (f g b : Nat) (l : Int32) (R : Nat → Int32) : Nat → Int32 := upd R (b + f) (jv l (R (b + f) + R (b + g)))
def lm (n : Nat) : Int32 := if n = 0 then nI 30 else if n = 1 then nI 999 else if n = 2 then nI 99 else -1
def jF (f g : Nat) (V : Nat → Int32) : Nat → Nat → Int32
  | 0 => V
  | n + 1 => jR f g (9 + 10 * n) (lm n) (jF f g V n)
def jB (f g : Nat) (V : Nat → Int32) : Nat → Nat → Int32
  | 0 => V
  | n + 1 => jR (5 * f) (5 * g) (69 + n) (nI 99) (jB f g V n)
noncomputable def wdS (f g k : Nat) (R : Nat → Int32) : Nat → Int32 := by
  classical
  exact if k = f ∨ k = g then R else if (upd (upd R (219 + 10 * f + k) (R (219 + 10 * f + k) + R (219 + 10 * g + k))) (219 + 10 * k + f) (R (219 + 10 * k + f) + R (219 + 10 * k + g))) (119 + 10 * g + k) = nI 1 then upd (upd (upd (upd R (219 + 10 * f + k) (R (219 + 10 * f + k) + R (219 + 10 * g + k))) (219 + 10 * k + f) (R (219 + 10 * k + f) + R (219 + 10 * k + g))) (119 + 10 * f + k) (nI 1)) (119 + 10 * k + f) (nI 1) else upd (upd R (219 + 10 * f + k) (R (219 + 10 * f + k) + R (219 + 10 * g + k))) (219 + 10 * k + f) (R (219 + 10 * k + f) + R (219 + 10 * k + g))
noncomputable def wdV (f g : Nat) (R : Nat → Int32) : Nat → Nat → Int32
  | 0 => R
  | n + 1 => wdS f g n (wdV f g R n)
def cF (g : Nat) (R : Nat → Int32) : Nat → Nat → Int32
  | 0 => R
  | n + 1 => clo (9 + 10 * n) g (cF g R n)
def bsh (g : Nat) (R : Nat → Int32) (i : Nat) : Int32 := if 69 + 5 * g ≤ i ∧ i < 119 then (if i < 114 then R (i + 5) else nI 0) else R i
def w3V (f g : Nat) (R : Nat → Int32) : Nat → Int32 := upd (upd R (219 + 10 * f + g) (nI 0)) (219 + 10 * g + f) (nI 0)
noncomputable def w5V (V : Nat → Int32) (N f g : Nat) : Nat → Int32 := cF g (wdV f g (w3V f g (jB f g (jF f g V 6) 5)) N) 6
noncomputable def w7V (V : Nat → Int32) (N f g : Nat) : Nat → Int32 := clT 119 g (clT 219 g (bsh g (w5V V N f g)))
noncomputable def wedV (V : Nat → Int32) (N f g : Nat) : Nat → Int32 := upd (w7V V N f g) 0 (nI (N - 1))
theorem jR_o {f g b i : Nat} {l : Int32} {R : Nat → Int32} (h : i ≠ b + f) : jR f g b l R i = R i := upd_n h
theorem jF_o {f g i : Nat} {V : Nat → Int32} (hf : f < 10) (h : i < 9 ∨ 69 ≤ i) : ∀ n, n ≤ 6 → jF f g V n i = V i
  | 0, _ => rfl
  | n + 1, q => (jR_o (by omega)).trans (jF_o hf h n (by omega))
theorem jF_i {f g : Nat} {V : Nat → Int32} (hf : f < 10) (hg : g < 10) (hfg : f ≠ g) : ∀ n, n ≤ 6 → ∀ j k, j < 6 → k < 10 → jF f g V n (9 + 10 * j + k) = if j < n ∧ k = f then jv (lm j) (V (9 + 10 * j + f) + V (9 + 10 * j + g)) else V (9 + 10 * j + k)
  | 0, _, j, k, _, _ => by rw [if_neg (by omega)]; rfl
  | n + 1, q, j, k, hj, hk => by
    by_cases e : j = n ∧ k = f
    · rw [e.1, e.2, if_pos (by omega)]
      show upd _ _ _ _ = _
      rw [upd_s, jF_i hf hg hfg n (by omega) n f (by omega) hf, jF_i hf hg hfg n (by omega) n g (by omega) hg, if_neg (by omega), if_neg (by omega)]
    · have := jF_i hf hg hfg (V := V) n (by omega) j k hj hk
      refine (jR_o (by omega)).trans (this.trans ?_)
      by_cases z : j < n ∧ k = f
      · rw [if_pos z, if_pos (by omega)]
      · rw [if_neg z, if_neg (by omega)]
theorem jB_o {f g i : Nat} {V : Nat → Int32} (hf : f < 10) (h : i < 69 ∨ 119 ≤ i) : ∀ n, n ≤ 5 → jB f g V n i = V i
  | 0, _ => rfl
  | n + 1, q => (jR_o (by omega)).trans (jB_o hf h n (by omega))
theorem jB_i {f g : Nat} {V : Nat → Int32} (hf : f < 10) (hg : g < 10) (hfg : f ≠ g) : ∀ n, n ≤ 5 → ∀ k a, k < 10 → a < 5 → jB f g V n (69 + 5 * k + a) = if a < n ∧ k = f then jv (nI 99) (V (69 + 5 * f + a) + V (69 + 5 * g + a)) else V (69 + 5 * k + a)
  | 0, _, k, a, _, _ => by rw [if_neg (by omega)]; rfl
  | n + 1, q, k, a, hk, ha => by
    by_cases e : a = n ∧ k = f
    · rw [e.1, e.2, if_pos (by omega)]
      have p1 := jB_i hf hg hfg (V := V) n (by omega) f n hf (by omega)
      have p2 := jB_i hf hg hfg (V := V) n (by omega) g n hg (by omega)
      rw [if_neg (by omega)] at p1 p2
      show upd _ _ _ _ = _
      rw [show 69 + 5 * f + n = 69 + n + 5 * f by omega, upd_s, ← show 69 + 5 * f + n = 69 + n + 5 * f by omega, ← show 69 + 5 * g + n = 69 + n + 5 * g by omega, p1, p2]
    · have := jB_i hf hg hfg (V := V) n (by omega) k a hk ha
      refine (jR_o (by omega)).trans (this.trans ?_)
      by_cases z : a < n ∧ k = f
      · rw [if_pos z, if_pos (by omega)]
      · rw [if_neg z, if_neg (by omega)]
theorem cF_o {g i : Nat} {R : Nat → Int32} (hg : g ≤ 9) (h : i < 9 ∨ 69 ≤ i) : ∀ n, n ≤ 6 → cF g R n i = R i
  | 0, _ => rfl
  | n + 1, q => by
    show clo _ _ _ _ = _
    unfold clo
    rw [if_neg (by omega), if_neg (by omega)]
    exact cF_o hg h n (by omega)
theorem clo_o {b g i : Nat} {R : Nat → Int32} (h : i < b ∨ b + 10 ≤ i) : clo b g R i = R i := by
  unfold clo
  rw [if_neg (show ¬ (b + g ≤ i ∧ i < b + 9) by omega), if_neg (show ¬ i = b + 9 by omega)]
theorem clo_i {b g k : Nat} {R : Nat → Int32} (hg : g ≤ 9) (hk : k < 10) : clo b g R (b + k) = if k = 9 then 0 else R (b + sk g k) := by
  unfold clo
  by_cases z : k = 9
  · rw [if_pos z, if_neg (show ¬ (b + g ≤ b + k ∧ b + k < b + 9) by omega), if_pos (show b + k = b + 9 by omega)]
  · rw [if_neg z]
    unfold sk
    by_cases y : k < g
    · rw [if_pos y, if_neg (show ¬ (b + g ≤ b + k ∧ b + k < b + 9) by omega), if_neg (show ¬ b + k = b + 9 by omega)]
    · rw [if_neg y, if_pos (show b + g ≤ b + k ∧ b + k < b + 9 by omega)]
      rfl
theorem cF_lo {g i : Nat} {R : Nat → Int32} : ∀ n, 9 + 10 * n ≤ i → cF g R n i = R i
  | 0, _ => rfl
  | n + 1, q => (clo_o (by omega)).trans (cF_lo n (by omega))
theorem cF_i {g : Nat} {R : Nat → Int32} (hg : g ≤ 9) : ∀ n, n ≤ 6 → ∀ j k, j < n → k < 9 → cF g R n (9 + 10 * j + k) = R (9 + 10 * j + sk g k)
  | 0, _, j, k, h, _ => absurd h (by omega)
  | n + 1, q, j, k, hj, hk => by
    have sl : sk g k ≤ 9 := by unfold sk; split <;> omega
    by_cases e : j = n
    · subst e
      refine (clo_i hg (show k < 10 by omega)).trans ?_
      rw [if_neg (show ¬ k = 9 by omega)]
      exact cF_lo j (by omega)
    · refine (clo_o (by omega)).trans ?_
      exact cF_i hg n (by omega) j k (by omega) hk
theorem clT_o {b g i : Nat} {R : Nat → Int32} (h : i < b ∨ b + 100 ≤ i) : clT b g R i = R i := if_neg (by omega)
theorem clT_i {b g k l : Nat} {R : Nat → Int32} (hk : k < 10) (hl : l < 10) : clT b g R (b + 10 * k + l) = if k = 9 ∨ l = 9 then 0 else R (b + 10 * sk g k + sk g l) := by
  unfold clT
  rw [if_pos (by omega)]
  by_cases e : k = 9 ∨ l = 9
  · rw [if_pos (by omega), if_pos e]
  · rw [if_neg (by omega), if_neg e]
    unfold sk
    congr 1
    have m : (b + 10 * k + l - b) % 10 = l := by omega
    rw [m]
    by_cases x : l < g <;> by_cases y : k < g
    · rw [if_neg (by omega), if_neg (by omega), if_pos y, if_pos x]; rfl
    · rw [if_neg (by omega), if_pos (by omega), if_neg y, if_pos x]; omega
    · rw [if_pos (by omega), if_neg (by omega), if_pos y, if_neg x]; omega
    · rw [if_pos (by omega), if_pos (by omega), if_neg y, if_neg x]; omega
theorem bsh_i {g k a : Nat} {R : Nat → Int32} (hk : k < 9) (ha : a < 5) : bsh g R (69 + 5 * k + a) = R (69 + 5 * sk g k + a) := by
  unfold bsh sk
  by_cases y : k < g
  · rw [if_neg (by omega), if_pos y]
  · rw [if_pos (by omega), if_pos (by omega), if_neg y]
    congr 1; omega
theorem bsh_o {g i : Nat} {R : Nat → Int32} (h : i < 69 ∨ 119 ≤ i) : bsh g R i = R i := if_neg (by omega)
theorem wdS_o {f g k i : Nat} {R : Nat → Int32} (hf : f < 10) (hk : k < 10) (h : i < 119 ∨ 319 ≤ i) : wdS f g k R i = R i := by
  unfold wdS
  by_cases e : k = f ∨ k = g
  · rw [if_pos e]
  · rw [if_neg e]
    split
    · rw [upd_n (by omega), upd_n (by omega), upd_n (by omega), upd_n (by omega)]
    · rw [upd_n (by omega), upd_n (by omega)]
theorem wdV_o {f g i : Nat} {R : Nat → Int32} (hf : f < 10) (h : i < 119 ∨ 319 ≤ i) : ∀ n, n ≤ 10 → wdV f g R n i = R i
  | 0, _ => rfl
  | n + 1, q => (wdS_o hf (by omega) h).trans (wdV_o hf h n (by omega))
/-- debts after a marriage, before the rows are closed -/
def dD (f g n : Nat) (R : Nat → Int32) (i j : Nat) : Int32 := if i = f ∧ j < n ∧ j ≠ f ∧ j ≠ g then R (219 + 10 * f + j) + R (219 + 10 * g + j) else if j = f ∧ i < n ∧ i ≠ f ∧ i ≠ g then R (219 + 10 * i + f) + R (219 + 10 * i + g) else R (219 + 10 * i + j)
theorem dD_a {f g n i j : Nat} {R : Nat → Int32} (h : i = f ∧ j < n ∧ j ≠ f ∧ j ≠ g) : dD f g n R i j = R (219 + 10 * f + j) + R (219 + 10 * g + j) := if_pos h
theorem dD_b {f g n i j : Nat} {R : Nat → Int32} (h : j = f ∧ i < n ∧ i ≠ f ∧ i ≠ g) : dD f g n R i j = R (219 + 10 * i + f) + R (219 + 10 * i + g) := (if_neg (fun z => h.2.2.1 z.1)).trans (if_pos h)
theorem dD_c {f g n i j : Nat} {R : Nat → Int32} (h1 : ¬ (i = f ∧ j < n ∧ j ≠ f ∧ j ≠ g)) (h2 : ¬ (j = f ∧ i < n ∧ i ≠ f ∧ i ≠ g)) : dD f g n R i j = R (219 + 10 * i + j) := (if_neg h1).trans (if_neg h2)
theorem dD_s {f g n i j : Nat} {R : Nat → Int32} (h : ¬ (n ≠ f ∧ n ≠ g ∧ ((i = f ∧ j = n) ∨ (i = n ∧ j = f)))) : dD f g n R i j = dD f g (n + 1) R i j := by
  by_cases a : i = f ∧ j < n ∧ j ≠ f ∧ j ≠ g
  · rw [dD_a a, dD_a (n := n + 1) (by omega)]
  · by_cases b : j = f ∧ i < n ∧ i ≠ f ∧ i ≠ g
    · rw [dD_b b, dD_b (n := n + 1) (by omega)]
    · rw [dD_c a b, dD_c (n := n + 1) (by omega) (by omega)]
theorem wdV_d {f g : Nat} {R : Nat → Int32} (hf : f < 10) (hg : g < 10) (hfg : f ≠ g) : ∀ n, n ≤ 10 → ∀ i j, i < 10 → j < 10 → wdV f g R n (219 + 10 * i + j) = dD f g n R i j
  | 0, _, i, j, _, _ => by
    rw [dD_c (by omega) (by omega)]; rfl
  | n + 1, q, i, j, hi, hj => by
    have ih := fun i j (hi : i < 10) (hj : j < 10) => wdV_d (R := R) hf hg hfg n (by omega) i j hi hj
    show wdS f g n _ _ = _
    unfold wdS
    by_cases e : n = f ∨ n = g
    · rw [if_pos e, ih i j hi hj]
      exact dD_s (by omega)
    · rw [if_neg e]
      have core : ∀ z : Nat → Int32, z = upd (upd (wdV f g R n) (219 + 10 * f + n) (wdV f g R n (219 + 10 * f + n) + wdV f g R n (219 + 10 * g + n))) (219 + 10 * n + f) (wdV f g R n (219 + 10 * n + f) + wdV f g R n (219 + 10 * n + g)) → z (219 + 10 * i + j) = dD f g (n + 1) R i j := fun z hz => by
        rw [hz]
        have p1 := ih f n hf (by omega)
        have p2 := ih g n hg (by omega)
        have p3 := ih n f (by omega) hf
        have p4 := ih n g (by omega) hg
        rw [dD_c (by omega) (by omega)] at p1 p2 p3 p4
        by_cases a : i = n ∧ j = f
        · rw [a.1, a.2, upd_s, p3, p4, dD_b (by omega)]
        · rw [upd_n (by omega)]
          by_cases b : i = f ∧ j = n
          · rw [b.1, b.2, upd_s, p1, p2, dD_a (by omega)]
          · rw [upd_n (by omega), ih i j hi hj]
            exact dD_s (by omega)
      split
      · rw [upd_n (by omega), upd_n (by omega)]
        exact core _ rfl
      · exact core _ rfl
noncomputable def dQ (f g n : Nat) (R : Nat → Int32) (i j : Nat) : Int32 := by
  classical
  exact if (i = f ∧ j < n ∧ j ≠ f ∧ j ≠ g ∧ R (119 + 10 * g + j) = nI 1) ∨ (j = f ∧ i < n ∧ i ≠ f ∧ i ≠ g ∧ R (119 + 10 * g + i) = nI 1) then nI 1 else R (119 + 10 * i + j)
theorem dQ_y {f g n i j : Nat} {R : Nat → Int32} (h : (i = f ∧ j < n ∧ j ≠ f ∧ j ≠ g ∧ R (119 + 10 * g + j) = nI 1) ∨ (j = f ∧ i < n ∧ i ≠ f ∧ i ≠ g ∧ R (119 + 10 * g + i) = nI 1)) : dQ f g n R i j = nI 1 := if_pos h
theorem dQ_n {f g n i j : Nat} {R : Nat → Int32} (h : ¬ ((i = f ∧ j < n ∧ j ≠ f ∧ j ≠ g ∧ R (119 + 10 * g + j) = nI 1) ∨ (j = f ∧ i < n ∧ i ≠ f ∧ i ≠ g ∧ R (119 + 10 * g + i) = nI 1))) : dQ f g n R i j = R (119 + 10 * i + j) := if_neg h
theorem dQ_s {f g n i j : Nat} {R : Nat → Int32} (h : ¬ (n ≠ f ∧ n ≠ g ∧ R (119 + 10 * g + n) = nI 1 ∧ ((i = f ∧ j = n) ∨ (i = n ∧ j = f)))) : dQ f g n R i j = dQ f g (n + 1) R i j := by
  by_cases a : (i = f ∧ j < n ∧ j ≠ f ∧ j ≠ g ∧ R (119 + 10 * g + j) = nI 1) ∨ (j = f ∧ i < n ∧ i ≠ f ∧ i ≠ g ∧ R (119 + 10 * g + i) = nI 1)
  · rw [dQ_y a, dQ_y (n := n + 1) (a.imp (fun z => ⟨z.1, by omega, z.2.2⟩) (fun z => ⟨z.1, by omega, z.2.2⟩))]
  · rw [dQ_n a, dQ_n (n := n + 1) (fun z => ?_)]
    rcases z with z | z
    · by_cases u : j = n
      · subst u; exact h ⟨z.2.2.1, z.2.2.2.1, z.2.2.2.2, Or.inl ⟨z.1, rfl⟩⟩
      · exact a (Or.inl ⟨z.1, by omega, z.2.2⟩)
    · by_cases u : i = n
      · subst u; exact h ⟨z.2.2.1, z.2.2.2.1, z.2.2.2.2, Or.inr ⟨rfl, z.1⟩⟩
      · exact a (Or.inr ⟨z.1, by omega, z.2.2⟩)
theorem wdV_q {f g : Nat} {R : Nat → Int32} (hf : f < 10) (hg : g < 10) (hfg : f ≠ g) : ∀ n, n ≤ 10 → ∀ i j, i < 10 → j < 10 → wdV f g R n (119 + 10 * i + j) = dQ f g n R i j
  | 0, _, i, j, _, _ => by
    rw [dQ_n (fun z => z.elim (fun z => absurd z.2.1 (by omega)) (fun z => absurd z.2.1 (by omega)))]; rfl
  | n + 1, q, i, j, hi, hj => by
    have ih := fun i j (hi : i < 10) (hj : j < 10) => wdV_q (R := R) hf hg hfg n (by omega) i j hi hj
    show wdS f g n _ _ = _
    unfold wdS
    by_cases e : n = f ∨ n = g
    · rw [if_pos e, ih i j hi hj]
      exact dQ_s (fun z => e.elim z.1 z.2.1)
    · rw [if_neg e]
      have r : upd (upd (wdV f g R n) (219 + 10 * f + n) (wdV f g R n (219 + 10 * f + n) + wdV f g R n (219 + 10 * g + n))) (219 + 10 * n + f) (wdV f g R n (219 + 10 * n + f) + wdV f g R n (219 + 10 * n + g)) (119 + 10 * g + n) = R (119 + 10 * g + n) := by
        rw [upd_n (by omega), upd_n (by omega), ih g n hg (by omega), dQ_n (fun z => z.elim (fun z => absurd z.2.1 (by omega)) (fun z => e (Or.inl z.1)))]
      rw [r]
      by_cases c : R (119 + 10 * g + n) = nI 1
      · rw [if_pos c]
        by_cases a : i = n ∧ j = f
        · rw [a.1, a.2, upd_s, dQ_y (Or.inr ⟨rfl, by omega, by omega, by omega, c⟩)]
        · rw [upd_n (by omega)]
          by_cases b : i = f ∧ j = n
          · rw [b.1, b.2, upd_s, dQ_y (Or.inl ⟨rfl, by omega, by omega, by omega, c⟩)]
          · rw [upd_n (by omega), upd_n (by omega), upd_n (by omega), ih i j hi hj]
            exact dQ_s (fun z => z.2.2.2.elim b a)
      · rw [if_neg c, upd_n (by omega), upd_n (by omega), ih i j hi hj]
        exact dQ_s (fun z => c z.2.2.1)
