/-! partings: sets -/
set_option maxRecDepth 20000
/-- a set can be parted into groups -/
def PB (F : Nat → Prop) (s : Nat) : Prop := ∀ P : Nat → Prop, P 0 → (∀ s y, 0 < s → pA s y → F y → P (ndf s y) → P s) → P s
theorem PB_nil {F : Nat → Prop} : PB F 0 := fun _ h _ => h
theorem PB_cons {F : Nat → Prop} {s y : Nat} (h0 : 0 < s) (h1 : pA s y) (h2 : F y) (h3 : PB F (ndf s y)) : PB F s := fun P a b => b s y h0 h1 h2 (h3 P a b)
theorem PB_ind {F : Nat → Prop} {s : Nat} (M : Nat → Prop) (h : PB F s) (h0 : M 0) (h1 : ∀ s y, 0 < s → pA s y → F y → PB F (ndf s y) → M (ndf s y) → M s) : M s := (h (fun s => PB F s ∧ M s) ⟨PB_nil, h0⟩ (fun s y a b c d => ⟨PB_cons a b c d.1, h1 s y a b c d.1 d.2⟩)).2
/-- a group of some parting of a set -/
def IP (F : Nat → Prop) (s x : Nat) : Prop := ∀ P : Nat → Prop, (∀ s, 0 < s → pA s x → F x → PB F (ndf s x) → P s) → (∀ s y, 0 < s → pA s y → F y → P (ndf s y) → P s) → P s
theorem IP_here {F : Nat → Prop} {s x : Nat} (h0 : 0 < s) (h1 : pA s x) (h2 : F x) (h3 : PB F (ndf s x)) : IP F s x := fun _ a _ => a s h0 h1 h2 h3
theorem IP_there {F : Nat → Prop} {s x y : Nat} (h0 : 0 < s) (h1 : pA s y) (h2 : F y) (h3 : IP F (ndf s y) x) : IP F s x := fun P a b => b s y h0 h1 h2 (h3 P a b)
theorem IP_ind {F : Nat → Prop} {s x : Nat} (M : Nat → Prop) (h : IP F s x) (h0 : ∀ s, 0 < s → pA s x → F x → PB F (ndf s x) → M s) (h1 : ∀ s y, 0 < s → pA s y → F y → IP F (ndf s y) x → M (ndf s y) → M s) : M s := (h (fun s => IP F s x ∧ M s) (fun s a b c e => ⟨IP_here a b c e, h0 s a b c e⟩) (fun s y a b c d => ⟨IP_there a b c d.1, h1 s y a b c d.1 d.2⟩)).2
theorem low_no : ∀ s, s < 1024 → ∀ i, i < 10 → i < (lowN s).log2 → s.testBit i = false := by decide +kernel
theorem bit_10 {s i : Nat} (hs : s < 1024) (h : s.testBit i = true) : i < 10 := by
  rcases Nat.lt_or_ge i 10 with q | q
  · exact q
  · rw [Nat.testBit_lt_two_pow (Nat.lt_of_lt_of_le hs (Nat.pow_le_pow_right (n := 2) (by omega) q))] at h
    cases h
theorem low_eq {s r : Nat} (hs : s < 1024) (h0 : 0 < s) (hr : r &&& s = r) (hb : r.testBit (lowN s).log2 = true) : lowN r = lowN s := by
  have rl := sub_le hr
  have r0 : 0 < r := by
    rcases Nat.eq_zero_or_pos r with q | q
    · rw [q, Nat.zero_testBit] at hb; cases hb
    · exact q
  have a := low_p s hs h0
  have b := low_p r (by omega) r0
  have e : (lowN r).log2 = (lowN s).log2 := by
    rcases (by omega : (lowN r).log2 < (lowN s).log2 ∨ (lowN s).log2 < (lowN r).log2 ∨ (lowN r).log2 = (lowN s).log2) with q | q | q
    · have := low_no s hs _ b.2.1 q
      rw [sub_bit.mp hr _ b.2.2.1] at this; cases this
    · have := low_no r (by omega) _ a.2.1 q
      rw [hb] at this; cases this
    · exact q
  rw [b.1, a.1, e]
theorem ndf_sub {s y : Nat} : ndf s y &&& s = ndf s y := sub_bit.mpr (fun i hi => by rw [ndf_bit, Bool.and_eq_true] at hi; exact hi.1)
theorem ndf_comm (s x y : Nat) : ndf (ndf s x) y = ndf (ndf s y) x := bit_eq (fun i => by
  simp only [ndf_bit]
  cases s.testBit i <;> cases x.testBit i <;> cases y.testBit i <;> rfl)
theorem PB_inv {F : Nat → Prop} {s : Nat} (h : PB F s) : 0 < s → ∃ y, pA s y ∧ F y ∧ PB F (ndf s y) := PB_ind (fun s => 0 < s → ∃ y, pA s y ∧ F y ∧ PB F (ndf s y)) h (fun q => absurd q (by omega)) (fun s y a b c e _ _ => ⟨y, b, c, e⟩)
theorem PB_iff {F : Nat → Prop} {s : Nat} (h0 : 0 < s) : PB F s ↔ ∃ y, pA s y ∧ F y ∧ PB F (ndf s y) := ⟨fun h => PB_inv h h0, fun ⟨_, a, b, c⟩ => PB_cons h0 a b c⟩
theorem IP_iff {F : Nat → Prop} {s x : Nat} (h0 : 0 < s) : IP F s x ↔ ∃ y, pA s y ∧ F y ∧ ((y = x ∧ PB F (ndf s y)) ∨ IP F (ndf s y) x) := by
  constructor
  · exact fun h => IP_ind (fun s => ∃ y, pA s y ∧ F y ∧ ((y = x ∧ PB F (ndf s y)) ∨ IP F (ndf s y) x)) h (fun s a b c e => ⟨x, b, c, Or.inl ⟨rfl, e⟩⟩) (fun s y a b c e _ => ⟨y, b, c, Or.inr e⟩)
  · rintro ⟨y, a, b, ⟨rfl, c⟩ | c⟩
    · exact IP_here h0 a b c
    · exact IP_there h0 a b c
theorem IP_0 {F : Nat → Prop} {x : Nat} : ¬ IP F 0 x := fun h => absurd (IP_ind (fun s => 0 < s) h (fun s a _ _ _ => a) (fun s y a _ _ _ _ => a)) (by omega)
theorem IP_fw {F : Nat → Prop} {s x : Nat} (h : IP F s x) : s < 1024 → F x ∧ x &&& s = x ∧ PB F (ndf s x) := by
  refine IP_ind (fun s => s < 1024 → F x ∧ x &&& s = x ∧ PB F (ndf s x)) h (fun s a b c e _ => ⟨c, b.1, e⟩) (fun s y a b c e ih => ?_)
  · intro hs
    obtain ⟨n1, n2⟩ := ndf_lt hs a b
    obtain ⟨i1, i2, i3⟩ := ih (by omega)
    have xs : x &&& s = x := sub_bit.mpr (fun i hi => sub_bit.mp n2 i (sub_bit.mp i2 i hi))
    have xy : ∀ i, x.testBit i = true → y.testBit i = false := fun i hi => by
      have := sub_bit.mp i2 i hi
      rw [ndf_bit, Bool.and_eq_true] at this
      simpa using this.2
    have yb := pA_bit hs a b
    have lb : (ndf s x).testBit (lowN s).log2 = true := by
      rw [ndf_bit, (low_p s hs a).2.2.1]
      cases q : x.testBit (lowN s).log2
      · rfl
      · rw [xy _ q] at yb; cases yb
    have le := low_eq hs a (ndf_sub (y := x)) lb
    have p0 : 0 < ndf s x := by
      rcases Nat.eq_zero_or_pos (ndf s x) with q | q
      · rw [q, Nat.zero_testBit] at lb; cases lb
      · exact q
    refine ⟨i1, xs, PB_cons p0 ⟨sub_bit.mpr (fun i hi => ?_), by rw [le]; exact b.2⟩ c (by rw [ndf_comm]; exact i3)⟩
    rw [ndf_bit, sub_bit.mp b.1 i hi]
    cases q : x.testBit i
    · rfl
    · rw [xy _ q] at hi; cases hi
theorem IP_bw {F : Nat → Prop} : ∀ n s x, s < n → s < 1024 → 0 < x → F x → x &&& s = x → PB F (ndf s x) → IP F s x
  | 0, s, x, q, _, _, _, _, _ => absurd q (by omega)
  | n + 1, s, x, q, hs, x0, hF, hx, hP => by
    have xl := sub_le hx
    have s0 : 0 < s := by omega
    cases hb : x.testBit (lowN s).log2
    · have lb : (ndf s x).testBit (lowN s).log2 = true := by
        rw [ndf_bit, (low_p s hs s0).2.2.1, hb]; rfl
      have le := low_eq hs s0 (ndf_sub (y := x)) lb
      have p0 : 0 < ndf s x := by
        rcases Nat.eq_zero_or_pos (ndf s x) with q | q
        · rw [q, Nat.zero_testBit] at lb; cases lb
        · exact q
      obtain ⟨y, y1, y2, y3⟩ := PB_inv hP p0
      have py : pA s y := ⟨sub_bit.mpr (fun i hi => sub_bit.mp (ndf_sub (s := s) (y := x)) i (sub_bit.mp y1.1 i hi)), by rw [← le]; exact y1.2⟩
      obtain ⟨n1, n2⟩ := ndf_lt hs s0 py
      refine IP_there s0 py y2 (IP_bw n (ndf s y) x (by omega) (by omega) x0 hF (sub_bit.mpr (fun i hi => ?_)) (by rw [ndf_comm]; exact y3))
      rw [ndf_bit, sub_bit.mp hx i hi]
      cases z : y.testBit i
      · rfl
      · have := sub_bit.mp y1.1 i z
        rw [ndf_bit, hi] at this
        simp at this
    · refine IP_here s0 ⟨hx, and_ne.mpr ⟨_, hb, ?_⟩⟩ hF hP
      conv => lhs; arg 1; rw [(low_p s hs s0).1]
      rw [Nat.testBit_two_pow_self]
/-- every family of a set that can be parted is in a group -/
theorem IP_ex {F : Nat → Prop} {s : Nat} (h : PB F s) : s < 1024 → ∀ f, s.testBit f = true → ∃ x, IP F s x ∧ x.testBit f = true := by
  refine PB_ind (fun s => s < 1024 → ∀ f, s.testBit f = true → ∃ x, IP F s x ∧ x.testBit f = true) h (fun _ f hf => by rw [Nat.zero_testBit] at hf; cases hf) (fun s y a b c e ih => ?_)
  · intro hs f hf
    cases q : y.testBit f
    · have := (ndf_lt hs a b).1
      obtain ⟨x, x1, x2⟩ := ih (by omega) f (by rw [ndf_bit, hf, q]; rfl)
      exact ⟨x, IP_there a b c x1, x2⟩
    · exact ⟨y, IP_here a b c e, q⟩
/-! how many parts a set has -/
theorem cnt_hi {p : Nat → Prop} {n : Nat} (h : ∀ k, k < 2 ^ n → (p (2 ^ n + k) ↔ p k)) : ∀ k, k ≤ 2 ^ n → cntP p (2 ^ n + k) = cntP p (2 ^ n) + cntP p k
  | 0, _ => rfl
  | k + 1, hk => by
    have ih := cnt_hi h k (by omega)
    by_cases q : p k
    · rw [show 2 ^ n + (k + 1) = 2 ^ n + k + 1 by omega, cntP_y ((h k (by omega)).mpr q), cntP_y q, ih]; omega
    · rw [show 2 ^ n + (k + 1) = 2 ^ n + k + 1 by omega, cntP_no (fun z => q ((h k (by omega)).mp z)), cntP_no q, ih]
theorem cnt_no {p : Nat → Prop} {n : Nat} (h : ∀ k, k < 2 ^ n → ¬ p (2 ^ n + k)) : ∀ k, k ≤ 2 ^ n → cntP p (2 ^ n + k) = cntP p (2 ^ n)
  | 0, _ => rfl
  | k + 1, hk => by
    have ih := cnt_no h k (by omega)
    rw [show 2 ^ n + (k + 1) = 2 ^ n + k + 1 by omega, cntP_no (h k (by omega)), ih]
theorem bit_add2 {n k i : Nat} (h : k < 2 ^ n) : (2 ^ n + k).testBit i = true ↔ i = n ∨ k.testBit i = true := by rw [bit_add h]; simp
theorem sub_hi {s n k : Nat} (hb : s.testBit n = true) (h : k < 2 ^ n) : (2 ^ n + k) &&& s = 2 ^ n + k ↔ k &&& s = k := by
  rw [sub_bit, sub_bit]
  constructor
  · exact fun q i hi => q i ((bit_add2 h).mpr (Or.inr hi))
  · intro q i hi
    rcases (bit_add2 h).mp hi with e | e
    · rw [e]; exact hb
    · exact q i e
theorem cnt_all (s : Nat) : ∀ n, cntP (fun x => x &&& s = x) (2 ^ n) ≤ 2 ^ pcN s n
  | 0 => cntP_n _
  | n + 1 => by
    have ih := cnt_all s n
    show _ ≤ 2 ^ (pcN s n + (if s.testBit n = true then 1 else 0))
    by_cases b : s.testBit n = true
    · rw [if_pos b, Nat.pow_succ, Nat.pow_succ, show 2 ^ n * 2 = 2 ^ n + 2 ^ n by omega, cnt_hi (p := fun x => x &&& s = x) (fun k hk => sub_hi b hk) _ (Nat.le_refl _)]
      omega
    · rw [if_neg b, Nat.pow_succ, show 2 ^ n * 2 = 2 ^ n + 2 ^ n by omega, cnt_no (p := fun x => x &&& s = x) (fun k hk q => b (sub_bit.mp q n ((bit_add2 hk).mpr (Or.inl rfl)))) _ (Nat.le_refl _)]
      exact ih
theorem cnt_low {s j : Nat} (hb : s.testBit j = true) : ∀ n, j < n → cntP (fun x => x &&& s = x ∧ x.testBit j = true) (2 ^ n) ≤ 2 ^ (pcN s n - 1)
  | 0, q => absurd q (by omega)
  | n + 1, q => by
    show _ ≤ 2 ^ (pcN s n + (if s.testBit n = true then 1 else 0) - 1)
    rw [Nat.pow_succ, show 2 ^ n * 2 = 2 ^ n + 2 ^ n by omega]
    by_cases e : n = j
    · subst e
      rw [if_pos hb, Nat.add_sub_cancel]
      have z : ∀ m, m ≤ 2 ^ n → cntP (fun x => x &&& s = x ∧ x.testBit n = true) m = 0 := fun m hm => by
        induction m with
        | zero => rfl
        | succ m ih => rw [cntP_no (fun q => by rw [Nat.testBit_lt_two_pow (by omega)] at q; cases q.2)]; exact ih (by omega)
      have y : ∀ k, k ≤ 2 ^ n → cntP (fun x => x &&& s = x ∧ x.testBit n = true) (2 ^ n + k) = cntP (fun x => x &&& s = x) k := fun k hk => by
        induction k with
        | zero => exact z _ (Nat.le_refl _)
        | succ k ih =>
          have ih := ih (by omega)
          by_cases w : k &&& s = k
          · rw [show 2 ^ n + (k + 1) = 2 ^ n + k + 1 by omega, cntP_y ⟨(sub_hi hb (by omega)).mpr w, (bit_add2 (by omega)).mpr (Or.inl rfl)⟩, cntP_y (p := fun x => x &&& s = x) w, ih]
          · rw [show 2 ^ n + (k + 1) = 2 ^ n + k + 1 by omega, cntP_no (fun z => w ((sub_hi hb (by omega)).mp z.1)), cntP_no (p := fun x => x &&& s = x) w, ih]
      rw [y _ (Nat.le_refl _)]
      exact cnt_all s n
    · have ih := cnt_low hb n (by omega)
      have p1 : 0 < pcN s n := by
        have := pcN_mono1 (x := 0) (s := s) (j := j) (fun i hi => by rw [Nat.zero_testBit] at hi; cases hi) hb (by rw [Nat.zero_testBit]; simp) n (by omega)
        omega
      by_cases b : s.testBit n = true
      · rw [if_pos b, show pcN s n + 1 - 1 = pcN s n - 1 + 1 by omega, Nat.pow_succ, cnt_hi (p := fun x => x &&& s = x ∧ x.testBit j = true) (fun k hk => by
          rw [sub_hi b hk, bit_add2 hk]
          exact ⟨fun q => ⟨q.1, q.2.elim (fun z => absurd z.symm e) id⟩, fun q => ⟨q.1, Or.inr q.2⟩⟩) _ (Nat.le_refl _)]
        omega
      · rw [if_neg b, Nat.add_zero, cnt_no (p := fun x => x &&& s = x ∧ x.testBit j = true) (fun k hk q => b (sub_bit.mp q.1 n ((bit_add2 hk).mpr (Or.inl rfl)))) _ (Nat.le_refl _)]
        exact ih
theorem cntP_imp {p q : Nat → Prop} (h : ∀ x, p x → q x) : ∀ n, cntP p n ≤ cntP q n
  | 0 => Nat.le_refl _
  | n + 1 => by
    have := cntP_imp h n
    by_cases a : p n
    · rw [cntP_y a, cntP_y (h n a)]; omega
    · rw [cntP_no a]
      exact Nat.le_trans this (cntP_mono (by omega))
theorem cnt_pA {s : Nat} (hs : s < 1024) (h0 : 0 < s) : cntP (pA s) (s + 1) ≤ 2 ^ (pcN s 10 - 1) := by
  have l := low_p s hs h0
  refine Nat.le_trans (cntP_imp (q := fun x => x &&& s = x ∧ x.testBit (lowN s).log2 = true) (fun x hx => ⟨hx.1, pA_bit hs h0 hx⟩) _) ?_
  exact Nat.le_trans (cntP_mono (show s + 1 ≤ 2 ^ 10 by omega)) (cnt_low l.2.2.1 10 l.2.1)
/-! the class's number of partings -/
def bb : Nat → Nat
  | 0 => 1
  | m + 1 => 2 ^ m * bb m
theorem bb_mono : ∀ {a b : Nat}, a ≤ b → bb a ≤ bb b := by
  intro a b h
  induction b with
  | zero => rw [show a = 0 by omega]; exact Nat.le_refl _
  | succ b ih =>
    by_cases z : a = b + 1
    · rw [z]; exact Nat.le_refl _
    · exact Nat.le_trans (ih (by omega)) (Nat.le_mul_of_pos_left _ (Nat.two_pow_pos b))
theorem cl_1 {F : Nat → Prop} {T : Nat → Int32} {s : Nat} : cl 1 F T s = fE (fun x => pA s x ∧ F x) (fun x v => v + T (ndf s x)) (nI 0) s 0 := rfl
theorem T_1 {w : Nat} {F : Nat → Prop} {T : Nat → Int32} (hw : w < 1024) (hT : TB 1 w F T) : ∀ n s, s < n → s &&& w = s → pcN s 10 ≤ 8 → ∃ c, T s = nI c ∧ c ≤ bb (pcN s 10) ∧ (0 < c ↔ PB F s)
  | 0, s, q, _, _ => absurd q (by omega)
  | n + 1, s, q, sw, p8 => by
    have sl := sub_le sw
    by_cases s0 : s = 0
    · subst s0
      exact ⟨1, hT.1, Nat.le_refl 1, fun _ => PB_nil, fun _ => by omega⟩
    have h0 : 0 < s := by omega
    have hs : s < 1024 := by omega
    have l := low_p s hs h0
    have p1 : 0 < pcN s 10 := by
      have := pcN_mono1 (x := 0) (s := s) (j := (lowN s).log2) (fun i hi => by rw [Nat.zero_testBit] at hi; cases hi) l.2.2.1 (by rw [Nat.zero_testBit]; simp) 10 l.2.1
      omega
    have cp := cnt_pA hs h0
    have key : ∀ k x, x + k = s + 1 → ∃ c, fE (fun x => pA s x ∧ F x) (fun x v => v + T (ndf s x)) (nI 0) s x = nI c ∧ c + bb (pcN s 10 - 1) * cntP (pA s) x ≤ bb (pcN s 10 - 1) * cntP (pA s) (s + 1) ∧ (0 < c ↔ ∃ y, x ≤ y ∧ y ≤ s ∧ pA s y ∧ F y ∧ PB F (ndf s y)) := by
      intro k
      induction k with
      | zero =>
        intro x hx
        rw [show x = s + 1 by omega]
        exact ⟨0, fE_top, by omega, fun z => absurd z (by omega), fun ⟨y, a, b, _⟩ => by omega⟩
      | succ k ih =>
        intro x hx
        obtain ⟨c, c1, c2, c3⟩ := ih (x + 1) (by omega)
        by_cases hp : pA s x ∧ F x
        · obtain ⟨n1, n2⟩ := ndf_lt hs h0 hp.1
          have xb := pA_bit hs h0 hp.1
          have pc := pcN_mono1 (x := ndf s x) (s := s) (j := (lowN s).log2) (fun i hi => sub_bit.mp n2 i hi) l.2.2.1 (by rw [ndf_bit, xb]; simp) 10 l.2.1
          obtain ⟨e, e1, e2, e3⟩ := T_1 hw hT n (ndf s x) (by omega) (sub_bit.mpr (fun i hi => sub_bit.mp sw i (sub_bit.mp n2 i hi))) (by omega)
          have e4 : e ≤ bb (pcN s 10 - 1) := Nat.le_trans e2 (bb_mono (by omega))
          rw [cntP_y hp.1, Nat.mul_add, Nat.mul_one] at c2
          refine ⟨c + e, ?_, by omega, ?_⟩
          · rw [fE_y (p := fun x => pA s x ∧ F x) (by omega) hp]
            show fE (fun x => pA s x ∧ F x) (fun x v => v + T (ndf s x)) (nI 0) s (x + 1) + T (ndf s x) = _
            rw [c1, e1, nI_add]
          · constructor
            · intro z
              rcases (by omega : 0 < c ∨ 0 < e) with u | u
              · obtain ⟨y, y1, y2, y3⟩ := c3.mp u
                exact ⟨y, by omega, y2, y3⟩
              · exact ⟨x, Nat.le_refl _, by omega, hp.1, hp.2, e3.mp u⟩
            · rintro ⟨y, y1, y2, y3⟩
              by_cases u : y = x
              · subst u
                have := e3.mpr y3.2.2
                omega
              · have := c3.mpr ⟨y, by omega, y2, y3⟩
                omega
        · refine ⟨c, by rw [fE_n (p := fun x => pA s x ∧ F x) (by omega) hp]; exact c1, ?_, ?_⟩
          · exact Nat.le_trans (Nat.add_le_add_left (Nat.mul_le_mul_left _ (cntP_mono (by omega))) _) c2
          · rw [c3]
            constructor
            · rintro ⟨y, y1, y2, y3⟩
              exact ⟨y, by omega, y2, y3⟩
            · rintro ⟨y, y1, y2, y3⟩
              by_cases u : y = x
              · subst u; exact absurd ⟨y3.1, y3.2.1⟩ hp
              · exact ⟨y, by omega, y2, y3⟩
    obtain ⟨c, c1, c2, c3⟩ := key (s + 1) 0 (by omega)
    refine ⟨c, by rw [hT.2 s h0 sl sw, cl_1, c1], ?_, ?_⟩
    · obtain ⟨m, hm⟩ : ∃ m, pcN s 10 = m + 1 := ⟨pcN s 10 - 1, by omega⟩
      rw [hm] at c2 cp ⊢
      show c ≤ 2 ^ m * bb m
      rw [Nat.add_sub_cancel] at c2 cp
      have := Nat.mul_le_mul_left (bb m) cp
      rw [Nat.mul_comm (2 ^ m)]
      omega
    · rw [c3, PB_iff h0]
      constructor
      · rintro ⟨y, y1, y2, y3⟩
        exact ⟨y, y3⟩
      · rintro ⟨y, y3⟩
        exact ⟨y, Nat.zero_le _, sub_le y3.1.1, y3⟩
theorem T_pos {w : Nat} {F : Nat → Prop} {T : Nat → Int32} (hw : w < 1024) (hT : TB 1 w F T) {s : Nat} (sw : s &&& w = s) (p8 : pcN w 10 ≤ 8) : ∃ c, c < 2147483648 ∧ T s = nI c ∧ (0 < c ↔ PB F s) := by
  have p : pcN s 10 ≤ 8 := Nat.le_trans (pcN_mono (sub_bit.mp sw) 10) p8
  obtain ⟨c, c1, c2, c3⟩ := T_1 hw hT (s + 1) s (by omega) sw p
  have : bb (pcN s 10) ≤ bb 8 := bb_mono p
  have e : bb 8 = 268435456 := by decide
  exact ⟨c, by omega, c1, c3⟩
