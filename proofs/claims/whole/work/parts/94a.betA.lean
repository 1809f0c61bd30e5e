/-! better: the most that are served -/
set_option maxRecDepth 20000
theorem IP_PB {F : Nat → Prop} {s x : Nat} (h : IP F s x) : PB F s := IP_ind (fun s => PB F s) h (fun s a b c e => PB_cons a b c e) (fun s y a b c e ih => PB_cons a b c ih)
theorem PB_add {F : Nat → Prop} {u x : Nat} (hu : u < 1024) (h0 : 0 < x) (hF : F x) (hx : x &&& u = x) (h : PB F (ndf u x)) : PB F u := IP_PB (IP_bw _ u x (Nat.lt_succ_self _) hu h0 hF hx h)
theorem PB_congr {F F' : Nat → Prop} {u : Nat} (h : PB F u) : u < 1024 → (∀ x, x &&& u = x → F x → F' x) → PB F' u := by
  refine PB_ind (fun u => u < 1024 → (∀ x, x &&& u = x → F x → F' x) → PB F' u) h (fun _ _ => PB_nil) (fun s y a b c e ih => ?_)
  · intro hs hF
    obtain ⟨n1, n2⟩ := ndf_lt hs a b
    exact PB_cons a b (hF y b.1 c) (ih (by omega) (fun x hx => hF x (sub_bit.mpr (fun i hi => sub_bit.mp n2 i (sub_bit.mp hx i hi)))))
theorem PB_sub {F : Nat → Prop} {u w n : Nat} (h : PB F u) (hn : n ≤ 1024) (hF : ∀ x, x < n → F x → x &&& w = x) : u < n → u &&& w = u := by
  refine PB_ind (fun u => u < n → u &&& w = u) h (fun _ => Nat.zero_and _) (fun s y a b c e ih => ?_)
  · intro hs
    obtain ⟨n1, n2⟩ := ndf_lt (by omega) a b
    have yl := sub_le b.1
    refine sub_bit.mpr (fun i hi => ?_)
    cases q : y.testBit i
    · exact sub_bit.mp (ih (by omega)) i (by rw [ndf_bit, hi, q]; rfl)
    · exact sub_bit.mp (hF y (by omega) c) i q
theorem pcN_split {u x : Nat} (h : x &&& u = x) : ∀ n, pcN u n = pcN x n + pcN (ndf u x) n
  | 0 => rfl
  | n + 1 => by
    have ih := pcN_split h n
    show pcN u n + (if u.testBit n = true then 1 else 0) = pcN x n + (if x.testBit n = true then 1 else 0) + (pcN (ndf u x) n + (if (ndf u x).testBit n = true then 1 else 0))
    rw [ndf_bit]
    cases a : x.testBit n
    · cases b : u.testBit n <;> simp <;> omega
    · rw [sub_bit.mp h n a]
      simp; omega
theorem pcN_one {f : Nat} : ∀ n, f < n → pcN (2 ^ f) n = 1 := by
  have z : ∀ n, n ≤ f → pcN (2 ^ f) n = 0 := fun n => by
    induction n with
    | zero => exact fun _ => rfl
    | succ n ih =>
      intro h
      show pcN (2 ^ f) n + (if (2 ^ f).testBit n = true then 1 else 0) = 0
      rw [ih (by omega), Nat.testBit_two_pow, if_neg (by simp; omega)]
  intro n
  induction n with
  | zero => exact fun h => absurd h (by omega)
  | succ n ih =>
    intro h
    show pcN (2 ^ f) n + (if (2 ^ f).testBit n = true then 1 else 0) = 1
    rw [Nat.testBit_two_pow]
    by_cases e : f = n
    · rw [z n (by omega), if_pos (by simpa using e)]
    · rw [ih (by omega), if_neg (by simpa using e)]
/-- c is the most that groups within s serve -/
def MXp (F : Nat → Prop) (s c : Nat) : Prop := (∃ u, u &&& s = u ∧ PB F u ∧ pcN u 10 = c) ∧ ∀ u, u &&& s = u → PB F u → pcN u 10 ≤ c
theorem MXp_eq {F : Nat → Prop} {s c c' : Nat} (h : MXp F s c) (h' : MXp F s c') : c = c' := by
  obtain ⟨⟨u, u1, u2, u3⟩, m⟩ := h
  obtain ⟨⟨v, v1, v2, v3⟩, m'⟩ := h'
  have := m v v1 v2
  have := m' u u1 u2
  omega
theorem MXp_le {F : Nat → Prop} {s c : Nat} (h : MXp F s c) : c ≤ 10 := by
  obtain ⟨⟨u, u1, u2, u3⟩, m⟩ := h
  rw [← u3]; exact pcN_le u 10
theorem cl_2 {F : Nat → Prop} {T : Nat → Int32} {s : Nat} : cl 2 F T s = fE (fun x => pA s x ∧ F x) (fun x v => imx v (T (ndf s x) + nI (pcN x 10))) (T (s - lowN s)) s 0 := rfl
theorem T_2 {w : Nat} {F : Nat → Prop} {T : Nat → Int32} (hw : w < 1024) (hT : TB 2 w F T) : ∀ n s, s < n → s &&& w = s → ∃ c, T s = nI c ∧ MXp F s c
  | 0, s, q, _ => absurd q (by omega)
  | n + 1, s, q, sw => by
    have sl := sub_le sw
    by_cases s0 : s = 0
    · subst s0
      refine ⟨0, hT.1, ⟨0, rfl, PB_nil, by decide⟩, fun u hu _ => ?_⟩
      rw [Nat.and_zero] at hu
      rw [← hu]; decide
    have h0 : 0 < s := by omega
    have hs : s < 1024 := by omega
    obtain ⟨l1, l2, l3, l4, l5, l6, l7⟩ := low_p s hs h0
    have lp : 0 < lowN s := by rw [l1]; exact Nat.two_pow_pos _
    have tr : ∀ r, r &&& s = r → r &&& w = r := fun r hr => sub_bit.mpr (fun i hi => sub_bit.mp sw i (sub_bit.mp hr i hi))
    obtain ⟨c1, e1, m1⟩ := T_2 hw hT n (s - lowN s) (by omega) (tr _ l7)
    have d1 := MXp_le m1
    have tx : ∀ x, pA s x → ∃ c, T (ndf s x) = nI c ∧ MXp F (ndf s x) c := fun x hx => by
      obtain ⟨n1, n2⟩ := ndf_lt hs h0 hx
      exact T_2 hw hT n (ndf s x) (by omega) (tr _ n2)
    have key : ∀ k x, x + k = s + 1 → ∃ c, fE (fun x => pA s x ∧ F x) (fun x v => imx v (T (ndf s x) + nI (pcN x 10))) (T (s - lowN s)) s x = nI c ∧ c ≤ 20 ∧ c1 ≤ c ∧ (c = c1 ∨ ∃ y e, pA s y ∧ F y ∧ MXp F (ndf s y) e ∧ c = e + pcN y 10) ∧ ∀ y e, x ≤ y → pA s y → F y → MXp F (ndf s y) e → e + pcN y 10 ≤ c := by
      intro k
      induction k with
      | zero =>
        intro x hx
        rw [show x = s + 1 by omega]
        refine ⟨c1, by rw [fE_top, e1], by omega, Nat.le_refl _, Or.inl rfl, fun y e a b => ?_⟩
        have := sub_le b.1
        omega
      | succ k ih =>
        intro x hx
        obtain ⟨c, g1, g2, g3, g4, g5⟩ := ih (x + 1) (by omega)
        by_cases hp : pA s x ∧ F x
        · obtain ⟨e, t1, t2⟩ := tx x hp.1
          have d2 := MXp_le t2
          have d3 := pcN_le x 10
          refine ⟨if c < e + pcN x 10 then e + pcN x 10 else c, ?_, ?_, ?_, ?_, ?_⟩
          · rw [fE_y (p := fun x => pA s x ∧ F x) (by omega) hp]
            show imx (fE (fun x => pA s x ∧ F x) (fun x v => imx v (T (ndf s x) + nI (pcN x 10))) (T (s - lowN s)) s (x + 1)) (T (ndf s x) + nI (pcN x 10)) = _
            rw [g1, t1, nI_add, imx_nn (by omega) (by omega)]
          · split <;> omega
          · split <;> omega
          · split
            · exact Or.inr ⟨x, e, hp.1, hp.2, t2, rfl⟩
            · exact g4
          · intro y e' a b c' m
            by_cases u : y = x
            · subst u
              rw [MXp_eq m t2]
              split <;> omega
            · have := g5 y e' (by omega) b c' m
              split <;> omega
        · refine ⟨c, by rw [fE_n (p := fun x => pA s x ∧ F x) (by omega) hp]; exact g1, g2, g3, g4, fun y e a b c' m => ?_⟩
          by_cases u : y = x
          · subst u; exact absurd ⟨b, c'⟩ hp
          · exact g5 y e (by omega) b c' m
    obtain ⟨c, g1, g2, g3, g4, g5⟩ := key (s + 1) 0 (by omega)
    refine ⟨c, by rw [hT.2 s h0 sl sw, cl_2, g1], ?_, fun u hu hP => ?_⟩
    · rcases g4 with g4 | ⟨y, e, y1, y2, ⟨⟨v, v1, v2, v3⟩, -⟩, y4⟩
      · obtain ⟨⟨u, u1, u2, u3⟩, -⟩ := m1
        exact ⟨u, sub_bit.mpr (fun i hi => sub_bit.mp l7 i (sub_bit.mp u1 i hi)), u2, by omega⟩
      · have dis : ∀ i, v.testBit i = true → y.testBit i = false := fun i hi => by
          have := sub_bit.mp v1 i hi
          rw [ndf_bit, Bool.and_eq_true] at this
          simpa using this.2
        have us : (y ||| v) &&& s = y ||| v := sub_bit.mpr (fun i hi => by
          rw [Nat.testBit_or, Bool.or_eq_true] at hi
          rcases hi with hi | hi
          · exact sub_bit.mp y1.1 i hi
          · have := sub_bit.mp v1 i hi
            rw [ndf_bit, Bool.and_eq_true] at this
            exact this.1)
        have ys : y &&& (y ||| v) = y := sub_bit.mpr (fun i hi => by rw [Nat.testBit_or, hi]; rfl)
        have nd : ndf (y ||| v) y = v := bit_eq (fun i => by
          rw [ndf_bit, Nat.testBit_or]
          cases a : v.testBit i
          · cases y.testBit i <;> rfl
          · rw [dis i a]; rfl)
        have ul := sub_le us
        have y0 : 0 < y := Nat.lt_of_lt_of_le lp (pA_low hs h0 y1)
        refine ⟨y ||| v, us, PB_add (by omega) y0 y2 ys (by rw [nd]; exact v2), ?_⟩
        rw [pcN_split ys, nd]; omega
    · by_cases lb : u.testBit (lowN s).log2 = true
      · have ul := sub_le hu
        have u0 : 0 < u := by
          rcases Nat.eq_zero_or_pos u with z | z
          · rw [z, Nat.zero_testBit] at lb; cases lb
          · exact z
        have le := low_eq hs h0 hu lb
        obtain ⟨y, y1, y2, y3⟩ := PB_inv hP u0
        have py : pA s y := ⟨sub_bit.mpr (fun i hi => sub_bit.mp hu i (sub_bit.mp y1.1 i hi)), by rw [← le]; exact y1.2⟩
        obtain ⟨e, t1, t2⟩ := tx y py
        have h1 := g5 y e (Nat.zero_le _) py y2 t2
        have h2 := t2.2 (ndf u y) (sub_bit.mpr (fun i hi => by
          rw [ndf_bit, Bool.and_eq_true] at hi
          rw [ndf_bit, sub_bit.mp hu i hi.1, hi.2]; rfl)) y3
        rw [pcN_split y1.1]
        omega
      · have := m1.2 u (sub_bit.mpr (fun i hi => by
          have e : s - lowN s = s ^^^ 2 ^ (lowN s).log2 := by rw [← l1]; exact l4.symm
          rw [e, Nat.testBit_xor, sub_bit.mp hu i hi, Nat.testBit_two_pow]
          by_cases z : (lowN s).log2 = i
          · rw [z] at lb; exact absurd hi lb
          · simp [z])) hP
        omega
/-- the model's table -/
theorem L_PB {N : Nat} {F : Nat → Prop} {L : Nat → Int32} (hN : N ≤ 10) (h0 : L 0 = nI 0) (hL : ∀ s, 0 < s → s < 2 ^ N → L s = cm F L s) : ∀ n s, s < n → s < 2 ^ N → ∃ c, L s = nI c ∧ (c = 99 ∨ c ≤ pcN s 10) ∧ (c < 99 ↔ PB F s)
  | 0, s, q, _ => absurd q (by omega)
  | n + 1, s, q, s2 => by
    have pw := pow_le hN
    by_cases z : s = 0
    · subst z
      exact ⟨0, h0, Or.inr (Nat.zero_le _), fun _ => PB_nil, fun _ => by omega⟩
    have s0 : 0 < s := by omega
    have hs : s < 1024 := by omega
    have l := low_p s hs s0
    have pl := pcN_le s 10
    have key : ∀ k x, x + k = s + 1 → ∃ c, fE (fun x => pA s x ∧ F x) (fun x v => mj (L (ndf s x)) v) (nI 99) s x = nI c ∧ (c = 99 ∨ c ≤ pcN s 10) ∧ (c < 99 ↔ ∃ y, x ≤ y ∧ pA s y ∧ F y ∧ PB F (ndf s y)) := by
      intro k
      induction k with
      | zero =>
        intro x hx
        rw [show x = s + 1 by omega]
        refine ⟨99, fE_top, Or.inl rfl, fun z => absurd z (by omega), fun ⟨y, a, b, _⟩ => ?_⟩
        have := sub_le b.1
        omega
      | succ k ih =>
        intro x hx
        obtain ⟨c, g1, g2, g3⟩ := ih (x + 1) (by omega)
        by_cases hp : pA s x ∧ F x
        · obtain ⟨n1, n2⟩ := ndf_lt hs s0 hp.1
          have xb := pA_bit hs s0 hp.1
          have pc := pcN_mono1 (x := ndf s x) (s := s) (j := (lowN s).log2) (fun i hi => sub_bit.mp n2 i hi) l.2.2.1 (by rw [ndf_bit, xb]; simp) 10 l.2.1
          obtain ⟨e, t1, t2, t3⟩ := L_PB hN h0 hL n (ndf s x) (by omega) (by omega)
          refine ⟨if e + 1 < c then e + 1 else c, ?_, ?_, ?_⟩
          · rw [fE_y (p := fun x => pA s x ∧ F x) (by omega) hp]
            show mj (L (ndf s x)) (fE (fun x => pA s x ∧ F x) (fun x v => mj (L (ndf s x)) v) (nI 99) s (x + 1)) = _
            rw [g1, t1, mj_n (by omega) (by omega)]
          · split <;> omega
          · constructor
            · intro u
              by_cases v : c < 99
              · obtain ⟨y, y1, y2⟩ := g3.mp v
                exact ⟨y, by omega, y2⟩
              · have : e < 99 := by
                  split at u <;> omega
                exact ⟨x, Nat.le_refl _, hp.1, hp.2, t3.mp this⟩
            · rintro ⟨y, y1, y2, y3, y4⟩
              by_cases u : y = x
              · subst u
                have := t3.mpr y4
                split <;> omega
              · have := g3.mpr ⟨y, by omega, y2, y3, y4⟩
                split <;> omega
        · refine ⟨c, by rw [fE_n (p := fun x => pA s x ∧ F x) (by omega) hp]; exact g1, g2, ?_⟩
          rw [g3]
          constructor
          · rintro ⟨y, y1, y2⟩
            exact ⟨y, by omega, y2⟩
          · rintro ⟨y, y1, y2, y3, y4⟩
            by_cases u : y = x
            · subst u; exact absurd ⟨y2, y3⟩ hp
            · exact ⟨y, by omega, y2, y3, y4⟩
    obtain ⟨c, g1, g2, g3⟩ := key (s + 1) 0 (by omega)
    refine ⟨c, by rw [hL s s0 s2]; exact g1, g2, ?_⟩
    rw [g3, PB_iff s0]
    exact ⟨fun ⟨y, _, y2⟩ => ⟨y, y2⟩, fun ⟨y, y2⟩ => ⟨y, Nat.zero_le _, y2⟩⟩
theorem bsN_max {C : Nat → Prop} {T : Nat → Int32} : ∀ m s, 0 < s → s ≤ m → C s → pcN s 10 ≤ pcN (bsN C (btr T) m) 10
  | 0, s, a, b, _ => absurd b (by omega)
  | m + 1, s, a, b, c => by
    by_cases h : C (m + 1) ∧ btr T (m + 1) (bsN C (btr T) m)
    · rw [bsN_y h.1 h.2]
      by_cases e : s = m + 1
      · rw [e]; exact Nat.le_refl _
      · have := bsN_max (T := T) m s a (by omega) c
        rcases h.2 with q | q <;> omega
    · rw [bsN_n h]
      by_cases e : s = m + 1
      · subst e
        rcases Nat.lt_or_ge (pcN (bsN C (btr T) m) 10) (pcN (m + 1) 10) with q | q
        · exact absurd ⟨c, Or.inl q⟩ h
        · exact q
      · exact bsN_max m s a (by omega) c
theorem serves_MX {N : Nat} {F : Nat → Prop} {L : Nat → Int32} (hN : N ≤ 10) (h0 : L 0 = nI 0) (hL : ∀ s, 0 < s → s < 2 ^ N → L s = cm F L s) : MXp F (2 ^ N - 1) (pcN (bsN (fun s => L s < nI 99) (btr L) (2 ^ N - 1)) 10) := by
  have pw := pow_le hN
  have iff : ∀ s, s < 2 ^ N → (L s < nI 99 ↔ PB F s) := fun s hs => by
    obtain ⟨c, c1, c2, c3⟩ := L_PB hN h0 hL (s + 1) s (by omega) hs
    have := pcN_le s 10
    rw [← c3, c1, Int32.lt_iff_toInt_lt, nI_toInt (by omega), nI_toInt (by omega)]
    omega
  have bl := bsN_le (C := fun s => L s < nI 99) (B := btr L) (2 ^ N - 1)
  have all : ∀ u, u < 2 ^ N → u &&& (2 ^ N - 1) = u := fun u hu => by rw [Nat.and_two_pow_sub_one_eq_mod, Nat.mod_eq_of_lt hu]
  refine ⟨⟨_, all _ (by omega), ?_, rfl⟩, fun u hu hP => ?_⟩
  · rcases bsN_in (C := fun s => L s < nI 99) (B := btr L) (2 ^ N - 1) with q | q
    · rw [q]; exact PB_nil
    · exact (iff _ (by omega)).mp q
  · have ul := sub_le hu
    rcases Nat.eq_zero_or_pos u with z | z
    · subst z; exact Nat.zero_le _
    · exact bsN_max _ u z ul ((iff u (by omega)).mpr hP)
