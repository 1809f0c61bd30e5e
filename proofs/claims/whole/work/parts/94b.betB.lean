/-! better: another wish of one family -/
set_option maxRecDepth 20000
theorem wsN_upd {V : Nat → Int32} {f w g : Nat} (hw : w ≤ 99) : wsN (upd V (29 + f) (nI w)) g = if g = f then w else wsN V g := by
  unfold wsN
  by_cases e : g = f
  · rw [if_pos e, e, upd_s, nI_clamp (by omega)]
  · rw [if_neg e, upd_n (by omega)]
theorem zN_upd {V : Nat → Int32} {f o : Nat} {x : Int32} (ho : o < 3) : zN (upd V (29 + f) x) o = zN V o := by
  unfold zN
  rw [upd_n (by omega)]
theorem f_lt {N x i : Nat} (hx : x < 2 ^ N) (h : x.testBit i = true) : i < N := by
  rcases Nat.lt_or_ge i N with q | q
  · exact q
  · rw [Nat.testBit_lt_two_pow (Nat.lt_of_lt_of_le hx (Nat.pow_le_pow_right (by omega) q))] at h
    cases h
theorem gdS_no {V : Nat → Int32} {N f w x : Nat} (hw : w ≤ 99) (hN : N ≤ 10) (hf : f < N) (hx : x.testBit f = false) : gdS (upd V (29 + f) (nI w)) N x ↔ gdS V N x := by
  have ne : ∀ g, x.testBit g = true → g ≠ f := fun g hg e => by rw [e, hx] at hg; cases hg
  constructor
  · rintro ⟨h1, h2⟩
    refine ⟨fun g hg q => ?_, fun g h hg hh q r => ?_⟩
    · have := h1 g hg q
      rw [wsN_upd hw, if_neg (ne g q)] at this; exact this
    · have := h2 g h hg hh q r
      rw [upd_n (by omega)] at this; exact this
  · rintro ⟨h1, h2⟩
    refine ⟨fun g hg q => ?_, fun g h hg hh q r => ?_⟩
    · rw [wsN_upd hw, if_neg (ne g q)]; exact h1 g hg q
    · rw [upd_n (by omega)]; exact h2 g h hg hh q r
theorem sumN_congr {g h : Nat → Nat} : ∀ n, (∀ i, i < n → h i = g i) → sumN h n = sumN g n
  | 0, _ => rfl
  | n + 1, q => by
    show sumN h n + h n = sumN g n + g n
    rw [sumN_congr n (fun i hi => q i (by omega)), q n (by omega)]
theorem sW_no {V : Nat → Int32} {N f w x : Nat} (hw : w ≤ 99) (hx : x.testBit f = false) : sW (upd V (29 + f) (nI w)) N x = sW V N x := by
  unfold sW
  refine sumN_congr N (fun i _ => ?_)
  by_cases q : x.testBit i = true
  · rw [if_pos q, if_pos q, wsN_upd hw, if_neg (fun e => by rw [e, hx] at q; cases q)]
  · rw [if_neg q, if_neg q]
theorem fil_no {V : Nat → Int32} {N O f w x : Nat} (hw : w ≤ 99) (hN : N ≤ 10) (hf : f < N) (hO : O ≤ 3) (hx : x.testBit f = false) : fil (upd V (29 + f) (nI w)) N O x ↔ fil V N O x := by
  unfold fil
  simp only [gdS_no hw hN hf hx, sW_no hw hx]
  constructor
  · rintro ⟨o, ho, a, b⟩
    exact ⟨o, ho, a, by rw [b, zN_upd (by omega)]⟩
  · rintro ⟨o, ho, a, b⟩
    exact ⟨o, ho, a, by rw [b, zN_upd (by omega)]⟩
theorem sW_in {V : Nat → Int32} {N f w x : Nat} (hw : w ≤ 99) (hf : f < N) (hx : x.testBit f = true) : sW (upd V (29 + f) (nI w)) N x = sW V N (ndf x (2 ^ f)) + w := by
  have h1 : ∀ i, i ≠ f → (if x.testBit i = true then wsN (upd V (29 + f) (nI w)) i else 0) = (if (ndf x (2 ^ f)).testBit i = true then wsN V i else 0) := fun i hi => by
    rw [wsN_upd hw, if_neg hi, ndf_bit, Nat.testBit_two_pow]
    simp [Ne.symm hi]
  have h2 : (if x.testBit f = true then wsN (upd V (29 + f) (nI w)) f else 0) = (if (ndf x (2 ^ f)).testBit f = true then wsN V f else 0) + w := by
    rw [wsN_upd hw, if_pos rfl, ndf_bit, Nat.testBit_two_pow_self, hx]
    simp
  have := sumN_at1 (g := fun i => if (ndf x (2 ^ f)).testBit i = true then wsN V i else 0) (h := fun i => if x.testBit i = true then wsN (upd V (29 + f) (nI w)) i else 0) h1 h2 N
  rw [if_pos hf] at this
  exact this
theorem gdS_in {V : Nat → Int32} {t N O K f w x : Nat} (hG : Gd V t N O K) (hw1 : 1 ≤ w) (hw : w ≤ 99) (hf : f < N) (hx2 : x < 2 ^ N) (hx : x.testBit f = true) : gdS (upd V (29 + f) (nI w)) N x ↔ gdS V N (ndf x (2 ^ f)) ∧ ndf x (2 ^ f) &&& qm V f = 0 := by
  have hN := hG.1.2
  have sym := hG.2.2.2.2.2.2.2.2.1.1
  have b : ∀ i, (ndf x (2 ^ f)).testBit i = true ↔ x.testBit i = true ∧ i ≠ f := fun i => by
    rw [ndf_bit, Nat.testBit_two_pow, Bool.and_eq_true]
    refine ⟨fun q => ⟨q.1, fun e => ?_⟩, fun q => ⟨q.1, by simpa using fun e => q.2 e.symm⟩⟩
    rw [e] at q; simp at q
  constructor
  · rintro ⟨h1, h2⟩
    refine ⟨⟨fun g hg q => ?_, fun g h hg hh q r => ?_⟩, ?_⟩
    · have := h1 g hg ((b g).mp q).1
      rw [wsN_upd hw, if_neg ((b g).mp q).2] at this; exact this
    · have := h2 g h hg hh ((b g).mp q).1 ((b h).mp r).1
      rw [upd_n (by omega)] at this; exact this
    · refine Classical.byContradiction (fun z => ?_)
      obtain ⟨i, i1, i2⟩ := and_ne.mp z
      rw [qm_bit] at i2
      simp only [qq, Bool.and_eq_true, decide_eq_true_eq] at i2
      have := h2 f i hf (f_lt hx2 ((b i).mp i1).1) hx ((b i).mp i1).1
      rw [upd_n (by omega)] at this
      exact this i2.2
  · rintro ⟨⟨h1, h2⟩, h3⟩
    have nq : ∀ i, i < N → (ndf x (2 ^ f)).testBit i = true → ¬ V (119 + 10 * f + i) = nI 1 := fun i hi hb e => by
      refine absurd h3 (and_ne.mpr ⟨i, hb, ?_⟩)
      rw [qm_bit]
      simp only [qq, Bool.and_eq_true, decide_eq_true_eq]
      exact ⟨by omega, e⟩
    refine ⟨fun g hg q => ?_, fun g h hg hh q r => ?_⟩
    · rw [wsN_upd hw]
      by_cases e : g = f
      · rw [if_pos e]; omega
      · rw [if_neg e]; exact h1 g hg ((b g).mpr ⟨q, e⟩)
    · rw [upd_n (by omega)]
      by_cases e : g = f
      · by_cases e' : h = f
        · rw [e, e', hG.2.2.2.2.2.2.2.2.1.2.1 f (by omega)]
          decide
        · rw [e]; exact nq h hh ((b h).mpr ⟨r, e'⟩)
      · by_cases e' : h = f
        · rw [e', (sym g f (by omega) (by omega)).2]; exact nq g hg ((b g).mpr ⟨q, e⟩)
        · exact h2 g h hg hh ((b g).mpr ⟨q, e⟩) ((b h).mpr ⟨r, e'⟩)
theorem fil_in {V : Nat → Int32} {t N O K f w x : Nat} (hG : Gd V t N O K) (hw1 : 1 ≤ w) (hw : w ≤ 99) (hf : f < N) (hx2 : x < 2 ^ N) (hx : x.testBit f = true) : fil (upd V (29 + f) (nI w)) N O x ↔ gdS V N (ndf x (2 ^ f)) ∧ ndf x (2 ^ f) &&& qm V f = 0 ∧ ∃ o, o < O ∧ sW V N (ndf x (2 ^ f)) + w = zN V o := by
  have hO := hG.2.1.2
  unfold fil
  simp only [gdS_in hG hw1 hw hf hx2 hx, sW_in hw hf hx]
  constructor
  · rintro ⟨o, ho, a, b⟩
    exact ⟨a.1, a.2, o, ho, by rw [b, zN_upd (by omega)]⟩
  · rintro ⟨a, a', o, ho, b⟩
    exact ⟨o, ho, ⟨a, a'⟩, by rw [b, zN_upd (by omega)]⟩
/-- a set that f may join with wish w, and how many are served then -/
def KS (V : Nat → Int32) (N O : Nat) (cT : Nat → Nat) (f S o w c : Nat) : Prop := f < N ∧ S < 2 ^ N ∧ o < O ∧ (S.testBit f = false ∧ S &&& qm V f = 0 ∧ gdS V N S) ∧ sW V N S + w = zN V o ∧ 1 ≤ w ∧ w ≤ 99 ∧ c = 1 + pcN S 10 + cT (ndf (ndf (wsh V N) S) (2 ^ f))
theorem KS_max {V : Nat → Int32} {t N O K : Nat} (hG : Gd V t N O K) {cT : Nat → Nat} (hT : ∀ s, s &&& wsh V N = s → MXp (fil V N O) s (cT s)) {f w c' : Nat} (hf : f < N) (w1 : 1 ≤ w) (w2 : w ≤ 99) (hM : MXp (fil (upd V (29 + f) (nI w)) N O) (2 ^ N - 1) c') : (∀ S o c, KS V N O cT f S o w c → c ≤ c') ∧ (cT (wsh V N) < c' → ∃ S o, KS V N O cT f S o w c') := by
  have hN := hG.1.2
  have hO := hG.2.1.2
  have pw := pow_le hN
  have wl : wsh V N < 2 ^ N := bP_lt _ _
  have all : ∀ u, u < 2 ^ N → u &&& (2 ^ N - 1) = u := fun u hu => by rw [Nat.and_two_pow_sub_one_eq_mod, Nat.mod_eq_of_lt hu]
  have or_lt : ∀ a b, a < 2 ^ N → b < 2 ^ N → a ||| b < 2 ^ N := fun a b ha hb => Nat.or_lt_two_pow ha hb
  have fp : 2 ^ f < 2 ^ N := Nat.pow_lt_pow_right (by omega) hf
  have up : ∀ S o c, KS V N O cT f S o w c → c ≤ c' := by
    rintro S o c ⟨-, S2, ho, ⟨S3, S4, S5⟩, S6, -, -, rfl⟩
    have rs : ndf (ndf (wsh V N) S) (2 ^ f) &&& wsh V N = ndf (ndf (wsh V N) S) (2 ^ f) := sub_bit.mpr (fun i hi => by
      rw [ndf_bit, ndf_bit, Bool.and_eq_true, Bool.and_eq_true] at hi; exact hi.1.1)
    obtain ⟨⟨u, u1, u2, u3⟩, -⟩ := hT _ rs
    have ub : ∀ i, u.testBit i = true → (wsh V N).testBit i = true ∧ S.testBit i = false ∧ i ≠ f := fun i hi => by
      have := sub_bit.mp u1 i hi
      rw [ndf_bit, ndf_bit, Bool.and_eq_true, Bool.and_eq_true, Nat.testBit_two_pow] at this
      refine ⟨this.1.1, by simpa using this.1.2, fun e => ?_⟩
      have := this.2
      rw [e] at this; simp at this
    have ul : u < 2 ^ N := by
      have := sub_le (x := u) (s := wsh V N) (sub_bit.mpr (fun i hi => (ub i hi).1))
      omega
    have xb : ∀ i, (2 ^ f ||| S).testBit i = true ↔ i = f ∨ S.testBit i = true := fun i => by
      rw [Nat.testBit_or, Bool.or_eq_true, Nat.testBit_two_pow, decide_eq_true_eq]
      exact ⟨fun q => q.imp Eq.symm id, fun q => q.imp Eq.symm id⟩
    have xl := or_lt _ _ fp S2
    have vl := or_lt _ _ xl ul
    have xf : (2 ^ f ||| S).testBit f = true := (xb f).mpr (Or.inl rfl)
    have nS : ndf (2 ^ f ||| S) (2 ^ f) = S := bit_eq (fun i => by
      rw [ndf_bit, Nat.testBit_or, Nat.testBit_two_pow]
      by_cases e : f = i
      · subst e; rw [S3]; simp
      · simp [e])
    have nu : ndf ((2 ^ f ||| S) ||| u) (2 ^ f ||| S) = u := bit_eq (fun i => by
      rw [ndf_bit, Nat.testBit_or]
      cases a : u.testBit i
      · cases (2 ^ f ||| S).testBit i <;> rfl
      · have q := ub i a
        have : (2 ^ f ||| S).testBit i = false := by
          cases z : (2 ^ f ||| S).testBit i
          · rfl
          · rcases (xb i).mp z with e | e
            · exact absurd e q.2.2
            · rw [q.2.1] at e; cases e
        rw [this]; rfl)
    have xs : (2 ^ f ||| S) &&& ((2 ^ f ||| S) ||| u) = 2 ^ f ||| S := sub_bit.mpr (fun i hi => by rw [Nat.testBit_or, hi]; rfl)
    have x0 : 0 < 2 ^ f ||| S := Nat.pos_of_ne_zero (fun e => by rw [e, Nat.zero_testBit] at xf; cases xf)
    have hP : PB (fil (upd V (29 + f) (nI w)) N O) u := PB_congr u2 (by omega) (fun x hx hF => (fil_no w2 hN hf hO (by
      cases z : x.testBit f
      · rfl
      · exact absurd rfl (ub f (sub_bit.mp hx f z)).2.2)).mpr hF)
    have := hM.2 ((2 ^ f ||| S) ||| u) (all _ vl) (PB_add (by omega) x0 ((fil_in hG w1 w2 hf xl xf).mpr (by rw [nS]; exact ⟨S5, S4, o, ho, S6⟩)) xs (by rw [nu]; exact hP))
    rw [pcN_split xs, nu, pcN_split (u := 2 ^ f ||| S) (x := 2 ^ f) (sub_bit.mpr (fun i hi => by rw [Nat.testBit_or, hi]; rfl)), nS, pcN_one 10 (by omega), u3] at this
    exact this
  refine ⟨up, fun lt => ?_⟩
  obtain ⟨⟨u, u1, u2, u3⟩, -⟩ := id hM
  have ul : u < 2 ^ N := by
    have := sub_le u1
    omega
  have noF : ∀ v, v < 2 ^ N → v.testBit f = false → PB (fil (upd V (29 + f) (nI w)) N O) v → PB (fil V N O) v := fun v hv hb h => PB_congr h (by omega) (fun x hx hF => (fil_no w2 hN hf hO (by
    cases z : x.testBit f
    · rfl
    · rw [sub_bit.mp hx f z] at hb; cases hb)).mp hF)
  have sbw : ∀ v, v < 2 ^ N → PB (fil V N O) v → v &&& wsh V N = v := fun v hv h => PB_sub h (n := 2 ^ N) (by omega) (fun x hx hF => fil_wsh hx hF) hv
  cases ub : u.testBit f
  · have h := noF u ul ub u2
    have := (hT _ (Nat.and_self (wsh V N))).2 u (sbw u ul h) h
    omega
  · obtain ⟨x, x1, x2⟩ := IP_ex u2 (by omega) f ub
    obtain ⟨y1, y2, y3⟩ := IP_fw x1 (by omega)
    have xl := sub_le y2
    obtain ⟨S5, S4, o, ho, S6⟩ := (fil_in hG w1 w2 hf (by omega) x2).mp y1
    have nl : ndf u x ≤ u := sub_le ndf_sub
    have sl : ndf x (2 ^ f) ≤ x := sub_le ndf_sub
    have h := noF (ndf u x) (by omega) (by rw [ndf_bit, x2]; simp) y3
    have rb := sub_bit.mp (sbw _ (by omega) h)
    have rs : ndf (ndf (wsh V N) (ndf x (2 ^ f))) (2 ^ f) &&& wsh V N = ndf (ndf (wsh V N) (ndf x (2 ^ f))) (2 ^ f) := sub_bit.mpr (fun i hi => by
      rw [ndf_bit, ndf_bit, Bool.and_eq_true, Bool.and_eq_true] at hi; exact hi.1.1)
    have le := (hT _ rs).2 (ndf u x) (sub_bit.mpr (fun i hi => by
      have hw := rb i hi
      rw [ndf_bit, Bool.and_eq_true] at hi
      have xi : x.testBit i = false := by simpa using hi.2
      rw [ndf_bit, ndf_bit, ndf_bit, hw, xi, Nat.testBit_two_pow]
      by_cases e : f = i
      · subst e; rw [x2] at xi; cases xi
      · simp [e])) h
    have ks : KS V N O cT f (ndf x (2 ^ f)) o w (1 + pcN (ndf x (2 ^ f)) 10 + cT (ndf (ndf (wsh V N) (ndf x (2 ^ f))) (2 ^ f))) := ⟨hf, by omega, ho, ⟨by rw [ndf_bit, Nat.testBit_two_pow_self]; simp, S4, S5⟩, S6, w1, w2, rfl⟩
    have le2 := up _ _ _ ks
    have sp := pcN_split y2 10
    have sp2 := pcN_split (u := x) (x := 2 ^ f) (sub_bit.mpr (fun i hi => by
      rw [Nat.testBit_two_pow] at hi
      rw [← show f = i by simpa using hi]; exact x2)) 10
    rw [pcN_one 10 (by omega)] at sp2
    have e : c' = 1 + pcN (ndf x (2 ^ f)) 10 + cT (ndf (ndf (wsh V N) (ndf x (2 ^ f))) (2 ^ f)) := by omega
    exact ⟨_, o, by rw [e]; exact ks⟩
/-- the best of some tries: the first family, its least wish -/
def BST (P : Nat → Nat → Nat → Prop) (c0 : Nat) (F W : Int32) (C : Nat) : Prop := c0 ≤ C ∧ (∀ f w c, P f w c → c ≤ C) ∧ ((C = c0 ∧ F = -1 ∧ W = -1) ∨ (c0 < C ∧ ∃ f w, f < 10 ∧ w < 100 ∧ F = nI f ∧ W = nI w ∧ P f w C ∧ ∀ f' w', P f' w' C → f < f' ∨ (f = f' ∧ w ≤ w')))
theorem BST_eq {P : Nat → Nat → Nat → Prop} {c0 : Nat} {F W F' W' : Int32} {C C' : Nat} (h : BST P c0 F W C) (h' : BST P c0 F' W' C') : F = F' ∧ W = W' ∧ C = C' := by
  obtain ⟨a1, a2, a3⟩ := h
  obtain ⟨b1, b2, b3⟩ := h'
  rcases a3 with ⟨a3, a4, a5⟩ | ⟨a3, f, w, f1, w1, rfl, rfl, p1, p2⟩
  · rcases b3 with ⟨b3, b4, b5⟩ | ⟨b3, f', w', f1', w1', rfl, rfl, q1, q2⟩
    · exact ⟨by rw [a4, b4], by rw [a5, b5], by omega⟩
    · have := a2 _ _ _ q1
      omega
  · rcases b3 with ⟨b3, b4, b5⟩ | ⟨b3, f', w', f1', w1', rfl, rfl, q1, q2⟩
    · have := b2 _ _ _ p1
      omega
    · have e : C = C' := Nat.le_antisymm (b2 _ _ _ p1) (a2 _ _ _ q1)
      subst e
      have r1 := p2 _ _ q1
      have r2 := q2 _ _ p1
      have : f = f' ∧ w = w' := by omega
      rw [this.1, this.2]
      exact ⟨rfl, rfl, rfl⟩
theorem BST_keep {P P' : Nat → Nat → Nat → Prop} {c0 : Nat} {F W : Int32} {C : Nat} (h : BST P c0 F W C) (h1 : ∀ f w c, P f w c → P' f w c) (h2 : ∀ f w c, P' f w c → P f w c ∨ c < C ∨ (c = C ∧ ∀ f0 w0, f0 < 10 → w0 < 100 → P f0 w0 C → F = nI f0 → W = nI w0 → f0 < f ∨ (f0 = f ∧ w0 ≤ w))) : BST P' c0 F W C := by
  obtain ⟨a1, a2, a3⟩ := h
  refine ⟨a1, fun f w c q => ?_, ?_⟩
  · rcases h2 f w c q with z | z | z
    · exact a2 f w c z
    · omega
    · omega
  · rcases a3 with a3 | ⟨a3, f, w, f1, w1, e1, e2, p1, p2⟩
    · exact Or.inl a3
    · refine Or.inr ⟨a3, f, w, f1, w1, e1, e2, h1 _ _ _ p1, fun f' w' q => ?_⟩
      rcases h2 f' w' C q with z | z | z
      · exact p2 f' w' z
      · omega
      · exact z.2 f w f1 w1 p1 e1 e2
theorem BST_new {P P' : Nat → Nat → Nat → Prop} {c0 : Nat} {F W : Int32} {C f w c : Nat} (h : BST P c0 F W C) (hc : C < c) (hf : f < 10) (hw : w < 100) (h1 : P' f w c) (h2 : ∀ f' w' c', P' f' w' c' → P f' w' c' ∨ (f' = f ∧ w' = w ∧ c' ≤ c)) : BST P' c0 (nI f) (nI w) c := by
  obtain ⟨a1, a2, a3⟩ := h
  refine ⟨by omega, fun f' w' c' q => ?_, Or.inr ⟨by omega, f, w, hf, hw, rfl, rfl, h1, fun f' w' q => ?_⟩⟩
  · rcases h2 f' w' c' q with z | z
    · have := a2 _ _ _ z; omega
    · omega
  · rcases h2 f' w' c q with z | z
    · have := a2 _ _ _ z; omega
    · omega
theorem BST_less {P P' : Nat → Nat → Nat → Prop} {c0 : Nat} {W : Int32} {C f w w0 : Nat} (h : BST P c0 (nI f) W C) (hf : f < 10) (hw : w < 100) (hW : W = nI w0) (hw0 : w0 < 100) (lt : w < w0) (h0 : ∀ f w c, P f w c → P' f w c) (h1 : P' f w C) (h2 : ∀ f' w' c', P' f' w' c' → P f' w' c' ∨ (f' = f ∧ w' = w ∧ c' ≤ C)) : BST P' c0 (nI f) (nI w) C := by
  obtain ⟨a1, a2, a3⟩ := h
  have hC : ∀ f' w' c', P' f' w' c' → c' ≤ C := fun f' w' c' q => by
    rcases h2 f' w' c' q with z | z
    · exact a2 _ _ _ z
    · omega
  rcases a3 with ⟨a3, a4, a5⟩ | ⟨a3, f1, w1, g1, g2, e1, e2, p1, p2⟩
  · exact absurd a4 (nI_m1 (by omega))
  · have ef : f = f1 := nI_inj (by omega) (by omega) e1
    have ew : w0 = w1 := nI_inj (by omega) (by omega) (hW.symm.trans e2)
    subst ef ew
    refine ⟨a1, hC, Or.inr ⟨a3, f, w, hf, hw, rfl, rfl, h1, fun f' w' q => ?_⟩⟩
    rcases h2 f' w' C q with z | z
    · have := p2 _ _ z; omega
    · omega
theorem BST_congr {P P' : Nat → Nat → Nat → Prop} {c0 : Nat} {F W : Int32} {C : Nat} (h : BST P c0 F W C) (e : ∀ f w c, P f w c ↔ P' f w c) : BST P' c0 F W C := BST_keep h (fun f w c q => (e f w c).mp q) (fun f w c q => Or.inl ((e f w c).mpr q))
theorem BST_nil {P : Nat → Nat → Nat → Prop} {c0 : Nat} (e : ∀ f w c, ¬ P f w c) : BST P c0 (-1) (-1) c0 := ⟨Nat.le_refl _, fun f w c q => absurd q (e f w c), Or.inl ⟨rfl, rfl, rfl⟩⟩
