/-! the invariant -/
def isV (v : Nat) : Prop := v = 1 ∨ v = 34 ∨ v = 69 ∨ v = 102
def fa (σ : Mm) (v f : Nat) : Nat := (gR σ (v + 1) f).getD 0
/-- the members of a village: its ten families in some order -/
def Vm (σ : Mm) (v : Nat) : Prop := ∃ π : Nat → Nat, (∀ f, f < 10 → π f < 10 ∧ gR σ (v + 1) f = some (v + 3 + 3 * π f)) ∧ ∀ f g, f < 10 → g < 10 → π f = π g → f = g
theorem vk {σ : Mm} {v : Nat} (hs : Sh σ) (hr : Rf σ) (hv : isV v) : kd σ v = some (0, 8) ∧ kd σ (v + 1) = some (5, 10) ∧ kd σ (v + 2) = some (1, 3) ∧ gR σ v 6 = some (v + 1) ∧ gR σ v 7 = some (v + 2) := by
  rcases hv with rfl | rfl | rfl | rfl <;> simp only [kdx hs, grx hr, Nat.reduceAdd, and_self]
theorem fa_ok {σ : Mm} {v f : Nat} (hs : Sh σ) (hr : Rf σ) (hv : isV v) (hm : Vm σ v) (hf : f < 10) : gR σ (v + 1) f = some (fa σ v f) ∧ Fm σ (fa σ v f) ∧ ∃ p, p < 10 ∧ fa σ v f = v + 3 + 3 * p := by
  obtain ⟨π, h1, h2⟩ := hm
  obtain ⟨a, b⟩ := h1 f hf
  have e : fa σ v f = v + 3 + 3 * π f := by unfold fa; rw [b]; rfl
  refine ⟨by rw [b, e], ?_, π f, a, e⟩
  refine Fm_of hs hr ?_
  rw [e]
  simp only [isFam, Bool.or_eq_true, Bool.and_eq_true, decide_eq_true_eq]
  rcases hv with rfl | rfl | rfl | rfl <;> omega
theorem fa_inj {σ : Mm} {v f g : Nat} (hm : Vm σ v) (hf : f < 10) (hg : g < 10) (h : fa σ v f = fa σ v g) : f = g := by
  obtain ⟨π, h1, h2⟩ := hm
  obtain ⟨a, b⟩ := h1 f hf
  obtain ⟨a', b'⟩ := h1 g hg
  unfold fa at h
  rw [b, b'] at h
  simp only [Option.getD_some] at h
  exact h2 f g hf hg (by omega)
/-- a number between 0 and b -/
def bd (x : Int32) (b : Nat) : Prop := ∃ n, n ≤ b ∧ x = nI n
/-- bits -/
def bm (p : Nat → Bool) : Nat → Nat
  | 0 => 0
  | n + 1 => bm p n + (if p n = true then 2 ^ n else 0)
def qq (V : Nat → Int32) (f g : Nat) : Bool := decide (V (119 + 10 * f + g) = 1)
def qm (V : Nat → Int32) (f : Nat) : Nat := bm (qq V f) 10
/-- the village at v is V (the model's row): N families, O ovens -/
def VR (σ : Mm) (v : Nat) (V : Nat → Int32) (N O : Nat) : Prop :=
  (gI σ v 0 = V 0 ∧ gI σ v 1 = V 1 ∧ gI σ v 4 = V 2 ∧ gI σ v 2 = V 3 ∧ gI σ v 3 = V 4 ∧ gI σ v 5 = V 5) ∧ (∀ o, o < O → gI σ (v + 2) o = V (6 + o)) ∧
  ∀ f, f < N → (∀ j, j < 6 → gI σ (fa σ v f) j = V (9 + 10 * j + f)) ∧ gI σ (fa σ v f) 6 = nI (qm V f) ∧ (∀ k, k < 5 → gI σ (fa σ v f + 1) k = V (69 + 5 * f + k)) ∧ ∀ g, g < 10 → gI σ (fa σ v f + 2) g = V (219 + 10 * f + g)
/-- what V's numbers may be after t calls -/
def Gd (V : Nat → Int32) (t N O K : Nat) : Prop :=
  (V 0 = nI N ∧ N ≤ 10) ∧ (V 1 = nI O ∧ O ≤ 3) ∧ (V 3 = nI K ∧ 1 ≤ K ∧ K ≤ 5) ∧ bd (V 4) 999 ∧ bd (V 2) 999 ∧ (∀ o, o < O → ∃ z, 1 ≤ z ∧ z ≤ 60 ∧ V (6 + o) = nI z) ∧
  (∀ f, f < N → bd (V (9 + f)) 30 ∧ bd (V (19 + f)) 999 ∧ bd (V (29 + f)) 99) ∧
  (∀ f, f < N → ∀ k, k < 5 → bd (V (69 + 5 * f + k)) (99 + 2400 * t) ∧ (K ≤ k → V (69 + 5 * f + k) = 0)) ∧
  ((∀ f g, f < 10 → g < 10 → (V (119 + 10 * f + g) = 0 ∨ V (119 + 10 * f + g) = 1) ∧ V (119 + 10 * f + g) = V (119 + 10 * g + f)) ∧ (∀ f, f < 10 → V (119 + 10 * f + f) = 0) ∧ ∀ f g, f < 10 → g < 10 → N ≤ g → V (119 + 10 * f + g) = 0) ∧
  ((∀ f g, f < 10 → g < 10 → bd (V (219 + 10 * f + g)) (999 * t * 2 ^ (10 - N)) ∧ (N ≤ f ∨ N ≤ g ∨ f = g → V (219 + 10 * f + g) = 0)))
def RR (σ : Mm) (r : Nat) : Prop := (gI σ (136 + 2 * r) 0 = 0 ∧ gI σ 210 r = -1) ∨ (gI σ (136 + 2 * r) 0 = 1 ∧ (∃ s, s < 4 ∧ gI σ (136 + 2 * r) 1 = nI s ∧ gI σ 210 r = nI s) ∧ ∃ n, n ≤ 40 ∧ gI σ (136 + 2 * r) 2 = nI n ∧ gI σ 211 r = nI n ∧ ∀ k, k < n → gL σ (137 + 2 * r) k = gL σ 212 (40 * r + k))
def IM (σ : Mm) (t i : Nat) : Prop := (gI σ 68 i = 0 ∧ gI σ 192 i = 0) ∨ (gI σ 68 i = 1 ∧ gI σ 192 i = 1 ∧ ∃ N O K, Gd (fun k => gI σ 191 (319 * (i + 1) + k)) t N O K ∧ VR σ (69 + 33 * i) (fun k => gI σ 191 (319 * (i + 1) + k)) N O)
def TP (σ : Mm) : Prop := (∃ T, T ≤ 900 ∧ gI σ 144 0 = nI T ∧ gI σ 190 5 = nI T ∧ ∀ k, k < T → gI σ 193 k = gI σ 145 k &&& 255) ∧ (∀ k, (gI σ 145 k).toInt8.toInt32 = gI σ 145 k) ∧ gI σ 144 1 = gI σ 190 13 ∧ gI σ 144 2 = gI σ 190 14
def St (σ : Mm) : Prop := Sh σ ∧ Rf σ ∧ ∀ v, isV v → Vm σ v
def Inv (t : Nat) (σ : Mm) : Prop := t ≤ 512 ∧ St σ ∧ TP σ ∧ (∃ N O K, Gd (gI σ 191) t N O K ∧ VR σ 1 (gI σ 191) N O) ∧ (∀ i, i < 2 → IM σ t i) ∧ ∀ r, r < 4 → RR σ r
/-- what a call leaves as it was: structure, and cells that S doesn't name -/
def Fr (S : Nat → Prop) (σ σ' : Mm) : Prop := σ'.1 = σ.1 ∧ σ'.2.2.2 = σ.2.2.2 ∧ (∀ a, ¬ S a → ∀ k, gI σ' a k = gI σ a k) ∧ ∀ a, ¬ S a → ∀ k, gL σ' a k = gL σ a k
theorem Fr.rf {S : Nat → Prop} {σ : Mm} : Fr S σ σ := ⟨rfl, rfl, fun _ _ _ => rfl, fun _ _ _ => rfl⟩
theorem Fr.tr {S : Nat → Prop} {σ σ' τ : Mm} (h : Fr S σ σ') (g : Fr S σ' τ) : Fr S σ τ := ⟨g.1.trans h.1, g.2.1.trans h.2.1, fun a ha k => (g.2.2.1 a ha k).trans (h.2.2.1 a ha k), fun a ha k => (g.2.2.2 a ha k).trans (h.2.2.2 a ha k)⟩
theorem Fr.mono {S T : Nat → Prop} {σ σ' : Mm} (h : Fr S σ σ') (hs : ∀ a, S a → T a) : Fr T σ σ' := ⟨h.1, h.2.1, fun a ha => h.2.2.1 a (fun q => ha (hs a q)), fun a ha => h.2.2.2 a (fun q => ha (hs a q))⟩
theorem Fr.sI {S : Nat → Prop} {σ : Mm} {a k : Nat} {v : Int32} (ha : S a) : Fr S σ (sI σ a k v) := ⟨rfl, rfl, fun b hb j => gI_a (fun e => hb (e ▸ ha)), fun _ _ _ => rfl⟩
theorem Fr.rI {S : Nat → Prop} {σ : Mm} {a : Nat} {f : Nat → Int32} (ha : S a) : Fr S σ (rI σ a f) := ⟨rfl, rfl, fun b hb j => gI_r (fun e => hb (e ▸ ha)), fun _ _ _ => rfl⟩
theorem Fr.sL {S : Nat → Prop} {σ : Mm} {a k : Nat} {v : Int64} (ha : S a) : Fr S σ (sL σ a k v) := ⟨rfl, rfl, fun _ _ _ => rfl, fun b hb j => gL_a (fun e => hb (e ▸ ha))⟩
theorem Fr.rL {S : Nat → Prop} {σ : Mm} {a : Nat} {f : Nat → Int64} (ha : S a) : Fr S σ (rL σ a f) := ⟨rfl, rfl, fun _ _ _ => rfl, fun b hb j => gL_r (fun e => hb (e ▸ ha))⟩
theorem Fr.kd {S : Nat → Prop} {σ σ' : Mm} (h : Fr S σ σ') (a : Nat) : Jvm.Pilot.@@N@@.kd σ' a = Jvm.Pilot.@@N@@.kd σ a := by unfold Jvm.Pilot.@@N@@.kd; rw [h.1]
theorem Fr.gR {S : Nat → Prop} {σ σ' : Mm} (h : Fr S σ σ') (a k : Nat) : Jvm.Pilot.@@N@@.gR σ' a k = Jvm.Pilot.@@N@@.gR σ a k := by unfold Jvm.Pilot.@@N@@.gR; rw [h.2.1]
theorem Fr.fa {S : Nat → Prop} {σ σ' : Mm} (h : Fr S σ σ') (v f : Nat) : Jvm.Pilot.@@N@@.fa σ' v f = Jvm.Pilot.@@N@@.fa σ v f := by unfold Jvm.Pilot.@@N@@.fa; rw [h.gR]
theorem Fr.St {S : Nat → Prop} {σ σ' : Mm} (h : Fr S σ σ') (hs : St σ) : St σ' := by
  obtain ⟨h1, h2, h3⟩ := hs
  refine ⟨h.1.trans h1, fun a k q1 q2 q3 q4 => (h.gR a k).trans (h2 a k q1 q2 q3 q4), fun v hv => ?_⟩
  obtain ⟨π, p1, p2⟩ := h3 v hv
  exact ⟨π, fun f hf => ⟨(p1 f hf).1, (h.gR _ _).trans (p1 f hf).2⟩, p2⟩
/-- a village whose cells stay is what it was -/
theorem VR.keep {σ σ' : Mm} {v N O : Nat} {V : Nat → Int32} (h : VR σ v V N O) (hN : N ≤ 10) (hs : St σ) (hv : isV v) (hR : ∀ a k, gR σ' a k = gR σ a k) (hI : ∀ a, v ≤ a → a ≤ v + 32 → ∀ k, gI σ' a k = gI σ a k) : VR σ' v V N O := by
  obtain ⟨⟨a1, a2, a3, a4, a5, a6⟩, a7, a8⟩ := h
  have hfa : ∀ f, fa σ' v f = fa σ v f := fun f => by unfold fa; rw [hR]
  have hv0 : ∀ k, gI σ' v k = gI σ v k := hI v (Nat.le_refl _) (by omega)
  refine ⟨⟨by rw [hv0]; exact a1, by rw [hv0]; exact a2, by rw [hv0]; exact a3, by rw [hv0]; exact a4, by rw [hv0]; exact a5, by rw [hv0]; exact a6⟩, fun o ho => by rw [hI _ (by omega) (by omega)]; exact a7 o ho, fun f hf => ?_⟩
  obtain ⟨b1, b2, b3, b4⟩ := a8 f hf
  obtain ⟨-, -, p, hp, ep⟩ := fa_ok hs.1 hs.2.1 hv (hs.2.2 v hv) (show f < 10 by omega)
  rw [hfa]
  exact ⟨fun j hj => by rw [hI _ (by omega) (by omega)]; exact b1 j hj, by rw [hI _ (by omega) (by omega)]; exact b2, fun k hk => by rw [hI _ (by omega) (by omega)]; exact b3 k hk, fun g hg => by rw [hI _ (by omega) (by omega)]; exact b4 g hg⟩
theorem bd.mono {x : Int32} {b b' : Nat} (h : bd x b) (hb : b ≤ b') : bd x b' := by
  obtain ⟨n, h1, h2⟩ := h
  exact ⟨n, Nat.le_trans h1 hb, h2⟩
theorem Gd.mono {V : Nat → Int32} {t t' N O K : Nat} (h : Gd V t N O K) (ht : t ≤ t') : Gd V t' N O K := by
  obtain ⟨h1, h2, h3, h4, h5, h6, h7, h8, h9, h10⟩ := h
  refine ⟨h1, h2, h3, h4, h5, h6, h7, fun f hf k hk => ⟨(h8 f hf k hk).1.mono (by omega), (h8 f hf k hk).2⟩, h9, fun f g hf hg => ⟨(h10 f g hf hg).1.mono (Nat.mul_le_mul_right _ (by omega)), (h10 f g hf hg).2⟩⟩
theorem IM.mono {σ : Mm} {t t' i : Nat} (h : IM σ t i) (ht : t ≤ t') : IM σ t' i := by
  rcases h with h | ⟨h1, h2, N, O, K, h3, h4⟩
  · exact Or.inl h
  · exact Or.inr ⟨h1, h2, N, O, K, h3.mono ht, h4⟩
