/-! rows of a family change -/
theorem gI_same (σ : Mm) (a k : Nat) (v : Int32) : gI (sI σ a k v) a k = v := mxa.2.2.2.2.2.2.2.2.2.2.2.2.2.2.2.1 σ a k v
theorem VR.owe {σ : Mm} {v N O f g : Nat} {V : Nat → Int32} {x : Int32} (h : VR σ v V N O) (hs : St σ) (hv : isV v) (hN : N ≤ 10) (hO : O ≤ 3) (hg : g < 10) (hf : f < N) : VR (sI σ (fa σ v f + 2) g x) v (upd V (219 + 10 * f + g) x) N O := by
  obtain ⟨⟨a1, a2, a3, a4, a5, a6⟩, a7, a8⟩ := h
  have hm := hs.2.2 v hv
  obtain ⟨-, -, p, hp, ep⟩ := fa_ok hs.1 hs.2.1 hv hm (show f < 10 by omega)
  have e : ∀ k, k < 219 → upd V (219 + 10 * f + g) x k = V k := fun k hk => upd_n (by omega)
  have ev : ∀ k, gI (sI σ (fa σ v f + 2) g x) v k = gI σ v k := fun k => gI_a (by omega)
  refine ⟨⟨by rw [ev, e 0 (by omega)]; exact a1, by rw [ev, e 1 (by omega)]; exact a2, by rw [ev, e 2 (by omega)]; exact a3, by rw [ev, e 3 (by omega)]; exact a4, by rw [ev, e 4 (by omega)]; exact a5, by rw [ev, e 5 (by omega)]; exact a6⟩, fun o ho => by rw [gI_a (by omega), e _ (by omega)]; exact a7 o ho, fun f' hf' => ?_⟩
  obtain ⟨b1, b2, b3, b4⟩ := a8 f' hf'
  obtain ⟨-, -, q, hq, eq⟩ := fa_ok hs.1 hs.2.1 hv hm (show f' < 10 by omega)
  rw [fa_sI]
  have hne : f' ≠ f → fa σ v f' ≠ fa σ v f := fun hgf hh => hgf (fa_inj hm (by omega) (by omega) hh)
  refine ⟨fun j hj => by rw [gI_a (by omega), e _ (by omega)]; exact b1 j hj, by rw [gI_a (by omega), qm_congr (fun g' hg' => e _ (by omega))]; exact b2, fun k hk => by rw [gI_a (by omega), e _ (by omega)]; exact b3 k hk, fun g' hg' => ?_⟩
  by_cases hff : f' = f
  · subst hff
    by_cases hgg : g' = g
    · subst hgg; rw [upd_s, gI_same]
    · rw [gI_k hgg, upd_n (by omega)]; exact b4 g' hg'
  · rw [gI_a (by have := hne hff; omega), upd_n (by omega)]; exact b4 g' hg'
theorem VR.brd {σ : Mm} {v N O f g : Nat} {V : Nat → Int32} {x : Int32} (h : VR σ v V N O) (hs : St σ) (hv : isV v) (hN : N ≤ 10) (hO : O ≤ 3) (hg : g < 5) (hf : f < N) : VR (sI σ (fa σ v f + 1) g x) v (upd V (69 + 5 * f + g) x) N O := by
  obtain ⟨⟨a1, a2, a3, a4, a5, a6⟩, a7, a8⟩ := h
  have hm := hs.2.2 v hv
  obtain ⟨-, -, p, hp, ep⟩ := fa_ok hs.1 hs.2.1 hv hm (show f < 10 by omega)
  have e : ∀ k, (k < 69 ∨ 119 ≤ k) → upd V (69 + 5 * f + g) x k = V k := fun k hk => upd_n (by omega)
  have ev : ∀ k, gI (sI σ (fa σ v f + 1) g x) v k = gI σ v k := fun k => gI_a (by omega)
  refine ⟨⟨by rw [ev, e 0 (by omega)]; exact a1, by rw [ev, e 1 (by omega)]; exact a2, by rw [ev, e 2 (by omega)]; exact a3, by rw [ev, e 3 (by omega)]; exact a4, by rw [ev, e 4 (by omega)]; exact a5, by rw [ev, e 5 (by omega)]; exact a6⟩, fun o ho => by rw [gI_a (by omega), e _ (by omega)]; exact a7 o ho, fun f' hf' => ?_⟩
  obtain ⟨b1, b2, b3, b4⟩ := a8 f' hf'
  obtain ⟨-, -, q, hq, eq⟩ := fa_ok hs.1 hs.2.1 hv hm (show f' < 10 by omega)
  rw [fa_sI]
  have hne : f' ≠ f → fa σ v f' ≠ fa σ v f := fun hgf hh => hgf (fa_inj hm (by omega) (by omega) hh)
  refine ⟨fun j hj => by rw [gI_a (by omega), e _ (by omega)]; exact b1 j hj, by rw [gI_a (by omega), qm_congr (fun g' hg' => e _ (by omega))]; exact b2, fun k hk => ?_, fun g' hg' => by rw [gI_a (by omega), e _ (by omega)]; exact b4 g' hg'⟩
  by_cases hff : f' = f
  · subst hff
    by_cases hgg : k = g
    · subst hgg; rw [upd_s, gI_same]
    · rw [gI_k hgg, upd_n (by omega)]; exact b3 k hk
  · rw [gI_a (by have := hne hff; omega), upd_n (by omega)]; exact b3 k hk
/-- whom a family is at odds with changes -/
theorem VR.foe {σ : Mm} {v N O f : Nat} {V V' : Nat → Int32} (h : VR σ v V N O) (hs : St σ) (hv : isV v) (hN : N ≤ 10) (hO : O ≤ 3) (hf : f < N) (he : ∀ k, (k < 119 + 10 * f ∨ 129 + 10 * f ≤ k) → V' k = V k) : VR (sI σ (fa σ v f) 6 (nI (qm V' f))) v V' N O := by
  obtain ⟨⟨a1, a2, a3, a4, a5, a6⟩, a7, a8⟩ := h
  have hm := hs.2.2 v hv
  obtain ⟨-, -, p, hp, ep⟩ := fa_ok hs.1 hs.2.1 hv hm (show f < 10 by omega)
  have ev : ∀ k, gI (sI σ (fa σ v f) 6 (nI (qm V' f))) v k = gI σ v k := fun k => gI_a (by omega)
  refine ⟨⟨by rw [ev, he 0 (by omega)]; exact a1, by rw [ev, he 1 (by omega)]; exact a2, by rw [ev, he 2 (by omega)]; exact a3, by rw [ev, he 3 (by omega)]; exact a4, by rw [ev, he 4 (by omega)]; exact a5, by rw [ev, he 5 (by omega)]; exact a6⟩, fun o ho => by rw [gI_a (by omega), he _ (by omega)]; exact a7 o ho, fun f' hf' => ?_⟩
  obtain ⟨b1, b2, b3, b4⟩ := a8 f' hf'
  obtain ⟨-, -, q, hq, eq⟩ := fa_ok hs.1 hs.2.1 hv hm (show f' < 10 by omega)
  rw [fa_sI]
  have hne : f' ≠ f → fa σ v f' ≠ fa σ v f := fun hgf hh => hgf (fa_inj hm (by omega) (by omega) hh)
  refine ⟨fun j hj => by rw [gI_k (by omega), he _ (by omega)]; exact b1 j hj, ?_, fun k hk => by rw [gI_a (by omega), he _ (by omega)]; exact b3 k hk, fun g' hg' => by rw [gI_a (by omega), he _ (by omega)]; exact b4 g' hg'⟩
  by_cases hff : f' = f
  · subst hff; rw [gI_same]
  · rw [gI_a (hne hff), qm_congr (fun g' hg' => he _ (by omega))]; exact b2
theorem VR.mono {σ : Mm} {v N N' O O' : Nat} {V : Nat → Int32} (h : VR σ v V N O) (hN : N' ≤ N) (hO : O' ≤ O) : VR σ v V N' O' := ⟨h.1, fun o ho => h.2.1 o (by omega), fun f hf => h.2.2 f (by omega)⟩
/-- V' is V but for the numbers that P names -/
theorem Gd.owe {V : Nat → Int32} {t N O K f g : Nat} {x : Int32} (h : Gd V t N O K) (hf : f < N) (hg : g < N) (hfg : f ≠ g) (hb : bd x (999 * t * 2 ^ (10 - N))) : Gd (upd V (219 + 10 * f + g) x) t N O K := by
  obtain ⟨h1, h2, h3, h4, h5, h6, h7, h8, h9, h10⟩ := h
  have e : ∀ k, k < 219 → upd V (219 + 10 * f + g) x k = V k := fun k hk => upd_n (by omega)
  refine ⟨by rw [e 0 (by omega)]; exact h1, by rw [e 1 (by omega)]; exact h2, by rw [e 3 (by omega)]; exact h3, by rw [e 4 (by omega)]; exact h4, by rw [e 2 (by omega)]; exact h5, fun o ho => by rw [e _ (by omega)]; exact h6 o ho, fun g hg => by rw [e _ (by omega), e _ (by omega), e _ (by omega)]; exact h7 g hg, fun g hg k hk => by rw [e _ (by omega)]; exact h8 g hg k hk, ⟨fun a b ha hb' => by rw [e _ (by omega), e _ (by omega)]; exact h9.1 a b ha hb', fun a ha => by rw [e _ (by omega)]; exact h9.2.1 a ha, fun a b ha hb' hn => by rw [e _ (by omega)]; exact h9.2.2 a b ha hb' hn⟩, fun a b ha hb' => ?_⟩
  by_cases hk : 219 + 10 * a + b = 219 + 10 * f + g
  · have : a = f ∧ b = g := by omega
    rw [hk, upd_s]
    exact ⟨hb, fun q => by omega⟩
  · rw [upd_n hk]; exact h10 a b ha hb'
theorem Gd.brd {V : Nat → Int32} {t N O K f g : Nat} {x : Int32} (h : Gd V t N O K) (hf : f < N) (hg : g < 5) (hb : bd x (99 + 2400 * t)) (hz : K ≤ g → x = 0) : Gd (upd V (69 + 5 * f + g) x) t N O K := by
  obtain ⟨h1, h2, h3, h4, h5, h6, h7, h8, h9, h10⟩ := h
  have hN := h1.2
  have hO := h2.2
  have e : ∀ k, (k < 69 ∨ 119 ≤ k) → upd V (69 + 5 * f + g) x k = V k := fun k hk => upd_n (by omega)
  refine ⟨by rw [e 0 (by omega)]; exact h1, by rw [e 1 (by omega)]; exact h2, by rw [e 3 (by omega)]; exact h3, by rw [e 4 (by omega)]; exact h4, by rw [e 2 (by omega)]; exact h5, fun o ho => by rw [e _ (by omega)]; exact h6 o ho, fun g hg => by rw [e _ (by omega), e _ (by omega), e _ (by omega)]; exact h7 g hg, fun a ha k hk => ?_, ⟨fun a b ha hb' => by rw [e _ (by omega), e _ (by omega)]; exact h9.1 a b ha hb', fun a ha => by rw [e _ (by omega)]; exact h9.2.1 a ha, fun a b ha hb' hn => by rw [e _ (by omega)]; exact h9.2.2 a b ha hb' hn⟩, fun a b ha hb' => by rw [e _ (by omega)]; exact h10 a b ha hb'⟩
  by_cases hkk : 69 + 5 * a + k = 69 + 5 * f + g
  · have : a = f ∧ k = g := by omega
    rw [hkk, upd_s]
    exact ⟨hb, fun q => hz (by omega)⟩
  · rw [upd_n hkk]; exact h8 a ha k hk
