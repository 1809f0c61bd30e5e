/-! one number of a family changes -/
theorem upd_s (V : Nat → Int32) (k : Nat) (x : Int32) : upd V k x k = x := by simp [upd]
theorem upd_n {V : Nat → Int32} {k j : Nat} {x : Int32} (h : j ≠ k) : upd V k x j = V j := by simp [upd, h]
theorem Gd.fld {V : Nat → Int32} {t N O K jj f : Nat} {x : Int32} (h : Gd V t N O K) (hjj : jj < 6) (hf : f < 10) (hb : (jj = 0 → bd x 30) ∧ (jj = 1 → bd x 999) ∧ (jj = 2 → bd x 99)) : Gd (upd V (9 + 10 * jj + f) x) t N O K := by
  obtain ⟨h1, h2, h3, h4, h5, h6, h7, h8, h9, h10⟩ := h
  have e : ∀ k, (k < 9 ∨ 69 ≤ k) → upd V (9 + 10 * jj + f) x k = V k := fun k hk => upd_n (by omega)
  refine ⟨by rw [e 0 (by omega)]; exact h1, by rw [e 1 (by omega)]; exact h2, by rw [e 3 (by omega)]; exact h3, by rw [e 4 (by omega)]; exact h4, by rw [e 2 (by omega)]; exact h5, fun o ho => by rw [e _ (by omega)]; exact h6 o ho, fun g hg => ?_, fun g hg k hk => by rw [e _ (by omega)]; exact h8 g hg k hk, ?_, fun a b ha hb' => by rw [e _ (by omega)]; exact h10 a b ha hb'⟩
  · obtain ⟨q1, q2, q3⟩ := h7 g hg
    have hg10 : g < 10 := by omega
    refine ⟨?_, ?_, ?_⟩
    · by_cases he : 9 + g = 9 + 10 * jj + f
      · rw [he, upd_s]; exact hb.1 (by omega)
      · rw [upd_n he]; exact q1
    · by_cases he : 19 + g = 9 + 10 * jj + f
      · rw [he, upd_s]; exact hb.2.1 (by omega)
      · rw [upd_n he]; exact q2
    · by_cases he : 29 + g = 9 + 10 * jj + f
      · rw [he, upd_s]; exact hb.2.2 (by omega)
      · rw [upd_n he]; exact q3
  · refine ⟨fun a b ha hb' => by rw [e _ (by omega), e _ (by omega)]; exact h9.1 a b ha hb', fun a ha => by rw [e _ (by omega)]; exact h9.2.1 a ha, fun a b ha hb' hn => by rw [e _ (by omega)]; exact h9.2.2 a b ha hb' hn⟩
theorem qm_congr {V V' : Nat → Int32} {f : Nat} (h : ∀ g, g < 10 → V' (119 + 10 * f + g) = V (119 + 10 * f + g)) : qm V' f = qm V f := by
  have key : ∀ n, n ≤ 10 → bm (qq V' f) n = bm (qq V f) n := by
    intro n
    induction n with
    | zero => intro _; rfl
    | succ n ih =>
      intro hn
      have e : qq V' f n = qq V f n := by unfold qq; rw [h n (by omega)]
      simp only [bm, ih (by omega), e]
  exact key 10 (Nat.le_refl _)
theorem fa_sI (σ : Mm) (a k : Nat) (x : Int32) (v f : Nat) : fa (sI σ a k x) v f = fa σ v f := rfl
theorem fa_rI (σ : Mm) (a : Nat) (g : Nat → Int32) (v f : Nat) : fa (rI σ a g) v f = fa σ v f := rfl
theorem fa_sL (σ : Mm) (a k : Nat) (x : Int64) (v f : Nat) : fa (sL σ a k x) v f = fa σ v f := rfl
theorem fa_rL (σ : Mm) (a : Nat) (g : Nat → Int64) (v f : Nat) : fa (rL σ a g) v f = fa σ v f := rfl
theorem VR.fld {σ : Mm} {v N O jj f : Nat} {V : Nat → Int32} {x : Int32} (h : VR σ v V N O) (hs : St σ) (hv : isV v) (hN : N ≤ 10) (hO : O ≤ 3) (hjj : jj < 6) (hf : f < N) : VR (sI σ (fa σ v f) jj x) v (upd V (9 + 10 * jj + f) x) N O := by
  obtain ⟨⟨a1, a2, a3, a4, a5, a6⟩, a7, a8⟩ := h
  have hm := hs.2.2 v hv
  obtain ⟨-, -, p, hp, ep⟩ := fa_ok hs.1 hs.2.1 hv hm (show f < 10 by omega)
  have e : ∀ k, (k < 9 ∨ 69 ≤ k) → upd V (9 + 10 * jj + f) x k = V k := fun k hk => upd_n (by omega)
  have ev : ∀ k, gI (sI σ (fa σ v f) jj x) v k = gI σ v k := fun k => gI_a (by omega)
  refine ⟨⟨by rw [ev, e 0 (by omega)]; exact a1, by rw [ev, e 1 (by omega)]; exact a2, by rw [ev, e 2 (by omega)]; exact a3, by rw [ev, e 3 (by omega)]; exact a4, by rw [ev, e 4 (by omega)]; exact a5, by rw [ev, e 5 (by omega)]; exact a6⟩, fun o ho => by rw [gI_a (by omega), e _ (by omega)]; exact a7 o ho, fun g hg => ?_⟩
  obtain ⟨b1, b2, b3, b4⟩ := a8 g hg
  obtain ⟨-, -, q, hq, eq⟩ := fa_ok hs.1 hs.2.1 hv hm (show g < 10 by omega)
  rw [fa_sI]
  have hne : g ≠ f → fa σ v g ≠ fa σ v f := fun hgf hh => hgf (fa_inj hm (by omega) (by omega) hh)
  refine ⟨fun j hj => ?_, ?_, fun k hk => ?_, fun g' hg' => ?_⟩
  · by_cases hgf : g = f
    · subst hgf
      by_cases hjj' : j = jj
      · subst hjj'
        rw [upd_s]
        exact mxa.2.2.2.2.2.2.2.2.2.2.2.2.2.2.2.1 σ _ _ _
      · rw [gI_k hjj', upd_n (by omega)]; exact b1 j hj
    · rw [gI_a (hne hgf), upd_n (by omega)]; exact b1 j hj
  · rw [gI_k (by omega), qm_congr (fun g' hg' => e _ (by omega))]; exact b2
  · rw [gI_a (by omega), e _ (by omega)]; exact b3 k hk
  · rw [gI_a (by omega), e _ (by omega)]; exact b4 g' hg'
theorem gI_sI_192 (σ : Mm) (k : Nat) (x : Int32) : gI (sI σ 191 k x) 191 = upd (gI σ 191) k x := gI_sI_row σ 191 k x
/-- V changes outside the village's own numbers -/
theorem VR.congr {σ : Mm} {v N O : Nat} {V V' : Nat → Int32} (h : VR σ v V N O) (hN : N ≤ 10) (hO : O ≤ 3) (he : ∀ k, k < 319 → V' k = V k) : VR σ v V' N O := by
  obtain ⟨⟨a1, a2, a3, a4, a5, a6⟩, a7, a8⟩ := h
  refine ⟨⟨by rw [he 0 (by omega)]; exact a1, by rw [he 1 (by omega)]; exact a2, by rw [he 2 (by omega)]; exact a3, by rw [he 3 (by omega)]; exact a4, by rw [he 4 (by omega)]; exact a5, by rw [he 5 (by omega)]; exact a6⟩, fun o ho => by rw [he _ (by omega)]; exact a7 o ho, fun f hf => ?_⟩
  obtain ⟨b1, b2, b3, b4⟩ := a8 f hf
  exact ⟨fun j hj => by rw [he _ (by omega)]; exact b1 j hj, by rw [qm_congr (fun g hg => he _ (by omega))]; exact b2, fun k hk => by rw [he _ (by omega)]; exact b3 k hk, fun g hg => by rw [he _ (by omega)]; exact b4 g hg⟩
