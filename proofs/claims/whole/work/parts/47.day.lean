/-! pairs: day -/
set_option maxRecDepth 20000
theorem VR.brow {σ : Mm} {v N O f : Nat} {V : Nat → Int32} {B : Nat → Nat} (h : VR σ v V N O) (hs : St σ) (hv : isV v) (hN : N ≤ 10) (hO : O ≤ 3) (hf : f < N) : VR (rI σ (fa σ v f + 1) (rowB (gI σ (fa σ v f + 1)) 0 B)) v (rowB V (69 + 5 * f) B) N O := by
  obtain ⟨⟨a1, a2, a3, a4, a5, a6⟩, a7, a8⟩ := h
  have hm := hs.2.2 v hv
  obtain ⟨-, -, p, hp, ep⟩ := fa_ok hs.1 hs.2.1 hv hm (show f < 10 by omega)
  have e : ∀ k, (k < 69 ∨ 119 ≤ k) → rowB V (69 + 5 * f) B k = V k := fun k hk => rowB_off (by omega)
  have ev : ∀ k, gI (rI σ (fa σ v f + 1) (rowB (gI σ (fa σ v f + 1)) 0 B)) v k = gI σ v k := fun k => gI_r (by omega)
  refine ⟨⟨by rw [ev, e 0 (by omega)]; exact a1, by rw [ev, e 1 (by omega)]; exact a2, by rw [ev, e 2 (by omega)]; exact a3, by rw [ev, e 3 (by omega)]; exact a4, by rw [ev, e 4 (by omega)]; exact a5, by rw [ev, e 5 (by omega)]; exact a6⟩, fun o ho => by rw [gI_r (by omega), e _ (by omega)]; exact a7 o ho, fun f' hf' => ?_⟩
  obtain ⟨b1, b2, b3, b4⟩ := a8 f' hf'
  obtain ⟨-, -, q, hq, eq⟩ := fa_ok hs.1 hs.2.1 hv hm (show f' < 10 by omega)
  rw [fa_rI]
  have hne : f' ≠ f → fa σ v f' ≠ fa σ v f := fun hgf hh => hgf (fa_inj hm (by omega) (by omega) hh)
  refine ⟨fun j hj => by rw [gI_r (by omega), e _ (by omega)]; exact b1 j hj, by rw [gI_r (by omega), qm_congr (fun g' hg' => e _ (by omega))]; exact b2, fun k hk => ?_, fun g' hg' => by rw [gI_r (by omega), e _ (by omega)]; exact b4 g' hg'⟩
  by_cases hff : f' = f
  · subst hff
    rw [gI_rS, rowB_0 hk, rowB_at hk]
  · rw [gI_r (by have := hne hff; omega), rowB_off (by omega)]; exact b3 k hk
theorem Gd.brow {V : Nat → Int32} {t N O K f : Nat} {B : Nat → Nat} (h : Gd V t N O K) (hf : f < N) (hb : ∀ k, k < 5 → B k ≤ 99 + 2400 * t) (hz : ∀ k, k < 5 → K ≤ k → B k = 0) : Gd (rowB V (69 + 5 * f) B) t N O K := by
  obtain ⟨h1, h2, h3, h4, h5, h6, h7, h8, h9, h10⟩ := h
  have hN := h1.2
  have hO := h2.2
  have e : ∀ k, (k < 69 ∨ 119 ≤ k) → rowB V (69 + 5 * f) B k = V k := fun k hk => rowB_off (by omega)
  refine ⟨by rw [e 0 (by omega)]; exact h1, by rw [e 1 (by omega)]; exact h2, by rw [e 3 (by omega)]; exact h3, by rw [e 4 (by omega)]; exact h4, by rw [e 2 (by omega)]; exact h5, fun o ho => by rw [e _ (by omega)]; exact h6 o ho, fun g hg => by rw [e _ (by omega), e _ (by omega), e _ (by omega)]; exact h7 g hg, fun a ha k hk => ?_, ⟨fun a b ha hb' => by rw [e _ (by omega), e _ (by omega)]; exact h9.1 a b ha hb', fun a ha => by rw [e _ (by omega)]; exact h9.2.1 a ha, fun a b ha hb' hn => by rw [e _ (by omega)]; exact h9.2.2 a b ha hb' hn⟩, fun a b ha hb' => by rw [e _ (by omega)]; exact h10 a b ha hb'⟩
  by_cases haf : a = f
  · subst haf
    rw [rowB_at hk]
    exact ⟨⟨B k, hb k hk, rfl⟩, fun q => by rw [hz k hk q]; rfl⟩
  · rw [rowB_off (by omega)]; exact h8 a ha k hk
theorem Gd.day {V : Nat → Int32} {t N O K : Nat} {x : Int32} (h : Gd V t N O K) (hx : bd x 999) : Gd (upd V 2 x) t N O K := by
  obtain ⟨h1, h2, h3, h4, h5, h6, h7, h8, h9, h10⟩ := h
  have e : ∀ k, k ≠ 2 → upd V 2 x k = V k := fun k hk => upd_n hk
  refine ⟨by rw [e 0 (by omega)]; exact h1, by rw [e 1 (by omega)]; exact h2, by rw [e 3 (by omega)]; exact h3, by rw [e 4 (by omega)]; exact h4, by rw [upd_s]; exact hx, fun o ho => by rw [e _ (by omega)]; exact h6 o ho, fun g hg => by rw [e _ (by omega), e _ (by omega), e _ (by omega)]; exact h7 g hg, fun a ha k hk => by rw [e _ (by omega)]; exact h8 a ha k hk, ⟨fun a b ha hb' => by rw [e _ (by omega), e _ (by omega)]; exact h9.1 a b ha hb', fun a ha => by rw [e _ (by omega)]; exact h9.2.1 a ha, fun a b ha hb' hn => by rw [e _ (by omega)]; exact h9.2.2 a b ha hb' hn⟩, fun a b ha hb' => by rw [e _ (by omega)]; exact h10 a b ha hb'⟩
theorem VR.day {σ : Mm} {v N O : Nat} {V : Nat → Int32} {x : Int32} (h : VR σ v V N O) (hs : St σ) (hv : isV v) (hN : N ≤ 10) (hO : O ≤ 3) : VR (sI σ v 4 x) v (upd V 2 x) N O := by
  obtain ⟨⟨a1, a2, a3, a4, a5, a6⟩, a7, a8⟩ := h
  have e : ∀ k, k ≠ 2 → upd V 2 x k = V k := fun k hk => upd_n hk
  refine ⟨⟨by rw [gI_k (by omega), e 0 (by omega)]; exact a1, by rw [gI_k (by omega), e 1 (by omega)]; exact a2, by rw [gI_same, upd_s], by rw [gI_k (by omega), e 3 (by omega)]; exact a4, by rw [gI_k (by omega), e 4 (by omega)]; exact a5, by rw [gI_k (by omega), e 5 (by omega)]; exact a6⟩, fun o ho => by rw [gI_a (by omega), e _ (by omega)]; exact a7 o ho, fun f' hf' => ?_⟩
  obtain ⟨b1, b2, b3, b4⟩ := a8 f' hf'
  obtain ⟨-, -, q, hq, eq⟩ := fa_ok hs.1 hs.2.1 hv (hs.2.2 v hv) (show f' < 10 by omega)
  rw [fa_sI]
  exact ⟨fun j hj => by rw [gI_a (by omega), e _ (by omega)]; exact b1 j hj, by rw [gI_a (by omega), qm_congr (fun g' hg' => e _ (by omega))]; exact b2, fun k hk => by rw [gI_a (by omega), e _ (by omega)]; exact b3 k hk, fun g' hg' => by rw [gI_a (by omega), e _ (by omega)]; exact b4 g' hg'⟩
def brN (V : Nat → Int32) (f : Nat) : Nat → Nat := fun k => (V (69 + 5 * f + k)).toNatClampNeg
def etN (V : Nat → Int32) (f : Nat) : Nat := (V (9 + f)).toNatClampNeg
def dayL (K : Nat) (V : Nat → Int32) (f : Nat) : Nat := (eatF K (brN V f) (etN V f)).2
def dayB (K : Nat) (V : Nat → Int32) (f : Nat) : Nat → Nat := (eatF K (brN V f) (etN V f)).1
def dstep (K : Nat) (V : Nat → Int32) (f : Nat) : Nat → Int32 := upd (rowB (upd (rowB V (69 + 5 * f) (dayB K V f)) (49 + f) (V (49 + f) + nI (dayL K V f))) (69 + 5 * f) (ageF K (dayB K V f))) (59 + f) (V (59 + f) + nI (dayB K V f (K - 1)))
def endV (K : Nat) (V : Nat → Int32) : Nat → Nat → Int32
  | 0 => V
  | n + 1 => dstep K (endV K V n) n
def endS (K : Nat) (V : Nat → Int32) : Nat → Int32
  | 0 => nI 0
  | n + 1 => endS K V n + nI (dayL K (endV K V n) n)
def dayV (K : Nat) (V : Nat → Int32) (N : Nat) : Nat → Int32 := upd (endV K V N) 2 (endV K V N 2 + nI 1)
theorem brN_at {V : Nat → Int32} {t N O K f : Nat} (hG : Gd V t N O K) (hf : f < N) (k : Nat) (hk : k < 5) : V (69 + 5 * f + k) = nI (brN V f k) ∧ brN V f k ≤ 99 + 2400 * t ∧ (K ≤ k → brN V f k = 0) ∨ 600 < t := by
  by_cases ht : 600 < t
  · exact Or.inr ht
  · obtain ⟨⟨n, hn, e⟩, hz⟩ := hG.2.2.2.2.2.2.2.1 f hf k hk
    refine Or.inl ?_
    unfold brN
    refine ⟨by rw [e, nI_clamp (by omega)], by rw [e, nI_clamp (by omega)]; exact hn, fun q => by rw [hz q]; rfl⟩
theorem brN_ok {V : Nat → Int32} {t N O K f : Nat} (hG : Gd V t N O K) (ht : t ≤ 600) (hf : f < N) (k : Nat) (hk : k < 5) : V (69 + 5 * f + k) = nI (brN V f k) ∧ brN V f k ≤ 99 + 2400 * t ∧ (K ≤ k → brN V f k = 0) := (brN_at hG hf k hk).resolve_right (by omega)
theorem etN_ok {V : Nat → Int32} {t N O K f : Nat} (hG : Gd V t N O K) (hf : f < N) : V (9 + f) = nI (etN V f) ∧ etN V f ≤ 30 := by
  obtain ⟨n, hn, e⟩ := (hG.2.2.2.2.2.2.1 f hf).1
  unfold etN
  rw [e, nI_clamp (by omega)]
  exact ⟨rfl, hn⟩
theorem dayB_ok {V : Nat → Int32} {t N O K f : Nat} (hG : Gd V t N O K) (ht : t ≤ 600) (hf : f < N) (k : Nat) (hk : k < 5) : dayB K V f k ≤ 99 + 2400 * t ∧ (K ≤ k → dayB K V f k = 0) := by
  obtain ⟨-, h2, h3⟩ := brN_ok hG ht hf k hk
  have h4 : dayB K V f k ≤ brN V f k := (eatF_le K (brN V f) (etN V f)).1 k
  exact ⟨by omega, fun q => by have := h3 q; omega⟩
theorem dstep_Gd {V : Nat → Int32} {t N O K f : Nat} (hG : Gd V t N O K) (ht : t ≤ 600) (hf : f < N) : Gd (dstep K V f) t N O K := by
  have hN := hG.1.2
  have g1 := hG.brow (B := dayB K V f) hf (fun k hk => (dayB_ok hG ht hf k hk).1) (fun k hk q => (dayB_ok hG ht hf k hk).2 q)
  have g2 := g1.fld (jj := 4) (f := f) (x := V (49 + f) + nI (dayL K V f)) (by omega) (by omega) ⟨by omega, by omega, by omega⟩
  have g3 := g2.brow (B := ageF K (dayB K V f)) hf (fun k hk => by
    unfold ageF
    split
    · omega
    · split
      · exact (dayB_ok hG ht hf (k - 1) (by omega)).1
      · exact (dayB_ok hG ht hf k hk).1) (fun k hk q => by
    have hK1 := hG.2.2.1.2.1
    unfold ageF
    rw [if_neg (by omega), if_neg (by omega)]
    exact (dayB_ok hG ht hf k hk).2 q)
  exact g3.fld (jj := 5) (f := f) (by omega) (by omega) ⟨by omega, by omega, by omega⟩
theorem endV_Gd {V : Nat → Int32} {t N O K : Nat} (hG : Gd V t N O K) (ht : t ≤ 600) : ∀ n, n ≤ N → Gd (endV K V n) t N O K
  | 0, _ => hG
  | n + 1, h => dstep_Gd (endV_Gd hG ht n (by omega)) ht (by omega)
theorem dstep_off {K f j : Nat} {V : Nat → Int32} (hf : f < 10) (h : j < 49 ∨ 119 ≤ j) : dstep K V f j = V j := by
  unfold dstep
  rw [upd_n (by omega), rowB_off (by omega), upd_n (by omega), rowB_off (by omega)]
theorem endV_off {K j : Nat} {V : Nat → Int32} (h : j < 49 ∨ 119 ≤ j) : ∀ n, n ≤ 10 → endV K V n j = V j
  | 0, _ => rfl
  | n + 1, hn => (dstep_off (by omega) h).trans (endV_off h n (by omega))
/-- class: the day of one family -/
theorem dstep_VR {τ : Mm} {V : Nat → Int32} {N O K f : Nat} (hs : St τ) (hV : VR τ 1 V N O) (hN : N ≤ 10) (hO : O ≤ 3) (hf : f < N) : VR (sI (rI (sI (rI τ (fa τ 1 f + 1) (rowB (gI τ (fa τ 1 f + 1)) 0 (dayB K V f))) (fa τ 1 f) 4 (V (49 + f) + nI (dayL K V f))) (fa τ 1 f + 1) (rowB (gI (sI (rI τ (fa τ 1 f + 1) (rowB (gI τ (fa τ 1 f + 1)) 0 (dayB K V f))) (fa τ 1 f) 4 (V (49 + f) + nI (dayL K V f))) (fa τ 1 f + 1)) 0 (ageF K (dayB K V f)))) (fa τ 1 f) 5 (V (59 + f) + nI (dayB K V f (K - 1)))) 1 (dstep K V f) N O := by
  have v1 := hV.brow (B := dayB K V f) hs (Or.inl rfl) hN hO hf
  have s1 := (Fr.rI (S := fun _ => True) (a := fa τ 1 f + 1) (f := rowB (gI τ (fa τ 1 f + 1)) 0 (dayB K V f)) trivial).St hs
  have v2 := v1.fld (jj := 4) (f := f) (x := V (49 + f) + nI (dayL K V f)) s1 (Or.inl rfl) hN hO (by omega) hf
  have s2 := (Fr.sI (S := fun _ => True) (a := fa τ 1 f) (k := 4) (v := V (49 + f) + nI (dayL K V f)) trivial).St s1
  have v3 := v2.brow (B := ageF K (dayB K V f)) s2 (Or.inl rfl) hN hO hf
  have s3 := (Fr.rI (S := fun _ => True) (a := fa τ 1 f + 1) (f := rowB (gI (sI (rI τ (fa τ 1 f + 1) (rowB (gI τ (fa τ 1 f + 1)) 0 (dayB K V f))) (fa τ 1 f) 4 (V (49 + f) + nI (dayL K V f))) (fa τ 1 f + 1)) 0 (ageF K (dayB K V f))) trivial).St s2
  exact v3.fld (jj := 5) (f := f) (x := V (59 + f) + nI (dayB K V f (K - 1))) s3 (Or.inl rfl) hN hO (by omega) hf
theorem c_endDay (X : Cx) (d : Nat) (σ : Mm) (V : Nat → Int32) (t N O K : Nat) (hs : St σ) (hG : Gd V t N O K) (ht : t ≤ 600) (hV : VR σ 1 V N O) (Q : Po) (hQ : ∀ σ' : Mm, Fr (fun c => 1 ≤ c ∧ c ≤ 33) σ σ' → VR σ' 1 (dayV K V N) N O → Q (some (.int (endS K V N))) σ') : Call X (d + 2) 0 0 mX8_endDay [.ref 1] σ Q := by
  have hN10 := hG.1.2
  have hO3 := hG.2.1.2
  have hK1 := hG.2.2.1.2.1
  have hK5 := hG.2.2.1.2.2
  refine call_of eX8_endDay rfl ?_
  refine wp_blk kX8_endDay_0 ?_
  simp (disch := first | decide | omega) only [mxa, vxa, vxb, vxc, vnd, vne, Nat.reduceAdd, Nat.reduceSub, Nat.reduceLeDiff, Nat.reduceLT, Int32.reduceLT, Int32.reduceLE, Int32.reduceAdd, Int32.reduceSub, Int32.reduceMul, Int32.reduceToNatClampNeg, not_false_eq_true, not_true_eq_false, false_implies, true_implies, Nat.zero_add, reduceIte, Nat.reduceMul, Nat.reduceEqDiff, nxa, nxc, lgn, nL_of, swx, Int.reduceAdd, gI_a, gI_k, gL_a, gL_k, gI_r, gL_r, nI_and, nI_or, nI_xor, nI_ndf, nI_shl, nI_shr, ne_eq, and_true, true_and, eq_self, true_or, or_true, false_or, or_false, Option.toList, List.cons_append, List.nil_append, List.length_nil, List.length_cons, Nat.not_lt_zero, bX8_endDay_0]
  refine wfor (fun k => ∀ τ : Mm, Fr (fun c => 1 ≤ c ∧ c ≤ 33) σ τ → VR τ 1 (endV K V k) N O → Wp X mX8_endDay (rmo (d + 2) 0 0) (d + 2) Q 0 0 4 [some (.ref 1), some (.int (endS K V k)), some (.int (nI k)), none] [] τ) N (fun k hk hP τ hF hVk => ?_) (fun τ hF hVk => ?_) σ Fr.rf hV
  · have hsτ := hF.St hs
    have hst := hsτ.1
    have hrt := hsτ.2.1
    have hGk := endV_Gd hG ht k (by omega)
    obtain ⟨a1, a2, p, hp, ep⟩ := fa_ok hst hrt (Or.inl rfl) (hsτ.2.2 1 (Or.inl rfl)) (show k < 10 by omega)
    have a1' : gR τ 2 k = some (fa τ 1 k) := a1
    have e0 : gI τ 1 0 = nI N := hVk.1.1.trans hGk.1.1
    have k2 : gI τ 1 2 = nI K := hVk.1.2.2.2.1.trans hGk.2.2.1.1
    have f4 : gI τ (fa τ 1 k) 4 = endV K V k (49 + k) := (hVk.2.2 k hk).1 4 (by omega)
    have f5 : gI τ (fa τ 1 k) 5 = endV K V k (59 + k) := (hVk.2.2 k hk).1 5 (by omega)
    obtain ⟨ee, he⟩ := etN_ok hGk hk
    have f0 : gI τ (fa τ 1 k) 0 = nI (etN (endV K V k) k) := ((hVk.2.2 k hk).1 0 (by omega)).trans ee
    have fb : ∀ j, j < 5 → gI τ (fa τ 1 k + 1) j = nI (brN (endV K V k) k j) := fun j hj => ((hVk.2.2 k hk).2.2.1 j hj).trans (brN_ok hGk ht hk j hj).1
    have e5 : eatF 5 (brN (endV K V k) k) (etN (endV K V k) k) = eatF K (brN (endV K V k) k) (etN (endV K V k) k) := eatF_ext _ _ _ 5 hK5 (fun j h1 h2 => (brN_ok hGk ht hk j h2).2.2 h1)
    refine wp_blk kX8_endDay_4 ?_
    simp (disch := first | decide | omega) only [mxa, vxa, vxb, vxc, vnd, vne, Nat.reduceAdd, Nat.reduceSub, Nat.reduceLeDiff, Nat.reduceLT, Int32.reduceLT, Int32.reduceLE, Int32.reduceAdd, Int32.reduceSub, Int32.reduceMul, Int32.reduceToNatClampNeg, not_false_eq_true, not_true_eq_false, false_implies, true_implies, Nat.zero_add, reduceIte, Nat.reduceMul, Nat.reduceEqDiff, nxa, nxc, lgn, nL_of, swx, Int.reduceAdd, gI_a, gI_k, gL_a, gL_k, gI_r, gL_r, nI_and, nI_or, nI_xor, nI_ndf, nI_shl, nI_shr, ne_eq, and_true, true_and, eq_self, true_or, or_true, false_or, or_false, Option.toList, List.cons_append, List.nil_append, List.length_nil, List.length_cons, Nat.not_lt_zero, bX8_endDay_4, kdx hst, grx hrt, e0, a1', a2.1, show ¬ N ≤ k by omega]
    refine c_eat X _ τ _ (brN (endV K V k) k) (etN (endV K V k) k) a2 fb f0 (fun j hj => by have := (brN_ok hGk ht hk j hj).2.1; omega) (by omega) _ ?_
    rw [e5]
    simp (disch := first | decide | omega) only [mxa, vxa, vxb, vxc, vnd, vne, Nat.reduceAdd, Nat.reduceSub, Nat.reduceLeDiff, Nat.reduceLT, Int32.reduceLT, Int32.reduceLE, Int32.reduceAdd, Int32.reduceSub, Int32.reduceMul, Int32.reduceToNatClampNeg, not_false_eq_true, not_true_eq_false, false_implies, true_implies, Nat.zero_add, reduceIte, Nat.reduceMul, Nat.reduceEqDiff, nxa, nxc, lgn, nL_of, swx, Int.reduceAdd, gI_a, gI_k, gL_a, gL_k, gI_r, gL_r, nI_and, nI_or, nI_xor, nI_ndf, nI_shl, nI_shr, ne_eq, and_true, true_and, eq_self, true_or, or_true, false_or, or_false, Option.toList, List.cons_append, List.nil_append, List.length_nil, List.length_cons, Nat.not_lt_zero, kdx hst, grx hrt, a1', a2.1, f4, f5, k2]
    refine c_ageBread X _ _ _ K (dayB K (endV K V k) k) hK1 hK5 (by exact a2) (fun j hj => ?_) _ ?_
    · rw [gI_a (by omega), gI_rS, rowB_0 hj]
      rfl
    · simp (disch := first | decide | omega) only [mxa, vxa, vxb, vxc, vnd, vne, Nat.reduceAdd, Nat.reduceSub, Nat.reduceLeDiff, Nat.reduceLT, Int32.reduceLT, Int32.reduceLE, Int32.reduceAdd, Int32.reduceSub, Int32.reduceMul, Int32.reduceToNatClampNeg, not_false_eq_true, not_true_eq_false, false_implies, true_implies, Nat.zero_add, reduceIte, Nat.reduceMul, Nat.reduceEqDiff, nxa, nxc, lgn, nL_of, swx, Int.reduceAdd, gI_a, gI_k, gL_a, gL_k, gI_r, gL_r, nI_and, nI_or, nI_xor, nI_ndf, nI_shl, nI_shr, ne_eq, and_true, true_and, eq_self, true_or, or_true, false_or, or_false, Option.toList, List.cons_append, List.nil_append, List.length_nil, List.length_cons, Nat.not_lt_zero, kdx hst, grx hrt, a1', a2.1]
      refine Wp.fog 3 ?_
      refine hP _ ?_ (dstep_VR hsτ hVk hN10 hO3 hk)
      refine hF.tr (Fr.tr (Fr.tr (Fr.tr (Fr.rI ?_) (Fr.sI ?_)) (Fr.rI ?_)) (Fr.sI ?_)) <;> omega
  · have hsτ := hF.St hs
    have hst := hsτ.1
    have e0 : gI τ 1 0 = nI N := hVk.1.1.trans (endV_Gd hG ht N (Nat.le_refl _)).1.1
    have e4 : gI τ 1 4 = endV K V N 2 := hVk.1.2.2.1
    refine wp_blk kX8_endDay_4 ?_
    simp (disch := first | decide | omega) only [mxa, vxa, vxb, vxc, vnd, vne, Nat.reduceAdd, Nat.reduceSub, Nat.reduceLeDiff, Nat.reduceLT, Int32.reduceLT, Int32.reduceLE, Int32.reduceAdd, Int32.reduceSub, Int32.reduceMul, Int32.reduceToNatClampNeg, not_false_eq_true, not_true_eq_false, false_implies, true_implies, Nat.zero_add, reduceIte, Nat.reduceMul, Nat.reduceEqDiff, nxa, nxc, lgn, nL_of, swx, Int.reduceAdd, gI_a, gI_k, gL_a, gL_k, gI_r, gL_r, nI_and, nI_or, nI_xor, nI_ndf, nI_shl, nI_shr, ne_eq, and_true, true_and, eq_self, true_or, or_true, false_or, or_false, Option.toList, List.cons_append, List.nil_append, List.length_nil, List.length_cons, Nat.not_lt_zero, bX8_endDay_4, kdx hst, e0, Nat.le_refl]
    refine wp_blk kX8_endDay_74 ?_
    simp (disch := first | decide | omega) only [mxa, vxa, vxb, vxc, vnd, vne, Nat.reduceAdd, Nat.reduceSub, Nat.reduceLeDiff, Nat.reduceLT, Int32.reduceLT, Int32.reduceLE, Int32.reduceAdd, Int32.reduceSub, Int32.reduceMul, Int32.reduceToNatClampNeg, not_false_eq_true, not_true_eq_false, false_implies, true_implies, Nat.zero_add, reduceIte, Nat.reduceMul, Nat.reduceEqDiff, nxa, nxc, lgn, nL_of, swx, Int.reduceAdd, gI_a, gI_k, gL_a, gL_k, gI_r, gL_r, nI_and, nI_or, nI_xor, nI_ndf, nI_shl, nI_shr, ne_eq, and_true, true_and, eq_self, true_or, or_true, false_or, or_false, Option.toList, List.cons_append, List.nil_append, List.length_nil, List.length_cons, Nat.not_lt_zero, bX8_endDay_74, kdx hst, e4]
    exact hQ _ (hF.tr (Fr.sI (by omega))) (hVk.day hsτ (Or.inl rfl) hN10 hO3)
/-- the model's day -/
theorem c_ends (X : Cx) (d : Nat) (σ : Mm) (V : Nat → Int32) (t N O K : Nat) (hs : Sh σ) (hr : Rf σ) (hV : gI σ 191 = V) (hG : Gd V t N O K) (ht : t ≤ 600) (Q : Po) (hQ : Q (some (.int (endS K V N))) (rI σ 191 (dayV K V N))) : Call X (d + 1) 0 0 mX10_ends [.ref 190] σ Q := by
  have hN10 := hG.1.2
  have hO3 := hG.2.1.2
  have hK1 := hG.2.2.1.2.1
  have hK5 := hG.2.2.1.2.2
  have key := wfor (fun k => Wp X mX10_ends (rmo (d + 1) 0 0) (d + 1) Q 0 0 4 [some (.ref 190), some (.int (endS K V k)), some (.int (nI k)), none] [] (rI σ 191 (endV K V k))) N (fun k hk hP => by
    have hGk := endV_Gd hG ht k (by omega)
    have n0 : endV K V k 0 = nI N := hGk.1.1
    obtain ⟨ee, he⟩ := etN_ok hGk hk
    refine wp_blk kX10_ends_4 ?_
    simp (disch := first | decide | omega) only [mxa, vxa, vxb, vxc, vnd, vne, Nat.reduceAdd, Nat.reduceSub, Nat.reduceLeDiff, Nat.reduceLT, Int32.reduceLT, Int32.reduceLE, Int32.reduceAdd, Int32.reduceSub, Int32.reduceMul, Int32.reduceToNatClampNeg, not_false_eq_true, not_true_eq_false, false_implies, true_implies, Nat.zero_add, reduceIte, Nat.reduceMul, Nat.reduceEqDiff, nxa, nxc, lgn, nL_of, swx, Int.reduceAdd, gI_a, gI_k, gL_a, gL_k, gI_r, gL_r, nI_and, nI_or, nI_xor, nI_ndf, nI_shl, nI_shr, ne_eq, and_true, true_and, eq_self, true_or, or_true, false_or, or_false, Option.toList, List.cons_append, List.nil_append, List.length_nil, List.length_cons, Nat.not_lt_zero, bX10_ends_4, kdx hs, grx hr, n0, ee, show ¬ N ≤ k by omega]
    refine c_lacks X _ _ 191 (69 + 5 * k) K 957 (brN (endV K V k) k) (etN (endV K V k) k) (by exact hs) (by exact hr) (by rw [gI_rS]; exact hGk.2.2.1.1) hK1 hK5 (by simp only [mxa, kdx hs]) (by omega) (by omega) (fun j hj => by rw [gI_rS]; exact (brN_ok hGk ht hk j hj).1) (fun j hj => by have := (brN_ok hGk ht hk j hj).2.1; omega) (by omega) _ ?_
    rw [gI_rS, rI_rI]
    simp (disch := first | decide | omega) only [mxa, vxa, vxb, vxc, vnd, vne, Nat.reduceAdd, Nat.reduceSub, Nat.reduceLeDiff, Nat.reduceLT, Int32.reduceLT, Int32.reduceLE, Int32.reduceAdd, Int32.reduceSub, Int32.reduceMul, Int32.reduceToNatClampNeg, not_false_eq_true, not_true_eq_false, false_implies, true_implies, Nat.zero_add, reduceIte, Nat.reduceMul, Nat.reduceEqDiff, nxa, nxc, lgn, nL_of, swx, Int.reduceAdd, gI_a, gI_k, gL_a, gL_k, gI_r, gL_r, nI_and, nI_or, nI_xor, nI_ndf, nI_shl, nI_shr, ne_eq, and_true, true_and, eq_self, true_or, or_true, false_or, or_false, Option.toList, List.cons_append, List.nil_append, List.length_nil, List.length_cons, Nat.not_lt_zero, kdx hs, grx hr, sI_rI, rowB_off, upd_n]
    refine c_ages X _ _ 191 (69 + 5 * k) K 957 (dayB K (endV K V k) k) (by exact hs) (by exact hr) (by rw [gI_rS, upd_n (by omega), rowB_off (by omega)]; exact hGk.2.2.1.1) hK1 hK5 (by simp only [mxa, kdx hs]) (by omega) (by omega) (fun j hj => by rw [gI_rS, upd_n (by omega), rowB_at hj]; rfl) _ ?_
    rw [gI_rS, rI_rI]
    simp (disch := first | decide | omega) only [mxa, vxa, vxb, vxc, vnd, vne, Nat.reduceAdd, Nat.reduceSub, Nat.reduceLeDiff, Nat.reduceLT, Int32.reduceLT, Int32.reduceLE, Int32.reduceAdd, Int32.reduceSub, Int32.reduceMul, Int32.reduceToNatClampNeg, not_false_eq_true, not_true_eq_false, false_implies, true_implies, Nat.zero_add, reduceIte, Nat.reduceMul, Nat.reduceEqDiff, nxa, nxc, lgn, nL_of, swx, Int.reduceAdd, gI_a, gI_k, gL_a, gL_k, gI_r, gL_r, nI_and, nI_or, nI_xor, nI_ndf, nI_shl, nI_shr, ne_eq, and_true, true_and, eq_self, true_or, or_true, false_or, or_false, Option.toList, List.cons_append, List.nil_append, List.length_nil, List.length_cons, Nat.not_lt_zero, kdx hs, grx hr, sI_rI]
    refine Wp.fog 3 ?_
    exact hP) (by
    have hGk := endV_Gd hG ht N (Nat.le_refl _)
    have n0 : endV K V N 0 = nI N := hGk.1.1
    refine wp_blk kX10_ends_4 ?_
    simp (disch := first | decide | omega) only [mxa, vxa, vxb, vxc, vnd, vne, Nat.reduceAdd, Nat.reduceSub, Nat.reduceLeDiff, Nat.reduceLT, Int32.reduceLT, Int32.reduceLE, Int32.reduceAdd, Int32.reduceSub, Int32.reduceMul, Int32.reduceToNatClampNeg, not_false_eq_true, not_true_eq_false, false_implies, true_implies, Nat.zero_add, reduceIte, Nat.reduceMul, Nat.reduceEqDiff, nxa, nxc, lgn, nL_of, swx, Int.reduceAdd, gI_a, gI_k, gL_a, gL_k, gI_r, gL_r, nI_and, nI_or, nI_xor, nI_ndf, nI_shl, nI_shr, ne_eq, and_true, true_and, eq_self, true_or, or_true, false_or, or_false, Option.toList, List.cons_append, List.nil_append, List.length_nil, List.length_cons, Nat.not_lt_zero, bX10_ends_4, kdx hs, grx hr, n0, Nat.le_refl]
    refine wp_blk kX10_ends_87 ?_
    simp (disch := first | decide | omega) only [mxa, vxa, vxb, vxc, vnd, vne, Nat.reduceAdd, Nat.reduceSub, Nat.reduceLeDiff, Nat.reduceLT, Int32.reduceLT, Int32.reduceLE, Int32.reduceAdd, Int32.reduceSub, Int32.reduceMul, Int32.reduceToNatClampNeg, not_false_eq_true, not_true_eq_false, false_implies, true_implies, Nat.zero_add, reduceIte, Nat.reduceMul, Nat.reduceEqDiff, nxa, nxc, lgn, nL_of, swx, Int.reduceAdd, gI_a, gI_k, gL_a, gL_k, gI_r, gL_r, nI_and, nI_or, nI_xor, nI_ndf, nI_shl, nI_shr, ne_eq, and_true, true_and, eq_self, true_or, or_true, false_or, or_false, Option.toList, List.cons_append, List.nil_append, List.length_nil, List.length_cons, Nat.not_lt_zero, bX10_ends_87, kdx hs, grx hr, sI_rI]
    exact hQ)
  rw [show endV K V 0 = gI σ 191 from hV.symm, rI_self] at key
  refine call_of eX10_ends rfl ?_
  refine wp_blk kX10_ends_0 ?_
  simp (disch := first | decide | omega) only [mxa, vxa, vxb, vxc, vnd, vne, Nat.reduceAdd, Nat.reduceSub, Nat.reduceLeDiff, Nat.reduceLT, Int32.reduceLT, Int32.reduceLE, Int32.reduceAdd, Int32.reduceSub, Int32.reduceMul, Int32.reduceToNatClampNeg, not_false_eq_true, not_true_eq_false, false_implies, true_implies, Nat.zero_add, reduceIte, Nat.reduceMul, Nat.reduceEqDiff, nxa, nxc, lgn, nL_of, swx, Int.reduceAdd, gI_a, gI_k, gL_a, gL_k, gI_r, gL_r, nI_and, nI_or, nI_xor, nI_ndf, nI_shl, nI_shr, ne_eq, and_true, true_and, eq_self, true_or, or_true, false_or, or_false, Option.toList, List.cons_append, List.nil_append, List.length_nil, List.length_cons, Nat.not_lt_zero, bX10_ends_0]
  exact key
/-- both sides have come to V' -/
def Sc (a : Nat) : Prop := (1 ≤ a ∧ a ≤ 66) ∨ (146 ≤ a ∧ a ≤ 189)
def Sm (a : Nat) : Prop := a = 190 ∨ a = 191 ∨ (194 ≤ a ∧ a ≤ 209)
theorem Inv.fin {t N O K : Nat} {σ σ1 σ2 : Mm} {V' : Nat → Int32} (hI : Inv t σ) (ht : t < 512) (h1 : Fr Sc σ σ1) (hv : VR σ1 1 V' N O) (h2 : Fr Sm σ1 σ2) (h191 : ∀ k, k = 5 ∨ k = 13 ∨ k = 14 → gI σ2 190 k = gI σ1 190 k) (e : gI σ2 191 = V') (hV : ∀ k, 319 ≤ k → V' k = gI σ 191 k) (hG : Gd V' (t + 1) N O K) : Inv (t + 1) σ2 := by
  have c191 : ∀ k, gI σ1 190 k = gI σ 190 k := h1.2.2.1 190 (by unfold Sc; omega)
  refine hI.step ht ((h1.mono (fun a h => ?_)).tr (h2.mono (fun a h => ?_))) ⟨(h191 5 (by omega)).trans (c191 5), (h191 13 (by omega)).trans (c191 13), (h191 14 (by omega)).trans (c191 14)⟩ (fun k hk => by rw [e]; exact hV k hk) ⟨N, O, K, by rw [e]; exact hG, ?_⟩
  · unfold Sc at h; unfold S0; omega
  · unfold Sm at h; unfold S0; omega
  · rw [e]
    exact hv.keep hG.1.2 (h1.St hI.2.1) (Or.inl rfl) h2.gR (fun a q1 q2 => h2.2.2.1 a (by unfold Sm; omega))
theorem dayV_hi {K N k : Nat} {V : Nat → Int32} (hN : N ≤ 10) (hk : 319 ≤ k) : dayV K V N k = V k := by
  unfold dayV
  rw [upd_n (by omega)]
  exact endV_off (by omega) N hN
theorem dayV_Gd {V : Nat → Int32} {t N O K : Nat} (hG : Gd V t N O K) (ht : t ≤ 600) (hd : ∃ n, n < 999 ∧ V 2 = nI n) : Gd (dayV K V N) t N O K := by
  obtain ⟨n, hn, e⟩ := hd
  refine (endV_Gd hG ht N (Nat.le_refl _)).day ⟨n + 1, by omega, ?_⟩
  rw [endV_off (by omega) N hG.1.2, e, nI_add]
theorem pr_day (X : Cx) (d t : Nat) (σ : Mm) (hI : Inv t σ) (ht : t < 512) : Call X (d + 9) 0 0 mX9_day [.ref 0] σ (Eq2 (t + 1) X (d + 9) mX10_day [.ref 190]) := by
  obtain ⟨N, O, K, hG, hV⟩ := hI.2.2.2.1
  have hs := hI.2.1.1
  have hr := hI.2.1.2.1
  have hN := hG.1.1
  have hN10 := hG.1.2
  have hO := hG.2.1.1
  have hO3 := hG.2.1.2
  have e0 : gI σ 1 0 = nI N := hV.1.1.trans hN
  have e1 : gI σ 1 1 = nI O := hV.1.2.1.trans hO
  obtain ⟨n, hn, en⟩ := hG.2.2.2.2.1
  have e4 : gI σ 1 4 = nI n := hV.1.2.2.1.trans en
  by_cases h9 : n = 999
  · subst h9
    refine call_of eX9_day rfl ?_
    refine wp_blk kX9_day_0 ?_
    simp (disch := first | decide | omega) only [mxa, vxa, vxb, vxc, vnd, vne, Nat.reduceAdd, Nat.reduceSub, Nat.reduceLeDiff, Nat.reduceLT, Int32.reduceLT, Int32.reduceLE, Int32.reduceAdd, Int32.reduceSub, Int32.reduceMul, Int32.reduceToNatClampNeg, not_false_eq_true, not_true_eq_false, false_implies, true_implies, Nat.zero_add, reduceIte, Nat.reduceMul, Nat.reduceEqDiff, nxa, nxc, lgn, nL_of, swx, Int.reduceAdd, gI_a, gI_k, gL_a, gL_k, gI_r, gL_r, nI_and, nI_or, nI_xor, nI_ndf, nI_shl, nI_shr, ne_eq, and_true, true_and, eq_self, true_or, or_true, false_or, or_false, Option.toList, List.cons_append, List.nil_append, List.length_nil, List.length_cons, Nat.not_lt_zero, bX9_day_0, kdx hs, grx hr, e4]
    repeat (first | ((with_reducible refine wp_blk kX9_day_0 ?_); simp (disch := first | decide | omega) only [mxa, vxa, vxb, vxc, vnd, vne, Nat.reduceAdd, Nat.reduceSub, Nat.reduceLeDiff, Nat.reduceLT, Int32.reduceLT, Int32.reduceLE, Int32.reduceAdd, Int32.reduceSub, Int32.reduceMul, Int32.reduceToNatClampNeg, not_false_eq_true, not_true_eq_false, false_implies, true_implies, Nat.zero_add, reduceIte, Nat.reduceMul, Nat.reduceEqDiff, nxa, nxc, lgn, nL_of, swx, Int.reduceAdd, gI_a, gI_k, gL_a, gL_k, gI_r, gL_r, nI_and, nI_or, nI_xor, nI_ndf, nI_shl, nI_shr, ne_eq, and_true, true_and, eq_self, true_or, or_true, false_or, or_false, Option.toList, List.cons_append, List.nil_append, List.length_nil, List.length_cons, Nat.not_lt_zero, bX9_day_0]) | ((with_reducible refine wp_blk kX9_day_18 ?_); simp (disch := first | decide | omega) only [mxa, vxa, vxb, vxc, vnd, vne, Nat.reduceAdd, Nat.reduceSub, Nat.reduceLeDiff, Nat.reduceLT, Int32.reduceLT, Int32.reduceLE, Int32.reduceAdd, Int32.reduceSub, Int32.reduceMul, Int32.reduceToNatClampNeg, not_false_eq_true, not_true_eq_false, false_implies, true_implies, Nat.zero_add, reduceIte, Nat.reduceMul, Nat.reduceEqDiff, nxa, nxc, lgn, nL_of, swx, Int.reduceAdd, gI_a, gI_k, gL_a, gL_k, gI_r, gL_r, nI_and, nI_or, nI_xor, nI_ndf, nI_shl, nI_shr, ne_eq, and_true, true_and, eq_self, true_or, or_true, false_or, or_false, Option.toList, List.cons_append, List.nil_append, List.length_nil, List.length_cons, Nat.not_lt_zero, bX9_day_18]) | ((with_reducible refine wp_blk kX9_day_25 ?_); simp (disch := first | decide | omega) only [mxa, vxa, vxb, vxc, vnd, vne, Nat.reduceAdd, Nat.reduceSub, Nat.reduceLeDiff, Nat.reduceLT, Int32.reduceLT, Int32.reduceLE, Int32.reduceAdd, Int32.reduceSub, Int32.reduceMul, Int32.reduceToNatClampNeg, not_false_eq_true, not_true_eq_false, false_implies, true_implies, Nat.zero_add, reduceIte, Nat.reduceMul, Nat.reduceEqDiff, nxa, nxc, lgn, nL_of, swx, Int.reduceAdd, gI_a, gI_k, gL_a, gL_k, gI_r, gL_r, nI_and, nI_or, nI_xor, nI_ndf, nI_shl, nI_shr, ne_eq, and_true, true_and, eq_self, true_or, or_true, false_or, or_false, Option.toList, List.cons_append, List.nil_append, List.length_nil, List.length_cons, Nat.not_lt_zero, bX9_day_25]))
    unfold Eq2
    refine call_of eX10_day rfl ?_
    refine wp_blk kX10_day_0 ?_
    simp (disch := first | decide | omega) only [mxa, vxa, vxb, vxc, vnd, vne, Nat.reduceAdd, Nat.reduceSub, Nat.reduceLeDiff, Nat.reduceLT, Int32.reduceLT, Int32.reduceLE, Int32.reduceAdd, Int32.reduceSub, Int32.reduceMul, Int32.reduceToNatClampNeg, not_false_eq_true, not_true_eq_false, false_implies, true_implies, Nat.zero_add, reduceIte, Nat.reduceMul, Nat.reduceEqDiff, nxa, nxc, lgn, nL_of, swx, Int.reduceAdd, gI_a, gI_k, gL_a, gL_k, gI_r, gL_r, nI_and, nI_or, nI_xor, nI_ndf, nI_shl, nI_shr, ne_eq, and_true, true_and, eq_self, true_or, or_true, false_or, or_false, Option.toList, List.cons_append, List.nil_append, List.length_nil, List.length_cons, Nat.not_lt_zero, bX10_day_0, kdx hs, grx hr, en]
    repeat (first | ((with_reducible refine wp_blk kX10_day_0 ?_); simp (disch := first | decide | omega) only [mxa, vxa, vxb, vxc, vnd, vne, Nat.reduceAdd, Nat.reduceSub, Nat.reduceLeDiff, Nat.reduceLT, Int32.reduceLT, Int32.reduceLE, Int32.reduceAdd, Int32.reduceSub, Int32.reduceMul, Int32.reduceToNatClampNeg, not_false_eq_true, not_true_eq_false, false_implies, true_implies, Nat.zero_add, reduceIte, Nat.reduceMul, Nat.reduceEqDiff, nxa, nxc, lgn, nL_of, swx, Int.reduceAdd, gI_a, gI_k, gL_a, gL_k, gI_r, gL_r, nI_and, nI_or, nI_xor, nI_ndf, nI_shl, nI_shr, ne_eq, and_true, true_and, eq_self, true_or, or_true, false_or, or_false, Option.toList, List.cons_append, List.nil_append, List.length_nil, List.length_cons, Nat.not_lt_zero, bX10_day_0]) | ((with_reducible refine wp_blk kX10_day_22 ?_); simp (disch := first | decide | omega) only [mxa, vxa, vxb, vxc, vnd, vne, Nat.reduceAdd, Nat.reduceSub, Nat.reduceLeDiff, Nat.reduceLT, Int32.reduceLT, Int32.reduceLE, Int32.reduceAdd, Int32.reduceSub, Int32.reduceMul, Int32.reduceToNatClampNeg, not_false_eq_true, not_true_eq_false, false_implies, true_implies, Nat.zero_add, reduceIte, Nat.reduceMul, Nat.reduceEqDiff, nxa, nxc, lgn, nL_of, swx, Int.reduceAdd, gI_a, gI_k, gL_a, gL_k, gI_r, gL_r, nI_and, nI_or, nI_xor, nI_ndf, nI_shl, nI_shr, ne_eq, and_true, true_and, eq_self, true_or, or_true, false_or, or_false, Option.toList, List.cons_append, List.nil_append, List.length_nil, List.length_cons, Nat.not_lt_zero, bX10_day_22]) | ((with_reducible refine wp_blk kX10_day_26 ?_); simp (disch := first | decide | omega) only [mxa, vxa, vxb, vxc, vnd, vne, Nat.reduceAdd, Nat.reduceSub, Nat.reduceLeDiff, Nat.reduceLT, Int32.reduceLT, Int32.reduceLE, Int32.reduceAdd, Int32.reduceSub, Int32.reduceMul, Int32.reduceToNatClampNeg, not_false_eq_true, not_true_eq_false, false_implies, true_implies, Nat.zero_add, reduceIte, Nat.reduceMul, Nat.reduceEqDiff, nxa, nxc, lgn, nL_of, swx, Int.reduceAdd, gI_a, gI_k, gL_a, gL_k, gI_r, gL_r, nI_and, nI_or, nI_xor, nI_ndf, nI_shl, nI_shr, ne_eq, and_true, true_and, eq_self, true_or, or_true, false_or, or_false, Option.toList, List.cons_append, List.nil_append, List.length_nil, List.length_cons, Nat.not_lt_zero, bX10_day_26]))
    exact ⟨⟨_, rfl, rfl⟩, hI.thr ht⟩
  · refine call_of eX9_day rfl ?_
    refine wp_blk kX9_day_0 ?_
    simp (disch := first | decide | omega) only [mxa, vxa, vxb, vxc, vnd, vne, Nat.reduceAdd, Nat.reduceSub, Nat.reduceLeDiff, Nat.reduceLT, Int32.reduceLT, Int32.reduceLE, Int32.reduceAdd, Int32.reduceSub, Int32.reduceMul, Int32.reduceToNatClampNeg, not_false_eq_true, not_true_eq_false, false_implies, true_implies, Nat.zero_add, reduceIte, Nat.reduceMul, Nat.reduceEqDiff, nxa, nxc, lgn, nL_of, swx, Int.reduceAdd, gI_a, gI_k, gL_a, gL_k, gI_r, gL_r, nI_and, nI_or, nI_xor, nI_ndf, nI_shl, nI_shr, ne_eq, and_true, true_and, eq_self, true_or, or_true, false_or, or_false, Option.toList, List.cons_append, List.nil_append, List.length_nil, List.length_cons, Nat.not_lt_zero, bX9_day_0, kdx hs, grx hr, e4, show n < 999 by omega]
    refine wp_blk kX9_day_18 ?_
    simp (disch := first | decide | omega) only [mxa, vxa, vxb, vxc, vnd, vne, Nat.reduceAdd, Nat.reduceSub, Nat.reduceLeDiff, Nat.reduceLT, Int32.reduceLT, Int32.reduceLE, Int32.reduceAdd, Int32.reduceSub, Int32.reduceMul, Int32.reduceToNatClampNeg, not_false_eq_true, not_true_eq_false, false_implies, true_implies, Nat.zero_add, reduceIte, Nat.reduceMul, Nat.reduceEqDiff, nxa, nxc, lgn, nL_of, swx, Int.reduceAdd, gI_a, gI_k, gL_a, gL_k, gI_r, gL_r, nI_and, nI_or, nI_xor, nI_ndf, nI_shl, nI_shr, ne_eq, and_true, true_and, eq_self, true_or, or_true, false_or, or_false, Option.toList, List.cons_append, List.nil_append, List.length_nil, List.length_cons, Nat.not_lt_zero, bX9_day_18, kdx hs, grx hr]
    refine c_endDay X _ σ (gI σ 191) t N O K hI.2.1 hG (by omega) hV _ (fun σ' hF hV' => ?_)
    simp (disch := first | decide | omega) only [mxa, vxa, vxb, vxc, vnd, vne, Nat.reduceAdd, Nat.reduceSub, Nat.reduceLeDiff, Nat.reduceLT, Int32.reduceLT, Int32.reduceLE, Int32.reduceAdd, Int32.reduceSub, Int32.reduceMul, Int32.reduceToNatClampNeg, not_false_eq_true, not_true_eq_false, false_implies, true_implies, Nat.zero_add, reduceIte, Nat.reduceMul, Nat.reduceEqDiff, nxa, nxc, lgn, nL_of, swx, Int.reduceAdd, gI_a, gI_k, gL_a, gL_k, gI_r, gL_r, nI_and, nI_or, nI_xor, nI_ndf, nI_shl, nI_shr, ne_eq, and_true, true_and, eq_self, true_or, or_true, false_or, or_false, Option.toList, List.cons_append, List.nil_append, List.length_nil, List.length_cons, Nat.not_lt_zero]
    refine wp_blk kX9_day_25 ?_
    simp (disch := first | decide | omega) only [mxa, vxa, vxb, vxc, vnd, vne, Nat.reduceAdd, Nat.reduceSub, Nat.reduceLeDiff, Nat.reduceLT, Int32.reduceLT, Int32.reduceLE, Int32.reduceAdd, Int32.reduceSub, Int32.reduceMul, Int32.reduceToNatClampNeg, not_false_eq_true, not_true_eq_false, false_implies, true_implies, Nat.zero_add, reduceIte, Nat.reduceMul, Nat.reduceEqDiff, nxa, nxc, lgn, nL_of, swx, Int.reduceAdd, gI_a, gI_k, gL_a, gL_k, gI_r, gL_r, nI_and, nI_or, nI_xor, nI_ndf, nI_shl, nI_shr, ne_eq, and_true, true_and, eq_self, true_or, or_true, false_or, or_false, Option.toList, List.cons_append, List.nil_append, List.length_nil, List.length_cons, Nat.not_lt_zero, bX9_day_25]
    unfold Eq2
    have hs' := (hF.St hI.2.1).1
    have hr' := (hF.St hI.2.1).2.1
    have e192 : ∀ k, gI σ' 191 k = gI σ 191 k := hF.2.2.1 191 (by omega)
    have h9' : ¬ n = 999 := h9
    refine call_of eX10_day rfl ?_
    refine wp_blk kX10_day_0 ?_
    simp (disch := first | decide | omega) only [mxa, vxa, vxb, vxc, vnd, vne, Nat.reduceAdd, Nat.reduceSub, Nat.reduceLeDiff, Nat.reduceLT, Int32.reduceLT, Int32.reduceLE, Int32.reduceAdd, Int32.reduceSub, Int32.reduceMul, Int32.reduceToNatClampNeg, not_false_eq_true, not_true_eq_false, false_implies, true_implies, Nat.zero_add, reduceIte, Nat.reduceMul, Nat.reduceEqDiff, nxa, nxc, lgn, nL_of, swx, Int.reduceAdd, gI_a, gI_k, gL_a, gL_k, gI_r, gL_r, nI_and, nI_or, nI_xor, nI_ndf, nI_shl, nI_shr, ne_eq, and_true, true_and, eq_self, true_or, or_true, false_or, or_false, Option.toList, List.cons_append, List.nil_append, List.length_nil, List.length_cons, Nat.not_lt_zero, bX10_day_0, kdx hs', grx hr', e192, en, h9']
    refine wp_blk kX10_day_22 ?_
    simp (disch := first | decide | omega) only [mxa, vxa, vxb, vxc, vnd, vne, Nat.reduceAdd, Nat.reduceSub, Nat.reduceLeDiff, Nat.reduceLT, Int32.reduceLT, Int32.reduceLE, Int32.reduceAdd, Int32.reduceSub, Int32.reduceMul, Int32.reduceToNatClampNeg, not_false_eq_true, not_true_eq_false, false_implies, true_implies, Nat.zero_add, reduceIte, Nat.reduceMul, Nat.reduceEqDiff, nxa, nxc, lgn, nL_of, swx, Int.reduceAdd, gI_a, gI_k, gL_a, gL_k, gI_r, gL_r, nI_and, nI_or, nI_xor, nI_ndf, nI_shl, nI_shr, ne_eq, and_true, true_and, eq_self, true_or, or_true, false_or, or_false, Option.toList, List.cons_append, List.nil_append, List.length_nil, List.length_cons, Nat.not_lt_zero, bX10_day_22, kdx hs', grx hr']
    refine c_ends X _ _ (gI σ 191) t N O K (by exact hs') (by exact hr') (funext fun k => (thr_192 σ' k).trans (e192 k)) hG (by omega) _ ?_
    simp (disch := first | decide | omega) only [mxa, vxa, vxb, vxc, vnd, vne, Nat.reduceAdd, Nat.reduceSub, Nat.reduceLeDiff, Nat.reduceLT, Int32.reduceLT, Int32.reduceLE, Int32.reduceAdd, Int32.reduceSub, Int32.reduceMul, Int32.reduceToNatClampNeg, not_false_eq_true, not_true_eq_false, false_implies, true_implies, Nat.zero_add, reduceIte, Nat.reduceMul, Nat.reduceEqDiff, nxa, nxc, lgn, nL_of, swx, Int.reduceAdd, gI_a, gI_k, gL_a, gL_k, gI_r, gL_r, nI_and, nI_or, nI_xor, nI_ndf, nI_shl, nI_shr, ne_eq, and_true, true_and, eq_self, true_or, or_true, false_or, or_false, Option.toList, List.cons_append, List.nil_append, List.length_nil, List.length_cons, Nat.not_lt_zero]
    refine wp_blk kX10_day_26 ?_
    simp (disch := first | decide | omega) only [mxa, vxa, vxb, vxc, vnd, vne, Nat.reduceAdd, Nat.reduceSub, Nat.reduceLeDiff, Nat.reduceLT, Int32.reduceLT, Int32.reduceLE, Int32.reduceAdd, Int32.reduceSub, Int32.reduceMul, Int32.reduceToNatClampNeg, not_false_eq_true, not_true_eq_false, false_implies, true_implies, Nat.zero_add, reduceIte, Nat.reduceMul, Nat.reduceEqDiff, nxa, nxc, lgn, nL_of, swx, Int.reduceAdd, gI_a, gI_k, gL_a, gL_k, gI_r, gL_r, nI_and, nI_or, nI_xor, nI_ndf, nI_shl, nI_shr, ne_eq, and_true, true_and, eq_self, true_or, or_true, false_or, or_false, Option.toList, List.cons_append, List.nil_append, List.length_nil, List.length_cons, Nat.not_lt_zero, bX10_day_26]
    refine ⟨⟨_, rfl, rfl⟩, hI.fin ht (hF.mono (fun a h => by unfold Sc; omega)) hV' ((Fr.sI (by unfold Sm; omega)).tr (Fr.rI (by unfold Sm; omega))) (fun k hk => ?_) (gI_rS _ _ _) (fun k hk => dayV_hi hN10 hk) (dayV_Gd (hG.mono (by omega)) (by omega) ⟨n, by omega, en⟩)⟩
    rw [gI_r (by decide), gI_k (by omega)]
