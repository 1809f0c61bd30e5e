section
variable {p : Program} {l : Launch} {e : Env} {s : State} {m : MethodId} {args : Array Value} {below : List Frame} {meth : Method} {c : Code} {H : Heap} {locs : List Loc} {c0 s0 : Nat} {QQ : State → Prop} {g : JFrame}
variable {X : Cx} {M : MI} {R : Room} {d : Nat} {Q : Po} {J : Nat → Ct} {pc len : Nat} {K : Ct} {h : List Nat} {ms : List MI} {σ : Mm}
theorem sd_iaload (hd : decode M.2.1 pc = .ok (.iaload, len)) (hc : ch1 M pc (.iaload, 0 :: h, ms) len = true) (hK : Sd X M R d Q (pc + len) K) : Sd X M R d Q pc (vi X R d Q J (.iaload, 0 :: h, ms) K) := by
  intro c0 s0 lv st σ hv0
  obtain ⟨a, i, r, rfl, n, hk, hin, hv⟩ := kRI_e hv0
  have hlen : len = 1 := by simpa [ch1] using hc
  subst hlen
  intro p e s m args below meth c H locs ls hE h1 h2 hn0 hH hS hl
  obtain ⟨hx, hb, hr, hml, hlk, hnm, hown, hts, hKk, hO, hdf, hdl⟩ := id hE
  exact va_iald hx hb hKk hH.1 a 0 (hH.at hk).2 rfl hin hd (hK _ _ _ _ _ hv p e s m args below meth c H locs ls hE h1 h2 hn0 hH hS hl)
theorem sd_laload (hd : decode M.2.1 pc = .ok (.laload, len)) (hc : ch1 M pc (.laload, h, ms) len = true) (hK : Sd X M R d Q (pc + len) K) : Sd X M R d Q pc (vi X R d Q J (.laload, h, ms) K) := by
  intro c0 s0 lv st σ hv0
  obtain ⟨a, i, r, rfl, n, hk, hin, hv⟩ := kRI_e hv0
  have hlen : len = 1 := by simpa [ch1] using hc
  subst hlen
  intro p e s m args below meth c H locs ls hE h1 h2 hn0 hH hS hl
  obtain ⟨hx, hb, hr, hml, hlk, hnm, hown, hts, hKk, hO, hdf, hdl⟩ := id hE
  exact va_lald hx hb hKk hH.1 a 1 (hH.at hk).2 rfl hin hd (hK _ _ _ _ _ hv p e s m args below meth c H locs ls hE h1 h2 hn0 hH hS hl)
theorem sd_ialoadS (hd : decode M.2.1 pc = .ok (.iaload, len)) (hc : ch1 M pc (.iaload, 9 :: h, ms) len = true) (hK : Sd X M R d Q (pc + len) K) : Sd X M R d Q pc (vi X R d Q J (.iaload, 9 :: h, ms) K) := by
  intro c0 s0 lv st σ hv0
  obtain ⟨a, i, r, rfl, rfl, hin, hv⟩ := kRI_e hv0
  have hlen : len = 1 := by simpa [ch1] using hc
  subst hlen
  intro p e s m args below meth c H locs ls hE h1 h2 hn0 hH hS hl
  obtain ⟨hx, hb, hr, hml, hlk, hnm, hown, hts, hKk, hO, hdf, hdl⟩ := id hE
  have ea : adr X 2000000 = cxb X := by simp [adr]
  refine W.at (st' := .int i :: .ref (cxb X) :: r.map (tv X)) (by rw [List.map_cons, List.map_cons, tv_int, tv_ref, ea]) ?_
  exact va_sld hx hb hO.2.2.2.1 (Nat.lt_of_lt_of_le hO.2.2.2.2.1 hO.2.2.2.2.2.2) (Nat.not_le.mpr hO.2.2.2.2.1) hS hin hd (hK _ _ _ _ _ hv p e s m args below meth c H locs ls hE h1 h2 hn0 hH hS hl)
theorem sd_baload {t : Nat} (hd : decode M.2.1 pc = .ok (.baload, len)) (hc : ch1 M pc (.baload, t :: h, ms) len = true) (hK : Sd X M R d Q (pc + len) K) : Sd X M R d Q pc (vi X R d Q J (.baload, t :: h, ms) K) := by
  intro c0 s0 lv st σ hv0
  obtain ⟨a, i, r, rfl, ht, n, hk, hin, hv⟩ := kRI_e hv0
  have hlen : len = 1 := by simpa [ch1] using hc
  subst hlen
  intro p e s m args below meth c H locs ls hE h1 h2 hn0 hH hS hl
  obtain ⟨hx, hb, hr, hml, hlk, hnm, hown, hts, hKk, hO, hdf, hdl⟩ := id hE
  rcases ht with rfl | rfl
  · exact va_bald hx hb hKk hH.1 a 2 (hH.at hk).2 rfl hin hd (hK _ _ _ _ _ hv p e s m args below meth c H locs ls hE h1 h2 hn0 hH hS hl)
  · exact va_zald hx hb hKk hH.1 a 3 (hH.at hk).2 rfl hin hd (hK _ _ _ _ _ hv p e s m args below meth c H locs ls hE h1 h2 hn0 hH hS hl)
theorem sd_aaload {t : Nat} (hd : decode M.2.1 pc = .ok (.aaload, len)) (hc : ch1 M pc (.aaload, t :: h, ms) len = true) (hK : Sd X M R d Q (pc + len) K) : Sd X M R d Q pc (vi X R d Q J (.aaload, t :: h, ms) K) := by
  intro c0 s0 lv st σ hv0
  obtain ⟨a, i, r, rfl, ht, n, hk, hin, b, hb0, hv⟩ := kRI_e hv0
  have hlen : len = 1 := by simpa [ch1] using hc
  subst hlen
  intro p e s m args below meth c H locs ls hE h1 h2 hn0 hH hS hl
  obtain ⟨hx, hb, hr, hml, hlk, hnm, hown, hts, hKk, hO, hdf, hdl⟩ := id hE
  have key : ∀ C, (tyL X)[t + 4]? = some (cxT X (t + 4), .object C) → W p X.1 e R s m args below meth c H locs c0 s0 (MQ below (Qm X R.cells Q) args s R.cells R.slots (aA X)) (F0 m pc ls ((.int i :: .ref a :: r).map (tv X))) := by
    intro C hC
    refine va_aldq (C := C) hx hb hKk hH.1 a (t + 4) (hH.at hk).2 hC hin hd ?_
    rw [hb0]
    exact (hK _ _ _ _ _ hv p e s m args below meth c H locs ls hE h1 h2 hn0 hH hS hl)
  rcases (by omega : t = 0 ∨ t = 1 ∨ t = 2) with rfl | rfl | rfl
  · exact key RX2 rfl
  · exact key RX6 rfl
  · exact key RX8 rfl
theorem sd_alenS (hd : decode M.2.1 pc = .ok (.arraylength, len)) (hc : ch1 M pc (.arraylength, 1 :: h, ms) len = true) (hK : Sd X M R d Q (pc + len) K) : Sd X M R d Q pc (vi X R d Q J (.arraylength, 1 :: h, ms) K) := by
  intro c0 s0 lv st σ hv0
  obtain ⟨a, r, rfl, rfl, hv⟩ := kR_e hv0
  have hlen : len = 1 := by simpa [ch1] using hc
  subst hlen
  intro p e s m args below meth c H locs ls hE h1 h2 hn0 hH hS hl
  obtain ⟨hx, hb, hr, hml, hlk, hnm, hown, hts, hKk, hO, hdf, hdl⟩ := id hE
  have ea : adr X 2000000 = cxb X := by simp [adr]
  refine W.at (st' := .ref (cxb X) :: r.map (tv X)) (by rw [List.map_cons, tv_ref, ea]) ?_
  exact va_slen hx hb hO.2.2.2.1 (Nat.lt_of_lt_of_le hO.2.2.2.2.1 hO.2.2.2.2.2.2) (Nat.not_le.mpr hO.2.2.2.2.1) hS hd (hK _ _ _ _ _ hv p e s m args below meth c H locs ls hE h1 h2 hn0 hH hS hl)
theorem sd_alen {t : Nat} (hd : decode M.2.1 pc = .ok (.arraylength, len)) (hc : ch1 M pc (.arraylength, 0 :: t :: h, ms) len = true) (hK : Sd X M R d Q (pc + len) K) : Sd X M R d Q pc (vi X R d Q J (.arraylength, 0 :: t :: h, ms) K) := by
  intro c0 s0 lv st σ hv0
  obtain ⟨a, r, rfl, ht, n, hk, hv⟩ := kR_e hv0
  have hlen : len = 1 := by simpa [ch1] using hc
  subst hlen
  intro p e s m args below meth c H locs ls hE h1 h2 hn0 hH hS hl
  obtain ⟨hx, hb, hr, hml, hlk, hnm, hown, hts, hKk, hO, hdf, hdl⟩ := id hE
  rcases (by omega : t = 1 ∨ t = 2 ∨ t = 3 ∨ t = 4 ∨ t = 5 ∨ t = 6 ∨ t = 7) with rfl | rfl | rfl | rfl | rfl | rfl | rfl
  · exact va_alen hx hb hKk hH.1 a 0 (hH.at hk).2 rfl rfl hd (hK _ _ _ _ _ hv p e s m args below meth c H locs ls hE h1 h2 hn0 hH hS hl)
  · exact va_alen hx hb hKk hH.1 a 1 (hH.at hk).2 rfl rfl hd (hK _ _ _ _ _ hv p e s m args below meth c H locs ls hE h1 h2 hn0 hH hS hl)
  · exact va_alen hx hb hKk hH.1 a 2 (hH.at hk).2 rfl rfl hd (hK _ _ _ _ _ hv p e s m args below meth c H locs ls hE h1 h2 hn0 hH hS hl)
  · exact va_alen hx hb hKk hH.1 a 3 (hH.at hk).2 rfl rfl hd (hK _ _ _ _ _ hv p e s m args below meth c H locs ls hE h1 h2 hn0 hH hS hl)
  · exact va_alen hx hb hKk hH.1 a 4 (hH.at hk).2 rfl rfl hd (hK _ _ _ _ _ hv p e s m args below meth c H locs ls hE h1 h2 hn0 hH hS hl)
  · exact va_alen hx hb hKk hH.1 a 5 (hH.at hk).2 rfl rfl hd (hK _ _ _ _ _ hv p e s m args below meth c H locs ls hE h1 h2 hn0 hH hS hl)
  · exact va_alen hx hb hKk hH.1 a 6 (hH.at hk).2 rfl rfl hd (hK _ _ _ _ _ hv p e s m args below meth c H locs ls hE h1 h2 hn0 hH hS hl)
theorem gI_sI_row (σ : Mm) (a k : Nat) (x : Int32) : gI (sI σ a k x) a = upd (gI σ a) k x := by
  funext j
  by_cases hj : j = k <;> simp [gI, sI, upd, hj]
theorem gL_sL_row (σ : Mm) (a k : Nat) (x : Int64) : gL (sL σ a k x) a = vp_updL (gL σ a) k x := by
  funext j
  by_cases hj : j = k <;> simp [gL, sL, vp_updL, hj]
theorem gI_rI_row (σ : Mm) (a : Nat) (f : Nat → Int32) : gI (rI σ a f) a = f := by
  funext j
  simp [gI, rI]
theorem gL_rL_row (σ : Mm) (a : Nat) (f : Nat → Int64) : gL (rL σ a f) a = f := by
  funext j
  simp [gL, rL]
/-- a row's store: the world list of the changed memory -/
theorem wl_row {X : Cx} {σ σ' : Mm} {a : Nat} {q : Nat × Nat} {e : va_E} {H : Heap} (hH : Hp X σ H) (hk : kd σ a = some q) (hσ : σ'.1 = σ.1) (he : ce X σ' a q = e) (ho : ∀ b q, b ≠ a → ce X σ' b q = ce X σ b q) : (wl X σ).set a (adr X a, e) = wl X σ' := by
  rw [(hH.at hk).1]
  exact wl_set hσ (kd_lt hk) (by rw [hk]; exact he) ho
theorem sd_iastore (hd : decode M.2.1 pc = .ok (.iastore, len)) (hc : ch1 M pc (.iastore, h, ms) len = true) (hK : Sd X M R d Q (pc + len) K) : Sd X M R d Q pc (vi X R d Q J (.iastore, h, ms) K) := by
  intro c0 s0 lv st σ hv0
  obtain ⟨a, i, x, r, rfl, n, hk, hin, hv⟩ := kRII_e hv0
  have hlen : len = 1 := by simpa [ch1] using hc
  subst hlen
  intro p e s m args below meth c H locs ls hE h1 h2 hn0 hH hS hl
  obtain ⟨hx, hb, hr, hml, hlk, hnm, hown, hts, hKk, hO, hdf, hdl⟩ := id hE
  refine va_iast hx hb hKk hH.1 (wl_D X σ) hS a 0 (hH.at hk).2 rfl hin hd (fun H1 locs1 hP1 _ hS1 => ?_)
  have hH1 : Hp X (sI σ a i.toNatClampNeg x) H1 := ⟨by rw [← wl_row (σ' := sI σ a i.toNatClampNeg x) hH hk rfl rfl (fun b q hb => ce_sI hb q)]; show va_P X.2.1 vwCl ((wl X σ).set a (adr X a, .inl (_, n, .inl (gI (sI σ a i.toNatClampNeg x) a)))) H1; rw [gI_sI_row]; exact hP1, hH.2⟩
  exact hK _ _ _ _ _ hv p e s m args below meth c H1 locs1 ls hE h1 h2 hn0 hH1 hS1 hl
theorem sd_bastoreB (hd : decode M.2.1 pc = .ok (.bastore, len)) (hc : ch1 M pc (.bastore, 3 :: h, ms) len = true) (hK : Sd X M R d Q (pc + len) K) : Sd X M R d Q pc (vi X R d Q J (.bastore, 3 :: h, ms) K) := by
  intro c0 s0 lv st σ hv0
  obtain ⟨a, i, x, r, rfl, n, hk, hin, hv⟩ := kRII_e hv0
  have hlen : len = 1 := by simpa [ch1] using hc
  subst hlen
  intro p e s m args below meth c H locs ls hE h1 h2 hn0 hH hS hl
  obtain ⟨hx, hb, hr, hml, hlk, hnm, hown, hts, hKk, hO, hdf, hdl⟩ := id hE
  refine va_bast hx hb hKk hH.1 (wl_D X σ) hS a 2 (hH.at hk).2 rfl hin hd (fun H1 locs1 hP1 _ hS1 => ?_)
  have hH1 : Hp X (sI σ a i.toNatClampNeg x.toInt8.toInt32) H1 := ⟨by rw [← wl_row (σ' := sI σ a i.toNatClampNeg x.toInt8.toInt32) hH hk rfl rfl (fun b q hb => ce_sI hb q)]; show va_P X.2.1 vwCl ((wl X σ).set a (adr X a, .inl (_, n, .inl (gI (sI σ a i.toNatClampNeg x.toInt8.toInt32) a)))) H1; rw [gI_sI_row]; exact hP1, hH.2⟩
  exact hK _ _ _ _ _ hv p e s m args below meth c H1 locs1 ls hE h1 h2 hn0 hH1 hS1 hl
theorem sd_bastoreZ (hd : decode M.2.1 pc = .ok (.bastore, len)) (hc : ch1 M pc (.bastore, 4 :: h, ms) len = true) (hK : Sd X M R d Q (pc + len) K) : Sd X M R d Q pc (vi X R d Q J (.bastore, 4 :: h, ms) K) := by
  intro c0 s0 lv st σ hv0
  obtain ⟨a, i, x, r, rfl, n, hk, hin, hv⟩ := kRII_e hv0
  have hlen : len = 1 := by simpa [ch1] using hc
  subst hlen
  intro p e s m args below meth c H locs ls hE h1 h2 hn0 hH hS hl
  obtain ⟨hx, hb, hr, hml, hlk, hnm, hown, hts, hKk, hO, hdf, hdl⟩ := id hE
  refine va_zast hx hb hKk hH.1 (wl_D X σ) hS a 3 (hH.at hk).2 rfl hin hd (fun H1 locs1 hP1 _ hS1 => ?_)
  have hH1 : Hp X (sI σ a i.toNatClampNeg (x &&& 1)) H1 := ⟨by rw [← wl_row (σ' := sI σ a i.toNatClampNeg (x &&& 1)) hH hk rfl rfl (fun b q hb => ce_sI hb q)]; show va_P X.2.1 vwCl ((wl X σ).set a (adr X a, .inl (_, n, .inl (gI (sI σ a i.toNatClampNeg (x &&& 1)) a)))) H1; rw [gI_sI_row]; exact hP1, hH.2⟩
  exact hK _ _ _ _ _ hv p e s m args below meth c H1 locs1 ls hE h1 h2 hn0 hH1 hS1 hl
theorem sd_lastore (hd : decode M.2.1 pc = .ok (.lastore, len)) (hc : ch1 M pc (.lastore, h, ms) len = true) (hK : Sd X M R d Q (pc + len) K) : Sd X M R d Q pc (vi X R d Q J (.lastore, h, ms) K) := by
  intro c0 s0 lv st σ hv0
  obtain ⟨a, i, x, r, rfl, n, hk, hin, hv⟩ := kRIL_e hv0
  have hlen : len = 1 := by simpa [ch1] using hc
  subst hlen
  intro p e s m args below meth c H locs ls hE h1 h2 hn0 hH hS hl
  obtain ⟨hx, hb, hr, hml, hlk, hnm, hown, hts, hKk, hO, hdf, hdl⟩ := id hE
  refine va_last hx hb hKk hH.1 (wl_D X σ) hS a 1 (hH.at hk).2 rfl hin hd (fun H1 locs1 hP1 _ hS1 => ?_)
  have hH1 : Hp X (sL σ a i.toNatClampNeg x) H1 := ⟨by rw [← wl_row (σ' := sL σ a i.toNatClampNeg x) hH hk rfl rfl (fun b q hb => ce_sL hb q)]; show va_P X.2.1 vwCl ((wl X σ).set a (adr X a, .inl (_, n, .inr (.inl (gL (sL σ a i.toNatClampNeg x) a))))) H1; rw [gL_sL_row]; exact hP1, hH.2⟩
  exact hK _ _ _ _ _ hv p e s m args below meth c H1 locs1 ls hE h1 h2 hn0 hH1 hS1 hl
theorem sd_aastore {t : Nat} (hd : decode M.2.1 pc = .ok (.aastore, len)) (hc : ch1 M pc (.aastore, t :: h, ms) len = true) (hK : Sd X M R d Q (pc + len) K) : Sd X M R d Q pc (vi X R d Q J (.aastore, t :: h, ms) K) := by
  intro c0 s0 lv st σ hv0
  obtain ⟨a, i, x, r, rfl, ht, n, hk, hin, hkx, hv⟩ := kRIR_e hv0
  have hlen : len = 1 := by simpa [ch1] using hc
  subst hlen
  intro p e s m args below meth c H locs ls hE h1 h2 hn0 hH hS hl
  obtain ⟨hx, hb, hr, hml, hlk, hnm, hown, hts, hKk, hO, hdf, hdl⟩ := id hE
  have key : ∀ (ci : Nat) (q : vw_C), 2 * t + 2 + (if t = 0 then 0 else 2) = ci → vwCl[ci]? = some q → (tyL X)[t + 4]? = some (cxT X (t + 4), .object q.1) → W p X.1 e R s m args below meth c H locs c0 s0 (MQ below (Qm X R.cells Q) args s R.cells R.slots (aA X)) (F0 m pc ls ((.ref x :: .int i :: .ref a :: r).map (tv X))) := by
    intro ci q hci hq hC
    rw [hci] at hkx
    refine va_astq hx hb hKk hH.1 (wl_D X σ) hS a (t + 4) x ci (hH.at hk).2 hC (hH.at hkx).2 hq hin hd (fun H1 locs1 hP1 _ hS1 => ?_)
    have er : (fun j => (gR (sR σ a i.toNatClampNeg (some x)) a j).map (adr X)) = va_up (fun j => (gR σ a j).map (adr X)) i.toNatClampNeg (some (adr X x)) := by
      funext j
      by_cases hj : j = i.toNatClampNeg <;> simp [gR, sR, va_up, hj]
    have hH1 : Hp X (sR σ a i.toNatClampNeg (some x)) H1 := ⟨by rw [← wl_row (σ' := sR σ a i.toNatClampNeg (some x)) hH hk rfl rfl (fun b q hb => ce_sR hb q)]; show va_P X.2.1 vwCl ((wl X σ).set a (adr X a, .inl (_, n, .inr (.inr (.inr (.inr (fun j => (gR (sR σ a i.toNatClampNeg (some x)) a j).map (adr X)))))))) H1; rw [er]; exact hP1, hH.2⟩
    exact hK _ _ _ _ _ hv p e s m args below meth c H1 locs1 ls hE h1 h2 hn0 hH1 hS1 hl
  rcases (by omega : t = 0 ∨ t = 1 ∨ t = 2) with rfl | rfl | rfl
  · exact key 2 _ rfl rfl rfl
  · exact key 6 _ rfl rfl rfl
  · exact key 8 _ rfl rfl rfl
theorem sd_cpyI {x w1 w2 w3 w4 : Nat} (hd : decode M.2.1 pc = .ok (.invokestatic x, len)) (hc : ch1 M pc (.invokestatic x, 1 :: w1 :: w2 :: w3 :: w4 :: h, ms) len = true) (hK : Sd X M R d Q (pc + len) K) : Sd X M R d Q pc (vi X R d Q J (.invokestatic x, 1 :: w1 :: w2 :: w3 :: w4 :: h, ms) K) := by
  intro c0 s0 lv st σ hv0
  obtain ⟨a, sp, b, dp, n, r, rfl, rfl, hd0, na, nb, hka, hkb, ⟨q1, q2, q3, q4, q5⟩, hv⟩ := kCpy_e hv0
  simp only [ch1, Bool.and_eq_true, beq_iff_eq] at hc
  obtain ⟨⟨⟨⟨hlen, g1⟩, g2⟩, g3⟩, g4⟩ := hc
  subst hlen
  intro p e s m args below meth c H locs ls hE h1 h2 hn0 hH hS hl
  obtain ⟨hx, hb, hr, hml, hlk, hnm, hown, hts, hKk, hO, hdf, hdl⟩ := id hE
  have hloc : (([] : List Value).map fun v => v.category).sum + (nativeFrameWords "java/lang/System" "arraycopy" 5 + 11) ≤ R.locals := Nat.le_trans (show _ ≤ 64 by decide) (by omega)
  refine va_copyi hx hb (hml.trans hl.1.symm) hown (hts _ (inT_mem g1)) (hts _ (inT_mem g2)) (hts _ (inT_mem g3)) (hts _ (inT_mem g4)) hKk hH.1 (wl_D X σ) hS a b 0 0 (hH.at hka).2 (hH.at hkb).2 rfl rfl rfl q1 q2 q3 q4 q5 (fun _ _ => rfl) (by omega) hloc hd (fun H1 locs1 hP1 _ hS1 => ?_)
  have hH1 : Hp X (rI σ b (va_cpy (gI σ a) (gI σ b) sp.toNatClampNeg dp.toNatClampNeg n.toNatClampNeg)) H1 := ⟨by rw [← wl_row (σ' := rI σ b (va_cpy (gI σ a) (gI σ b) sp.toNatClampNeg dp.toNatClampNeg n.toNatClampNeg)) hH hkb rfl rfl (fun b q hb => ce_rI hb q)]; show va_P X.2.1 vwCl ((wl X σ).set b (adr X b, .inl (_, nb, .inl (gI (rI σ b (va_cpy (gI σ a) (gI σ b) sp.toNatClampNeg dp.toNatClampNeg n.toNatClampNeg)) b)))) H1; rw [gI_rI_row]; exact hP1, hH.2⟩
  exact hK _ _ _ _ _ hv p e s m args below meth c H1 locs1 ls hE h1 h2 hn0 hH1 hS1 hl
theorem sd_cpyL {x w1 w2 w3 w4 : Nat} (hd : decode M.2.1 pc = .ok (.invokestatic x, len)) (hc : ch1 M pc (.invokestatic x, 2 :: w1 :: w2 :: w3 :: w4 :: h, ms) len = true) (hK : Sd X M R d Q (pc + len) K) : Sd X M R d Q pc (vi X R d Q J (.invokestatic x, 2 :: w1 :: w2 :: w3 :: w4 :: h, ms) K) := by
  intro c0 s0 lv st σ hv0
  obtain ⟨a, sp, b, dp, n, r, rfl, rfl, hd0, na, nb, hka, hkb, ⟨q1, q2, q3, q4, q5⟩, hv⟩ := kCpy_e hv0
  simp only [ch1, Bool.and_eq_true, beq_iff_eq] at hc
  obtain ⟨⟨⟨⟨hlen, g1⟩, g2⟩, g3⟩, g4⟩ := hc
  subst hlen
  intro p e s m args below meth c H locs ls hE h1 h2 hn0 hH hS hl
  obtain ⟨hx, hb, hr, hml, hlk, hnm, hown, hts, hKk, hO, hdf, hdl⟩ := id hE
  have hloc : (([] : List Value).map fun v => v.category).sum + (nativeFrameWords "java/lang/System" "arraycopy" 5 + 11) ≤ R.locals := Nat.le_trans (show _ ≤ 64 by decide) (by omega)
  refine va_copyl hx hb (hml.trans hl.1.symm) hown (hts _ (inT_mem g1)) (hts _ (inT_mem g2)) (hts _ (inT_mem g3)) (hts _ (inT_mem g4)) hKk hH.1 (wl_D X σ) hS a b 1 1 (hH.at hka).2 (hH.at hkb).2 rfl rfl rfl q1 q2 q3 q4 q5 (fun _ _ => rfl) (by omega) hloc hd (fun H1 locs1 hP1 _ hS1 => ?_)
  have hH1 : Hp X (rL σ b (va_cpy (gL σ a) (gL σ b) sp.toNatClampNeg dp.toNatClampNeg n.toNatClampNeg)) H1 := ⟨by rw [← wl_row (σ' := rL σ b (va_cpy (gL σ a) (gL σ b) sp.toNatClampNeg dp.toNatClampNeg n.toNatClampNeg)) hH hkb rfl rfl (fun b q hb => ce_rL hb q)]; show va_P X.2.1 vwCl ((wl X σ).set b (adr X b, .inl (_, nb, .inr (.inl (gL (rL σ b (va_cpy (gL σ a) (gL σ b) sp.toNatClampNeg dp.toNatClampNeg n.toNatClampNeg)) b))))) H1; rw [gL_rL_row]; exact hP1, hH.2⟩
  exact hK _ _ _ _ _ hv p e s m args below meth c H1 locs1 ls hE h1 h2 hn0 hH1 hS1 hl
theorem sd_cpyB {x w1 w2 w3 w4 : Nat} (hd : decode M.2.1 pc = .ok (.invokestatic x, len)) (hc : ch1 M pc (.invokestatic x, 3 :: w1 :: w2 :: w3 :: w4 :: h, ms) len = true) (hK : Sd X M R d Q (pc + len) K) : Sd X M R d Q pc (vi X R d Q J (.invokestatic x, 3 :: w1 :: w2 :: w3 :: w4 :: h, ms) K) := by
  intro c0 s0 lv st σ hv0
  obtain ⟨a, sp, b, dp, n, r, rfl, rfl, hd0, na, nb, hka, hkb, ⟨q1, q2, q3, q4, q5⟩, hfit, hv⟩ := kCpy_e hv0
  simp only [ch1, Bool.and_eq_true, beq_iff_eq] at hc
  obtain ⟨⟨⟨⟨hlen, g1⟩, g2⟩, g3⟩, g4⟩ := hc
  subst hlen
  intro p e s m args below meth c H locs ls hE h1 h2 hn0 hH hS hl
  obtain ⟨hx, hb, hr, hml, hlk, hnm, hown, hts, hKk, hO, hdf, hdl⟩ := id hE
  have hloc : (([] : List Value).map fun v => v.category).sum + (nativeFrameWords "java/lang/System" "arraycopy" 5 + 11) ≤ R.locals := Nat.le_trans (show _ ≤ 64 by decide) (by omega)
  refine va_copyi hx hb (hml.trans hl.1.symm) hown (hts _ (inT_mem g1)) (hts _ (inT_mem g2)) (hts _ (inT_mem g3)) (hts _ (inT_mem g4)) hKk hH.1 (wl_D X σ) hS a b 2 2 (hH.at hka).2 (hH.at hkb).2 rfl rfl rfl q1 q2 q3 q4 q5 hfit (by omega) hloc hd (fun H1 locs1 hP1 _ hS1 => ?_)
  have hH1 : Hp X (rI σ b (va_cpy (gI σ a) (gI σ b) sp.toNatClampNeg dp.toNatClampNeg n.toNatClampNeg)) H1 := ⟨by rw [← wl_row (σ' := rI σ b (va_cpy (gI σ a) (gI σ b) sp.toNatClampNeg dp.toNatClampNeg n.toNatClampNeg)) hH hkb rfl rfl (fun b q hb => ce_rI hb q)]; show va_P X.2.1 vwCl ((wl X σ).set b (adr X b, .inl (_, nb, .inl (gI (rI σ b (va_cpy (gI σ a) (gI σ b) sp.toNatClampNeg dp.toNatClampNeg n.toNatClampNeg)) b)))) H1; rw [gI_rI_row]; exact hP1, hH.2⟩
  exact hK _ _ _ _ _ hv p e s m args below meth c H1 locs1 ls hE h1 h2 hn0 hH1 hS1 hl
theorem sd_mmin {x w1 w2 w3 w4 : Nat} (hd : decode M.2.1 pc = .ok (.invokestatic x, len)) (hc : ch1 M pc (.invokestatic x, 4 :: w1 :: w2 :: w3 :: w4 :: h, ms) len = true) (hK : Sd X M R d Q (pc + len) K) : Sd X M R d Q pc (vi X R d Q J (.invokestatic x, 4 :: w1 :: w2 :: w3 :: w4 :: h, ms) K) := by
  intro c0 s0 lv st σ hv0
  obtain ⟨a, b, r, rfl, hrl, hd0, hv⟩ := kII_e hv0
  simp only [ch1, Bool.and_eq_true, beq_iff_eq] at hc
  obtain ⟨⟨⟨⟨hlen, g1⟩, g2⟩, g3⟩, g4⟩ := hc
  subst hlen
  intro p e s m args below meth c H locs ls hE h1 h2 hn0 hH hS hl
  obtain ⟨hx, hb, hr, hml, hlk, hnm, hown, hts, hKk, hO, hdf, hdl⟩ := id hE
  have hroom : ((r.map (tv X)).map fun v => v.category).sum ≤ 2 * r.length := by
    clear hv hv0 hrl
    induction r with
    | nil => simp
    | cons v l ih =>
      have : v.category ≤ 2 := by cases v <;> simp [Value.category]
      simp only [List.map_cons, List.sum_cons, List.length_cons, tv_cat]
      omega
  exact va_mmin hx hb (hml.trans hl.1.symm) hown (hts _ (inT_mem g1)) (hts _ (inT_mem g2)) (hts _ (inT_mem g3)) (hts _ (inT_mem g4)) (by omega) (by omega) h1 h2 hd (hK _ _ _ _ _ hv p e s m args below meth c H locs ls hE h1 h2 hn0 hH hS hl)
theorem sd_mmax {x w1 w2 w3 w4 : Nat} (hd : decode M.2.1 pc = .ok (.invokestatic x, len)) (hc : ch1 M pc (.invokestatic x, 5 :: w1 :: w2 :: w3 :: w4 :: h, ms) len = true) (hK : Sd X M R d Q (pc + len) K) : Sd X M R d Q pc (vi X R d Q J (.invokestatic x, 5 :: w1 :: w2 :: w3 :: w4 :: h, ms) K) := by
  intro c0 s0 lv st σ hv0
  obtain ⟨a, b, r, rfl, hrl, hd0, hv⟩ := kII_e hv0
  simp only [ch1, Bool.and_eq_true, beq_iff_eq] at hc
  obtain ⟨⟨⟨⟨hlen, g1⟩, g2⟩, g3⟩, g4⟩ := hc
  subst hlen
  intro p e s m args below meth c H locs ls hE h1 h2 hn0 hH hS hl
  obtain ⟨hx, hb, hr, hml, hlk, hnm, hown, hts, hKk, hO, hdf, hdl⟩ := id hE
  have hroom : ((r.map (tv X)).map fun v => v.category).sum ≤ 2 * r.length := by
    clear hv hv0 hrl
    induction r with
    | nil => simp
    | cons v l ih =>
      have : v.category ≤ 2 := by cases v <;> simp [Value.category]
      simp only [List.map_cons, List.sum_cons, List.length_cons, tv_cat]
      omega
  exact va_mmax hx hb (hml.trans hl.1.symm) hown (hts _ (inT_mem g1)) (hts _ (inT_mem g2)) (hts _ (inT_mem g3)) (hts _ (inT_mem g4)) (by omega) (by omega) h1 h2 hd (hK _ _ _ _ _ hv p e s m args below meth c H locs ls hE h1 h2 hn0 hH hS hl)
end
