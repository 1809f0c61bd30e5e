section
variable {p : Program} {l : Launch} {e : Env} {s : State} {m : MethodId} {args : Array Value} {below : List Frame} {meth : Method} {c : Code} {H : Heap} {locs : List Loc} {c0 s0 : Nat} {QQ : State → Prop} {g : JFrame}
variable {X : Cx} {M : MI} {R : Room} {d : Nat} {Q : Po} {J : Nat → Ct} {pc len : Nat} {K : Ct} {h : List Nat} {ms : List MI} {σ : Mm}
theorem W.fresh {q : Nat} {e1 : va_E} {H1 : Heap} (hP : va_P X.2.1 vwCl (wl X σ ++ [(q, e1)]) H1) (hD : va_D (aA X) (wl X σ ++ [(q, e1)])) (hn : s.heap.size + c0 = cxB X + σ.1.length) (k : q = cxB X + σ.1.length → W p l e R s m args below meth c H1 locs (c0 + 1) s0 QQ g) : W p l e R s m args below meth c H1 locs (c0 + 1) s0 QQ g := by
  intro T hT X'
  have h1 : T.heap.size ≤ s.heap.size + (c0 + 1) := X'.heapSize
  have hq : (wl X σ ++ [(q, e1)])[σ.1.length]? = some (q, e1) := by
    rw [List.getElem?_append_right (by rw [wl_len]; exact Nat.le_refl _), wl_len, Nat.sub_self]
    rfl
  have h2 : q < H1.size := (hP _ _ hq).lt
  have h3 : cxB X ≤ q := hD.2 _ _ hq
  rw [hT] at h1
  refine k ?_ T hT X'
  rcases Nat.lt_or_ge q (cxB X + σ.1.length) with hlt | hge
  · exfalso
    have hk : kd σ (q - cxB X) = some (σ.1[q - cxB X]'(by omega)) := List.getElem?_eq_getElem _
    have hw := wl_at (X := X) hk
    have hw2 : (wl X σ ++ [(q, e1)])[q - cxB X]? = some (cxB X + (q - cxB X), ce X σ (q - cxB X) (σ.1[q - cxB X]'(by omega))) := by
      rw [List.getElem?_append_left (by rw [wl_len]; omega)]
      exact hw
    have := hD.1 _ _ _ _ hq hw2 (by show q = cxB X + (q - cxB X); omega)
    omega
  · omega
theorem kd_nw_old {σ : Mm} {q : Nat × Nat} {a : Nat} (ha : a < σ.1.length) : kd (nw σ q) a = kd σ a := by
  simp [kd, nw, List.getElem?_append_left ha]
theorem kd_nw_new {σ : Mm} {q : Nat × Nat} : kd (nw σ q) σ.1.length = some q := by
  simp [kd, nw]
theorem wl_nw (X : Cx) (σ : Mm) (q : Nat × Nat) : wl X (nw σ q) = wl X σ ++ [(cxB X + σ.1.length, ce X (nw σ q) σ.1.length q)] := by
  have hl : (nw σ q).1.length = σ.1.length + 1 := by simp [nw]
  unfold wl
  rw [hl, List.range_succ, List.map_append]
  congr 1
  · refine List.map_congr_left (fun a ha => ?_)
    have ha' : a < σ.1.length := List.mem_range.mp ha
    rw [kd_nw_old ha']
    congr 1
    exact ce_off (σ' := nw σ q) (σ := σ) (fun j => by simp [gI, nw, Nat.ne_of_lt ha']) (fun j => by simp [gL, nw, Nat.ne_of_lt ha']) (fun j => by simp [gR, nw, Nat.ne_of_lt ha']) _
  · simp [kd_nw_new]
def okTy (ty : FieldType) : Bool := isR ty || decide (ty = .long) || decide (ty = .int) || decide (ty = .boolean)
theorem okTy_all : ∀ ci, ci < 11 → ∀ j, j < nF ci → okTy (clTy ci j) = true := by decide +kernel
theorem fv_def {X : Cx} {σ : Mm} {q : Nat × Nat} {ty : FieldType} (hty : okTy ty = true) (j : Nat) : defaultValue ty = fv X (nw σ q) σ.1.length ty j := by
  have e1 : gI (nw σ q) σ.1.length j = 0 := by simp [gI, nw]
  have e2 : gL (nw σ q) σ.1.length j = 0 := by simp [gL, nw]
  have e3 : gR (nw σ q) σ.1.length j = none := by simp [gR, nw]
  cases ty <;> simp [okTy, isR] at hty <;> simp [fv, isR, e1, e2, e3, defaultValue, va_rf]
theorem sd_new {x ci w1 w2 w3 : Nat} (hd : decode M.2.1 pc = .ok (.new x, len)) (hc : ch1 M pc (.new x, ci :: w1 :: w2 :: w3 :: h, ms) len = true) (hK : Sd X M R d Q (pc + len) K) : Sd X M R d Q pc (vi X R d Q J (.new x, ci :: w1 :: w2 :: w3 :: h, ms) K) := by
  intro c0 s0 lv st σ hv0
  obtain ⟨hr1, hr2, hr3, hv⟩ := hv0
  simp only [ch1, Bool.and_eq_true, beq_iff_eq, decide_eq_true_eq] at hc
  obtain ⟨⟨⟨⟨hlen, hci⟩, g1⟩, g2⟩, g3⟩ := hc
  subst hlen
  intro p e s m args below meth c H locs ls hE h1 h2 hn0 hH hS hl
  obtain ⟨hx, hb, hr, hml, hlk, hnm, hown, hts, hKk, hO, hdf, hdl⟩ := id hE
  obtain ⟨o1, o2, o3, o4⟩ := cl_ok ci hci
  have hA : ∀ q, s.heap.size ≤ q → aA X q := fun q hq => Nat.le_trans hO.2.2.2.2.2.2 hq
  refine va_new (c0 := c) (fs := fl X (nw σ (0, ci)) σ.1.length ci) hx hb hts o2 (clTy ci) o3 hown (hts _ (inT_mem g1)) (hts _ (inT_mem g2)) (hts _ (inT_mem g3)) hKk hH.1 (wl_D X σ) hS hA o1 (fun j hj => ?_) hr1 hr2 hd (fun q H1 hP1 hD1 hS1 => ?_)
  · unfold vp_V
    rw [List.getD_eq_getElem?_getD, fl_at hj]
    exact fv_def (okTy_all ci hci j hj) j
  · refine W.fresh (σ := σ) hP1 hD1 hn0 (fun hq => ?_)
    subst hq
    have hl1 : (nw σ (0, ci)).1.length = σ.1.length + 1 := by simp [nw]
    have hH1 : Hp X (nw σ (0, ci)) H1 := ⟨by rw [wl_nw]; exact hP1, by rw [hl1]; exact hr3⟩
    have := hK _ _ _ _ _ hv p e s m args below meth c H1 locs ls hE hr1 hr2 (by rw [hl1]; omega) hH1 hS1 hl
    rw [List.map_cons, tv_ref, adr_lt (by omega)] at this
    exact this
theorem vp_cell_t {X : Cx} {σ : Mm} {t n : Nat} (h0 : 0 < t) (h5 : t < 5) : ∃ a0 : vp_A, (∀ cA : ClassId, vp_cell cA (n, a0.2) = arrV cA n (fun _ => defaultValue (aTy t))) ∧ ce X (nw σ (t, n)) σ.1.length (t, n) = .inl (cxT X (t - 1), n, a0.2) := by
  have e1 : gI (nw σ (t, n)) σ.1.length = fun _ => 0 := by funext j; simp [gI, nw]
  have e2 : gL (nw σ (t, n)) σ.1.length = fun _ => 0 := by funext j; simp [gL, nw]
  rcases (by omega : t = 1 ∨ t = 2 ∨ t = 3 ∨ t = 4) with rfl | rfl | rfl | rfl
  · exact ⟨(n, .inl (fun _ => 0)), fun _ => rfl, by simp [ce, e1]⟩
  · exact ⟨(n, .inr (.inl (fun _ => 0))), fun _ => rfl, by simp [ce, e2]⟩
  · exact ⟨(n, .inl (fun _ => 0)), fun _ => rfl, by simp [ce, e1]⟩
  · exact ⟨(n, .inl (fun _ => 0)), fun _ => rfl, by simp [ce, e1]⟩
theorem va_RA_inj {U : State} {c1 c2 : ClassId} {ty : FieldType} (h1 : va_RA U c1 ty) (h2 : va_RA U c2 ty) : c1 = c2 := by
  cases ty with
  | object C =>
    obtain ⟨_, _, _, _, _, a⟩ := h1
    obtain ⟨_, _, _, _, _, b⟩ := h2
    exact Option.some.inj (a.symm.trans b)
  | _ =>
    have a : U.vm.findClass _ = some c1 := h1
    have b : U.vm.findClass _ = some c2 := h2
    exact Option.some.inj (a.symm.trans b)
theorem tyL_at {X : Cx} {t : Nat} (h0 : 0 < t) (h8 : t < 8) : (tyL X)[t - 1]? = some (cxT X (t - 1), aTy t) := by
  rcases (by omega : t = 1 ∨ t = 2 ∨ t = 3 ∨ t = 4 ∨ t = 5 ∨ t = 6 ∨ t = 7) with rfl | rfl | rfl | rfl | rfl | rfl | rfl <;> rfl
theorem sd_newarray {ty : ArrayType} {t w : Nat} (hd : decode M.2.1 pc = .ok (.newarray ty, len)) (hc : ch1 M pc (.newarray ty, t :: w :: h, ms) len = true) (hK : Sd X M R d Q (pc + len) K) : Sd X M R d Q pc (vi X R d Q J (.newarray ty, t :: w :: h, ms) K) := by
  intro c0 s0 lv st σ hv0
  obtain ⟨n, r, rfl, hn, hn2, hr1, hr2, hr3, hv⟩ := kI_e hv0
  simp only [ch1, Bool.and_eq_true, beq_iff_eq, decide_eq_true_eq] at hc
  obtain ⟨⟨⟨⟨hlen, ht0⟩, ht5⟩, hty⟩, g1⟩ := hc
  subst hlen
  intro p e s m args below meth c H locs ls hE h1 h2 hn0 hH hS hl
  obtain ⟨hx, hb, hr, hml, hlk, hnm, hown, hts, hKk, hO, hdf, hdl⟩ := id hE
  have hA : ∀ q, s.heap.size ≤ q → aA X q := fun q hq => Nat.le_trans hO.2.2.2.2.2.2 hq
  obtain ⟨a0, ha0, hce⟩ := vp_cell_t (X := X) (σ := σ) (n := n.toNatClampNeg) ht0 ht5
  have hby : n.toNatClampNeg * componentBytes (aTy t) ≤ 536870912 := by
    have : componentBytes (aTy t) ≤ 8 := by rcases (by omega : t = 1 ∨ t = 2 ∨ t = 3 ∨ t = 4) with rfl | rfl | rfl | rfl <;> decide
    calc n.toNatClampNeg * componentBytes (aTy t) ≤ 100000 * 8 := Nat.mul_le_mul hn2 this
      _ ≤ 536870912 := by decide
  refine va_newa (a0 := (n.toNatClampNeg, a0.2)) hx hb (by rw [hty]; exact hts _ (inT_mem g1)) hty hKk hH.1 (wl_D X σ) hS hA ha0 hn rfl hby hr1 hr2 hd (fun q cA H1 hK1 hP1 hD1 hS1 => ?_)
  have hcA : cA = cxT X (t - 1) := by
    have e1 := (hK1.2 (tyL X).length (cA, aTy t) (by rw [List.getElem?_append_right (Nat.le_refl _), Nat.sub_self]; rfl)).2
    exact va_RA_inj e1 (hKk.2 (t - 1) _ (tyL_at ht0 (by omega))).2
  subst hcA
  refine W.fresh (σ := σ) hP1 hD1 hn0 (fun hq => ?_)
  subst hq
  have hl1 : (nw σ (t, n.toNatClampNeg)).1.length = σ.1.length + 1 := by simp [nw]
  have hH1 : Hp X (nw σ (t, n.toNatClampNeg)) H1 := ⟨by rw [wl_nw, hce]; exact hP1, by rw [hl1]; exact hr3⟩
  have := hK _ _ _ _ _ hv p e s m args below meth c H1 locs ls hE hr1 hr2 (by rw [hl1]; omega) hH1 hS1 hl
  rw [List.map_cons, tv_ref, adr_lt (by omega)] at this
  exact this
theorem sd_anewarray {x t ci w1 w2 : Nat} (hd : decode M.2.1 pc = .ok (.anewarray x, len)) (hc : ch1 M pc (.anewarray x, t :: ci :: w1 :: w2 :: h, ms) len = true) (hK : Sd X M R d Q (pc + len) K) : Sd X M R d Q pc (vi X R d Q J (.anewarray x, t :: ci :: w1 :: w2 :: h, ms) K) := by
  intro c0 s0 lv st σ hv0
  obtain ⟨n, r, rfl, hn, hn2, hr1, hr2, hr3, hv⟩ := kI_e hv0
  simp only [ch1, Bool.and_eq_true, beq_iff_eq, decide_eq_true_eq] at hc
  obtain ⟨⟨⟨⟨⟨hlen, ht0⟩, ht5⟩, hty⟩, g1⟩, -⟩ := hc
  subst hlen
  intro p e s m args below meth c H locs ls hE h1 h2 hn0 hH hS hl
  obtain ⟨hx, hb, hr, hml, hlk, hnm, hown, hts, hKk, hO, hdf, hdl⟩ := id hE
  have hA : ∀ q, s.heap.size ≤ q → aA X q := fun q hq => Nat.le_trans hO.2.2.2.2.2.2 hq
  have hao : va_AO (clNm ci) s := by
    obtain ⟨-, a1, a2, a3⟩ := hO.2.2.2.2.2.1
    rcases (by omega : t = 5 ∨ t = 6 ∨ t = 7) with rfl | rfl | rfl
    · rw [← (FieldType.object.inj hty : RX2 = clNm ci)]; exact a1
    · rw [← (FieldType.object.inj hty : RX6 = clNm ci)]; exact a2
    · rw [← (FieldType.object.inj hty : RX8 = clNm ci)]; exact a3
  refine va_newq hx hb hown (hts _ (inT_mem g1)) hao hKk hH.1 (wl_D X σ) hS hA hn rfl (by omega) hr1 hr2 hd (fun q cA H1 hK1 hP1 hD1 hS1 => ?_)
  have hcA : cA = cxT X (t - 1) := by
    have e1 := (hK1.2 (tyL X).length (cA, .object (clNm ci)) (by rw [List.getElem?_append_right (Nat.le_refl _), Nat.sub_self]; rfl)).2
    have e2 := (hKk.2 (t - 1) _ (tyL_at (by omega) (by omega))).2
    simp only [hty] at e2
    exact va_RA_inj e1 e2
  subst hcA
  refine W.fresh (σ := σ) hP1 hD1 hn0 (fun hq => ?_)
  subst hq
  have hl1 : (nw σ (t, n.toNatClampNeg)).1.length = σ.1.length + 1 := by simp [nw]
  have hce : ce X (nw σ (t, n.toNatClampNeg)) σ.1.length (t, n.toNatClampNeg) = .inl (cxT X (t - 1), n.toNatClampNeg, .inr (.inr (.inr (.inr (fun _ => none))))) := by
    have e3 : ∀ j, gR (nw σ (t, n.toNatClampNeg)) σ.1.length j = none := fun j => by simp [gR, nw]
    rcases (by omega : t = 5 ∨ t = 6 ∨ t = 7) with rfl | rfl | rfl <;> simp [ce, e3]
  have hH1 : Hp X (nw σ (t, n.toNatClampNeg)) H1 := ⟨by rw [wl_nw, hce]; exact hP1, by rw [hl1]; exact hr3⟩
  have := hK _ _ _ _ _ hv p e s m args below meth c H1 locs ls hE hr1 hr2 (by rw [hl1]; omega) hH1 hS1 hl
  rw [List.map_cons, tv_ref, adr_lt (by omega)] at this
  exact this
end
