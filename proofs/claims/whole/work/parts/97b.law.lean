/-! the law: a call leaves the classes of the cells; its calls -/
set_option maxRecDepth 100000
theorem vwCl_inj : ∀ i, i < 11 → ∀ j, j < 11 → ((vwCl[i]?).map (·.1) = (vwCl[j]?).map (·.1)) → i = j := by decide +kernel
theorem vwCl_len : vwCl.length = 11 := by decide +kernel
theorem fc_inj {U : State} {C C' : String} {c : ClassId} (h : U.vm.findClass C = some c) (h' : U.vm.findClass C' = some c) : C = C' := by
  unfold Vm.findClass at h h'
  rw [Array.findIdx?_eq_some_iff_getElem] at h h'
  obtain ⟨h1, h2, -⟩ := h
  obtain ⟨h1', h2', -⟩ := h'
  simp only [Bool.and_eq_true, beq_iff_eq] at h2 h2'
  exact h2.1.1.1.symm.trans h2'.1.1.1
theorem Call.kind {X : Cx} {d : Nat} {M : MI} {av : List Value} {σ : Mm} {Q : Po} {a ci : Nat} (hT : ∀ k, cxT X (k + 7) = cxT X 0) (h : Call X d 0 0 M av σ Q) (hk : kd σ a = some (0, ci)) (hci : ci < 11) : Call X d 0 0 M av σ (fun r σ' => Q r σ' ∧ kd σ' a = some (0, ci)) := by
  intro p e ha hc hkk s m args below hf happ hP _
  obtain ⟨t, o, a1, b1, b2, ⟨⟨⟨r, σ', e1, e2, e3, e4⟩, b4⟩, L, b5, b6⟩⟩ := h p e ha hc hkk s m args below hf happ hP trivial
  obtain ⟨-, p1, p2, p3, -⟩ := hP
  have hlt := kd_lt hk
  have hlen : σ'.1.length = σ.1.length := by omega
  obtain ⟨w, hw, cell, g1, g2, -⟩ := p1.1 _ _ (wl_at (X := X) hk)
  obtain ⟨cell', g1', g2', -⟩ := b5.2.2.2.2.2.2.2 _ _ g1
  have hcls : cell'.cls = X.2.1.1 ci := by rw [g2']; exact g2
  obtain ⟨q, hq⟩ : ∃ q, kd σ' a = some q := ⟨_, List.getElem?_eq_getElem (by omega)⟩
  have hat := e3.1 _ _ (wl_at (X := X) hq)
  have hCl := (p3.1 ci w hw).2
  refine ⟨t, o, a1, b1, b2, ⟨⟨⟨r, σ', e1, ⟨e2, ?_⟩, e3, e4⟩, b4⟩, L, b5, b6⟩⟩
  have arr : ∀ k x, k < 7 → (stepsAlone p.tables e t s).heap[cxB X + a]? = some (vp_cell (cxT X k) x) → False := by
    intro k x hk7 hx
    obtain ⟨ty, hty⟩ : ∃ ty, (tyL X)[k]? = some (cxT X k, ty) := by
      rcases (by omega : k = 0 ∨ k = 1 ∨ k = 2 ∨ k = 3 ∨ k = 4 ∨ k = 5 ∨ k = 6) with rfl | rfl | rfl | rfl | rfl | rfl | rfl <;> exact ⟨_, rfl⟩
    obtain ⟨-, kk, k1, comp, k2⟩ := (p3.2 k _ hty).1 0 (fun _ => .null)
    have e : cell' = vp_cell (cxT X k) x := Option.some.inj (g1'.symm.trans hx)
    have ec : cell'.cls = cxT X k := by
      rw [e]
      obtain ⟨n, f⟩ := x
      rcases f with f | f | f | f | f <;> rfl
    obtain ⟨-, kC, c1, c2⟩ := hCl
    have k1' : s.vm.classes[cxT X k]? = some kk := k1
    rw [← ec, hcls, c1] at k1'
    cases Option.some.inj k1'
    rw [c2] at k2
    cases k2
  obtain ⟨t', n⟩ := q
  match t', hq, hat with
  | 0, hq, hat =>
    obtain ⟨w', hw', cell2, f1, f2, -⟩ := hat
    have e : cell' = cell2 := Option.some.inj (g1'.symm.trans f1)
    have hn : n < 11 := by
      have := (List.getElem?_eq_some_iff.mp hw').1
      rw [vwCl_len] at this
      exact this
    have c1 := hCl.1
    have c2 := (p3.1 n w' hw').2.1
    rw [← f2, ← e, hcls] at c2
    have := vwCl_inj ci hci n hn (by rw [hw, hw']; exact congrArg some (fc_inj c1 c2))
    rw [hq, this]
  | 1, hq, hat => exact (arr 0 _ (by omega) hat).elim
  | 2, hq, hat => exact (arr 1 _ (by omega) hat).elim
  | 3, hq, hat => exact (arr 2 _ (by omega) hat).elim
  | 4, hq, hat => exact (arr 3 _ (by omega) hat).elim
  | 5, hq, hat => exact (arr 4 _ (by omega) hat).elim
  | 6, hq, hat => exact (arr 5 _ (by omega) hat).elim
  | 7, hq, hat => exact (arr 6 _ (by omega) hat).elim
  | k + 8, hq, hat =>
    have hx : ∃ x : vp_A, (stepsAlone p.tables e t s).heap[cxB X + a]? = some (vp_cell (cxT X (k + 7)) x) := ⟨_, hat⟩
    obtain ⟨x, hx⟩ := hx
    rw [hT k] at hx
    exact (arr 0 x (by omega) hx).elim
theorem law_fin {X : Cx} {D t : Nat} {σ : Mm} {M9 M10 : MI} {av9 av10 : List Value} {P : List Value → Mm → Prop} {Z : List Value → Mm → Prop} (hT : ∀ k, cxT X (k + 7) = cxT X 0) (hs : Sh σ) (h : Call X D 0 0 M9 av9 σ (Eq2 (t + 1) X D M10 av10)) (hQ : ∀ σ', Inv (t + 1) σ' → P [] σ') : Call X D 0 0 M9 av9 σ (fun v σ' => (v.toList ++ []).length ≤ 4 ∧ kd σ' 190 = some (0, 10) ∧ Call X D 0 0 M10 av10 σ' (fun v1 σ' => kII (v1.toList ++ (v.toList ++ [])) (fun a b r => (a = b → P r σ') ∧ (¬ a = b → Z r σ')))) := by
  have k1 : kd σ 190 = some (0, 10) := by simp only [kdx hs]
  refine (Call.kind hT h k1 (by omega)).mono (fun r σ1 q => ⟨by cases r <;> simp, q.2, Call.mono q.1 (fun r' σ2 q2 => ?_)⟩)
  obtain ⟨⟨z, rfl, rfl⟩, h2⟩ := q2
  exact ⟨fun _ => hQ _ h2, fun e => absurd rfl e⟩
