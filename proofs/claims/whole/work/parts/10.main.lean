section
variable {p : Program} {l : Launch} {e : Env} {s : State} {m : MethodId} {args : Array Value} {below : List Frame} {meth : Method} {c : Code} {H : Heap} {locs : List Loc} {c0 s0 : Nat} {QQ : State → Prop} {g : JFrame}
variable {X : Cx} {M : MI} {R : Room} {d : Nat} {Q : Po} {J : Nat → Ct} {pc len : Nat} {K : Ct} {h : List Nat} {ms : List MI} {σ : Mm}
theorem run_W {Q' : Po} {mc mS : Nat} {a : Array Value} {st0 rest : List Value} {ls : Array Slot} {lv : Lv} (hr : va_Run p X.1 e R s m args below meth c H locs c0 s0 mc mS (F0 m pc ls st0) (rest.map (tv X)) (Qm X mc Q' a) (aA X)) (hE : En X M R d p s m args meth c) (h1 : c0 + mc ≤ R.cells) (h2 : s0 + mS ≤ R.slots) (hn0 : s.heap.size + c0 = cxB X + σ.1.length) (hz0 : H.size = cxB X + σ.1.length) (hS : va_S (aA X) s.heap H locs) (hl : lh X ls M.2.2.1 lv)
    (hq : ∀ r σ', Q' r σ' → Wp X M R d Q (c0 + mc) (s0 + mS) (pc + 3) lv (r.toList ++ rest) σ') : W p X.1 e R s m args below meth c H locs c0 s0 (MQ below (Qm X R.cells Q) args s R.cells R.slots (aA X)) (F0 m pc ls st0) := by
  intro T hT X'
  obtain ⟨v, st₀, t, T', L, h0, X2, hL, e1, e2, ⟨⟨r, σ', hv, hp, hh, hsz⟩, hz, hk⟩, st⟩ := hr T hT X'
  have hv' : v = r.map (tv X) := by injection hv
  subst hv'
  rw [h0] at hsz hz hk
  have hS' : va_S (aA X) s.heap T'.heap (locs ++ L) := ⟨Nat.le_trans hS.1 (by rw [e1]; exact hz), fun q g1 g2 => by rw [e1, hk q (Nat.lt_of_lt_of_le g1 hS.1) g2]; exact hS.2.1 q g1 g2, fun q hq' => by
      rcases List.mem_append.mp hq' with h | h
      · exact hS.2.2 q h
      · exact hL q h⟩
  obtain ⟨t2, a1, b1⟩ := hq r σ' hp p e s m args below meth c T'.heap (locs ++ L) ls hE h1 h2 (by omega) (by rw [e1]; exact hh) hS' hl T' rfl X2
  have est : (r.map (tv X)).toList ++ rest.map (tv X) = (r.toList ++ rest).map (tv X) := by cases r <;> simp
  refine ⟨t2, st t2 ?_, b1⟩
  rw [est]
  exact a1
theorem pre_ok {av : List Value} (hE : En X M R d p s m args meth c) (hH : Hp X σ H) (hz0 : H.size = cxB X + σ.1.length) (hS : va_S (aA X) s.heap H locs) : ∀ U : State, U.heap = H → s.WarmedH U.vm → Pm X av σ (av.map (tv X)).toArray U := by
  obtain ⟨hx, hb, hr, hml, hlk, hnm, hown, hts, hKk, hO, hdf, hdl⟩ := id hE
  intro U hU hW
  refine ⟨rfl, by rw [hU]; exact hH, by rw [hU]; exact hz0, va_K.moved hW.alike hKk, hO.move hW (fun q hq => ?_) ?_⟩
  · rw [hU]
    exact hS.2.1 q (Nat.lt_of_lt_of_le hq hO.2.2.2.2.2.2) (Nat.not_le.mpr hq)
  · rw [hU]
    exact Nat.le_trans hO.2.2.2.2.2.2 hS.1
theorem okN_e {N : MI} {n k : Nat} (h : okN N n k = true) : mWd N ∈ Tg ∧ (N.1.cls ≠ "java/lang/invoke/MethodHandle" ∧ N.1.cls ≠ "java/lang/invoke/VarHandle" ∧ (parseMethodDescriptor N.1.desc).map (fun d => d.parameters.length) = some n) ∧ N.2.2.1 ≤ 45 := by
  simp only [okN, Bool.and_eq_true, decide_eq_true_eq] at h
  obtain ⟨⟨⟨⟨a, b⟩, c⟩, e⟩, f⟩ := h
  exact ⟨inT_mem a, ⟨b, c, e⟩, f⟩
theorem ws_in {N : MI} (h : mWd N ∈ Tg) : ∀ w ∈ (.code N.1 N.2.1 N.2.2.1 N.2.2.2 :: Tg : List Cond), w ∈ Tg := fun w hw => (List.mem_cons.mp hw).elim (fun e => e ▸ h) id
theorem stk_room {r : List Value} {pc : Nat} {ls : Array Slot} {st : List Value} (h : r.length ≤ 4) : 2 * (F0 m pc ls st).monitorRoom + ((r.map (tv X)).map fun v => v.category).sum ≤ 8 := by
  refine lv_room ?_
  have key : ∀ (l : List Value), ((l.map (tv X)).map fun v => v.category).sum ≤ 2 * l.length := by
    intro l
    induction l with
    | nil => simp
    | cons v l ih =>
      have : v.category ≤ 2 := by cases v <;> simp [Value.category]
      simp only [List.map_cons, List.sum_cons, List.length_cons, tv_cat]
      omega
  have := key r
  omega
theorem sd_static {x n mc mS w0 w1 w2 w3 : Nat} {N : MI} (hd : decode M.2.1 pc = .ok (.invokestatic x, len)) (hc : ch1 M pc (.invokestatic x, 0 :: n :: mc :: mS :: w0 :: w1 :: w2 :: w3 :: h, N :: ms) len = true) (hK : Sd X M R d Q (pc + len) K) : Sd X M R d Q pc (vi X R d Q J (.invokestatic x, 0 :: n :: mc :: mS :: w0 :: w1 :: w2 :: w3 :: h, N :: ms) K) := by
  intro c0 s0 lv st σ hv0
  obtain ⟨as, r, hasl, rfl, hrl, hr1, hr2, hv⟩ := kArg_e _ _ _ _ hv0
  cases d with
  | zero => exact hv.elim
  | succ d =>
    simp only [ch1, Bool.and_eq_true, beq_iff_eq, decide_eq_true_eq] at hc
    obtain ⟨⟨⟨⟨hlen, hok⟩, g1⟩, g2⟩, g3⟩ := hc
    subst hlen
    obtain ⟨k1, k2, k3⟩ := okN_e hok
    intro p e s m args below meth c H locs ls hE h1 h2 hn0 hH hS hl
    obtain ⟨hx, hb, hr, hml, hlk, hnm, hown, hts, hKk, hO, hdf, hdl⟩ := id hE
    refine W.size hO.2.2.2.2.2.2 hH hn0 hS (fun hz0 => ?_)
    rw [List.append_nil] at hv
    have hT : GoodIn Tg (va_wsS M.1.cls x N.1 (.code N.1 N.2.1 N.2.2.1 N.2.2.2 :: Tg)) := Tg_good (fun w hw => by
      rcases List.mem_append.mp hw with hw | hw
      · rcases List.mem_cons.mp hw with rfl | hw
        · exact inT_mem g1
        · rcases List.mem_cons.mp hw with rfl | hw
          · exact inT_mem g2
          · rcases List.mem_cons.mp hw with rfl | hw
            · exact inT_mem g3
            · cases hw
      · exact ws_in k1 w hw)
    have run := va_runS (rest := r.map (tv X)) (g := F0 m pc ls ((as.reverse ++ r).map (tv X))) (As := as.map (tv X)) ⟨hx, hb, hml, hown, hts⟩ hv (va_cwS n hts hT rfl rfl rfl k2 ⟨hdf, by show 8 + (N.2.2.1 + 11) + 64 * d ≤ R.locals; omega⟩) ⟨Pm.blind X as σ, pre_ok hE hH hz0 hS⟩ rfl (by simpa using hasl) hl.1 (by simp) (stk_room hrl) hd ⟨hr1, hr2⟩ (locs := locs) (e := e) (below := below) (meth := meth) (cells := c0) (slots := s0)
    exact run_W run hE hr1 hr2 hn0 hz0 hS hl (fun r' σ' q => hK _ _ _ _ _ q)
theorem sd_special {x n mc mS w0 w1 w2 w3 : Nat} {N : MI} (hd : decode M.2.1 pc = .ok (.invokespecial x, len)) (hc : ch1 M pc (.invokespecial x, 0 :: n :: mc :: mS :: w0 :: w1 :: w2 :: w3 :: h, N :: ms) len = true) (hK : Sd X M R d Q (pc + len) K) : Sd X M R d Q pc (vi X R d Q J (.invokespecial x, 0 :: n :: mc :: mS :: w0 :: w1 :: w2 :: w3 :: h, N :: ms) K) := by
  intro c0 s0 lv st σ hv0
  obtain ⟨as, r0, hasl, rfl, hv⟩ := kArg_e _ _ _ _ hv0
  obtain ⟨b, r, rfl, hrl, hr1, hr2, hv⟩ := kR_e hv
  cases d with
  | zero => exact hv.elim
  | succ d =>
    simp only [ch1, Bool.and_eq_true, beq_iff_eq, decide_eq_true_eq] at hc
    obtain ⟨⟨⟨⟨⟨⟨hlen, hok⟩, hin⟩, hret⟩, g1⟩, g2⟩, g3⟩ := hc
    subst hlen
    obtain ⟨k1, k2, k3⟩ := okN_e hok
    intro p e s m args below meth c H locs ls hE h1 h2 hn0 hH hS hl
    obtain ⟨hx, hb, hr, hml, hlk, hnm, hown, hts, hKk, hO, hdf, hdl⟩ := id hE
    refine W.size hO.2.2.2.2.2.2 hH hn0 hS (fun hz0 => ?_)
    rw [List.append_nil] at hv
    have hv : Met X.1 N.1 (.code N.1 N.2.1 N.2.2.1 N.2.2.2 :: Tg) (rmo d mc mS) (Pm X (.ref b :: as) σ) _ mc mS (aA X) := hv
    rw [hret] at hv
    have hG : GoodIn Tg (.code N.1 N.2.1 N.2.2.1 none :: Tg) := Tg_good (fun w hw => by rw [← hret] at hw; exact ws_in k1 w hw)
    have run := va_runI (b := adr X b) (rest := r.map (tv X)) (g := F0 m pc ls ((as.reverse ++ .ref b :: r).map (tv X))) (As := as.map (tv X)) ⟨hx, hb, hml, hown, hts⟩ hv (cwI n hts hG rfl rfl rfl (hts _ (inT_mem g3)) (hts _ (inT_mem g1)) (hts _ (inT_mem g2)) hin k2 ⟨hdf, by show 8 + (N.2.2.1 + 11) + 64 * d ≤ R.locals; omega⟩) ⟨Pm.blind X _ σ, pre_ok (av := .ref b :: as) hE hH hz0 hS⟩ rfl (by simpa using hasl) hl.1 (by simp [tv]) (stk_room hrl) hd ⟨hr1, hr2⟩ (locs := locs) (e := e) (below := below) (meth := meth) (cells := c0) (slots := s0)
    exact run_W run hE hr1 hr2 hn0 hz0 hS hl (fun r' σ' q => hK _ _ _ _ _ q)
theorem sd_specialN {x n mc mS w0 w1 w2 w3 : Nat} {N : MI} (hd : decode M.2.1 pc = .ok (.invokespecial x, len)) (hc : ch1 M pc (.invokespecial x, 1 :: n :: mc :: mS :: w0 :: w1 :: w2 :: w3 :: h, N :: ms) len = true) (hK : Sd X M R d Q (pc + len) K) : Sd X M R d Q pc (vi X R d Q J (.invokespecial x, 1 :: n :: mc :: mS :: w0 :: w1 :: w2 :: w3 :: h, N :: ms) K) := by
  intro c0 s0 lv st σ hv0
  obtain ⟨as, r0, hasl, rfl, hv⟩ := kArg_e _ _ _ _ hv0
  obtain ⟨b, r, rfl, hrl, hr1, hr2, hv⟩ := kR_e hv
  cases d with
  | zero => exact hv.elim
  | succ d =>
    simp only [ch1, Bool.and_eq_true, beq_iff_eq, decide_eq_true_eq] at hc
    obtain ⟨⟨⟨⟨⟨⟨hlen, hok⟩, hin⟩, hret⟩, g1⟩, g2⟩, g3⟩ := hc
    subst hlen
    obtain ⟨k1, k2, k3⟩ := okN_e hok
    intro p e s m args below meth c H locs ls hE h1 h2 hn0 hH hS hl
    obtain ⟨hx, hb, hr, hml, hlk, hnm, hown, hts, hKk, hO, hdf, hdl⟩ := id hE
    refine W.size hO.2.2.2.2.2.2 hH hn0 hS (fun hz0 => ?_)
    rw [List.append_nil] at hv
    have hv : Met X.1 N.1 (.code N.1 N.2.1 N.2.2.1 N.2.2.2 :: Tg) (rmo d mc mS) (Pm X (.ref b :: as) σ) _ mc mS (aA X) := hv
    rw [hret] at hv
    have hG : GoodIn Tg (.code N.1 N.2.1 N.2.2.1 none :: Tg) := Tg_good (fun w hw => by rw [← hret] at hw; exact ws_in k1 w hw)
    cases hq : nsT[w1]? with
    | none => rw [hq] at g1; cases g1
    | some q =>
      rw [hq] at g1
      simp only [Bool.and_eq_true, decide_eq_true_eq] at g1
      obtain ⟨⟨q1, q2⟩, q3⟩ := g1
      have hNw := hO.2.2.2.2.2.1.1 q (List.mem_of_getElem? hq)
      rw [q1, q2, q3] at hNw
      have run := va_runIN (host := q.2.2.2) (b := adr X b) (rest := r.map (tv X)) (g := F0 m pc ls ((as.reverse ++ .ref b :: r).map (tv X))) (As := as.map (tv X)) ⟨hx, hb, hml, hown, hts⟩ hv ⟨va_cnB n hts hG rfl rfl rfl hNw (hts _ (inT_mem g3)) k2 ⟨hdf, by show 8 + (N.2.2.1 + 11) + 64 * d ≤ R.locals; omega⟩, hin, hts _ (inT_mem g2)⟩ ⟨Pm.blind X _ σ, pre_ok (av := .ref b :: as) hE hH hz0 hS⟩ rfl (by simpa using hasl) hl.1 (by simp [tv]) (stk_room hrl) hd ⟨hr1, hr2⟩ (locs := locs) (e := e) (below := below) (meth := meth) (cells := c0) (slots := s0)
      exact run_W run hE hr1 hr2 hn0 hz0 hS hl (fun r' σ' q => hK _ _ _ _ _ q)
theorem sd_objInit {x w1 w2 w3 : Nat} (hd : decode M.2.1 pc = .ok (.invokespecial x, len)) (hc : ch1 M pc (.invokespecial x, 2 :: w1 :: w2 :: w3 :: h, ms) len = true) (hK : Sd X M R d Q (pc + len) K) : Sd X M R d Q pc (vi X R d Q J (.invokespecial x, 2 :: w1 :: w2 :: w3 :: h, ms) K) := by
  intro c0 s0 lv st σ hv0
  obtain ⟨b, r, rfl, hrl, hd0, hv⟩ := kR_e hv0
  simp only [ch1, Bool.and_eq_true, beq_iff_eq] at hc
  obtain ⟨⟨⟨hlen, g1⟩, g2⟩, g3⟩ := hc
  subst hlen
  intro p e s m args below meth c H locs ls hE h1 h2 hn0 hH hS hl
  obtain ⟨hx, hb, hr, hml, hlk, hnm, hown, hts, hKk, hO, hdf, hdl⟩ := id hE
  have hroom := stk_room (m := m) (X := X) (pc := pc) (ls := ls) (st := (Value.ref b :: r).map (tv X)) hrl
  exact W.objInit (g := F0 m pc ls ((Value.ref b :: r).map (tv X))) hx hb hown (hts _ (inT_mem g1)) (hts _ (inT_mem g2)) (hts _ (inT_mem g3)) rfl (hl.1.trans hml.symm) rfl hd (by omega) (by omega) (hK _ _ _ _ _ hv p e s m args below meth c H locs ls hE h1 h2 hn0 hH hS hl)
theorem vgood {C : String} {x : Nat} {N : MI} {w1 w2 w3 w4 : Nat} (k1 : mWd N ∈ Tg) (g1 : inT w1 (.methodLink M.1.cls x N.1) = true) (g2 : inT w2 (.instanceMethod N.1) = true) (g3 : inT w3 (.selects C N.1 N.1) = true) (g4 : inT w4 (.initialized C) = true) : GoodIn Tg (wsV M.1.cls x C N.1 (.code N.1 N.2.1 N.2.2.1 N.2.2.2 :: Tg)) := Tg_good (fun w hw => by
      rcases List.mem_append.mp hw with hw | hw
      · rcases List.mem_cons.mp hw with rfl | hw
        · exact inT_mem g1
        · rcases List.mem_cons.mp hw with rfl | hw
          · exact inT_mem g2
          · rcases List.mem_cons.mp hw with rfl | hw
            · exact inT_mem g3
            · rcases List.mem_cons.mp hw with rfl | hw
              · exact inT_mem g4
              · cases hw
      · exact ws_in k1 w hw)
theorem sd_virtual {x n mc mS ci w0 w1 w2 w3 w4 : Nat} {N : MI} (hd : decode M.2.1 pc = .ok (.invokevirtual x, len)) (hc : ch1 M pc (.invokevirtual x, 0 :: n :: mc :: mS :: ci :: w0 :: w1 :: w2 :: w3 :: w4 :: h, N :: ms) len = true) (hK : Sd X M R d Q (pc + len) K) : Sd X M R d Q pc (vi X R d Q J (.invokevirtual x, 0 :: n :: mc :: mS :: ci :: w0 :: w1 :: w2 :: w3 :: w4 :: h, N :: ms) K) := by
  intro c0 s0 lv st σ hv0
  obtain ⟨as, r0, hasl, rfl, hv⟩ := kArg_e _ _ _ _ hv0
  obtain ⟨b, r, rfl, hrl, hr1, hr2, hkb, hv⟩ := kR_e hv
  cases d with
  | zero => exact hv.elim
  | succ d =>
    simp only [ch1, Bool.and_eq_true, beq_iff_eq, decide_eq_true_eq] at hc
    obtain ⟨⟨⟨⟨⟨⟨⟨hlen, hok⟩, hci⟩, hcls⟩, g1⟩, g2⟩, g3⟩, g4⟩ := hc
    subst hlen
    obtain ⟨k1, k2, k3⟩ := okN_e hok
    intro p e s m args below meth c H locs ls hE h1 h2 hn0 hH hS hl
    obtain ⟨hx, hb, hr, hml, hlk, hnm, hown, hts, hKk, hO, hdf, hdl⟩ := id hE
    refine W.size hO.2.2.2.2.2.2 hH hn0 hS (fun hz0 => ?_)
    rw [List.append_nil] at hv
    have hrecv := va_recv hKk hH.1 (cl_ok ci hci).1 (hH.at hkb).2
    have run := va_runV (b := adr X b) (rest := r.map (tv X)) (g := F0 m pc ls ((as.reverse ++ .ref b :: r).map (tv X))) (As := as.map (tv X)) ⟨hx, hb, hml, hown, hts⟩ hv (cwV n hts (vgood k1 g1 g2 g3 g4) rfl rfl rfl ⟨hcls, k2⟩ ⟨hdf, by show 8 + (N.2.2.1 + 11) + 64 * d ≤ R.locals; omega⟩) ⟨Pm.blind X _ σ, hrecv, pre_ok (av := .ref b :: as) hE hH hz0 hS⟩ rfl (by simpa using hasl) hl.1 (by simp [tv]) (stk_room hrl) hd ⟨hr1, hr2⟩ (locs := locs) (e := e) (below := below) (meth := meth) (cells := c0) (slots := s0)
    exact run_W run hE hr1 hr2 hn0 hz0 hS hl (fun r' σ' q => hK _ _ _ _ _ q)
theorem sd_virtualS {x n mc mS ci w0 w1 w2 w3 w4 : Nat} {N : MI} (hd : decode M.2.1 pc = .ok (.invokevirtual x, len)) (hc : ch1 M pc (.invokevirtual x, 1 :: n :: mc :: mS :: ci :: w0 :: w1 :: w2 :: w3 :: w4 :: h, N :: ms) len = true) (hK : Sd X M R d Q (pc + len) K) : Sd X M R d Q pc (vi X R d Q J (.invokevirtual x, 1 :: n :: mc :: mS :: ci :: w0 :: w1 :: w2 :: w3 :: w4 :: h, N :: ms) K) := by
  intro c0 s0 lv st σ hv0
  obtain ⟨as, r0, hasl, rfl, hv⟩ := kArg_e _ _ _ _ hv0
  obtain ⟨b, r, rfl, hrl, hr1, hr2, ⟨hb1, hb2⟩, hv⟩ := kR_e hv
  cases d with
  | zero => exact hv.elim
  | succ d =>
    simp only [ch1, Bool.and_eq_true, beq_iff_eq, decide_eq_true_eq] at hc
    obtain ⟨⟨⟨⟨⟨⟨hlen, hok⟩, hcls⟩, g1⟩, g2⟩, g3⟩, g4⟩ := hc
    subst hlen
    obtain ⟨k1, k2, k3⟩ := okN_e hok
    intro p e s m args below meth c H locs ls hE h1 h2 hn0 hH hS hl
    obtain ⟨hx, hb, hr, hml, hlk, hnm, hown, hts, hKk, hO, hdf, hdl⟩ := id hE
    refine W.size hO.2.2.2.2.2.2 hH hn0 hS (fun hz0 => ?_)
    rw [List.append_nil] at hv
    have ea : adr X b = cxS X (b - 1000000) := by unfold adr; rw [if_neg (by omega), if_pos (by omega)]
    have hrecv : ∃ cell : Cell, H[adr X b]? = some cell ∧ cell.vm.isStatics = false ∧ s.vm.findClass "java/lang/String" = some cell.cls := by
      rw [ea]
      exact vk_recv hO.1 (by omega) hS
    have run := va_runV (b := adr X b) (rest := r.map (tv X)) (g := F0 m pc ls ((as.reverse ++ .ref b :: r).map (tv X))) (As := as.map (tv X)) ⟨hx, hb, hml, hown, hts⟩ hv (cwV n hts (vgood k1 g1 g2 g3 g4) rfl rfl rfl ⟨hcls, k2⟩ ⟨hdf, by show 8 + (N.2.2.1 + 11) + 64 * d ≤ R.locals; omega⟩) ⟨Pm.blind X _ σ, hrecv, pre_ok (av := .ref b :: as) hE hH hz0 hS⟩ rfl (by simpa using hasl) hl.1 (by simp [tv]) (stk_room hrl) hd ⟨hr1, hr2⟩ (locs := locs) (e := e) (below := below) (meth := meth) (cells := c0) (slots := s0)
    exact run_W run hE hr1 hr2 hn0 hz0 hS hl (fun r' σ' q => hK _ _ _ _ _ q)
theorem sd_ireturn (hd : decode M.2.1 pc = .ok (.ireturn, len)) (hc : ch1 M pc (.ireturn, 0 :: h, ms) len = true) : Sd X M R d Q pc (vi X R d Q J (.ireturn, 0 :: h, ms) K) := by
  intro c0 s0 lv st σ hv0
  obtain ⟨v, r, rfl, rfl, hcc, hv⟩ := kI_e hv0
  obtain ⟨hlen, hret⟩ : len = 1 ∧ M.2.2.2 = some .int := by simpa [ch1] using hc
  subst hlen
  intro p e s m args below meth c H locs ls hE h1 h2 hn0 hH hS hl
  obtain ⟨hx, hb, hr, hml, hlk, hnm, hown, hts, hKk, hO, hdf, hdl⟩ := id hE
  refine W.widen h1 h2 ?_
  refine W.iret hx hb (hr.trans hret) (fun t ht hW => ⟨⟨some (.int v), σ, rfl, hv, by rw [ht]; exact hH, by rw [← hcc]; exact hn0⟩, hS.F ht⟩) hS.2.2 hd
theorem sd_zreturn (hd : decode M.2.1 pc = .ok (.ireturn, len)) (hc : ch1 M pc (.ireturn, 1 :: h, ms) len = true) : Sd X M R d Q pc (vi X R d Q J (.ireturn, 1 :: h, ms) K) := by
  intro c0 s0 lv st σ hv0
  obtain ⟨v, r, rfl, rfl, hcc, hv01, hv⟩ := kI_e hv0
  obtain ⟨hlen, hret⟩ : len = 1 ∧ M.2.2.2 = some .boolean := by simpa [ch1] using hc
  subst hlen
  intro p e s m args below meth c H locs ls hE h1 h2 hn0 hH hS hl
  obtain ⟨hx, hb, hr, hml, hlk, hnm, hown, hts, hKk, hO, hdf, hdl⟩ := id hE
  refine W.widen h1 h2 ?_
  refine W.zret hx hb (hr.trans hret) (by rcases hv01 with rfl | rfl <;> rfl) (fun t ht hW => ⟨⟨some (.int v), σ, rfl, hv, by rw [ht]; exact hH, by rw [← hcc]; exact hn0⟩, hS.F ht⟩) hS.2.2 hd
theorem sd_lreturn (hd : decode M.2.1 pc = .ok (.lreturn, len)) (hc : ch1 M pc (.lreturn, h, ms) len = true) : Sd X M R d Q pc (vi X R d Q J (.lreturn, h, ms) K) := by
  intro c0 s0 lv st σ hv0
  obtain ⟨v, r, rfl, rfl, hcc, hv⟩ := kL_e hv0
  obtain ⟨hlen, hret⟩ : len = 1 ∧ M.2.2.2 = some .long := by simpa [ch1] using hc
  subst hlen
  intro p e s m args below meth c H locs ls hE h1 h2 hn0 hH hS hl
  obtain ⟨hx, hb, hr, hml, hlk, hnm, hown, hts, hKk, hO, hdf, hdl⟩ := id hE
  refine W.widen h1 h2 ?_
  refine W.lret hx hb (hr.trans hret) (fun t ht hW => ⟨⟨some (.long v), σ, rfl, hv, by rw [ht]; exact hH, by rw [← hcc]; exact hn0⟩, hS.F ht⟩) hS.2.2 hd
theorem sd_vreturn (hd : decode M.2.1 pc = .ok (.return_, len)) (hc : ch1 M pc (.return_, h, ms) len = true) : Sd X M R d Q pc (vi X R d Q J (.return_, h, ms) K) := by
  intro c0 s0 lv st σ hv0
  obtain ⟨rfl, hcc, hv⟩ := hv0
  obtain ⟨hlen, hret⟩ : len = 1 ∧ M.2.2.2 = none := by simpa [ch1] using hc
  subst hlen
  intro p e s m args below meth c H locs ls hE h1 h2 hn0 hH hS hl
  obtain ⟨hx, hb, hr, hml, hlk, hnm, hown, hts, hKk, hO, hdf, hdl⟩ := id hE
  refine W.widen h1 h2 ?_
  refine W.vret hx hb (hr.trans hret) (fun t ht hW => ⟨⟨none, σ, rfl, hv, by rw [ht]; exact hH, by rw [← hcc]; exact hn0⟩, hS.F ht⟩) hS.2.2 hd
end
