set_option maxRecDepth 100000
/-! THE CLAIM OUT OF ONE WALK OF THE LAW'S BODY. Your part is whole_start (and what it stands on); all else here is the same for every law, but numbers. -/
def R_law : String := "NeverHalfLaw"
def lw_P (b : Addr) (xs : List Int32) (args : Array Value) (s : State) : Prop := args = #[.ref b] ∧ s.IntsAt b xs ∧ xs.length ≤ 3072 ∧ (Jvm.Cond.and given_1 narrow_1).before args s = true
def lw_Q (_ : Array Value) (s : State) (o : Outcome) (t : State) : Prop := o = .returned (some (.int 1)) ∧ Framed s o t [] 600000 7302250
def lw_Z (below : List Frame) (a : Array Value) (s : State) : State → Prop := fun t => ∃ o, t.status = .running ∧ Ended t below o ∧ lw_Q a s o t
/-- the law's own end, with 1 on the stack, nothing written that was there before, its room as the claim has it -/
theorem lw_ret {p : Program} {l : Launch} {e : Env} {s : State} {m : MethodId} {below : List Frame} {meth : Method} {c : Code} {b : Nat} (hx : p.tables.exec = Jvm.exec) (hb : c.code = code) (hr : meth.sig.returnType = ret) (hlocks : meth.locks = false) {pc : Nat} {H : Heap} {ls : Array Slot} (hdg : decode code pc = .ok (.ireturn, 1)) : W p l e room_1 s m #[Value.ref b] below meth c H [] 600000 7302250 (lw_Z below #[Value.ref b] s) (F0 m pc ls [.int 1]) := by
  intro T hT X
  obtain ⟨fs, hret, hrun, hended, hW, hframe⟩ := X.leave (v := some (.int 1)) (hlocks := hlocks) (fun h => by rw [hr] at h; cases h)
  have hmeth' : T.vm.method? m = some meth := X.method'
  refine ⟨T.setFrames fs, ?_, .returned (some (.int 1)), hrun, hended, rfl, ⟨_, rfl⟩, hW, hframe⟩
  jvm_step X.here [X.here.top, hx, hb, hdg, hmeth', hr, ret, narrow_b1]
  (try refine ⟨rfl, ?_⟩); (try refine ⟨rfl, ?_⟩)
  first | (intro acts; rw [hret _ acts rfl rfl rfl]) | rw [hret _ _ rfl rfl rfl]
  exact Steps.refl _
/-- what holds at the law's entry: the machine, the code, the tables' words (any of lw_tbl by 'hts w (by decide +kernel)'), the script of L ints xs at the cell b, what the Statement gives of the start (any of its parts by flat_of_before) -/
def lw_At (p : Program) (s : State) (m : MethodId) (meth : Method) (c : Code) (b L : Nat) (xs : Nat → Int32) : Prop :=
  p.tables.exec = Jvm.exec ∧ c.code = code ∧ meth.sig.returnType = ret ∧ c.maxLocals = 4 ∧ s.vm.findClass R_law = some m.cls ∧ (∀ w ∈ lw_tbl, w.before #[Value.ref b] s = true) ∧ va_X b L xs s s.heap ∧ b < s.heap.size ∧ meth.locks = false ∧ (Jvm.Cond.and given_1 narrow_1).before #[Value.ref b] s = true
/-- from the entry, for every script of at most 3072 ints, the law comes to its end with true -/
theorem whole_start {p : Program} {e : Env} {s : State} {m : MethodId} {below : List Frame} {meth : Method} {c : Code} (l : Launch) {b L : Nat} {xs : Nat → Int32} (hL : L ≤ 3072) (C0 : lw_At p s m meth c b L xs) : W p l e room_1 s m #[Value.ref b] below meth c s.heap [] 0 0 (lw_Z below #[Value.ref b] s) (entryFrame m ([Value.ref b] : List Value).toArray 4) := by
  obtain ⟨hx, hb, hr, hml, hown, hts, hX, hbl, hlocks, hgv⟩ := id C0
  have hfl : ∀ w ∈ gvC, w.before #[Value.ref b] s = true := flat_of_before _ hgv
  have hA : ∀ a : Nat, a < s.heap.size → ¬ (fun q : Nat => s.heap.size ≤ q) a := fun a h => Nat.not_le.mpr h
  have hTg : ∀ w ∈ Tg, w.before #[Value.ref b] s = true := fun w hw => hts w (List.mem_filter.mp hw).1
  obtain ⟨adK, adV, hS, hev⟩ := vk_Sof (args := #[Value.ref b]) (s := s) (N := 9) (tm := tmS) (len := stL) (byt := stB) (A := fun q : Nat => s.heap.size ≤ q) (by decide) (fun i hi => hfl _ (st_ex i hi)) (fun i hi => hfl _ (st_co i hi)) (fun i hi => hfl _ (st_ar i hi)) (fun i hi => hfl _ (st_le i hi)) (fun i hi j hj => hfl _ (st_el i hi j hj)) (fun i j hi hj hn => (st_ne i hi j hj hn).imp (hfl _) (hfl _)) hA
  have hKn : ∀ ci : Nat, ∃ q : ClassId × (Nat → Nat), ci < 11 → u_Kn s (clNm ci) (clFd ci) (nF ci) q.1 q.2 := fun ci => by
    by_cases hci : ci < 11
    · obtain ⟨cC, iS, h⟩ := u_known hTg (cl_ok ci hci).2.1 (hts _ (tb_in ci hci))
      exact ⟨(cC, iS), fun _ => h⟩
    · exact ⟨(0, fun _ => 0), fun h => absurd h hci⟩
  obtain ⟨D, hD⟩ := Classical.axiomOfChoice hKn
  obtain ⟨a0, a0x, a0y⟩ := ar_of (hts _ tb_ar.1)
  obtain ⟨a1, a1x, a1y⟩ := ar_of (hts _ tb_ar.2.1)
  obtain ⟨a2, a2x, a2y⟩ := ar_of (hts _ tb_ar.2.2.1)
  obtain ⟨a3, a3x, a3y⟩ := ar_of (hts _ tb_ar.2.2.2)
  obtain ⟨a4, a4x, a4y⟩ := ao_of (hts _ tb_ao.1)
  obtain ⟨a5, a5x, a5y⟩ := ao_of (hts _ tb_ao.2.1)
  obtain ⟨a6, a6x, a6y⟩ := ao_of (hts _ tb_ao.2.2)
  obtain ⟨X, hXe⟩ : ∃ X : Cx, X = (l, (fun k => (D k).1, fun k => (D k).2), sevT a0 a1 a2 a3 a4 a5 a6, s.heap.size, adK, b, L, xs, adV) := ⟨_, rfl⟩
  have e1 : X.1 = l := by rw [hXe]
  have e2 : X.2.1 = (fun k => (D k).1, fun k => (D k).2) := by rw [hXe]
  have e3 : cxT X = sevT a0 a1 a2 a3 a4 a5 a6 := by rw [hXe]; rfl
  have e4 : cxB X = s.heap.size := by rw [hXe]; rfl
  have e5 : cxS X = adK := by rw [hXe]; rfl
  have e6 : cxb X = b := by rw [hXe]; rfl
  have e7 : cxL X = L := by rw [hXe]; rfl
  have e8 : cxx X = xs := by rw [hXe]; rfl
  have e9 : cxV X = adV := by rw [hXe]; rfl
  have eA : aA X = fun q : Nat => s.heap.size ≤ q := by unfold aA; rw [e4]
  have hK : va_K X.2.1 vwCl (tyL X) s := by
    refine ⟨fun k q hq => ?_, fun k q hq => ?_⟩
    · have hk : k < 11 := by
        have := (List.getElem?_eq_some_iff.mp hq).1
        rw [vwCl_len] at this
        exact this
      rw [(cl_ok k hk).1] at hq
      cases hq
      rw [e2]
      exact hD k hk
    · unfold tyL at hq
      rw [e3] at hq
      match k, hq with
      | 0, hq => cases hq; exact ⟨a0x, a0y⟩
      | 1, hq => cases hq; exact ⟨a1x, a1y⟩
      | 2, hq => cases hq; exact ⟨a2x, a2y⟩
      | 3, hq => cases hq; exact ⟨a3x, a3y⟩
      | 4, hq => cases hq; exact ⟨a4x, a4y⟩
      | 5, hq => cases hq; exact ⟨a5x, a5y⟩
      | 6, hq => cases hq; exact ⟨a6x, a6y⟩
      | k + 7, hq => simp at hq
  have hO : Old X s := by
    unfold Old
    rw [eA, e4, e5, e6, e7, e8, e9]
    refine ⟨hS, fun i q hq => ?_, ⟨va_Zof (hts _ tb_st.1.1) (hts _ tb_st.1.2) (va_eqt (hfl _ st_gv.1)) hA, va_Zqof (hts _ tb_st.2.1) (hts _ tb_st.2.2) (hfl _ st_gv.2) hA⟩, hX, hbl, ⟨fun q hq => va_Nw.of rfl (hts _ (tb_ns q hq)), va_AO.of (hts _ tb_ao.1), va_AO.of (hts _ tb_ao.2.1), va_AO.of (hts _ tb_ao.2.2)⟩, Nat.le_refl _⟩
    have hi : i < 9 := (List.getElem?_eq_some_iff.mp hq).1
    have eq : stT.getD i ("", 0, "") = q := by rw [List.getD_eq_getElem?_getD, hq]; rfl
    have h1 := hts _ (tb_sr i hi)
    have h2 := hev i hi
    unfold tmS at h2
    rw [eq] at h1 h2
    exact vk_R.of h1 h2
  have hl := lv_entry [Value.ref b] (n := 4) (Nat.le_of_ble_eq_true rfl)
  rw [lg_entry_eq]
  have hw := law_all X 800 (fun r _ => r = some (.int 1)) (fun k => by rw [e3]; rfl) (by rw [e7]; exact hL) (fun _ => rfl) p e s m #[Value.ref b] below meth c s.heap [] (lg_sl [Value.ref b] ++ List.replicate (4 - (lg_sl [Value.ref b]).length) Slot.unset).toArray ⟨hx, hb, hr, hml, hlocks, fun q => absurd q (by decide), hown, hTg, hK, hO, Nat.le_refl _, Nat.le_refl _⟩ (Nat.zero_le _) (Nat.zero_le _) (by rw [e4]; rfl) ⟨fun k q h => by simp [wl, e0] at h, by decide⟩ va_S.rf ⟨hl.1, hl.2.1, fun i v hv => ?_⟩
  · intro T hT X0
    rw [e1] at hw
    obtain ⟨t, st, o, h1, h2, ⟨⟨r, σ', q1, q2, -, -⟩, -⟩, L', ⟨f1, f2, g1, g2, g3, g4, g5, g6⟩, hLf⟩ := hw T hT { X0 with room := room_le X0.room (by decide) (by decide) (by decide) (by decide) }
    refine ⟨t, st, o, h1, h2, by rw [q1, q2]; rfl, f1, f2, g1, g2, Nat.le_trans g3 (Nat.add_le_add_left (by decide) _), g4, Nat.le_trans g5 (by decide), fun a c hc => ?_⟩
    obtain ⟨c', k1, k2, k3, k4⟩ := g6 a c hc
    refine ⟨c', k1, k2, k3, fun i _ => k4 i (fun hm => ?_)⟩
    have h3 : cxB X ≤ a := hLf _ hm
    have h4 : a < s.heap.size := (Array.getElem?_eq_some_iff.mp hc).1
    rw [e4] at h3
    exact absurd h4 (Nat.not_lt.mpr h3)
  · match i, hv with
    | 0, hv =>
      have hv' : v = .ref 2000000 := by simpa using hv.symm
      rw [hv']
      show _ = some (Slot.val (.ref (adr X 2000000)))
      rw [show adr X 2000000 = b from by unfold adr; rw [if_neg (by decide), if_neg (by decide), if_pos (by decide), e6]]
      rfl
    | 1, hv => cases hv
    | 2, hv => cases hv
    | 3, hv => cases hv
    | i + 4, hv => simp at hv
set_option maxHeartbeats 4000000 in
theorem lw_walk (l : Launch) (b : Addr) (xs : List Int32) : MetFree l x (headSpec (Jvm.Cond.code x code maxLocals ret :: tables_1) room_1) (lw_P b xs) (fun _ _ _ _ _ => True) lw_Q := by
  refine MetFree.of_bodyS (code := code) (maxLocals := maxLocals) (ret := ret) (by decide) ?_ ?_
  · intro args s m h hn
    obtain ⟨meth, c, h1, h2, h3, h4, h5, h6, -, -⟩ := Cond.code_spec hn (atoms_spec (ws := Jvm.Cond.code x code maxLocals ret :: tables_1) h _ List.mem_cons_self)
    exact ⟨meth, c, h1, h2, h3, h4, h5, h6⟩
  · intro p e s m args below meth c s₁ B hml0 hP _
    obtain ⟨rfl, hx, hbd, hgv⟩ := hP
    obtain ⟨scr, harrAt, hlist, hof, hsmall⟩ := hx
    obtain ⟨hcb, hkn, -, -⟩ := State.arrayAt?_spec harrAt
    have hown : s.vm.findClass R_law = some m.cls := findClass_of_methodNamed B.named
    have hts0 : ∀ c ∈ (Jvm.Cond.code x code maxLocals ret :: tables_1), c.before #[Value.ref b] s = true := atoms_spec (ws := Jvm.Cond.code x code maxLocals ret :: tables_1) B.pre
    have hts : ∀ w ∈ lw_tbl, w.before #[Value.ref b] s = true := k2_hts_sels lw_privs (fun w hw => hts0 w (List.mem_cons_of_mem _ hw)) lw_privs_ok
    have hml : c.maxLocals = 4 := B.maxLocals_eq (hts0 _ List.mem_cons_self)
    have X₀ : Stand p l e room_1 s m #[Value.ref b] below meth c s₁ [] 0 0 := Stand.of_body B
    have hh0 : s₁.heap = s.heap := by rw [B.state]; rfl
    have hsz : scr.slots.size = xs.length := by rw [← Array.length_toList, hlist, List.length_map]
    have hval : ∀ j : Nat, j < xs.length → scr.slots[j]? = some (.int (xs.getD j 0)) := fun j hj => by
      rw [← Array.getElem?_toList, hlist]
      simp [hj]
    have hbl : b < s.heap.size := (Array.getElem?_eq_some_iff.mp hcb).1
    have hX : va_X b xs.length (fun j => xs.getD j 0) s s.heap := ⟨scr, hcb, hof, hkn, hsz, hval⟩
    have K : W p l e room_1 s m #[Value.ref b] below meth c s₁.heap [] 0 0 (lw_Z below #[Value.ref b] s) (entryFrame m ([Value.ref b] : List Value).toArray 4) := by
      rw [hh0]
      exact whole_start l hbd ⟨B.exec, B.bytes, B.returns, hml, hown, hts, hX, hbl, B.notSynchronized, hgv⟩
    obtain ⟨t, a1, o, b1, b2, b3⟩ := K s₁ rfl X₀
    exact ⟨t, o, a1, b1, b2, b3⟩
theorem lw_pre_spec {args : Array Value} {s : State} (h : (Jvm.Cond.and given_1 narrow_1).before args s = true) (hr : rest_1_c.before args s = true) : ∃ (b : Addr) (xs : List Int32), lw_P b xs args s := by
  have hs := flat_of_before _ h
  have hq := flat_of_before _ hr
  have hc : (Cond.count 1).before args s = true := hs _ (by decide +kernel)
  have harr : (Cond.arrayOf (.arg 0) .int).before args s = true := hs _ (by decide +kernel)
  have hle : (Cond.le (.length (.arg 0)) (.int 3072)).before args s = true := hs _ (by decide +kernel)
  have hlen : (Cond.isInt (.length (.arg 0))).before args s = true := hq _ (by decide +kernel)
  have hall : (Cond.all (.arg 0) (.isInt (.elem (.arg 0) (.index 0)))).before args s = true := hq _ (by decide +kernel)
  obtain ⟨b, xs, hb, hx⟩ := State.ints_of_pre rfl harr hlen hall
  have hsm : xs.length < 2 ^ 31 := hx.choose_spec.2.2.2
  have hev : (Term.length (.arg 0)).eval args s none [] s = some (.int xs.length.toInt32) := hx.length_eval hb
  have hv := Cond.le_ints hev (show (Term.int 3072).eval args s none [] s = some (.int 3072) from rfl)
  have hd : xs.length.toInt32 ≤ 3072 := by
    simpa [Cond.before, Cond.holds, hv] using hle
  have hN : xs.length ≤ 3072 := (Int32.ofNat_le_ofNat hsm (by decide)).mp (show Int32.ofNat xs.length ≤ Int32.ofNat 3072 from hd)
  exact ⟨b, xs, Cond.one_arg hc (show args[0]? = some (.ref b) from hb), hx, hN, h⟩
theorem lw_comes (l : Launch) : Comes l x (Jvm.Cond.code x code maxLocals ret :: tables_1) room_1 (fun tb e args s => Calls_1 tb e args s ∧ rest_1 tb e args s ∧ Pre_1 tb e args s)
    (fun _ _ args s o t => lw_Q args s o t) := by
  intro p e ha hc hk s m args below hf hfit hheap happ hpre
  obtain ⟨b, xs, hP⟩ := lw_pre_spec hpre.2.2 hpre.2.1
  obtain ⟨k, o, h1, h2, h3, hQ⟩ := lw_walk l b xs p e ha hc hk s m args below hf ((Spec.applies_iff_loose hf).mp happ).1 hP trivial
  exact ⟨k, o, h1, h2, h3, hQ⟩
theorem lw_frame {s t : State} {o : Outcome} {args : Array Value} (h : Framed s o t [] 600000 7302250) :
    Framed s o t (fieldLocs frame_1_writes args s ++ arrayLocs frame_1_arrays args s ++ staticLocs frame_1_statics s) 600000 7302250 := h
theorem lw_limb (L : Cond) (hL : ∀ (args : Array Value) (s t : State), L.after args s (.returned (some (.int 1))) t = true) :
    ArmFor flags0 classFile x code maxLocals ret World_1 tables_1 room_1 Calls_1 rest_1 Pre_1
      (fun tb e a s o t => postC L tb e a s o t ∧ Framed s o t (fieldLocs frame_1_writes a s ++ arrayLocs frame_1_arrays a s ++ staticLocs frame_1_statics s) 600000 7302250) := by
  intro l _ _ _ p e ha hc hk s m args below hf hfit hheap happ hpre
  obtain ⟨k, o, h1, h2, h3, rfl, hF⟩ := lw_comes l p e ha hc hk s m args below hf hfit hheap happ hpre
  exact ⟨k, _, h1, h2, h3, hL args s _, lw_frame hF⟩
theorem i_vc : Claimed_1_1 ∧ Claimed_1_2 := ⟨lw_limb limb_1_1 (fun args s t => by simp [limb_1_1, Cond.after, Cond.holds, Cond.value]), lw_limb limb_1_2 (fun args s t => Cond.after_iff.mpr (by
  first | (rw [show limb_1_2 = Cond.eq .result (.int 1) from rfl, Cond.eq_ints (x := 1) (y := 1) rfl rfl]; simp; done) | (simp [limb_1_2, Cond.value, Term.eval]; done)))⟩
